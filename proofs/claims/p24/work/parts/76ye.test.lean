/-! PRINTED by wip/p2/hp_test.py: readTest of the class, exactly -/
theorem sm_ok {kd vl : Int → Int} {t : Nat} : ∀ (F a : Nat) (L : List Int) (b : Nat) (L' : List Int), F + L.length = 5 → sm kd vl t F a L = .inr (b, L') → L'.length ≤ 4 ∧ L'.length + a ≤ b + L.length ∧ a < b ∧ b ≤ t
  | 0, a, L, b, L', _, h => by
    rw [sm] at h
    cases h
  | F + 1, a, L, b, L', hF, h => by
    rw [sm] at h
    split at h
    · rename_i tmm
      have at' : a < t := fk_in (kd := kd) (by rcases tmm with z | ⟨z, -⟩ <;> rw [z] <;> decide)
      split at h
      · cases h
      · split at h
        · rename_i q43
          have lt1 : a + 1 < t := fk_in (kd := kd) (by rw [q43]; decide)
          have len : (L ++ [ti kd vl t a]).length = L.length + 1 := by rw [List.length_append, List.length_singleton]
          have ih := sm_ok F (a + 2) (L ++ [ti kd vl t a]) b L' (by omega) h
          omega
        · cases h
          rw [List.length_append, List.length_singleton]
          omega
    · cases h
theorem ts_ok {kd vl : Int → Int} {t a m b : Nat} {E : List Int} (hm : m ≤ 20) (h : ts kd vl t a m = .inr (b, E)) : E.length ≤ 9 ∧ E.length + a ≤ b ∧ a < b ∧ b ≤ t ∧ m ≤ 19 ∧ tm kd vl t a := by
  unfold ts at h
  split at h
  · cases h
  · rename_i nq
    split at h
    · cases h
    · rename_i b1 L1 e1
      have s1 := sm_ok 5 a [] b1 L1 rfl e1
      have tmm : tm kd vl t a := by
        rw [sm] at e1
        split at e1
        · assumption
        · cases e1
      have m19 : m ≤ 19 := by
        by_cases z : m = 20
        · exact absurd ⟨tmm, z⟩ nq
        · omega
      simp only [List.length_nil] at s1
      split at h
      · split at h
        · cases h
        · rename_i d1 M1 e2
          have s2 := sm_ok 5 (b1 + 1) [] d1 M1 rfl e2
          simp only [List.length_nil] at s2
          cases h
          refine ⟨?_, ?_, by omega, by omega, m19, tmm⟩ <;> simp only [List.length_append, List.length_singleton] <;> omega
      · cases h
        exact ⟨by omega, by omega, by omega, by omega, m19, tmm⟩
theorem teA0_k : hq_chk [95] 94 0 0 [] [] [(0, .inr (.inr (.inl (some 40))))] [] [(6155, (0, []), (2, [])), (6153, (0, []), (20, []))] [] 3 [(18, ([], 0, [], [], [(0, .inr (.inr (.inl (some 40))))], [.inl (4, []), .inr (.inr (.inl (some 40)))], []))] [] = true := by decide +kernel
theorem teA0 {cst : am_K} {strs : List Nat} {Φ : am_Q → Prop} {D : Nat} {M : am_M} {h : am_H} {l : am_L} (c : hp_C cst strs D) (hM : m_P[94]? = some M) (hD : (3 : Int) ≤ (D : Int) + 1) (hy : ly_hy m_tt ly_TH h) (k0 : ly_hv cst h 6155 0 = some 2) (k1 : ly_hv cst h 6153 0 = some 20) (l0 : hp_a l 0 40) (e0 : ∀ (l' : am_L) (h' : am_H) (y0 : Int32), y0.toInt = 4 → ly_hy m_tt ly_TH h' → ly_fr cst [] h h' → h.length ≤ h'.length → hp_a l' 0 40 → hp_F cst strs Φ D M 18 l' [.int y0, .ref 40] h') : hp_F cst strs Φ D M 0 l [] h := by
  refine hq_arc c hM teA0_k hD [] rfl hy hp_Bn hp_Fn (hp_Kc (zi := (0 + 0)) (zv := (2 + 0)) k0 rfl rfl (by omega) (by omega) (hp_Kc (zi := (0 + 0)) (zv := (20 + 0)) k1 rfl rfl (by omega) (by omega) hp_Kn)) (hp_La l0 hp_Ln) trivial ?_ ?_
  · intro p hp ys l' st' h' hys a1 a2 a3 gZ gL gS
    rcases List.mem_cons.mp hp with rfl | hp
    · obtain rfl := hp_y0 hys
      obtain ⟨y0, t0, rfl, q0, g0⟩ := hp_gSi (z := (4 + 0)) gS rfl
      obtain ⟨t1, rfl, g1⟩ := hp_gSa g0 (by decide)
      cases hp_gSn g1
      exact e0 l' h' y0 (by omega) a1 a2 a3 (hp_gLa gL (List.mem_of_getElem? (i := 0) rfl) (by decide))
    cases hp
  · intro p hp ys v h' hys a1 a2 a3 gZ gS
    cases hp
theorem teA1_k : hq_chk [95] 94 0 0 [] [] [(0, .inr (.inr (.inl (some 40))))] [] [(6155, (0, []), (1, [])), (6157, (0, []), ((-1), [])), (6153, (0, []), (20, []))] [] 3 [(18, ([], 0, [], [], [(0, .inr (.inr (.inl (some 40))))], [.inl (4, []), .inr (.inr (.inl (some 40)))], []))] [] = true := by decide +kernel
theorem teA1 {cst : am_K} {strs : List Nat} {Φ : am_Q → Prop} {D : Nat} {M : am_M} {h : am_H} {l : am_L} (c : hp_C cst strs D) (hM : m_P[94]? = some M) (hD : (3 : Int) ≤ (D : Int) + 1) (hy : ly_hy m_tt ly_TH h) (k0 : ly_hv cst h 6155 0 = some 1) (k1 : ly_hv cst h 6157 0 = some (-1)) (k2 : ly_hv cst h 6153 0 = some 20) (l0 : hp_a l 0 40) (e0 : ∀ (l' : am_L) (h' : am_H) (y0 : Int32), y0.toInt = 4 → ly_hy m_tt ly_TH h' → ly_fr cst [] h h' → h.length ≤ h'.length → hp_a l' 0 40 → hp_F cst strs Φ D M 18 l' [.int y0, .ref 40] h') : hp_F cst strs Φ D M 0 l [] h := by
  refine hq_arc c hM teA1_k hD [] rfl hy hp_Bn hp_Fn (hp_Kc (zi := (0 + 0)) (zv := (1 + 0)) k0 rfl rfl (by omega) (by omega) (hp_Kc (zi := (0 + 0)) (zv := ((-1) + 0)) k1 rfl rfl (by omega) (by omega) (hp_Kc (zi := (0 + 0)) (zv := (20 + 0)) k2 rfl rfl (by omega) (by omega) hp_Kn))) (hp_La l0 hp_Ln) trivial ?_ ?_
  · intro p hp ys l' st' h' hys a1 a2 a3 gZ gL gS
    rcases List.mem_cons.mp hp with rfl | hp
    · obtain rfl := hp_y0 hys
      obtain ⟨y0, t0, rfl, q0, g0⟩ := hp_gSi (z := (4 + 0)) gS rfl
      obtain ⟨t1, rfl, g1⟩ := hp_gSa g0 (by decide)
      cases hp_gSn g1
      exact e0 l' h' y0 (by omega) a1 a2 a3 (hp_gLa gL (List.mem_of_getElem? (i := 0) rfl) (by decide))
    cases hp
  · intro p hp ys v h' hys a1 a2 a3 gZ gS
    cases hp
theorem teB0_k : hq_chk [95] 94 0 1 [(0, 0, 19)] [] [(0, .inr (.inr (.inl (some 40))))] [] [(6155, (0, []), (2, [])), (6153, (0, []), (0, [(0, 1)]))] [] 3 [(23, ([], 1, [(0, 0, 19)], [], [(0, .inr (.inr (.inl (some 40))))], [.inr (.inr (.inl (some 40)))], []))] [] = true := by decide +kernel
theorem teB0 {cst : am_K} {strs : List Nat} {Φ : am_Q → Prop} {D : Nat} {M : am_M} {h : am_H} {l : am_L} (c : hp_C cst strs D) (hM : m_P[94]? = some M) (hD : (3 : Int) ≤ (D : Int) + 1) (hy : ly_hy m_tt ly_TH h) (m : Int) (b0 : 0 ≤ m) (t0 : m ≤ 19) (k0 : ly_hv cst h 6155 0 = some 2) (k1 : ly_hv cst h 6153 0 = some (m)) (l0 : hp_a l 0 40) (e0 : ∀ (l' : am_L) (h' : am_H), ly_hy m_tt ly_TH h' → ly_fr cst [] h h' → h.length ≤ h'.length → hp_a l' 0 40 → hp_F cst strs Φ D M 23 l' [.ref 40] h') : hp_F cst strs Φ D M 0 l [] h := by
  refine hq_arc c hM teB0_k hD [m] rfl hy (hp_Bc (z := m) rfl b0 t0 hp_Bn) hp_Fn (hp_Kc (zi := (0 + 0)) (zv := (2 + 0)) k0 rfl rfl (by omega) (by omega) (hp_Kc (zi := (0 + 0)) (zv := (0 + (1 * m + 0))) k1 rfl rfl (by omega) (by omega) hp_Kn)) (hp_La l0 hp_Ln) trivial ?_ ?_
  · intro p hp ys l' st' h' hys a1 a2 a3 gZ gL gS
    rcases List.mem_cons.mp hp with rfl | hp
    · obtain rfl := hp_y0 hys
      obtain ⟨t0, rfl, g0⟩ := hp_gSa gS (by decide)
      cases hp_gSn g0
      exact e0 l' h' a1 a2 a3 (hp_gLa gL (List.mem_of_getElem? (i := 0) rfl) (by decide))
    cases hp
  · intro p hp ys v h' hys a1 a2 a3 gZ gS
    cases hp
theorem teB1_k : hq_chk [95] 94 0 1 [(0, 0, 19)] [] [(0, .inr (.inr (.inl (some 40))))] [] [(6155, (0, []), (1, [])), (6157, (0, []), ((-1), [])), (6153, (0, []), (0, [(0, 1)]))] [] 3 [(23, ([], 1, [(0, 0, 19)], [], [(0, .inr (.inr (.inl (some 40))))], [.inr (.inr (.inl (some 40)))], []))] [] = true := by decide +kernel
theorem teB1 {cst : am_K} {strs : List Nat} {Φ : am_Q → Prop} {D : Nat} {M : am_M} {h : am_H} {l : am_L} (c : hp_C cst strs D) (hM : m_P[94]? = some M) (hD : (3 : Int) ≤ (D : Int) + 1) (hy : ly_hy m_tt ly_TH h) (m : Int) (b0 : 0 ≤ m) (t0 : m ≤ 19) (k0 : ly_hv cst h 6155 0 = some 1) (k1 : ly_hv cst h 6157 0 = some (-1)) (k2 : ly_hv cst h 6153 0 = some (m)) (l0 : hp_a l 0 40) (e0 : ∀ (l' : am_L) (h' : am_H), ly_hy m_tt ly_TH h' → ly_fr cst [] h h' → h.length ≤ h'.length → hp_a l' 0 40 → hp_F cst strs Φ D M 23 l' [.ref 40] h') : hp_F cst strs Φ D M 0 l [] h := by
  refine hq_arc c hM teB1_k hD [m] rfl hy (hp_Bc (z := m) rfl b0 t0 hp_Bn) hp_Fn (hp_Kc (zi := (0 + 0)) (zv := (1 + 0)) k0 rfl rfl (by omega) (by omega) (hp_Kc (zi := (0 + 0)) (zv := ((-1) + 0)) k1 rfl rfl (by omega) (by omega) (hp_Kc (zi := (0 + 0)) (zv := (0 + (1 * m + 0))) k2 rfl rfl (by omega) (by omega) hp_Kn))) (hp_La l0 hp_Ln) trivial ?_ ?_
  · intro p hp ys l' st' h' hys a1 a2 a3 gZ gL gS
    rcases List.mem_cons.mp hp with rfl | hp
    · obtain rfl := hp_y0 hys
      obtain ⟨t0, rfl, g0⟩ := hp_gSa gS (by decide)
      cases hp_gSn g0
      exact e0 l' h' a1 a2 a3 (hp_gLa gL (List.mem_of_getElem? (i := 0) rfl) (by decide))
    cases hp
  · intro p hp ys v h' hys a1 a2 a3 gZ gS
    cases hp
theorem teC0_k : hq_chk [95] 94 0 0 [] [] [(0, .inr (.inr (.inl (some 40))))] [] [(6155, (0, []), (0, []))] [] 3 [(23, ([], 0, [], [], [(0, .inr (.inr (.inl (some 40))))], [.inr (.inr (.inl (some 40)))], []))] [] = true := by decide +kernel
theorem teC0 {cst : am_K} {strs : List Nat} {Φ : am_Q → Prop} {D : Nat} {M : am_M} {h : am_H} {l : am_L} (c : hp_C cst strs D) (hM : m_P[94]? = some M) (hD : (3 : Int) ≤ (D : Int) + 1) (hy : ly_hy m_tt ly_TH h) (k0 : ly_hv cst h 6155 0 = some 0) (l0 : hp_a l 0 40) (e0 : ∀ (l' : am_L) (h' : am_H), ly_hy m_tt ly_TH h' → ly_fr cst [] h h' → h.length ≤ h'.length → hp_a l' 0 40 → hp_F cst strs Φ D M 23 l' [.ref 40] h') : hp_F cst strs Φ D M 0 l [] h := by
  refine hq_arc c hM teC0_k hD [] rfl hy hp_Bn hp_Fn (hp_Kc (zi := (0 + 0)) (zv := (0 + 0)) k0 rfl rfl (by omega) (by omega) hp_Kn) (hp_La l0 hp_Ln) trivial ?_ ?_
  · intro p hp ys l' st' h' hys a1 a2 a3 gZ gL gS
    rcases List.mem_cons.mp hp with rfl | hp
    · obtain rfl := hp_y0 hys
      obtain ⟨t0, rfl, g0⟩ := hp_gSa gS (by decide)
      cases hp_gSn g0
      exact e0 l' h' a1 a2 a3 (hp_gLa gL (List.mem_of_getElem? (i := 0) rfl) (by decide))
    cases hp
  · intro p hp ys v h' hys a1 a2 a3 gZ gS
    cases hp
theorem teC1_k : hq_chk [95] 94 0 1 [(0, 3, 255)] [] [(0, .inr (.inr (.inl (some 40))))] [] [(6155, (0, []), (0, [(0, 1)]))] [] 3 [(23, ([], 1, [(0, 3, 255)], [], [(0, .inr (.inr (.inl (some 40))))], [.inr (.inr (.inl (some 40)))], []))] [] = true := by decide +kernel
theorem teC1 {cst : am_K} {strs : List Nat} {Φ : am_Q → Prop} {D : Nat} {M : am_M} {h : am_H} {l : am_L} (c : hp_C cst strs D) (hM : m_P[94]? = some M) (hD : (3 : Int) ≤ (D : Int) + 1) (hy : ly_hy m_tt ly_TH h) (q : Int) (b0 : 3 ≤ q) (t0 : q ≤ 255) (k0 : ly_hv cst h 6155 0 = some (q)) (l0 : hp_a l 0 40) (e0 : ∀ (l' : am_L) (h' : am_H), ly_hy m_tt ly_TH h' → ly_fr cst [] h h' → h.length ≤ h'.length → hp_a l' 0 40 → hp_F cst strs Φ D M 23 l' [.ref 40] h') : hp_F cst strs Φ D M 0 l [] h := by
  refine hq_arc c hM teC1_k hD [q] rfl hy (hp_Bc (z := q) rfl b0 t0 hp_Bn) hp_Fn (hp_Kc (zi := (0 + 0)) (zv := (0 + (1 * q + 0))) k0 rfl rfl (by omega) (by omega) hp_Kn) (hp_La l0 hp_Ln) trivial ?_ ?_
  · intro p hp ys l' st' h' hys a1 a2 a3 gZ gL gS
    rcases List.mem_cons.mp hp with rfl | hp
    · obtain rfl := hp_y0 hys
      obtain ⟨t0, rfl, g0⟩ := hp_gSa gS (by decide)
      cases hp_gSn g0
      exact e0 l' h' a1 a2 a3 (hp_gLa gL (List.mem_of_getElem? (i := 0) rfl) (by decide))
    cases hp
  · intro p hp ys v h' hys a1 a2 a3 gZ gS
    cases hp
theorem teC2_k : hq_chk [95] 94 0 1 [(0, 0, 6)] [] [(0, .inr (.inr (.inl (some 40))))] [] [(6155, (0, []), (1, [])), (6157, (0, []), (0, [(0, 1)]))] [] 3 [(23, ([], 1, [(0, 0, 6)], [], [(0, .inr (.inr (.inl (some 40))))], [.inr (.inr (.inl (some 40)))], []))] [] = true := by decide +kernel
theorem teC2 {cst : am_K} {strs : List Nat} {Φ : am_Q → Prop} {D : Nat} {M : am_M} {h : am_H} {l : am_L} (c : hp_C cst strs D) (hM : m_P[94]? = some M) (hD : (3 : Int) ≤ (D : Int) + 1) (hy : ly_hy m_tt ly_TH h) (j : Int) (b0 : 0 ≤ j) (t0 : j ≤ 6) (k0 : ly_hv cst h 6155 0 = some 1) (k1 : ly_hv cst h 6157 0 = some (j)) (l0 : hp_a l 0 40) (e0 : ∀ (l' : am_L) (h' : am_H), ly_hy m_tt ly_TH h' → ly_fr cst [] h h' → h.length ≤ h'.length → hp_a l' 0 40 → hp_F cst strs Φ D M 23 l' [.ref 40] h') : hp_F cst strs Φ D M 0 l [] h := by
  refine hq_arc c hM teC2_k hD [j] rfl hy (hp_Bc (z := j) rfl b0 t0 hp_Bn) hp_Fn (hp_Kc (zi := (0 + 0)) (zv := (1 + 0)) k0 rfl rfl (by omega) (by omega) (hp_Kc (zi := (0 + 0)) (zv := (0 + (1 * j + 0))) k1 rfl rfl (by omega) (by omega) hp_Kn)) (hp_La l0 hp_Ln) trivial ?_ ?_
  · intro p hp ys l' st' h' hys a1 a2 a3 gZ gL gS
    rcases List.mem_cons.mp hp with rfl | hp
    · obtain rfl := hp_y0 hys
      obtain ⟨t0, rfl, g0⟩ := hp_gSa gS (by decide)
      cases hp_gSn g0
      exact e0 l' h' a1 a2 a3 (hp_gLa gL (List.mem_of_getElem? (i := 0) rfl) (by decide))
    cases hp
  · intro p hp ys v h' hys a1 a2 a3 gZ gS
    cases hp
theorem teD_k : hp_chk 94 26 0 [] [] [(0, .inr (.inr (.inl (some 40))))] [.inl (0, [])] [] [] 2 [] [([], 0, [], [], [], [.inl (0, [])], [])] = true := by decide +kernel
theorem teD {cst : am_K} {strs : List Nat} {Φ : am_Q → Prop} {D : Nat} {M : am_M} {h : am_H} {l : am_L} (c : hp_C cst strs D) (hM : m_P[94]? = some M) (hD : (2 : Int) ≤ (D : Int) + 1) (hy : ly_hy m_tt ly_TH h) (x0 : Int32) (hx0 : x0.toInt = 0) (l0 : hp_a l 0 40) (r0 : ∀ (h' : am_H) (y0 : Int32), y0.toInt = 0 → ly_hy m_tt ly_TH h' → ly_fr cst [] h h' → h.length ≤ h'.length → Φ (some (.int y0), h', 0, 0)) : hp_F cst strs Φ D M 26 l [.int x0] h := by
  refine hp_arc c hM teD_k hD [] rfl hy hp_Bn hp_Fn hp_Kn (hp_La l0 hp_Ln) (hp_Si (z := (0 + 0)) rfl (by omega) trivial) ?_ ?_
  · intro p hp ys l' st' h' hys a1 a2 a3 gZ gL gS
    cases hp
  · intro p hp ys v h' hys a1 a2 a3 gZ gS
    rcases List.mem_cons.mp hp with rfl | hp
    · obtain rfl := hp_y0 hys
      cases v with
      | none => cases gS
      | some w =>
        obtain ⟨y0, t0, s0, q0, -⟩ := hp_gSi (z := (0 + 0)) gS rfl
        cases s0
        exact r0 h' y0 (by omega) a1 a2 a3
    cases hp
theorem teE_k : hp_chk 94 26 1 [(0, (-1), 3)] [] [(0, .inr (.inr (.inl (some 40))))] [.inl (1, [])] [(6157, (0, []), (0, [(0, 1)]))] [] 2 [(112, ([], 1, [(0, (-1), 3)], [], [(0, .inr (.inr (.inl (some 40))))], [.inr (.inl ((-20004), [])), .inr (.inr (.inl (some 30)))], []))] [] = true := by decide +kernel
theorem teE {cst : am_K} {strs : List Nat} {Φ : am_Q → Prop} {D : Nat} {M : am_M} {h : am_H} {l : am_L} (c : hp_C cst strs D) (hM : m_P[94]? = some M) (hD : (2 : Int) ≤ (D : Int) + 1) (hy : ly_hy m_tt ly_TH h) (j : Int) (x0 : Int32) (hx0 : x0.toInt = 1) (b0 : (-1) ≤ j) (t0 : j ≤ 3) (k0 : ly_hv cst h 6157 0 = some (j)) (l0 : hp_a l 0 40) (e0 : ∀ (l' : am_L) (h' : am_H) (y0 : Int64), y0.toInt = (-20004) → ly_hy m_tt ly_TH h' → ly_fr cst [] h h' → h.length ≤ h'.length → hp_a l' 0 40 → hp_F cst strs Φ D M 112 l' [.long y0, .ref 30] h') : hp_F cst strs Φ D M 26 l [.int x0] h := by
  refine hp_arc c hM teE_k hD [j] rfl hy (hp_Bc (z := j) rfl b0 t0 hp_Bn) hp_Fn (hp_Kc (zi := (0 + 0)) (zv := (0 + (1 * j + 0))) k0 rfl rfl (by omega) (by omega) hp_Kn) (hp_La l0 hp_Ln) (hp_Si (z := (1 + 0)) rfl (by omega) trivial) ?_ ?_
  · intro p hp ys l' st' h' hys a1 a2 a3 gZ gL gS
    rcases List.mem_cons.mp hp with rfl | hp
    · obtain rfl := hp_y0 hys
      obtain ⟨y0, t0, rfl, q0, g0⟩ := hp_gSj (z := ((-20004) + 0)) gS rfl
      obtain ⟨t1, rfl, g1⟩ := hp_gSa g0 (by decide)
      cases hp_gSn g1
      exact e0 l' h' y0 (by omega) a1 a2 a3 (hp_gLa gL (List.mem_of_getElem? (i := 0) rfl) (by decide))
    cases hp
  · intro p hp ys v h' hys a1 a2 a3 gZ gS
    cases hp
theorem teF4_k : hp_chk 94 26 0 [] [] [(0, .inr (.inr (.inl (some 40))))] [.inl (1, [])] [(6157, (0, []), (4, []))] [] 2 [(83, ([], 0, [], [], [(0, .inr (.inr (.inl (some 40))))], [.inr (.inl ((-20001), [])), .inr (.inr (.inl (some 30)))], []))] [] = true := by decide +kernel
theorem teF4 {cst : am_K} {strs : List Nat} {Φ : am_Q → Prop} {D : Nat} {M : am_M} {h : am_H} {l : am_L} (c : hp_C cst strs D) (hM : m_P[94]? = some M) (hD : (2 : Int) ≤ (D : Int) + 1) (hy : ly_hy m_tt ly_TH h) (x0 : Int32) (hx0 : x0.toInt = 1) (k0 : ly_hv cst h 6157 0 = some 4) (l0 : hp_a l 0 40) (e0 : ∀ (l' : am_L) (h' : am_H) (y0 : Int64), y0.toInt = (-20001) → ly_hy m_tt ly_TH h' → ly_fr cst [] h h' → h.length ≤ h'.length → hp_a l' 0 40 → hp_F cst strs Φ D M 83 l' [.long y0, .ref 30] h') : hp_F cst strs Φ D M 26 l [.int x0] h := by
  refine hp_arc c hM teF4_k hD [] rfl hy hp_Bn hp_Fn (hp_Kc (zi := (0 + 0)) (zv := (4 + 0)) k0 rfl rfl (by omega) (by omega) hp_Kn) (hp_La l0 hp_Ln) (hp_Si (z := (1 + 0)) rfl (by omega) trivial) ?_ ?_
  · intro p hp ys l' st' h' hys a1 a2 a3 gZ gL gS
    rcases List.mem_cons.mp hp with rfl | hp
    · obtain rfl := hp_y0 hys
      obtain ⟨y0, t0, rfl, q0, g0⟩ := hp_gSj (z := ((-20001) + 0)) gS rfl
      obtain ⟨t1, rfl, g1⟩ := hp_gSa g0 (by decide)
      cases hp_gSn g1
      exact e0 l' h' y0 (by omega) a1 a2 a3 (hp_gLa gL (List.mem_of_getElem? (i := 0) rfl) (by decide))
    cases hp
  · intro p hp ys v h' hys a1 a2 a3 gZ gS
    cases hp
theorem teF5_k : hp_chk 94 26 0 [] [] [(0, .inr (.inr (.inl (some 40))))] [.inl (1, [])] [(6157, (0, []), (5, []))] [] 2 [(83, ([], 0, [], [], [(0, .inr (.inr (.inl (some 40))))], [.inr (.inl ((-20002), [])), .inr (.inr (.inl (some 30)))], []))] [] = true := by decide +kernel
theorem teF5 {cst : am_K} {strs : List Nat} {Φ : am_Q → Prop} {D : Nat} {M : am_M} {h : am_H} {l : am_L} (c : hp_C cst strs D) (hM : m_P[94]? = some M) (hD : (2 : Int) ≤ (D : Int) + 1) (hy : ly_hy m_tt ly_TH h) (x0 : Int32) (hx0 : x0.toInt = 1) (k0 : ly_hv cst h 6157 0 = some 5) (l0 : hp_a l 0 40) (e0 : ∀ (l' : am_L) (h' : am_H) (y0 : Int64), y0.toInt = (-20002) → ly_hy m_tt ly_TH h' → ly_fr cst [] h h' → h.length ≤ h'.length → hp_a l' 0 40 → hp_F cst strs Φ D M 83 l' [.long y0, .ref 30] h') : hp_F cst strs Φ D M 26 l [.int x0] h := by
  refine hp_arc c hM teF5_k hD [] rfl hy hp_Bn hp_Fn (hp_Kc (zi := (0 + 0)) (zv := (5 + 0)) k0 rfl rfl (by omega) (by omega) hp_Kn) (hp_La l0 hp_Ln) (hp_Si (z := (1 + 0)) rfl (by omega) trivial) ?_ ?_
  · intro p hp ys l' st' h' hys a1 a2 a3 gZ gL gS
    rcases List.mem_cons.mp hp with rfl | hp
    · obtain rfl := hp_y0 hys
      obtain ⟨y0, t0, rfl, q0, g0⟩ := hp_gSj (z := ((-20002) + 0)) gS rfl
      obtain ⟨t1, rfl, g1⟩ := hp_gSa g0 (by decide)
      cases hp_gSn g1
      exact e0 l' h' y0 (by omega) a1 a2 a3 (hp_gLa gL (List.mem_of_getElem? (i := 0) rfl) (by decide))
    cases hp
  · intro p hp ys v h' hys a1 a2 a3 gZ gS
    cases hp
theorem teF6_k : hp_chk 94 26 0 [] [] [(0, .inr (.inr (.inl (some 40))))] [.inl (1, [])] [(6157, (0, []), (6, []))] [] 2 [(83, ([], 0, [], [], [(0, .inr (.inr (.inl (some 40))))], [.inr (.inl ((-20003), [])), .inr (.inr (.inl (some 30)))], []))] [] = true := by decide +kernel
theorem teF6 {cst : am_K} {strs : List Nat} {Φ : am_Q → Prop} {D : Nat} {M : am_M} {h : am_H} {l : am_L} (c : hp_C cst strs D) (hM : m_P[94]? = some M) (hD : (2 : Int) ≤ (D : Int) + 1) (hy : ly_hy m_tt ly_TH h) (x0 : Int32) (hx0 : x0.toInt = 1) (k0 : ly_hv cst h 6157 0 = some 6) (l0 : hp_a l 0 40) (e0 : ∀ (l' : am_L) (h' : am_H) (y0 : Int64), y0.toInt = (-20003) → ly_hy m_tt ly_TH h' → ly_fr cst [] h h' → h.length ≤ h'.length → hp_a l' 0 40 → hp_F cst strs Φ D M 83 l' [.long y0, .ref 30] h') : hp_F cst strs Φ D M 26 l [.int x0] h := by
  refine hp_arc c hM teF6_k hD [] rfl hy hp_Bn hp_Fn (hp_Kc (zi := (0 + 0)) (zv := (6 + 0)) k0 rfl rfl (by omega) (by omega) hp_Kn) (hp_La l0 hp_Ln) (hp_Si (z := (1 + 0)) rfl (by omega) trivial) ?_ ?_
  · intro p hp ys l' st' h' hys a1 a2 a3 gZ gL gS
    rcases List.mem_cons.mp hp with rfl | hp
    · obtain rfl := hp_y0 hys
      obtain ⟨y0, t0, rfl, q0, g0⟩ := hp_gSj (z := ((-20003) + 0)) gS rfl
      obtain ⟨t1, rfl, g1⟩ := hp_gSa g0 (by decide)
      cases hp_gSn g1
      exact e0 l' h' y0 (by omega) a1 a2 a3 (hp_gLa gL (List.mem_of_getElem? (i := 0) rfl) (by decide))
    cases hp
  · intro p hp ys v h' hys a1 a2 a3 gZ gS
    cases hp
theorem teG_k : hp_chk 94 86 1 [(0, 0, 1199)] [] [(0, .inr (.inr (.inl (some 40))))] [] [(6154, (0, []), (0, [(0, 1)]))] [] 2 [(93, ([], 1, [(0, 0, 1199)], [], [(0, .inr (.inr (.inl (some 40))))], [.inl (1, [(0, 1)]), .inr (.inr (.inl (some 40)))], []))] [] = true := by decide +kernel
theorem teG {cst : am_K} {strs : List Nat} {Φ : am_Q → Prop} {D : Nat} {M : am_M} {h : am_H} {l : am_L} (c : hp_C cst strs D) (hM : m_P[94]? = some M) (hD : (2 : Int) ≤ (D : Int) + 1) (hy : ly_hy m_tt ly_TH h) (b : Int) (b0 : 0 ≤ b) (t0 : b ≤ 1199) (k0 : ly_hv cst h 6154 0 = some (b)) (l0 : hp_a l 0 40) (e0 : ∀ (l' : am_L) (h' : am_H) (y0 : Int32), y0.toInt = (b + 1) → ly_hy m_tt ly_TH h' → ly_fr cst [] h h' → h.length ≤ h'.length → hp_a l' 0 40 → hp_F cst strs Φ D M 93 l' [.int y0, .ref 40] h') : hp_F cst strs Φ D M 86 l [] h := by
  refine hp_arc c hM teG_k hD [b] rfl hy (hp_Bc (z := b) rfl b0 t0 hp_Bn) hp_Fn (hp_Kc (zi := (0 + 0)) (zv := (0 + (1 * b + 0))) k0 rfl rfl (by omega) (by omega) hp_Kn) (hp_La l0 hp_Ln) trivial ?_ ?_
  · intro p hp ys l' st' h' hys a1 a2 a3 gZ gL gS
    rcases List.mem_cons.mp hp with rfl | hp
    · obtain rfl := hp_y0 hys
      obtain ⟨y0, t0, rfl, q0, g0⟩ := hp_gSi (z := (1 + (1 * b + 0))) gS rfl
      obtain ⟨t1, rfl, g1⟩ := hp_gSa g0 (by decide)
      cases hp_gSn g1
      exact e0 l' h' y0 (by omega) a1 a2 a3 (hp_gLa gL (List.mem_of_getElem? (i := 0) rfl) (by decide))
    cases hp
  · intro p hp ys v h' hys a1 a2 a3 gZ gS
    cases hp
theorem teH_k : hp_chk 94 96 0 [] [] [(0, .inr (.inr (.inl (some 40))))] [] [] [] 2 [(97, ([], 0, [], [], [(0, .inr (.inr (.inl (some 40))))], [.inr (.inr (.inl (some 40)))], []))] [] = true := by decide +kernel
theorem teH {cst : am_K} {strs : List Nat} {Φ : am_Q → Prop} {D : Nat} {M : am_M} {h : am_H} {l : am_L} (c : hp_C cst strs D) (hM : m_P[94]? = some M) (hD : (2 : Int) ≤ (D : Int) + 1) (hy : ly_hy m_tt ly_TH h) (l0 : hp_a l 0 40) (e0 : ∀ (l' : am_L) (h' : am_H), ly_hy m_tt ly_TH h' → ly_fr cst [] h h' → h.length ≤ h'.length → hp_a l' 0 40 → hp_F cst strs Φ D M 97 l' [.ref 40] h') : hp_F cst strs Φ D M 96 l [] h := by
  refine hp_arc c hM teH_k hD [] rfl hy hp_Bn hp_Fn hp_Kn (hp_La l0 hp_Ln) trivial ?_ ?_
  · intro p hp ys l' st' h' hys a1 a2 a3 gZ gL gS
    rcases List.mem_cons.mp hp with rfl | hp
    · obtain rfl := hp_y0 hys
      obtain ⟨t0, rfl, g0⟩ := hp_gSa gS (by decide)
      cases hp_gSn g0
      exact e0 l' h' a1 a2 a3 (hp_gLa gL (List.mem_of_getElem? (i := 0) rfl) (by decide))
    cases hp
  · intro p hp ys v h' hys a1 a2 a3 gZ gS
    cases hp
theorem teI_k : hp_chk 94 100 0 [] [] [(0, .inr (.inr (.inl (some 40))))] [.inl (0, [])] [] [] 2 [] [([], 0, [], [], [], [.inl (0, [])], [])] = true := by decide +kernel
theorem teI {cst : am_K} {strs : List Nat} {Φ : am_Q → Prop} {D : Nat} {M : am_M} {h : am_H} {l : am_L} (c : hp_C cst strs D) (hM : m_P[94]? = some M) (hD : (2 : Int) ≤ (D : Int) + 1) (hy : ly_hy m_tt ly_TH h) (x0 : Int32) (hx0 : x0.toInt = 0) (l0 : hp_a l 0 40) (r0 : ∀ (h' : am_H) (y0 : Int32), y0.toInt = 0 → ly_hy m_tt ly_TH h' → ly_fr cst [] h h' → h.length ≤ h'.length → Φ (some (.int y0), h', 0, 0)) : hp_F cst strs Φ D M 100 l [.int x0] h := by
  refine hp_arc c hM teI_k hD [] rfl hy hp_Bn hp_Fn hp_Kn (hp_La l0 hp_Ln) (hp_Si (z := (0 + 0)) rfl (by omega) trivial) ?_ ?_
  · intro p hp ys l' st' h' hys a1 a2 a3 gZ gL gS
    cases hp
  · intro p hp ys v h' hys a1 a2 a3 gZ gS
    rcases List.mem_cons.mp hp with rfl | hp
    · obtain rfl := hp_y0 hys
      cases v with
      | none => cases gS
      | some w =>
        obtain ⟨y0, t0, s0, q0, -⟩ := hp_gSi (z := (0 + 0)) gS rfl
        cases s0
        exact r0 h' y0 (by omega) a1 a2 a3
    cases hp
theorem teJ_k : hp_chk 94 100 0 [] [] [(0, .inr (.inr (.inl (some 40))))] [.inl (1, [])] [] [] 2 [(112, ([], 0, [], [], [(0, .inr (.inr (.inl (some 40))))], [.inr (.inl ((-20004), [])), .inr (.inr (.inl (some 30)))], []))] [] = true := by decide +kernel
theorem teJ {cst : am_K} {strs : List Nat} {Φ : am_Q → Prop} {D : Nat} {M : am_M} {h : am_H} {l : am_L} (c : hp_C cst strs D) (hM : m_P[94]? = some M) (hD : (2 : Int) ≤ (D : Int) + 1) (hy : ly_hy m_tt ly_TH h) (x0 : Int32) (hx0 : x0.toInt = 1) (l0 : hp_a l 0 40) (e0 : ∀ (l' : am_L) (h' : am_H) (y0 : Int64), y0.toInt = (-20004) → ly_hy m_tt ly_TH h' → ly_fr cst [] h h' → h.length ≤ h'.length → hp_a l' 0 40 → hp_F cst strs Φ D M 112 l' [.long y0, .ref 30] h') : hp_F cst strs Φ D M 100 l [.int x0] h := by
  refine hp_arc c hM teJ_k hD [] rfl hy hp_Bn hp_Fn hp_Kn (hp_La l0 hp_Ln) (hp_Si (z := (1 + 0)) rfl (by omega) trivial) ?_ ?_
  · intro p hp ys l' st' h' hys a1 a2 a3 gZ gL gS
    rcases List.mem_cons.mp hp with rfl | hp
    · obtain rfl := hp_y0 hys
      obtain ⟨y0, t0, rfl, q0, g0⟩ := hp_gSj (z := ((-20004) + 0)) gS rfl
      obtain ⟨t1, rfl, g1⟩ := hp_gSa g0 (by decide)
      cases hp_gSn g1
      exact e0 l' h' y0 (by omega) a1 a2 a3 (hp_gLa gL (List.mem_of_getElem? (i := 0) rfl) (by decide))
    cases hp
  · intro p hp ys v h' hys a1 a2 a3 gZ gS
    cases hp
theorem teK_k : hp_chk 94 115 1 [(0, 0, 19)] [] [(0, .inr (.inr (.inl (some 40))))] [] [(6153, (0, []), (0, [(0, 1)]))] [6153] 2 [(126, ([], 1, [(0, 0, 19)], [], [(0, .inr (.inr (.inl (some 40))))], [.inr (.inr (.inl (some 40)))], [(6153, (0, []), (1, [(0, 1)]))]))] [] = true := by decide +kernel
theorem teK {cst : am_K} {strs : List Nat} {Φ : am_Q → Prop} {D : Nat} {M : am_M} {h : am_H} {l : am_L} (c : hp_C cst strs D) (hM : m_P[94]? = some M) (hD : (2 : Int) ≤ (D : Int) + 1) (hy : ly_hy m_tt ly_TH h) (m : Int) (b0 : 0 ≤ m) (t0 : m ≤ 19) (k0 : ly_hv cst h 6153 0 = some (m)) (l0 : hp_a l 0 40) (e0 : ∀ (l' : am_L) (h' : am_H), ly_hy m_tt ly_TH h' → ly_fr cst [6153] h h' → h.length ≤ h'.length → ly_hv cst h' 6153 0 = some (m + 1) → hp_a l' 0 40 → hp_F cst strs Φ D M 126 l' [.ref 40] h') : hp_F cst strs Φ D M 115 l [] h := by
  refine hp_arc c hM teK_k hD [m] rfl hy (hp_Bc (z := m) rfl b0 t0 hp_Bn) hp_Fn (hp_Kc (zi := (0 + 0)) (zv := (0 + (1 * m + 0))) k0 rfl rfl (by omega) (by omega) hp_Kn) (hp_La l0 hp_Ln) trivial ?_ ?_
  · intro p hp ys l' st' h' hys a1 a2 a3 gZ gL gS
    rcases List.mem_cons.mp hp with rfl | hp
    · obtain rfl := hp_y0 hys
      obtain ⟨t0, rfl, g0⟩ := hp_gSa gS (by decide)
      cases hp_gSn g0
      exact e0 l' h' a1 a2 a3 (hp_gK (zi := (0 + 0)) (zv := (1 + (1 * m + 0))) gZ.2.2.2 (List.mem_of_getElem? (i := 0) rfl) rfl rfl (by omega) (by omega)) (hp_gLa gL (List.mem_of_getElem? (i := 0) rfl) (by decide))
    cases hp
  · intro p hp ys v h' hys a1 a2 a3 gZ gS
    cases hp
theorem teL_k : hp_chk 94 129 0 [] [] [(0, .inr (.inr (.inl (some 40))))] [] [] [] 2 [] [([], 0, [], [], [], [.inl (1, [])], [])] = true := by decide +kernel
theorem teL {cst : am_K} {strs : List Nat} {Φ : am_Q → Prop} {D : Nat} {M : am_M} {h : am_H} {l : am_L} (c : hp_C cst strs D) (hM : m_P[94]? = some M) (hD : (2 : Int) ≤ (D : Int) + 1) (hy : ly_hy m_tt ly_TH h) (l0 : hp_a l 0 40) (r0 : ∀ (h' : am_H) (y0 : Int32), y0.toInt = 1 → ly_hy m_tt ly_TH h' → ly_fr cst [] h h' → h.length ≤ h'.length → Φ (some (.int y0), h', 0, 0)) : hp_F cst strs Φ D M 129 l [] h := by
  refine hp_arc c hM teL_k hD [] rfl hy hp_Bn hp_Fn hp_Kn (hp_La l0 hp_Ln) trivial ?_ ?_
  · intro p hp ys l' st' h' hys a1 a2 a3 gZ gL gS
    cases hp
  · intro p hp ys v h' hys a1 a2 a3 gZ gS
    rcases List.mem_cons.mp hp with rfl | hp
    · obtain rfl := hp_y0 hys
      cases v with
      | none => cases gS
      | some w =>
        obtain ⟨y0, t0, s0, q0, -⟩ := hp_gSi (z := (1 + 0)) gS rfl
        cases s0
        exact r0 h' y0 (by omega) a1 a2 a3
    cases hp
theorem fr94_18_k : hp_chk 94 21 0 [] [] [] [.inl (0, [])] [] [] 2 [] [([], 0, [], [], [], [.inl (0, [])], [])] = true := by decide +kernel
theorem fr94_18 {cst : am_K} {strs : List Nat} {Φ : am_Q → Prop} {D : Nat} {M : am_M} {h : am_H} {l : am_L} (c : hp_C cst strs D) (hM : m_P[94]? = some M) (hD : (2 : Int) ≤ (D : Int) + 1) (hy : ly_hy m_tt ly_TH h) (x0 : Int32) (hx0 : x0.toInt = 0) (r0 : ∀ (h' : am_H) (y0 : Int32), y0.toInt = 0 → ly_hy m_tt ly_TH h' → ly_fr cst [] h h' → h.length ≤ h'.length → Φ (some (.int y0), h', 0, 0)) : hp_F cst strs Φ D M 21 l [.int x0] h := by
  refine hp_arc c hM fr94_18_k hD [] rfl hy hp_Bn hp_Fn hp_Kn hp_Ln (hp_Si (z := (0 + 0)) rfl (by omega) trivial) ?_ ?_
  · intro p hp ys l' st' h' hys a1 a2 a3 gZ gL gS
    cases hp
  · intro p hp ys v h' hys a1 a2 a3 gZ gS
    rcases List.mem_cons.mp hp with rfl | hp
    · obtain rfl := hp_y0 hys
      cases v with
      | none => cases gS
      | some w =>
        obtain ⟨y0, t0, s0, q0, -⟩ := hp_gSi (z := (0 + 0)) gS rfl
        cases s0
        exact r0 h' y0 (by omega) a1 a2 a3
    cases hp
theorem fz94_18 {cst : am_K} {strs : List Nat} {Φ : am_Q → Prop} {D : Nat} {M : am_M} {h : am_H} {l : am_L} (c1 : hp_C cst strs D) (c : hp_C cst strs (D + 1)) (hM : m_P[94]? = some M) (hD : 3 ≤ D) (hy : ly_hy m_tt ly_TH h) {kd pl vl : Int → Int} {t : Nat} {n : Int} (t1 : (t : Int) ≤ 1200) (n0 : 0 ≤ n) (n1 : n ≤ 1200) (X : ct cst h kd pl vl t n) {y : Int32} {b : Nat} (k0 : 1 ≤ y.toInt) (k1 : y.toInt ≤ 4) (ka : ly_hv cst h 6154 0 = some (b : Int)) (b1 : (b : Int) ≤ 1200)
    (k : ∀ (h' : am_H) (w : Int32), w.toInt = 0 → ly_hy m_tt ly_TH h' → ly_fr cst [6144, 6145] h h' → ly_hv cst h' 6144 0 = some y.toInt → ly_hv cst h' 6145 0 = some (pa pl t n b) → Φ (some (.int w), h', 0, 0)) : hp_F cst strs Φ (D + 1) M 18 l [.int y, .ref 40] h := by
  obtain ⟨r, hrun, w, r1, r2, r3, rhy, rfr, e0, k2, k3⟩ := fl_run (xk := y) c1 (by omega) hy t1 n0 n1 X k0 k1 ka b1
  refine hp_call (mi := 94) (pc := 18) (tg := 83) (na := 2) (c := 24) (ci := 4) (st0 := [.int y, .ref 40]) (st := []) (av := [.int y]) hM (by decide +kernel) hy rfl rfl rfl (by decide) hrun r2 r3 ?_
  rw [r1]
  exact fr94_18 c hM (by omega) rhy w e0 (fun h5 v hv u1 u2 u3 => k h5 v hv u1 (ly_fr_tr rfr (hp_sub2 rfl u2)) (u2 _ _ _ rfl k2) (u2 _ _ _ rfl k3))
theorem lz94_93 {cst : am_K} {strs : List Nat} {Φ : am_Q → Prop} {D : Nat} {M : am_M} {h : am_H} {l : am_L} (c1 : hp_C cst strs D) (c : hp_C cst strs (D + 1)) (hM : m_P[94]? = some M) (hD : 3 ≤ D) (hy : ly_hy m_tt ly_TH h) {kd pl vl : Int → Int} {t : Nat} {n : Int} (t1 : (t : Int) ≤ 1200) (kb : kB kd t) (vb : vB kd vl t) (X : ct cst h kd pl vl t n) {y : Int32} {b : Nat} (e : y.toInt = (b : Int)) (b1 : (b : Int) ≤ 1200)
    (k : ∀ (h' : am_H), ly_hy m_tt ly_TH h' → ly_fr cst [6154, 6155, 6156, 6157] h h' → cs cst h' kd vl t b → hp_F cst strs Φ (D + 1) M 96 l [] h') : hp_F cst strs Φ (D + 1) M 93 l [.int y, .ref 40] h := by
  obtain ⟨r, hrun, r1, r2, r3, rhy, rfr, rC⟩ := lk_run (xb := y) c1 (by omega) hy t1 kb vb X e b1
  refine hp_call (mi := 94) (pc := 93) (tg := 78) (na := 2) (c := 24) (ci := 4) (st0 := [.int y, .ref 40]) (st := []) (av := [.int y]) hM (by decide +kernel) hy rfl rfl rfl (by decide) hrun r2 r3 ?_
  rw [r1]
  exact k _ rhy rfr rC
theorem dz94_83 {cst : am_K} {strs : List Nat} {Φ : am_Q → Prop} {D : Nat} {M : am_M} {h : am_H} {l : am_L} (c1 : hp_C cst strs D) (c : hp_C cst strs (D + 1)) (hM : m_P[94]? = some M) (hD : 1 ≤ D) (hy : ly_hy m_tt ly_TH h) {i0 : List Int} {L : List Int} (A : it cst h i0 L) (rm : (i0.length : Int) + (L.length : Int) ≤ 10239) {y : Int64}
    (k : ∀ (h' : am_H), ly_hy m_tt ly_TH h' → ly_fr cst [3594, 5888] h h' → it cst h' i0 (L ++ [y.toInt]) → hp_F cst strs Φ (D + 1) M 86 l [] h') : hp_F cst strs Φ (D + 1) M 83 l [.long y, .ref 30] h := by
  obtain ⟨r, hrun, r1, r2, r3, rhy, rfr, rI⟩ := di_run (xv := y) c1 hD hy A rm
  refine hp_call (mi := 94) (pc := 83) (tg := 97) (na := 2) (c := 14) (ci := 3) (st0 := [.long y, .ref 30]) (st := []) (av := [.long y]) hM (by decide +kernel) hy rfl rfl rfl (by decide) hrun r2 r3 ?_
  rw [r1]
  exact k _ rhy rfr rI
theorem dz94_112 {cst : am_K} {strs : List Nat} {Φ : am_Q → Prop} {D : Nat} {M : am_M} {h : am_H} {l : am_L} (c1 : hp_C cst strs D) (c : hp_C cst strs (D + 1)) (hM : m_P[94]? = some M) (hD : 1 ≤ D) (hy : ly_hy m_tt ly_TH h) {i0 : List Int} {L : List Int} (A : it cst h i0 L) (rm : (i0.length : Int) + (L.length : Int) ≤ 10239) {y : Int64}
    (k : ∀ (h' : am_H), ly_hy m_tt ly_TH h' → ly_fr cst [3594, 5888] h h' → it cst h' i0 (L ++ [y.toInt]) → hp_F cst strs Φ (D + 1) M 115 l [] h') : hp_F cst strs Φ (D + 1) M 112 l [.long y, .ref 30] h := by
  obtain ⟨r, hrun, r1, r2, r3, rhy, rfr, rI⟩ := di_run (xv := y) c1 hD hy A rm
  refine hp_call (mi := 94) (pc := 112) (tg := 97) (na := 2) (c := 14) (ci := 3) (st0 := [.long y, .ref 30]) (st := []) (av := [.long y]) hM (by decide +kernel) hy rfl rfl rfl (by decide) hrun r2 r3 ?_
  rw [r1]
  exact k _ rhy rfr rI
set_option maxHeartbeats 8000000 in
/-- readTest of the class -/
theorem te_run {cst : am_K} {strs : List Nat} {D : Nat} {h : am_H} (c2 : hp_C cst strs D) (c1 : hp_C cst strs (D + 1)) (c : hp_C cst strs (D + 1 + 1)) (hD : 3 ≤ D) (hy : ly_hy m_tt ly_TH h) {kd pl vl : Int → Int} {t : Nat} {n : Int} (t1 : (t : Int) ≤ 1200) (n0 : 0 ≤ n) (n1 : n ≤ 1200) (kb : kB kd t) (vb : vB kd vl t) (X : ct cst h kd pl vl t n) {i0 : List Int} {P : List Int} (rm : (i0.length : Int) + (P.length : Int) ≤ 10220) {a m : Nat} (a1 : (a : Int) ≤ 1200) (m1 : m ≤ 20) (C : cs cst h kd vl t a) (I : it cst h i0 P) {oo dd nn : Bool} {w : List lv} (w6 : w.length ≤ 6) (Wt : wt cst h (wl (oo, dd, nn) w)) (km : ly_hv cst h 6153 0 = some (m : Int)) :
    ∃ r, am_Run cst m_cl m_tt m_P strs sx_bi (D + 1 + 1 + 1) 94 [.ref 40] h r ∧ (pR cst h [3594, 5888, 6151, 6153, 6154, 6155, 6156, 6157, 60080, 60081, 60082] [3594, 5888, 6151, 6153, 6154, 6155, 6156, 6157, 60080, 60081, 60082] i0 pl t n (ts kd vl t a m) (fun x h' => cs cst h' kd vl t x.1 ∧ it cst h' i0 (P ++ x.2 ++ [-20004] ++ nt nn) ∧ wt cst h' (wl (oo, dd, false) w) ∧ ly_hv cst h' 6153 0 = some ((m : Int) + 1))) r := by
  obtain ⟨M, hM, hl⟩ := hp_M (mi := 94) (k := 1) (by decide +kernel)
  have b := fk_b kb a
  have ab := ak_b kd vl t a
  obtain ⟨C1, C2, C3, C4⟩ := id C
  -- behind all items but TEST
  have fin : ∀ (l2 : am_L) (h2 : am_H) (y0 : Int64) (d : Nat) (E : List Int), ts kd vl t a m = .inr (d, E) → y0.toInt = -20004 → ly_hy m_tt ly_TH h2 → ly_fr cst [3594, 5888, 6151, 6153, 6154, 6155, 6156, 6157, 60080, 60081, 60082] h h2 → cs cst h2 kd vl t d → it cst h2 i0 (P ++ E) → wt cst h2 (wl (oo, dd, nn) w) → ly_hv cst h2 6153 0 = some (m : Int) → hp_a l2 0 40 → hp_F cst strs (pR cst h [3594, 5888, 6151, 6153, 6154, 6155, 6156, 6157, 60080, 60081, 60082] [3594, 5888, 6151, 6153, 6154, 6155, 6156, 6157, 60080, 60081, 60082] i0 pl t n (ts kd vl t a m) (fun x h' => cs cst h' kd vl t x.1 ∧ it cst h' i0 (P ++ x.2 ++ [-20004] ++ nt nn) ∧ wt cst h' (wl (oo, dd, false) w) ∧ ly_hv cst h' 6153 0 = some ((m : Int) + 1))) (D + 1 + 1) M 112 l2 [.long y0, .ref 30] h2 := by
    intro l2 h2 y0 d E er e0 u1 u2 Cd Id Wd kd' m0
    obtain ⟨s1, s2, s3, s4, s5, -⟩ := ts_ok m1 er
    have len : (P ++ E).length = P.length + E.length := List.length_append
    refine dz94_112 c1 c hM (by omega) u1 Id (by omega) (fun h3 v1 v2 I3 => ?_)
    rw [e0] at I3
    refine teK c hM (by omega) v1 (m : Int) (by omega) (by omega) (v2 _ _ _ rfl kd') m0 (fun l4 h4 w1 w2 w3 k4 o0 => ?_)
    have len2 : (P ++ E ++ [-20004]).length = P.length + E.length + 1 := by
      rw [List.length_append, List.length_append, List.length_singleton]
    obtain ⟨r, hrun, r1, r2, r3, rhy, rfr, rW, rI⟩ := rn_run c2 c1 hD w1 (wt_mv (wt_mv Wd v2 rfl) w2 rfl) w6 (it_mv I3 w2 rfl) (by omega)
    refine hp_call (mi := 94) (pc := 126) (tg := 98) (na := 1) (c := 24) (ci := 4) (st0 := [.ref 40]) (st := []) (av := []) hM (by decide +kernel) w1 rfl rfl rfl (by decide) hrun r2 r3 ?_
    rw [r1]
    exact teL c hM (by omega) rhy o0 (fun h5 q hq p1 p2 p3 => pR_s er hq p1 (ly_fr_tr u2 (ly_fr_tr (hp_sub2 rfl v2) (ly_fr_tr (hp_sub2 rfl w2) (ly_fr_tr (hp_sub2 rfl rfr) (hp_sub2 rfl p2))))) ⟨cs_mv (cs_mv (cs_mv (cs_mv Cd v2 rfl) w2 rfl) rfr rfl) p2 rfl, it_mv rI p2 rfl, wt_mv rW p2 rfl, p2 _ _ _ rfl (rfr _ _ _ rfl k4)⟩)
  -- at the first sum
  have go : ¬ (tm kd vl t a ∧ m = 20) → ∀ (l2 : am_L) (h2 : am_H), ly_hy m_tt ly_TH h2 → ly_fr cst [] h h2 → hp_a l2 0 40 → hp_F cst strs (pR cst h [3594, 5888, 6151, 6153, 6154, 6155, 6156, 6157, 60080, 60081, 60082] [3594, 5888, 6151, 6153, 6154, 6155, 6156, 6157, 60080, 60081, 60082] i0 pl t n (ts kd vl t a m) (fun x h' => cs cst h' kd vl t x.1 ∧ it cst h' i0 (P ++ x.2 ++ [-20004] ++ nt nn) ∧ wt cst h' (wl (oo, dd, false) w) ∧ ly_hv cst h' 6153 0 = some ((m : Int) + 1))) (D + 1 + 1) M 23 l2 [.ref 40] h2 := by
    intro nq l2 h2 u1 u2 m0
    obtain ⟨r, hrun, q, r1, r2, r3, rhy, rF, rS⟩ := su_run c2 c1 hD u1 t1 n0 n1 kb vb (ct_mv X u2 rfl) (P := P) (i0 := i0) (by omega) a1 (cs_mv C u2 rfl) (it_mv I u2 rfl)
    refine hp_call (mi := 94) (pc := 23) (tg := 96) (na := 1) (c := 24) (ci := 4) (st0 := [.ref 40]) (st := []) (av := []) hM (by decide +kernel) u1 rfl rfl rfl (by decide) hrun r2 r3 ?_
    rw [r1]
    cases e1 : sm kd vl t 5 a [] with
    | inl f =>
      obtain ⟨k, b'⟩ := f
      obtain ⟨z0, rfr, kp, z1, z2⟩ := rF k b' e1
      have er : ts kd vl t a m = .inl (k, b') := by
        unfold ts
        rw [if_neg nq, e1]
      exact teD c hM (by omega) rhy q z0 m0 (fun h5 v hv p1 p2 p3 => pR_f er hv p1 (ly_fr_tr (hp_sub2 rfl u2) (ly_fr_tr (hp_sub2 rfl rfr) (hp_sub2 rfl p2))) (fn_mv kp p2 rfl) (p2 _ _ _ rfl z1) (p2 _ _ _ rfl z2))
    | inr x =>
      obtain ⟨b', L⟩ := x
      obtain ⟨z0, rfr, Cb, Ib⟩ := rS _ e1
      have frr : ly_fr cst [3594, 5888, 6151, 6153, 6154, 6155, 6156, 6157, 60080, 60081, 60082] h r.2.1 := ly_fr_tr (hp_sub2 rfl u2) (hp_sub2 rfl rfr)
      have Wb : wt cst r.2.1 (wl (oo, dd, nn) w) := wt_mv (wt_mv Wt u2 rfl) rfr rfl
      have kmb := rfr _ _ _ rfl (u2 _ _ _ rfl km)
      have ak' := ak_b kd vl t b'
      obtain ⟨o1, o2, o3, o4⟩ := sm_ok 5 a [] b' L rfl e1
      simp only [List.length_nil] at o2
      have lenL : (P ++ L).length = P.length + L.length := List.length_append
      by_cases q21 : 21 ≤ ak kd vl t b'
      rotate_left
      · have er : ts kd vl t a m = .inr (b', L) := by
          unfold ts
          rw [if_neg nq, e1]
          simp only
          rw [if_neg q21]
        exact teE c hM (by omega) rhy (jf (ak kd vl t b')) q z0 (jf_lt ak'.1 (by omega)).1 (jf_lt ak'.1 (by omega)).2 Cb.2.2.2 m0 (fun l5 h5 y0 e0 p1 p2 p3 g0 => fin l5 h5 y0 b' L er e0 p1 (ly_fr_tr frr (hp_sub2 rfl p2)) (cs_mv Cb p2 rfl) (it_mv Ib p2 rfl) (wt_mv Wb p2 rfl) (p2 _ _ _ rfl kmb) g0)
      have bt : b' < t := fk_in (kd := kd) (by rw [ak_1 (vl := vl) (by omega)]; decide)
      have go2 : ∀ (l5 : am_L) (h5 : am_H) (y0 : Int64), y0.toInt = 20 - ak kd vl t b' - 20000 → ly_hy m_tt ly_TH h5 → ly_fr cst [] r.2.1 h5 → hp_a l5 0 40 → hp_F cst strs (pR cst h [3594, 5888, 6151, 6153, 6154, 6155, 6156, 6157, 60080, 60081, 60082] [3594, 5888, 6151, 6153, 6154, 6155, 6156, 6157, 60080, 60081, 60082] i0 pl t n (ts kd vl t a m) (fun x h' => cs cst h' kd vl t x.1 ∧ it cst h' i0 (P ++ x.2 ++ [-20004] ++ nt nn) ∧ wt cst h' (wl (oo, dd, false) w) ∧ ly_hv cst h' 6153 0 = some ((m : Int) + 1))) (D + 1 + 1) M 83 l5 [.long y0, .ref 30] h5 := by
        intro l5 h5 y0 e0 p1 p2 g0
        have Ib := show it cst r.2.1 i0 (P ++ L) from Ib
        refine dz94_83 c1 c hM (by omega) p1 (it_mv Ib p2 rfl) (by omega) (fun h6 s1 s2 I6 => ?_)
        rw [e0] at I6
        refine teG c hM (by omega) s1 (b' : Int) (by omega) (by omega) (s2 _ _ _ rfl (p2 _ _ _ rfl Cb.1)) g0 (fun l7 h7 y1 e7 d1 d2 d3 i0' => ?_)
        have fr7 : ly_fr cst [3594, 5888, 6151, 6153, 6154, 6155, 6156, 6157, 60080, 60081, 60082] h h7 := ly_fr_tr frr (ly_fr_tr (hp_sub2 rfl p2) (ly_fr_tr (hp_sub2 rfl s2) (hp_sub2 rfl d2)))
        refine lz94_93 c1 c hM (by omega) d1 t1 kb vb (ct_mv X fr7 rfl) (b := b' + 1) (by omega) (by omega) (fun h8 f1 f2 C8 => ?_)
        refine teH c hM (by omega) f1 i0' (fun l9 h9 j1 j2 j3 x0 => ?_)
        have fr9 : ly_fr cst [3594, 5888, 6151, 6153, 6154, 6155, 6156, 6157, 60080, 60081, 60082] h h9 := ly_fr_tr fr7 (ly_fr_tr (hp_sub2 rfl f2) (hp_sub2 rfl j2))
        have I9 := it_mv (it_mv (it_mv I6 d2 rfl) f2 rfl) j2 rfl
        have W9 : wt cst h9 (wl (oo, dd, nn) w) := wt_mv (wt_mv (wt_mv (wt_mv (wt_mv Wb p2 rfl) s2 rfl) d2 rfl) f2 rfl) j2 rfl
        have km9 := j2 _ _ _ rfl (f2 _ _ _ rfl (d2 _ _ _ rfl (s2 _ _ _ rfl (p2 _ _ _ rfl kmb))))
        have lenL2 : (P ++ L ++ [20 - ak kd vl t b' - 20000]).length = P.length + L.length + 1 := by
          rw [List.length_append, List.length_append, List.length_singleton]
        obtain ⟨r', hrun, q', r1, r2, r3, rhy', rF', rS'⟩ := su_run c2 c1 hD j1 t1 n0 n1 kb vb (ct_mv X fr9 rfl) (P := P ++ L ++ [20 - ak kd vl t b' - 20000]) (i0 := i0) (a := b' + 1) (by omega) (by omega) (cs_mv C8 j2 rfl) I9
        refine hp_call (mi := 94) (pc := 97) (tg := 96) (na := 1) (c := 24) (ci := 4) (st0 := [.ref 40]) (st := []) (av := []) hM (by decide +kernel) j1 rfl rfl rfl (by decide) hrun r2 r3 ?_
        rw [r1]
        cases e2 : sm kd vl t 5 (b' + 1) [] with
        | inl f =>
          obtain ⟨k, b2⟩ := f
          obtain ⟨z0, rfr', kp, z1, z2⟩ := rF' k b2 e2
          have er : ts kd vl t a m = .inl (k, b2) := by
            unfold ts
            rw [if_neg nq, e1]
            simp only
            rw [if_pos q21, e2]
          exact teI c hM (by omega) rhy' q' z0 x0 (fun h5 v hv p1 p2 p3 => pR_f er hv p1 (ly_fr_tr (hp_sub2 rfl fr9) (ly_fr_tr (hp_sub2 rfl rfr') (hp_sub2 rfl p2))) (fn_mv kp p2 rfl) (p2 _ _ _ rfl z1) (p2 _ _ _ rfl z2))
        | inr x =>
          obtain ⟨b2, L2⟩ := x
          obtain ⟨z0, rfr', Cb2, Ib2⟩ := rS' _ e2
          have frr' : ly_fr cst [3594, 5888, 6151, 6153, 6154, 6155, 6156, 6157, 60080, 60081, 60082] h r'.2.1 := ly_fr_tr fr9 (hp_sub2 rfl rfr')
          have er : ts kd vl t a m = .inr (b2, L ++ [20 - ak kd vl t b' - 20000] ++ L2) := by
            unfold ts
            rw [if_neg nq, e1]
            simp only
            rw [if_pos q21, e2]
          exact teJ c hM (by omega) rhy' q' z0 x0 (fun l5 h5 y0 e0 p1 p2 p3 g0 => fin l5 h5 y0 b2 _ er e0 p1 (ly_fr_tr frr' (hp_sub2 rfl p2)) (cs_mv Cb2 p2 rfl) (by
            have z := it_mv Ib2 p2 rfl
            rw [List.append_assoc, List.append_assoc, ← List.append_assoc L] at z
            exact z) (wt_mv (wt_mv W9 rfr' rfl) p2 rfl) (p2 _ _ _ rfl (rfr' _ _ _ rfl km9)) g0)
      have j5 := jf_ge q21 ak'.2
      have kj := Cb.2.2.2
      by_cases w4 : ak kd vl t b' = 21
      · rw [show jf (ak kd vl t b') = 4 by omega] at kj
        exact teF4 c hM (by omega) rhy q z0 kj m0 (fun l5 h5 y0 e0 p1 p2 p3 g0 => go2 l5 h5 y0 (by omega) p1 p2 g0)
      by_cases w5 : ak kd vl t b' = 22
      · rw [show jf (ak kd vl t b') = 5 by omega] at kj
        exact teF5 c hM (by omega) rhy q z0 kj m0 (fun l5 h5 y0 e0 p1 p2 p3 g0 => go2 l5 h5 y0 (by omega) p1 p2 g0)
      · rw [show jf (ak kd vl t b') = 6 by omega] at kj
        exact teF6 c hM (by omega) rhy q z0 kj m0 (fun l5 h5 y0 e0 p1 p2 p3 g0 => go2 l5 h5 y0 (by omega) p1 p2 g0)
  have start : hp_F cst strs (pR cst h [3594, 5888, 6151, 6153, 6154, 6155, 6156, 6157, 60080, 60081, 60082] [3594, 5888, 6151, 6153, 6154, 6155, 6156, 6157, 60080, 60081, 60082] i0 pl t n (ts kd vl t a m) (fun x h' => cs cst h' kd vl t x.1 ∧ it cst h' i0 (P ++ x.2 ++ [-20004] ++ nt nn) ∧ wt cst h' (wl (oo, dd, false) w) ∧ ly_hv cst h' 6153 0 = some ((m : Int) + 1))) (D + 1 + 1) M 0 (lv_args 0 [.ref 40]) [] h := by
    by_cases tmm : tm kd vl t a
    · have at' : a < t := fk_in (kd := kd) (by rcases tmm with z | ⟨z, -⟩ <;> rw [z] <;> decide)
      by_cases m20 : m = 20
      · have er : ts kd vl t a m = .inl (4, a) := by
          unfold ts
          rw [if_pos ⟨tmm, m20⟩]
        rw [m20] at km
        have fz : ∀ (l2 : am_L) (h2 : am_H) (y0 : Int32), y0.toInt = 4 → ly_hy m_tt ly_TH h2 → ly_fr cst [] h h2 → hp_F cst strs (pR cst h [3594, 5888, 6151, 6153, 6154, 6155, 6156, 6157, 60080, 60081, 60082] [3594, 5888, 6151, 6153, 6154, 6155, 6156, 6157, 60080, 60081, 60082] i0 pl t n (ts kd vl t a m) (fun x h' => cs cst h' kd vl t x.1 ∧ it cst h' i0 (P ++ x.2 ++ [-20004] ++ nt nn) ∧ wt cst h' (wl (oo, dd, false) w) ∧ ly_hv cst h' 6153 0 = some ((m : Int) + 1))) (D + 1 + 1) M 18 l2 [.int y0, .ref 40] h2 := fun l2 h2 y0 e0 u1 u2 => fz94_18 c1 c hM (by omega) u1 t1 n0 n1 (ct_mv X u2 rfl) (by omega) (by omega) (u2 _ _ _ rfl C1) a1 (fun h3 q hq v1 v2 z1 z2 => pR_f er hq v1 (ly_fr_tr (hp_sub2 rfl u2) (hp_sub2 rfl v2)) (it_o (it_mv (it_mv I u2 rfl) v2 rfl)) (by rw [← e0]; exact z1) z2)
        rcases tmm with z | ⟨z, z2⟩
        · rw [z] at C2
          exact teA0 c hM (by omega) hy C2 km rfl (fun l2 h2 y0 e0 u1 u2 u3 m0 => fz l2 h2 y0 e0 u1 u2)
        · rw [z] at C2
          rw [jf_neg z2 ab.1] at C4
          exact teA1 c hM (by omega) hy C2 C4 km rfl (fun l2 h2 y0 e0 u1 u2 u3 m0 => fz l2 h2 y0 e0 u1 u2)
      · have nq : ¬ (tm kd vl t a ∧ m = 20) := fun z => m20 z.2
        rcases tmm with z | ⟨z, z2⟩
        · rw [z] at C2
          exact teB0 c hM (by omega) hy (m : Int) (by omega) (by omega) C2 km rfl (fun l2 h2 u1 u2 u3 m0 => go nq l2 h2 u1 u2 m0)
        · rw [z] at C2
          rw [jf_neg z2 ab.1] at C4
          exact teB1 c hM (by omega) hy (m : Int) (by omega) (by omega) C2 C4 km rfl (fun l2 h2 u1 u2 u3 m0 => go nq l2 h2 u1 u2 m0)
    · have nq : ¬ (tm kd vl t a ∧ m = 20) := fun z => tmm z.1
      by_cases q0 : fk kd t a = 0
      · rw [q0] at C2
        exact teC0 c hM (by omega) hy C2 rfl (fun l2 h2 u1 u2 u3 m0 => go nq l2 h2 u1 u2 m0)
      by_cases q1 : fk kd t a = 1
      · have j := jf_pos (k := ak kd vl t a) (by
          by_cases z : ak kd vl t a < 17
          · exact absurd (Or.inr ⟨q1, z⟩) tmm
          · omega) ab.2
        rw [q1] at C2
        exact teC2 c hM (by omega) hy (jf (ak kd vl t a)) j.1 j.2 C2 C4 rfl (fun l2 h2 u1 u2 u3 m0 => go nq l2 h2 u1 u2 m0)
      · have q2 : fk kd t a ≠ 2 := fun z => tmm (Or.inl z)
        exact teC1 c hM (by omega) hy (fk kd t a) (by omega) (by omega) C2 rfl (fun l2 h2 u1 u2 u3 m0 => go nq l2 h2 u1 u2 m0)
  obtain ⟨n', r, hgo, q, r1, r2, r3, r4⟩ := start
  simp only [Nat.zero_add] at r2 r3
  exact ⟨r, Or.inr ⟨M, n', hM, hl, hgo⟩, q, r1, r2, r3, r4⟩
