/-! PRINTED by wip/p2/hp_wrd.py: readWords, words of the class, exactly -/
theorem rd0_k : hp_chk 140 0 1 [(0, 0, 99)] [] [(0, .inr (.inr (.inr (1, (0, [(0, 1)]))))), (1, .inr (.inr (.inl (some 17))))] [] [] [] 2 [(2, ([], 1, [(0, 0, 99)], [], [(0, .inr (.inr (.inr (1, (0, [(0, 1)]))))), (1, .inr (.inr (.inl (some 17)))), (2, .inl (0, []))], [], []))] [] = true := by decide +kernel
theorem rd0 {cst : am_K} {strs : List Nat} {Φ : am_Q → Prop} {D : Nat} {M : am_M} {h : am_H} {l : am_L} (c : hp_C cst strs D) (hM : m_P[140]? = some M) (hD : (2 : Int) ≤ (D : Int) + 1) (hy : ly_hy m_tt ly_TH h) (m : Int) (b0 : 0 ≤ m) (t0 : m ≤ 99) (l0 : hp_mlj l 0 1 h.length (m)) (l1 : hp_a l 1 17) (e0 : ∀ (l' : am_L) (h_9' : am_H), ly_hy m_tt ly_TH h_9' → ly_fr cst [] h h_9' → h.length ≤ h_9'.length → hp_mlj l' 0 1 h_9'.length (m) → hp_a l' 1 17 → hp_i l' 2 0 → hp_F cst strs Φ D M 2 l' [] h_9') : hp_F cst strs Φ D M 0 l [] h := by
  refine hp_arc c hM rd0_k hD [m] rfl hy (hp_Bc (z := m) rfl b0 t0 hp_Bn) hp_Fn hp_Kn (hp_Lmj (by decide) (z := (0 + (1 * m + 0))) l0 rfl (by omega) (hp_La l1 hp_Ln)) trivial ?_ ?_
  · intro p_9 hp ys l' st_9' h_9' hys a1_9 a2 a3 gZ gL gS
    rcases List.mem_cons.mp hp with rfl | hp
    · obtain rfl := hp_y0 hys
      cases hp_gSn gS
      exact e0 l' h_9' a1_9 a2 a3 (hp_gLmj (z := (0 + (1 * m + 0))) gL (List.mem_of_getElem? (i := 0) rfl) rfl (by omega)) (hp_gLa gL (List.mem_of_getElem? (i := 1) rfl) (by decide)) (hp_gLi (z := (0 + 0)) gL (List.mem_of_getElem? (i := 2) rfl) rfl (by omega))
    cases hp
  · intro p_9 hp ys v_9 h_9' hys a1_9 a2 a3 gZ gS
    cases hp
theorem rd1_k : hq_chk [79] 140 2 3 [(0, 0, 99), (1, 0, 20), (2, 1, 1200)] [((-1), [(1, (-1)), (2, 1)])] [(0, .inr (.inr (.inr (1, (0, [(0, 1)]))))), (1, .inr (.inr (.inl (some 17)))), (2, .inl (0, [(1, 1)]))] [] [(261, (0, []), (0, [(2, 1)])), (768, (0, [(1, 1)]), (1, []))] [] 4 [(2, ([], 3, [(0, 0, 99), (1, 0, 20), (2, 1, 1200)], [], [(0, .inr (.inr (.inr (1, (0, [(0, 1)]))))), (1, .inr (.inr (.inl (some 17)))), (2, .inl (1, [(1, 1)]))], [], []))] [] = true := by decide +kernel
theorem rd1 {cst : am_K} {strs : List Nat} {Φ : am_Q → Prop} {D : Nat} {M : am_M} {h : am_H} {l : am_L} (c : hp_C cst strs D) (hM : m_P[140]? = some M) (hD : (4 : Int) ≤ (D : Int) + 1) (hy : ly_hy m_tt ly_TH h) (m n t : Int) (b0 : 0 ≤ m) (t0 : m ≤ 99) (b1 : 0 ≤ n) (t1 : n ≤ 20) (b2 : 1 ≤ t) (t2 : t ≤ 1200) (f0 : 0 ≤ (t - n - 1)) (k0 : ly_hv cst h 261 0 = some (t)) (k1 : ly_hv cst h 768 (n) = some 1) (l0 : hp_mlj l 0 1 h.length (m)) (l1 : hp_a l 1 17) (l2 : hp_i l 2 (n)) (e0 : ∀ (l' : am_L) (h_9' : am_H), ly_hy m_tt ly_TH h_9' → ly_fr cst [] h h_9' → h.length ≤ h_9'.length → hp_mlj l' 0 1 h_9'.length (m) → hp_a l' 1 17 → hp_i l' 2 (n + 1) → hp_F cst strs Φ D M 2 l' [] h_9') : hp_F cst strs Φ D M 2 l [] h := by
  refine hq_arc c hM rd1_k hD [m, n, t] rfl hy (hp_Bc (z := m) rfl b0 t0 (hp_Bc (z := n) rfl b1 t1 (hp_Bc (z := t) rfl b2 t2 hp_Bn))) (hp_Fc (z := ((-1) + ((-1) * n + (1 * t + 0)))) rfl (by omega) hp_Fn) (hp_Kc (zi := (0 + 0)) (zv := (0 + (1 * t + 0))) k0 rfl rfl (by omega) (by omega) (hp_Kc (zi := (0 + (1 * n + 0))) (zv := (1 + 0)) k1 rfl rfl (by omega) (by omega) hp_Kn)) (hp_Lmj (by decide) (z := (0 + (1 * m + 0))) l0 rfl (by omega) (hp_La l1 (hp_Li (z := (0 + (1 * n + 0))) l2 rfl (by omega) hp_Ln))) trivial ?_ ?_
  · intro p_9 hp ys l' st_9' h_9' hys a1_9 a2 a3 gZ gL gS
    rcases List.mem_cons.mp hp with rfl | hp
    · obtain rfl := hp_y0 hys
      cases hp_gSn gS
      exact e0 l' h_9' a1_9 a2 a3 (hp_gLmj (z := (0 + (1 * m + 0))) gL (List.mem_of_getElem? (i := 0) rfl) rfl (by omega)) (hp_gLa gL (List.mem_of_getElem? (i := 1) rfl) (by decide)) (hp_gLi (z := (1 + (1 * n + 0))) gL (List.mem_of_getElem? (i := 2) rfl) rfl (by omega))
    cases hp
  · intro p_9 hp ys v_9 h_9' hys a1_9 a2 a3 gZ gS
    cases hp
theorem rd2_k : hq_chk [79, 25] 140 2 1 [(0, 0, 99)] [] [(0, .inr (.inr (.inr (1, (0, [(0, 1)]))))), (1, .inr (.inr (.inl (some 17)))), (2, .inl (21, []))] [] [] [] 4 [] [([], 1, [(0, 0, 99)], [], [], [.inl (0, [])], [])] = true := by decide +kernel
theorem rd2 {cst : am_K} {strs : List Nat} {Φ : am_Q → Prop} {D : Nat} {M : am_M} {h : am_H} {l : am_L} (c : hp_C cst strs D) (hM : m_P[140]? = some M) (hD : (4 : Int) ≤ (D : Int) + 1) (hy : ly_hy m_tt ly_TH h) (m : Int) (b0 : 0 ≤ m) (t0 : m ≤ 99) (l0 : hp_mlj l 0 1 h.length (m)) (l1 : hp_a l 1 17) (l2 : hp_i l 2 21) (r0 : ∀ (h_9' : am_H) (y0 : Int32), y0.toInt = 0 → ly_hy m_tt ly_TH h_9' → ly_fr cst [] h h_9' → h.length ≤ h_9'.length → Φ (some (.int y0), h_9', 0, 0)) : hp_F cst strs Φ D M 2 l [] h := by
  refine hq_arc c hM rd2_k hD [m] rfl hy (hp_Bc (z := m) rfl b0 t0 hp_Bn) hp_Fn hp_Kn (hp_Lmj (by decide) (z := (0 + (1 * m + 0))) l0 rfl (by omega) (hp_La l1 (hp_Li (z := (21 + 0)) l2 rfl (by omega) hp_Ln))) trivial ?_ ?_
  · intro p_9 hp ys l' st_9' h_9' hys a1_9 a2 a3 gZ gL gS
    cases hp
  · intro p_9 hp ys v_9 h_9' hys a1_9 a2 a3 gZ gS
    rcases List.mem_cons.mp hp with rfl | hp
    · obtain rfl := hp_y0 hys
      cases v_9 with
      | none => cases gS
      | some wz =>
        obtain ⟨y0, t0, s0_9, q0, -⟩ := hp_gSi (z := (0 + 0)) gS rfl
        cases s0_9
        exact r0 h_9' y0 (by omega) a1_9 a2 a3
    cases hp
theorem rd3_k : hq_chk [79, 25] 140 2 2 [(0, 0, 99), (1, 1, 20)] [] [(0, .inr (.inr (.inr (1, (0, [(0, 1)]))))), (1, .inr (.inr (.inl (some 17)))), (2, .inl (0, [(1, 1)]))] [] [(261, (0, []), (0, [(1, 1)]))] [] 4 [(43, ([], 2, [(0, 0, 99), (1, 1, 20)], [], [(0, .inr (.inr (.inr (1, (0, [(0, 1)]))))), (1, .inr (.inr (.inl (some 17)))), (2, .inl (0, [(1, 1)]))], [], []))] [] = true := by decide +kernel
theorem rd3 {cst : am_K} {strs : List Nat} {Φ : am_Q → Prop} {D : Nat} {M : am_M} {h : am_H} {l : am_L} (c : hp_C cst strs D) (hM : m_P[140]? = some M) (hD : (4 : Int) ≤ (D : Int) + 1) (hy : ly_hy m_tt ly_TH h) (m n : Int) (b0 : 0 ≤ m) (t0 : m ≤ 99) (b1 : 1 ≤ n) (t1 : n ≤ 20) (k0 : ly_hv cst h 261 0 = some (n)) (l0 : hp_mlj l 0 1 h.length (m)) (l1 : hp_a l 1 17) (l2 : hp_i l 2 (n)) (e0 : ∀ (l' : am_L) (h_9' : am_H), ly_hy m_tt ly_TH h_9' → ly_fr cst [] h h_9' → h.length ≤ h_9'.length → hp_mlj l' 0 1 h_9'.length (m) → hp_a l' 1 17 → hp_i l' 2 (n) → hp_F cst strs Φ D M 43 l' [] h_9') : hp_F cst strs Φ D M 2 l [] h := by
  refine hq_arc c hM rd3_k hD [m, n] rfl hy (hp_Bc (z := m) rfl b0 t0 (hp_Bc (z := n) rfl b1 t1 hp_Bn)) hp_Fn (hp_Kc (zi := (0 + 0)) (zv := (0 + (1 * n + 0))) k0 rfl rfl (by omega) (by omega) hp_Kn) (hp_Lmj (by decide) (z := (0 + (1 * m + 0))) l0 rfl (by omega) (hp_La l1 (hp_Li (z := (0 + (1 * n + 0))) l2 rfl (by omega) hp_Ln))) trivial ?_ ?_
  · intro p_9 hp ys l' st_9' h_9' hys a1_9 a2 a3 gZ gL gS
    rcases List.mem_cons.mp hp with rfl | hp
    · obtain rfl := hp_y0 hys
      cases hp_gSn gS
      exact e0 l' h_9' a1_9 a2 a3 (hp_gLmj (z := (0 + (1 * m + 0))) gL (List.mem_of_getElem? (i := 0) rfl) rfl (by omega)) (hp_gLa gL (List.mem_of_getElem? (i := 1) rfl) (by decide)) (hp_gLi (z := (0 + (1 * n + 0))) gL (List.mem_of_getElem? (i := 2) rfl) rfl (by omega))
    cases hp
  · intro p_9 hp ys v_9 h_9' hys a1_9 a2 a3 gZ gS
    cases hp
theorem rd4_k : hq_chk [79, 25] 140 2 1 [(0, 0, 99)] [] [(0, .inr (.inr (.inr (1, (0, [(0, 1)]))))), (1, .inr (.inr (.inl (some 17)))), (2, .inl (0, []))] [] [(261, (0, []), (0, []))] [] 4 [] [([], 1, [(0, 0, 99)], [], [], [.inl (0, [])], [])] = true := by decide +kernel
theorem rd4 {cst : am_K} {strs : List Nat} {Φ : am_Q → Prop} {D : Nat} {M : am_M} {h : am_H} {l : am_L} (c : hp_C cst strs D) (hM : m_P[140]? = some M) (hD : (4 : Int) ≤ (D : Int) + 1) (hy : ly_hy m_tt ly_TH h) (m : Int) (b0 : 0 ≤ m) (t0 : m ≤ 99) (k0 : ly_hv cst h 261 0 = some 0) (l0 : hp_mlj l 0 1 h.length (m)) (l1 : hp_a l 1 17) (l2 : hp_i l 2 0) (r0 : ∀ (h_9' : am_H) (y0 : Int32), y0.toInt = 0 → ly_hy m_tt ly_TH h_9' → ly_fr cst [] h h_9' → h.length ≤ h_9'.length → Φ (some (.int y0), h_9', 0, 0)) : hp_F cst strs Φ D M 2 l [] h := by
  refine hq_arc c hM rd4_k hD [m] rfl hy (hp_Bc (z := m) rfl b0 t0 hp_Bn) hp_Fn (hp_Kc (zi := (0 + 0)) (zv := (0 + 0)) k0 rfl rfl (by omega) (by omega) hp_Kn) (hp_Lmj (by decide) (z := (0 + (1 * m + 0))) l0 rfl (by omega) (hp_La l1 (hp_Li (z := (0 + 0)) l2 rfl (by omega) hp_Ln))) trivial ?_ ?_
  · intro p_9 hp ys l' st_9' h_9' hys a1_9 a2 a3 gZ gL gS
    cases hp
  · intro p_9 hp ys v_9 h_9' hys a1_9 a2 a3 gZ gS
    rcases List.mem_cons.mp hp with rfl | hp
    · obtain rfl := hp_y0 hys
      cases v_9 with
      | none => cases gS
      | some wz =>
        obtain ⟨y0, t0, s0_9, q0, -⟩ := hp_gSi (z := (0 + 0)) gS rfl
        cases s0_9
        exact r0 h_9' y0 (by omega) a1_9 a2 a3
    cases hp
theorem rd5_k : hq_chk [79, 25] 140 2 4 [(0, 0, 99), (1, 0, 20), (2, 1, 1200), (3, 2, 255)] [((-1), [(1, (-1)), (2, 1)])] [(0, .inr (.inr (.inr (1, (0, [(0, 1)]))))), (1, .inr (.inr (.inl (some 17)))), (2, .inl (0, [(1, 1)]))] [] [(261, (0, []), (0, [(2, 1)])), (768, (0, [(1, 1)]), (0, [(3, 1)]))] [] 4 [] [([], 4, [(0, 0, 99), (1, 0, 20), (2, 1, 1200), (3, 2, 255)], [], [], [.inl (0, [])], [])] = true := by decide +kernel
theorem rd5 {cst : am_K} {strs : List Nat} {Φ : am_Q → Prop} {D : Nat} {M : am_M} {h : am_H} {l : am_L} (c : hp_C cst strs D) (hM : m_P[140]? = some M) (hD : (4 : Int) ≤ (D : Int) + 1) (hy : ly_hy m_tt ly_TH h) (m n t q : Int) (b0 : 0 ≤ m) (t0 : m ≤ 99) (b1 : 0 ≤ n) (t1 : n ≤ 20) (b2 : 1 ≤ t) (t2 : t ≤ 1200) (b3 : 2 ≤ q) (t3 : q ≤ 255) (f0 : 0 ≤ (t - n - 1)) (k0 : ly_hv cst h 261 0 = some (t)) (k1 : ly_hv cst h 768 (n) = some (q)) (l0 : hp_mlj l 0 1 h.length (m)) (l1 : hp_a l 1 17) (l2 : hp_i l 2 (n)) (r0 : ∀ (h_9' : am_H) (y0 : Int32), y0.toInt = 0 → ly_hy m_tt ly_TH h_9' → ly_fr cst [] h h_9' → h.length ≤ h_9'.length → Φ (some (.int y0), h_9', 0, 0)) : hp_F cst strs Φ D M 2 l [] h := by
  refine hq_arc c hM rd5_k hD [m, n, t, q] rfl hy (hp_Bc (z := m) rfl b0 t0 (hp_Bc (z := n) rfl b1 t1 (hp_Bc (z := t) rfl b2 t2 (hp_Bc (z := q) rfl b3 t3 hp_Bn)))) (hp_Fc (z := ((-1) + ((-1) * n + (1 * t + 0)))) rfl (by omega) hp_Fn) (hp_Kc (zi := (0 + 0)) (zv := (0 + (1 * t + 0))) k0 rfl rfl (by omega) (by omega) (hp_Kc (zi := (0 + (1 * n + 0))) (zv := (0 + (1 * q + 0))) k1 rfl rfl (by omega) (by omega) hp_Kn)) (hp_Lmj (by decide) (z := (0 + (1 * m + 0))) l0 rfl (by omega) (hp_La l1 (hp_Li (z := (0 + (1 * n + 0))) l2 rfl (by omega) hp_Ln))) trivial ?_ ?_
  · intro p_9 hp ys l' st_9' h_9' hys a1_9 a2 a3 gZ gL gS
    cases hp
  · intro p_9 hp ys v_9 h_9' hys a1_9 a2 a3 gZ gS
    rcases List.mem_cons.mp hp with rfl | hp
    · obtain rfl := hp_y0 hys
      cases v_9 with
      | none => cases gS
      | some wz =>
        obtain ⟨y0, t0, s0_9, q0, -⟩ := hp_gSi (z := (0 + 0)) gS rfl
        cases s0_9
        exact r0 h_9' y0 (by omega) a1_9 a2 a3
    cases hp
theorem rd6_k : hp_chk 140 43 2 [(0, 0, 99), (1, 1, 20)] [] [(0, .inr (.inr (.inr (1, (0, [(0, 1)]))))), (1, .inr (.inr (.inl (some 17)))), (2, .inl (0, [(1, 1)]))] [] [] [] 2 [(44, ([], 2, [(0, 0, 99), (1, 1, 20)], [], [(0, .inr (.inr (.inr (1, (0, [(0, 1)]))))), (1, .inr (.inr (.inl (some 17)))), (2, .inl (0, [(1, 1)]))], [.inr (.inr (.inr (1, (0, [(0, 1)]))))], []))] [] = true := by decide +kernel
theorem rd6 {cst : am_K} {strs : List Nat} {Φ : am_Q → Prop} {D : Nat} {M : am_M} {h : am_H} {l : am_L} (c : hp_C cst strs D) (hM : m_P[140]? = some M) (hD : (2 : Int) ≤ (D : Int) + 1) (hy : ly_hy m_tt ly_TH h) (m n : Int) (b0 : 0 ≤ m) (t0 : m ≤ 99) (b1 : 1 ≤ n) (t1 : n ≤ 20) (l0 : hp_mlj l 0 1 h.length (m)) (l1 : hp_a l 1 17) (l2 : hp_i l 2 (n)) (e0 : ∀ (l' : am_L) (h_9' : am_H) (y0 : Nat), (y0 : Int) = (m) → 177 + 19 * (y0 + 1) ≤ h_9'.length → ly_hy m_tt ly_TH h_9' → ly_fr cst [] h h_9' → h.length ≤ h_9'.length → hp_mlj l' 0 1 h_9'.length (m) → hp_a l' 1 17 → hp_i l' 2 (n) → hp_F cst strs Φ D M 44 l' [.ref (16 + (177 + 19 * y0 + 1))] h_9') : hp_F cst strs Φ D M 43 l [] h := by
  refine hp_arc c hM rd6_k hD [m, n] rfl hy (hp_Bc (z := m) rfl b0 t0 (hp_Bc (z := n) rfl b1 t1 hp_Bn)) hp_Fn hp_Kn (hp_Lmj (by decide) (z := (0 + (1 * m + 0))) l0 rfl (by omega) (hp_La l1 (hp_Li (z := (0 + (1 * n + 0))) l2 rfl (by omega) hp_Ln))) trivial ?_ ?_
  · intro p_9 hp ys l' st_9' h_9' hys a1_9 a2 a3 gZ gL gS
    rcases List.mem_cons.mp hp with rfl | hp
    · obtain rfl := hp_y0 hys
      obtain ⟨y0, t0, rfl, q0, p0_9, g0⟩ := hp_gSmj (z := (0 + (1 * m + 0))) gS rfl
      cases hp_gSn g0
      exact e0 l' h_9' y0 (by omega) p0_9 a1_9 a2 a3 (hp_gLmj (z := (0 + (1 * m + 0))) gL (List.mem_of_getElem? (i := 0) rfl) rfl (by omega)) (hp_gLa gL (List.mem_of_getElem? (i := 1) rfl) (by decide)) (hp_gLi (z := (0 + (1 * n + 0))) gL (List.mem_of_getElem? (i := 2) rfl) rfl (by omega))
    cases hp
  · intro p_9 hp ys v_9 h_9' hys a1_9 a2 a3 gZ gS
    cases hp
theorem rd7_k : hp_chk 140 47 2 [(0, 0, 99), (1, 1, 20)] [] [(0, .inr (.inr (.inr (1, (0, [(0, 1)]))))), (1, .inr (.inr (.inl (some 17)))), (2, .inl (0, [(1, 1)]))] [] [] [] 2 [(49, ([], 2, [(0, 0, 99), (1, 1, 20)], [], [(0, .inr (.inr (.inr (1, (0, [(0, 1)]))))), (1, .inr (.inr (.inl (some 17)))), (2, .inl (0, [(1, 1)])), (3, .inl (0, []))], [], []))] [] = true := by decide +kernel
theorem rd7 {cst : am_K} {strs : List Nat} {Φ : am_Q → Prop} {D : Nat} {M : am_M} {h : am_H} {l : am_L} (c : hp_C cst strs D) (hM : m_P[140]? = some M) (hD : (2 : Int) ≤ (D : Int) + 1) (hy : ly_hy m_tt ly_TH h) (m n : Int) (b0 : 0 ≤ m) (t0 : m ≤ 99) (b1 : 1 ≤ n) (t1 : n ≤ 20) (l0 : hp_mlj l 0 1 h.length (m)) (l1 : hp_a l 1 17) (l2 : hp_i l 2 (n)) (e0 : ∀ (l' : am_L) (h_9' : am_H), ly_hy m_tt ly_TH h_9' → ly_fr cst [] h h_9' → h.length ≤ h_9'.length → hp_mlj l' 0 1 h_9'.length (m) → hp_a l' 1 17 → hp_i l' 2 (n) → hp_i l' 3 0 → hp_F cst strs Φ D M 49 l' [] h_9') : hp_F cst strs Φ D M 47 l [] h := by
  refine hp_arc c hM rd7_k hD [m, n] rfl hy (hp_Bc (z := m) rfl b0 t0 (hp_Bc (z := n) rfl b1 t1 hp_Bn)) hp_Fn hp_Kn (hp_Lmj (by decide) (z := (0 + (1 * m + 0))) l0 rfl (by omega) (hp_La l1 (hp_Li (z := (0 + (1 * n + 0))) l2 rfl (by omega) hp_Ln))) trivial ?_ ?_
  · intro p_9 hp ys l' st_9' h_9' hys a1_9 a2 a3 gZ gL gS
    rcases List.mem_cons.mp hp with rfl | hp
    · obtain rfl := hp_y0 hys
      cases hp_gSn gS
      exact e0 l' h_9' a1_9 a2 a3 (hp_gLmj (z := (0 + (1 * m + 0))) gL (List.mem_of_getElem? (i := 0) rfl) rfl (by omega)) (hp_gLa gL (List.mem_of_getElem? (i := 1) rfl) (by decide)) (hp_gLi (z := (0 + (1 * n + 0))) gL (List.mem_of_getElem? (i := 2) rfl) rfl (by omega)) (hp_gLi (z := (0 + 0)) gL (List.mem_of_getElem? (i := 3) rfl) rfl (by omega))
    cases hp
  · intro p_9 hp ys v_9 h_9' hys a1_9 a2 a3 gZ gS
    cases hp
theorem rd8_k : hq_chk [80] 140 49 5 [(0, 0, 99), (1, 1, 20), (2, 0, 19), (3, 1, 1200), (4, (-9223372036854775808), 9223372036854775807)] [((-1), [(1, 1), (2, (-1))]), ((-1), [(2, (-1)), (3, 1)])] [(0, .inr (.inr (.inr (1, (0, [(0, 1)]))))), (1, .inr (.inr (.inl (some 17)))), (2, .inl (0, [(1, 1)])), (3, .inl (0, [(2, 1)]))] [] [(261, (0, []), (0, [(3, 1)])), (1280, (0, [(2, 1)]), (0, [(4, 1)]))] [] 4 [(61, ([], 5, [(0, 0, 99), (1, 1, 20), (2, 0, 19), (3, 1, 1200), (4, (-9223372036854775808), 9223372036854775807)], [], [(0, .inr (.inr (.inr (1, (0, [(0, 1)]))))), (1, .inr (.inr (.inl (some 17)))), (2, .inl (0, [(1, 1)])), (3, .inl (0, [(2, 1)]))], [.inl (0, []), .inr (.inl (0, [(4, 1)])), .inr (.inr (.inr (1, (0, [(0, 1)]))))], []))] [] = true := by decide +kernel
theorem rd8 {cst : am_K} {strs : List Nat} {Φ : am_Q → Prop} {D : Nat} {M : am_M} {h : am_H} {l : am_L} (c : hp_C cst strs D) (hM : m_P[140]? = some M) (hD : (4 : Int) ≤ (D : Int) + 1) (hy : ly_hy m_tt ly_TH h) (m n i t v : Int) (b0 : 0 ≤ m) (t0 : m ≤ 99) (b1 : 1 ≤ n) (t1 : n ≤ 20) (b2 : 0 ≤ i) (t2 : i ≤ 19) (b3 : 1 ≤ t) (t3 : t ≤ 1200) (b4 : (-9223372036854775808) ≤ v) (t4 : v ≤ 9223372036854775807) (f0 : 0 ≤ (n - i - 1)) (f1 : 0 ≤ (t - i - 1)) (k0 : ly_hv cst h 261 0 = some (t)) (k1 : ly_hv cst h 1280 (i) = some (v)) (l0 : hp_mlj l 0 1 h.length (m)) (l1 : hp_a l 1 17) (l2 : hp_i l 2 (n)) (l3 : hp_i l 3 (i)) (e0 : ∀ (l' : am_L) (h_9' : am_H) (y0 : Int32) (y1 : Int64) (y2 : Nat), y0.toInt = 0 → y1.toInt = (v) → (y2 : Int) = (m) → 177 + 19 * (y2 + 1) ≤ h_9'.length → ly_hy m_tt ly_TH h_9' → ly_fr cst [] h h_9' → h.length ≤ h_9'.length → hp_mlj l' 0 1 h_9'.length (m) → hp_a l' 1 17 → hp_i l' 2 (n) → hp_i l' 3 (i) → hp_F cst strs Φ D M 61 l' [.int y0, .long y1, .ref (16 + (177 + 19 * y2 + 1))] h_9') : hp_F cst strs Φ D M 49 l [] h := by
  refine hq_arc c hM rd8_k hD [m, n, i, t, v] rfl hy (hp_Bc (z := m) rfl b0 t0 (hp_Bc (z := n) rfl b1 t1 (hp_Bc (z := i) rfl b2 t2 (hp_Bc (z := t) rfl b3 t3 (hp_Bc (z := v) rfl b4 t4 hp_Bn))))) (hp_Fc (z := ((-1) + (1 * n + ((-1) * i + 0)))) rfl (by omega) (hp_Fc (z := ((-1) + ((-1) * i + (1 * t + 0)))) rfl (by omega) hp_Fn)) (hp_Kc (zi := (0 + 0)) (zv := (0 + (1 * t + 0))) k0 rfl rfl (by omega) (by omega) (hp_Kc (zi := (0 + (1 * i + 0))) (zv := (0 + (1 * v + 0))) k1 rfl rfl (by omega) (by omega) hp_Kn)) (hp_Lmj (by decide) (z := (0 + (1 * m + 0))) l0 rfl (by omega) (hp_La l1 (hp_Li (z := (0 + (1 * n + 0))) l2 rfl (by omega) (hp_Li (z := (0 + (1 * i + 0))) l3 rfl (by omega) hp_Ln)))) trivial ?_ ?_
  · intro p_9 hp ys l' st_9' h_9' hys a1_9 a2 a3 gZ gL gS
    rcases List.mem_cons.mp hp with rfl | hp
    · obtain rfl := hp_y0 hys
      obtain ⟨y0, t0, rfl, q0, g0⟩ := hp_gSi (z := (0 + 0)) gS rfl
      obtain ⟨y1, t1, rfl, q1_9, g1⟩ := hp_gSj (z := (0 + (1 * v + 0))) g0 rfl
      obtain ⟨y2, t2, rfl, q2_9, p2_9, g2⟩ := hp_gSmj (z := (0 + (1 * m + 0))) g1 rfl
      cases hp_gSn g2
      exact e0 l' h_9' y0 y1 y2 (by omega) (by omega) (by omega) p2_9 a1_9 a2 a3 (hp_gLmj (z := (0 + (1 * m + 0))) gL (List.mem_of_getElem? (i := 0) rfl) rfl (by omega)) (hp_gLa gL (List.mem_of_getElem? (i := 1) rfl) (by decide)) (hp_gLi (z := (0 + (1 * n + 0))) gL (List.mem_of_getElem? (i := 2) rfl) rfl (by omega)) (hp_gLi (z := (0 + (1 * i + 0))) gL (List.mem_of_getElem? (i := 3) rfl) rfl (by omega))
    cases hp
  · intro p_9 hp ys v h_9' hys a1_9 a2 a3 gZ gS
    cases hp
theorem rd9_k : hp_chk 140 64 4 [(0, 0, 99), (1, 1, 20), (2, 0, 19), (3, (-2147483648), 2147483647)] [] [(0, .inr (.inr (.inr (1, (0, [(0, 1)]))))), (1, .inr (.inr (.inl (some 17)))), (2, .inl (0, [(1, 1)])), (3, .inl (0, [(2, 1)]))] [.inl (0, [(3, 1)])] [] [] 2 [(49, ([], 4, [(0, 0, 99), (1, 1, 20), (2, 0, 19), (3, (-2147483648), 2147483647)], [], [(0, .inr (.inr (.inr (1, (0, [(0, 1)]))))), (1, .inr (.inr (.inl (some 17)))), (2, .inl (0, [(1, 1)])), (3, .inl (1, [(2, 1)]))], [], []))] [] = true := by decide +kernel
theorem rd9 {cst : am_K} {strs : List Nat} {Φ : am_Q → Prop} {D : Nat} {M : am_M} {h : am_H} {l : am_L} (c : hp_C cst strs D) (hM : m_P[140]? = some M) (hD : (2 : Int) ≤ (D : Int) + 1) (hy : ly_hy m_tt ly_TH h) (m n i u : Int) (x0 : Int32) (hx0 : x0.toInt = (u)) (b0 : 0 ≤ m) (t0 : m ≤ 99) (b1 : 1 ≤ n) (t1 : n ≤ 20) (b2 : 0 ≤ i) (t2 : i ≤ 19) (b3 : (-2147483648) ≤ u) (t3 : u ≤ 2147483647) (l0 : hp_mlj l 0 1 h.length (m)) (l1 : hp_a l 1 17) (l2 : hp_i l 2 (n)) (l3 : hp_i l 3 (i)) (e0 : ∀ (l' : am_L) (h_9' : am_H), ly_hy m_tt ly_TH h_9' → ly_fr cst [] h h_9' → h.length ≤ h_9'.length → hp_mlj l' 0 1 h_9'.length (m) → hp_a l' 1 17 → hp_i l' 2 (n) → hp_i l' 3 (i + 1) → hp_F cst strs Φ D M 49 l' [] h_9') : hp_F cst strs Φ D M 64 l [.int x0] h := by
  refine hp_arc c hM rd9_k hD [m, n, i, u] rfl hy (hp_Bc (z := m) rfl b0 t0 (hp_Bc (z := n) rfl b1 t1 (hp_Bc (z := i) rfl b2 t2 (hp_Bc (z := u) rfl b3 t3 hp_Bn)))) hp_Fn hp_Kn (hp_Lmj (by decide) (z := (0 + (1 * m + 0))) l0 rfl (by omega) (hp_La l1 (hp_Li (z := (0 + (1 * n + 0))) l2 rfl (by omega) (hp_Li (z := (0 + (1 * i + 0))) l3 rfl (by omega) hp_Ln)))) (hp_Si (z := (0 + (1 * u + 0))) rfl (by omega) trivial) ?_ ?_
  · intro p_9 hp ys l' st_9' h_9' hys a1_9 a2 a3 gZ gL gS
    rcases List.mem_cons.mp hp with rfl | hp
    · obtain rfl := hp_y0 hys
      cases hp_gSn gS
      exact e0 l' h_9' a1_9 a2 a3 (hp_gLmj (z := (0 + (1 * m + 0))) gL (List.mem_of_getElem? (i := 0) rfl) rfl (by omega)) (hp_gLa gL (List.mem_of_getElem? (i := 1) rfl) (by decide)) (hp_gLi (z := (0 + (1 * n + 0))) gL (List.mem_of_getElem? (i := 2) rfl) rfl (by omega)) (hp_gLi (z := (1 + (1 * i + 0))) gL (List.mem_of_getElem? (i := 3) rfl) rfl (by omega))
    cases hp
  · intro p_9 hp ys v_9 h_9' hys a1_9 a2 a3 gZ gS
    cases hp
theorem rdA_k : hp_chk 140 49 2 [(0, 0, 99), (1, 1, 20)] [] [(0, .inr (.inr (.inr (1, (0, [(0, 1)]))))), (1, .inr (.inr (.inl (some 17)))), (2, .inl (0, [(1, 1)])), (3, .inl (0, [(1, 1)]))] [] [] [] 2 [(73, ([], 2, [(0, 0, 99), (1, 1, 20)], [], [(0, .inr (.inr (.inr (1, (0, [(0, 1)]))))), (1, .inr (.inr (.inl (some 17)))), (2, .inl (0, [(1, 1)])), (3, .inl (0, [(1, 1)]))], [.inl (1, []), .inr (.inr (.inr (1, (0, [(0, 1)]))))], []))] [] = true := by decide +kernel
theorem rdA {cst : am_K} {strs : List Nat} {Φ : am_Q → Prop} {D : Nat} {M : am_M} {h : am_H} {l : am_L} (c : hp_C cst strs D) (hM : m_P[140]? = some M) (hD : (2 : Int) ≤ (D : Int) + 1) (hy : ly_hy m_tt ly_TH h) (m n : Int) (b0 : 0 ≤ m) (t0 : m ≤ 99) (b1 : 1 ≤ n) (t1 : n ≤ 20) (l0 : hp_mlj l 0 1 h.length (m)) (l1 : hp_a l 1 17) (l2 : hp_i l 2 (n)) (l3 : hp_i l 3 (n)) (e0 : ∀ (l' : am_L) (h_9' : am_H) (y0 : Int32) (y1 : Nat), y0.toInt = 1 → (y1 : Int) = (m) → 177 + 19 * (y1 + 1) ≤ h_9'.length → ly_hy m_tt ly_TH h_9' → ly_fr cst [] h h_9' → h.length ≤ h_9'.length → hp_mlj l' 0 1 h_9'.length (m) → hp_a l' 1 17 → hp_i l' 2 (n) → hp_i l' 3 (n) → hp_F cst strs Φ D M 73 l' [.int y0, .ref (16 + (177 + 19 * y1 + 1))] h_9') : hp_F cst strs Φ D M 49 l [] h := by
  refine hp_arc c hM rdA_k hD [m, n] rfl hy (hp_Bc (z := m) rfl b0 t0 (hp_Bc (z := n) rfl b1 t1 hp_Bn)) hp_Fn hp_Kn (hp_Lmj (by decide) (z := (0 + (1 * m + 0))) l0 rfl (by omega) (hp_La l1 (hp_Li (z := (0 + (1 * n + 0))) l2 rfl (by omega) (hp_Li (z := (0 + (1 * n + 0))) l3 rfl (by omega) hp_Ln)))) trivial ?_ ?_
  · intro p_9 hp ys l' st_9' h_9' hys a1_9 a2 a3 gZ gL gS
    rcases List.mem_cons.mp hp with rfl | hp
    · obtain rfl := hp_y0 hys
      obtain ⟨y0, t0, rfl, q0, g0⟩ := hp_gSi (z := (1 + 0)) gS rfl
      obtain ⟨y1, t1, rfl, q1_9, p1_9, g1⟩ := hp_gSmj (z := (0 + (1 * m + 0))) g0 rfl
      cases hp_gSn g1
      exact e0 l' h_9' y0 y1 (by omega) (by omega) p1_9 a1_9 a2 a3 (hp_gLmj (z := (0 + (1 * m + 0))) gL (List.mem_of_getElem? (i := 0) rfl) rfl (by omega)) (hp_gLa gL (List.mem_of_getElem? (i := 1) rfl) (by decide)) (hp_gLi (z := (0 + (1 * n + 0))) gL (List.mem_of_getElem? (i := 2) rfl) rfl (by omega)) (hp_gLi (z := (0 + (1 * n + 0))) gL (List.mem_of_getElem? (i := 3) rfl) rfl (by omega))
    cases hp
  · intro p_9 hp ys v_9 h_9' hys a1_9 a2 a3 gZ gS
    cases hp
theorem rdB_k : hp_chk 140 76 2 [(0, 0, 99), (1, 1, 20)] [] [(0, .inr (.inr (.inr (1, (0, [(0, 1)]))))), (1, .inr (.inr (.inl (some 17)))), (2, .inl (0, [(1, 1)])), (3, .inl (0, [(1, 1)]))] [] [] [] 2 [] [([], 2, [(0, 0, 99), (1, 1, 20)], [], [], [.inl (1, [])], [])] = true := by decide +kernel
theorem rdB {cst : am_K} {strs : List Nat} {Φ : am_Q → Prop} {D : Nat} {M : am_M} {h : am_H} {l : am_L} (c : hp_C cst strs D) (hM : m_P[140]? = some M) (hD : (2 : Int) ≤ (D : Int) + 1) (hy : ly_hy m_tt ly_TH h) (m n : Int) (b0 : 0 ≤ m) (t0 : m ≤ 99) (b1 : 1 ≤ n) (t1 : n ≤ 20) (l0 : hp_mlj l 0 1 h.length (m)) (l1 : hp_a l 1 17) (l2 : hp_i l 2 (n)) (l3 : hp_i l 3 (n)) (r0 : ∀ (h_9' : am_H) (y0 : Int32), y0.toInt = 1 → ly_hy m_tt ly_TH h_9' → ly_fr cst [] h h_9' → h.length ≤ h_9'.length → Φ (some (.int y0), h_9', 0, 0)) : hp_F cst strs Φ D M 76 l [] h := by
  refine hp_arc c hM rdB_k hD [m, n] rfl hy (hp_Bc (z := m) rfl b0 t0 (hp_Bc (z := n) rfl b1 t1 hp_Bn)) hp_Fn hp_Kn (hp_Lmj (by decide) (z := (0 + (1 * m + 0))) l0 rfl (by omega) (hp_La l1 (hp_Li (z := (0 + (1 * n + 0))) l2 rfl (by omega) (hp_Li (z := (0 + (1 * n + 0))) l3 rfl (by omega) hp_Ln)))) trivial ?_ ?_
  · intro p_9 hp ys l' st_9' h_9' hys a1_9 a2 a3 gZ gL gS
    cases hp
  · intro p_9 hp ys v_9 h_9' hys a1_9 a2 a3 gZ gS
    rcases List.mem_cons.mp hp with rfl | hp
    · obtain rfl := hp_y0 hys
      cases v_9 with
      | none => cases gS
      | some wz =>
        obtain ⟨y0, t0, s0_9, q0, -⟩ := hp_gSi (z := (1 + 0)) gS rfl
        cases s0_9
        exact r0 h_9' y0 (by omega) a1_9 a2 a3
    cases hp
theorem wq0_k : hq_chk [139] 138 7 2 [(0, (-2147483648), (-1)), (1, 0, 100)] [] [(0, .inr (.inr (.inl (some 16)))), (1, .inl (0, [(0, 1)]))] [] [(7170, (0, []), (0, [(1, 1)]))] [] 8 [] [([], 2, [(0, (-2147483648), (-1)), (1, 0, 100)], [], [], [.inl ((-2), [])], [])] = true := by decide +kernel
theorem wq0 {cst : am_K} {strs : List Nat} {Φ : am_Q → Prop} {D : Nat} {M : am_M} {h : am_H} {l : am_L} (c : hp_C cst strs D) (hM : m_P[138]? = some M) (hD : (8 : Int) ≤ (D : Int) + 1) (hy : ly_hy m_tt ly_TH h) (m s : Int) (b0 : (-2147483648) ≤ m) (t0 : m ≤ (-1)) (b1 : 0 ≤ s) (t1 : s ≤ 100) (k0 : ly_hv cst h 7170 0 = some (s)) (l0 : hp_a l 0 16) (l1 : hp_i l 1 (m)) (r0 : ∀ (h_9' : am_H) (y0 : Int32), y0.toInt = (-2) → ly_hy m_tt ly_TH h_9' → ly_fr cst [] h h_9' → h.length ≤ h_9'.length → Φ (some (.int y0), h_9', 0, 0)) : hp_F cst strs Φ D M 7 l [] h := by
  refine hq_arc c hM wq0_k hD [m, s] rfl hy (hp_Bc (z := m) rfl b0 t0 (hp_Bc (z := s) rfl b1 t1 hp_Bn)) hp_Fn (hp_Kc (zi := (0 + 0)) (zv := (0 + (1 * s + 0))) k0 rfl rfl (by omega) (by omega) hp_Kn) (hp_La l0 (hp_Li (z := (0 + (1 * m + 0))) l1 rfl (by omega) hp_Ln)) trivial ?_ ?_
  · intro p_9 hp ys l' st_9' h_9' hys a1_9 a2 a3 gZ gL gS
    cases hp
  · intro p_9 hp ys v_9 h_9' hys a1_9 a2 a3 gZ gS
    rcases List.mem_cons.mp hp with rfl | hp
    · obtain rfl := hp_y0 hys
      cases v_9 with
      | none => cases gS
      | some wz =>
        obtain ⟨y0, t0, s0_9, q0, -⟩ := hp_gSi (z := ((-2) + 0)) gS rfl
        cases s0_9
        exact r0 h_9' y0 (by omega) a1_9 a2 a3
    cases hp
theorem wq1_k : hq_chk [139] 138 7 2 [(0, 0, 2147483647), (1, 0, 100)] [(0, [(0, 1), (1, (-1))])] [(0, .inr (.inr (.inl (some 16)))), (1, .inl (0, [(0, 1)]))] [] [(7170, (0, []), (0, [(1, 1)]))] [] 8 [] [([], 2, [(0, 0, 2147483647), (1, 0, 100)], [], [], [.inl ((-2), [])], [])] = true := by decide +kernel
theorem wq1 {cst : am_K} {strs : List Nat} {Φ : am_Q → Prop} {D : Nat} {M : am_M} {h : am_H} {l : am_L} (c : hp_C cst strs D) (hM : m_P[138]? = some M) (hD : (8 : Int) ≤ (D : Int) + 1) (hy : ly_hy m_tt ly_TH h) (m s : Int) (b0 : 0 ≤ m) (t0 : m ≤ 2147483647) (b1 : 0 ≤ s) (t1 : s ≤ 100) (f0 : 0 ≤ (m - s)) (k0 : ly_hv cst h 7170 0 = some (s)) (l0 : hp_a l 0 16) (l1 : hp_i l 1 (m)) (r0 : ∀ (h_9' : am_H) (y0 : Int32), y0.toInt = (-2) → ly_hy m_tt ly_TH h_9' → ly_fr cst [] h h_9' → h.length ≤ h_9'.length → Φ (some (.int y0), h_9', 0, 0)) : hp_F cst strs Φ D M 7 l [] h := by
  refine hq_arc c hM wq1_k hD [m, s] rfl hy (hp_Bc (z := m) rfl b0 t0 (hp_Bc (z := s) rfl b1 t1 hp_Bn)) (hp_Fc (z := (0 + (1 * m + ((-1) * s + 0)))) rfl (by omega) hp_Fn) (hp_Kc (zi := (0 + 0)) (zv := (0 + (1 * s + 0))) k0 rfl rfl (by omega) (by omega) hp_Kn) (hp_La l0 (hp_Li (z := (0 + (1 * m + 0))) l1 rfl (by omega) hp_Ln)) trivial ?_ ?_
  · intro p_9 hp ys l' st_9' h_9' hys a1_9 a2 a3 gZ gL gS
    cases hp
  · intro p_9 hp ys v_9 h_9' hys a1_9 a2 a3 gZ gS
    rcases List.mem_cons.mp hp with rfl | hp
    · obtain rfl := hp_y0 hys
      cases v_9 with
      | none => cases gS
      | some wz =>
        obtain ⟨y0, t0, s0_9, q0, -⟩ := hp_gSi (z := ((-2) + 0)) gS rfl
        cases s0_9
        exact r0 h_9' y0 (by omega) a1_9 a2 a3
    cases hp
theorem wq20_k : hq_chk [139] 138 7 3 [(0, 0, 99), (1, 0, 100), (2, (-2147483648), (-2))] [((-1), [(0, (-1)), (1, 1)])] [(0, .inr (.inr (.inl (some 16)))), (1, .inl (0, [(0, 1)]))] [] [(7170, (0, []), (0, [(1, 1)])), (7424, (0, [(0, 1)]), (1, [])), (45313, (0, [(0, 1)]), (0, [(2, 1)]))] [] 8 [] [([], 3, [(0, 0, 99), (1, 0, 100), (2, (-2147483648), (-2))], [], [], [.inl ((-2), [])], [])] = true := by decide +kernel
theorem wq20 {cst : am_K} {strs : List Nat} {Φ : am_Q → Prop} {D : Nat} {M : am_M} {h : am_H} {l : am_L} (c : hp_C cst strs D) (hM : m_P[138]? = some M) (hD : (8 : Int) ≤ (D : Int) + 1) (hy : ly_hy m_tt ly_TH h) (m s q : Int) (b0 : 0 ≤ m) (t0 : m ≤ 99) (b1 : 0 ≤ s) (t1 : s ≤ 100) (b2 : (-2147483648) ≤ q) (t2 : q ≤ (-2)) (f0 : 0 ≤ (s - m - 1)) (k0 : ly_hv cst h 7170 0 = some (s)) (k1 : ly_hv cst h 7424 (m) = some 1) (k2 : ly_hv cst h 45313 (m) = some (q)) (l0 : hp_a l 0 16) (l1 : hp_i l 1 (m)) (r0 : ∀ (h_9' : am_H) (y0 : Int32), y0.toInt = (-2) → ly_hy m_tt ly_TH h_9' → ly_fr cst [] h h_9' → h.length ≤ h_9'.length → Φ (some (.int y0), h_9', 0, 0)) : hp_F cst strs Φ D M 7 l [] h := by
  refine hq_arc c hM wq20_k hD [m, s, q] rfl hy (hp_Bc (z := m) rfl b0 t0 (hp_Bc (z := s) rfl b1 t1 (hp_Bc (z := q) rfl b2 t2 hp_Bn))) (hp_Fc (z := ((-1) + ((-1) * m + (1 * s + 0)))) rfl (by omega) hp_Fn) (hp_Kc (zi := (0 + 0)) (zv := (0 + (1 * s + 0))) k0 rfl rfl (by omega) (by omega) (hp_Kc (zi := (0 + (1 * m + 0))) (zv := (1 + 0)) k1 rfl rfl (by omega) (by omega) (hp_Kc (zi := (0 + (1 * m + 0))) (zv := (0 + (1 * q + 0))) k2 rfl rfl (by omega) (by omega) hp_Kn))) (hp_La l0 (hp_Li (z := (0 + (1 * m + 0))) l1 rfl (by omega) hp_Ln)) trivial ?_ ?_
  · intro p_9 hp ys l' st_9' h_9' hys a1_9 a2 a3 gZ gL gS
    cases hp
  · intro p_9 hp ys v_9 h_9' hys a1_9 a2 a3 gZ gS
    rcases List.mem_cons.mp hp with rfl | hp
    · obtain rfl := hp_y0 hys
      cases v_9 with
      | none => cases gS
      | some wz =>
        obtain ⟨y0, t0, s0_9, q0, -⟩ := hp_gSi (z := ((-2) + 0)) gS rfl
        cases s0_9
        exact r0 h_9' y0 (by omega) a1_9 a2 a3
    cases hp
theorem wq21_k : hq_chk [139] 138 7 3 [(0, 0, 99), (1, 0, 100), (2, 0, 2147483647)] [((-1), [(0, (-1)), (1, 1)])] [(0, .inr (.inr (.inl (some 16)))), (1, .inl (0, [(0, 1)]))] [] [(7170, (0, []), (0, [(1, 1)])), (7424, (0, [(0, 1)]), (1, [])), (45313, (0, [(0, 1)]), (0, [(2, 1)]))] [] 8 [] [([], 3, [(0, 0, 99), (1, 0, 100), (2, 0, 2147483647)], [], [], [.inl ((-2), [])], [])] = true := by decide +kernel
theorem wq21 {cst : am_K} {strs : List Nat} {Φ : am_Q → Prop} {D : Nat} {M : am_M} {h : am_H} {l : am_L} (c : hp_C cst strs D) (hM : m_P[138]? = some M) (hD : (8 : Int) ≤ (D : Int) + 1) (hy : ly_hy m_tt ly_TH h) (m s q : Int) (b0 : 0 ≤ m) (t0 : m ≤ 99) (b1 : 0 ≤ s) (t1 : s ≤ 100) (b2 : 0 ≤ q) (t2 : q ≤ 2147483647) (f0 : 0 ≤ (s - m - 1)) (k0 : ly_hv cst h 7170 0 = some (s)) (k1 : ly_hv cst h 7424 (m) = some 1) (k2 : ly_hv cst h 45313 (m) = some (q)) (l0 : hp_a l 0 16) (l1 : hp_i l 1 (m)) (r0 : ∀ (h_9' : am_H) (y0 : Int32), y0.toInt = (-2) → ly_hy m_tt ly_TH h_9' → ly_fr cst [] h h_9' → h.length ≤ h_9'.length → Φ (some (.int y0), h_9', 0, 0)) : hp_F cst strs Φ D M 7 l [] h := by
  refine hq_arc c hM wq21_k hD [m, s, q] rfl hy (hp_Bc (z := m) rfl b0 t0 (hp_Bc (z := s) rfl b1 t1 (hp_Bc (z := q) rfl b2 t2 hp_Bn))) (hp_Fc (z := ((-1) + ((-1) * m + (1 * s + 0)))) rfl (by omega) hp_Fn) (hp_Kc (zi := (0 + 0)) (zv := (0 + (1 * s + 0))) k0 rfl rfl (by omega) (by omega) (hp_Kc (zi := (0 + (1 * m + 0))) (zv := (1 + 0)) k1 rfl rfl (by omega) (by omega) (hp_Kc (zi := (0 + (1 * m + 0))) (zv := (0 + (1 * q + 0))) k2 rfl rfl (by omega) (by omega) hp_Kn))) (hp_La l0 (hp_Li (z := (0 + (1 * m + 0))) l1 rfl (by omega) hp_Ln)) trivial ?_ ?_
  · intro p_9 hp ys l' st_9' h_9' hys a1_9 a2 a3 gZ gL gS
    cases hp
  · intro p_9 hp ys v_9 h_9' hys a1_9 a2 a3 gZ gS
    rcases List.mem_cons.mp hp with rfl | hp
    · obtain rfl := hp_y0 hys
      cases v_9 with
      | none => cases gS
      | some wz =>
        obtain ⟨y0, t0, s0_9, q0, -⟩ := hp_gSi (z := ((-2) + 0)) gS rfl
        cases s0_9
        exact r0 h_9' y0 (by omega) a1_9 a2 a3
    cases hp
theorem wq30_k : hq_chk [139] 138 7 3 [(0, 0, 99), (1, 0, 100), (2, (-2147483648), (-1))] [((-1), [(0, (-1)), (1, 1)])] [(0, .inr (.inr (.inl (some 16)))), (1, .inl (0, [(0, 1)]))] [] [(7170, (0, []), (0, [(1, 1)])), (7424, (0, [(0, 1)]), (1, [])), (45313, (0, [(0, 1)]), ((-1), [])), (45319, (0, [(0, 1)]), (0, [(2, 1)]))] [] 8 [] [([], 3, [(0, 0, 99), (1, 0, 100), (2, (-2147483648), (-1))], [], [], [.inl ((-4), [])], [])] = true := by decide +kernel
theorem wq30 {cst : am_K} {strs : List Nat} {Φ : am_Q → Prop} {D : Nat} {M : am_M} {h : am_H} {l : am_L} (c : hp_C cst strs D) (hM : m_P[138]? = some M) (hD : (8 : Int) ≤ (D : Int) + 1) (hy : ly_hy m_tt ly_TH h) (m s v : Int) (b0 : 0 ≤ m) (t0 : m ≤ 99) (b1 : 0 ≤ s) (t1 : s ≤ 100) (b2 : (-2147483648) ≤ v) (t2 : v ≤ (-1)) (f0 : 0 ≤ (s - m - 1)) (k0 : ly_hv cst h 7170 0 = some (s)) (k1 : ly_hv cst h 7424 (m) = some 1) (k2 : ly_hv cst h 45313 (m) = some (-1)) (k3 : ly_hv cst h 45319 (m) = some (v)) (l0 : hp_a l 0 16) (l1 : hp_i l 1 (m)) (r0 : ∀ (h_9' : am_H) (y0 : Int32), y0.toInt = (-4) → ly_hy m_tt ly_TH h_9' → ly_fr cst [] h h_9' → h.length ≤ h_9'.length → Φ (some (.int y0), h_9', 0, 0)) : hp_F cst strs Φ D M 7 l [] h := by
  refine hq_arc c hM wq30_k hD [m, s, v] rfl hy (hp_Bc (z := m) rfl b0 t0 (hp_Bc (z := s) rfl b1 t1 (hp_Bc (z := v) rfl b2 t2 hp_Bn))) (hp_Fc (z := ((-1) + ((-1) * m + (1 * s + 0)))) rfl (by omega) hp_Fn) (hp_Kc (zi := (0 + 0)) (zv := (0 + (1 * s + 0))) k0 rfl rfl (by omega) (by omega) (hp_Kc (zi := (0 + (1 * m + 0))) (zv := (1 + 0)) k1 rfl rfl (by omega) (by omega) (hp_Kc (zi := (0 + (1 * m + 0))) (zv := ((-1) + 0)) k2 rfl rfl (by omega) (by omega) (hp_Kc (zi := (0 + (1 * m + 0))) (zv := (0 + (1 * v + 0))) k3 rfl rfl (by omega) (by omega) hp_Kn)))) (hp_La l0 (hp_Li (z := (0 + (1 * m + 0))) l1 rfl (by omega) hp_Ln)) trivial ?_ ?_
  · intro p_9 hp ys l' st_9' h_9' hys a1_9 a2 a3 gZ gL gS
    cases hp
  · intro p_9 hp ys v h_9' hys a1_9 a2 a3 gZ gS
    rcases List.mem_cons.mp hp with rfl | hp
    · obtain rfl := hp_y0 hys
      cases v with
      | none => cases gS
      | some wz =>
        obtain ⟨y0, t0, s0_9, q0, -⟩ := hp_gSi (z := ((-4) + 0)) gS rfl
        cases s0_9
        exact r0 h_9' y0 (by omega) a1_9 a2 a3
    cases hp
theorem wq31_k : hq_chk [139] 138 7 3 [(0, 0, 99), (1, 0, 100), (2, 1, 2147483647)] [((-1), [(0, (-1)), (1, 1)])] [(0, .inr (.inr (.inl (some 16)))), (1, .inl (0, [(0, 1)]))] [] [(7170, (0, []), (0, [(1, 1)])), (7424, (0, [(0, 1)]), (1, [])), (45313, (0, [(0, 1)]), ((-1), [])), (45319, (0, [(0, 1)]), (0, [(2, 1)]))] [] 8 [] [([], 3, [(0, 0, 99), (1, 0, 100), (2, 1, 2147483647)], [], [], [.inl ((-4), [])], [])] = true := by decide +kernel
theorem wq31 {cst : am_K} {strs : List Nat} {Φ : am_Q → Prop} {D : Nat} {M : am_M} {h : am_H} {l : am_L} (c : hp_C cst strs D) (hM : m_P[138]? = some M) (hD : (8 : Int) ≤ (D : Int) + 1) (hy : ly_hy m_tt ly_TH h) (m s v : Int) (b0 : 0 ≤ m) (t0 : m ≤ 99) (b1 : 0 ≤ s) (t1 : s ≤ 100) (b2 : 1 ≤ v) (t2 : v ≤ 2147483647) (f0 : 0 ≤ (s - m - 1)) (k0 : ly_hv cst h 7170 0 = some (s)) (k1 : ly_hv cst h 7424 (m) = some 1) (k2 : ly_hv cst h 45313 (m) = some (-1)) (k3 : ly_hv cst h 45319 (m) = some (v)) (l0 : hp_a l 0 16) (l1 : hp_i l 1 (m)) (r0 : ∀ (h_9' : am_H) (y0 : Int32), y0.toInt = (-4) → ly_hy m_tt ly_TH h_9' → ly_fr cst [] h h_9' → h.length ≤ h_9'.length → Φ (some (.int y0), h_9', 0, 0)) : hp_F cst strs Φ D M 7 l [] h := by
  refine hq_arc c hM wq31_k hD [m, s, v] rfl hy (hp_Bc (z := m) rfl b0 t0 (hp_Bc (z := s) rfl b1 t1 (hp_Bc (z := v) rfl b2 t2 hp_Bn))) (hp_Fc (z := ((-1) + ((-1) * m + (1 * s + 0)))) rfl (by omega) hp_Fn) (hp_Kc (zi := (0 + 0)) (zv := (0 + (1 * s + 0))) k0 rfl rfl (by omega) (by omega) (hp_Kc (zi := (0 + (1 * m + 0))) (zv := (1 + 0)) k1 rfl rfl (by omega) (by omega) (hp_Kc (zi := (0 + (1 * m + 0))) (zv := ((-1) + 0)) k2 rfl rfl (by omega) (by omega) (hp_Kc (zi := (0 + (1 * m + 0))) (zv := (0 + (1 * v + 0))) k3 rfl rfl (by omega) (by omega) hp_Kn)))) (hp_La l0 (hp_Li (z := (0 + (1 * m + 0))) l1 rfl (by omega) hp_Ln)) trivial ?_ ?_
  · intro p_9 hp ys l' st_9' h_9' hys a1_9 a2 a3 gZ gL gS
    cases hp
  · intro p_9 hp ys v h_9' hys a1_9 a2 a3 gZ gS
    rcases List.mem_cons.mp hp with rfl | hp
    · obtain rfl := hp_y0 hys
      cases v with
      | none => cases gS
      | some wz =>
        obtain ⟨y0, t0, s0_9, q0, -⟩ := hp_gSi (z := ((-4) + 0)) gS rfl
        cases s0_9
        exact r0 h_9' y0 (by omega) a1_9 a2 a3
    cases hp
theorem wq5_k : hq_chk [139] 138 7 2 [(0, 0, 99), (1, 0, 100)] [((-1), [(0, (-1)), (1, 1)])] [(0, .inr (.inr (.inl (some 16)))), (1, .inl (0, [(0, 1)]))] [] [(7170, (0, []), (0, [(1, 1)])), (7424, (0, [(0, 1)]), (1, [])), (45313, (0, [(0, 1)]), ((-1), [])), (45319, (0, [(0, 1)]), (0, []))] [] 8 [(41, ([], 2, [(0, 0, 99), (1, 0, 100)], [], [(0, .inr (.inr (.inl (some 16)))), (1, .inl (0, [(0, 1)])), (2, .inr (.inr (.inr (0, (0, [(0, 1)])))))], [.inr (.inr (.inl (some 17))), .inr (.inr (.inr (1, (0, [(0, 1)]))))], []))] [] = true := by decide +kernel
theorem wq5 {cst : am_K} {strs : List Nat} {Φ : am_Q → Prop} {D : Nat} {M : am_M} {h : am_H} {l : am_L} (c : hp_C cst strs D) (hM : m_P[138]? = some M) (hD : (8 : Int) ≤ (D : Int) + 1) (hy : ly_hy m_tt ly_TH h) (m s : Int) (b0 : 0 ≤ m) (t0 : m ≤ 99) (b1 : 0 ≤ s) (t1 : s ≤ 100) (f0 : 0 ≤ (s - m - 1)) (k0 : ly_hv cst h 7170 0 = some (s)) (k1 : ly_hv cst h 7424 (m) = some 1) (k2 : ly_hv cst h 45313 (m) = some (-1)) (k3 : ly_hv cst h 45319 (m) = some 0) (l0 : hp_a l 0 16) (l1 : hp_i l 1 (m)) (e0 : ∀ (l' : am_L) (h_9' : am_H) (y1 : Nat), (y1 : Int) = (m) → 177 + 19 * (y1 + 1) ≤ h_9'.length → ly_hy m_tt ly_TH h_9' → ly_fr cst [] h h_9' → h.length ≤ h_9'.length → hp_a l' 0 16 → hp_i l' 1 (m) → hp_ml l' 2 h_9'.length (m) → hp_F cst strs Φ D M 41 l' [.ref 17, .ref (16 + (177 + 19 * y1 + 1))] h_9') : hp_F cst strs Φ D M 7 l [] h := by
  refine hq_arc c hM wq5_k hD [m, s] rfl hy (hp_Bc (z := m) rfl b0 t0 (hp_Bc (z := s) rfl b1 t1 hp_Bn)) (hp_Fc (z := ((-1) + ((-1) * m + (1 * s + 0)))) rfl (by omega) hp_Fn) (hp_Kc (zi := (0 + 0)) (zv := (0 + (1 * s + 0))) k0 rfl rfl (by omega) (by omega) (hp_Kc (zi := (0 + (1 * m + 0))) (zv := (1 + 0)) k1 rfl rfl (by omega) (by omega) (hp_Kc (zi := (0 + (1 * m + 0))) (zv := ((-1) + 0)) k2 rfl rfl (by omega) (by omega) (hp_Kc (zi := (0 + (1 * m + 0))) (zv := (0 + 0)) k3 rfl rfl (by omega) (by omega) hp_Kn)))) (hp_La l0 (hp_Li (z := (0 + (1 * m + 0))) l1 rfl (by omega) hp_Ln)) trivial ?_ ?_
  · intro p_9 hp ys l' st_9' h_9' hys a1_9 a2 a3 gZ gL gS
    rcases List.mem_cons.mp hp with rfl | hp
    · obtain rfl := hp_y0 hys
      obtain ⟨t0, rfl, g0⟩ := hp_gSa gS (by decide)
      obtain ⟨y1, t1, rfl, q1_9, p1_9, g1⟩ := hp_gSmj (z := (0 + (1 * m + 0))) g0 rfl
      cases hp_gSn g1
      exact e0 l' h_9' y1 (by omega) p1_9 a1_9 a2 a3 (hp_gLa gL (List.mem_of_getElem? (i := 0) rfl) (by decide)) (hp_gLi (z := (0 + (1 * m + 0))) gL (List.mem_of_getElem? (i := 1) rfl) rfl (by omega)) (hp_gLm (z := (0 + (1 * m + 0))) gL (List.mem_of_getElem? (i := 2) rfl) rfl (by omega))
    cases hp
  · intro p_9 hp ys v_9 h_9' hys a1_9 a2 a3 gZ gS
    cases hp
theorem wq6_k : hp_chk 138 44 1 [(0, 0, 99)] [] [(0, .inr (.inr (.inl (some 16)))), (1, .inl (0, [(0, 1)])), (2, .inr (.inr (.inr (0, (0, [(0, 1)])))))] [.inl (0, [])] [] [] 2 [] [([], 1, [(0, 0, 99)], [], [], [.inl ((-1), [])], [])] = true := by decide +kernel
theorem wq6 {cst : am_K} {strs : List Nat} {Φ : am_Q → Prop} {D : Nat} {M : am_M} {h : am_H} {l : am_L} (c : hp_C cst strs D) (hM : m_P[138]? = some M) (hD : (2 : Int) ≤ (D : Int) + 1) (hy : ly_hy m_tt ly_TH h) (m : Int) (x0 : Int32) (hx0 : x0.toInt = 0) (b0 : 0 ≤ m) (t0 : m ≤ 99) (l0 : hp_a l 0 16) (l1 : hp_i l 1 (m)) (l2 : hp_ml l 2 h.length (m)) (r0 : ∀ (h_9' : am_H) (y0 : Int32), y0.toInt = (-1) → ly_hy m_tt ly_TH h_9' → ly_fr cst [] h h_9' → h.length ≤ h_9'.length → Φ (some (.int y0), h_9', 0, 0)) : hp_F cst strs Φ D M 44 l [.int x0] h := by
  refine hp_arc c hM wq6_k hD [m] rfl hy (hp_Bc (z := m) rfl b0 t0 hp_Bn) hp_Fn hp_Kn (hp_La l0 (hp_Li (z := (0 + (1 * m + 0))) l1 rfl (by omega) (hp_Lm (z := (0 + (1 * m + 0))) l2 rfl (by omega) hp_Ln))) (hp_Si (z := (0 + 0)) rfl (by omega) trivial) ?_ ?_
  · intro p_9 hp ys l' st_9' h_9' hys a1_9 a2 a3 gZ gL gS
    cases hp
  · intro p_9 hp ys v_9 h_9' hys a1_9 a2 a3 gZ gS
    rcases List.mem_cons.mp hp with rfl | hp
    · obtain rfl := hp_y0 hys
      cases v_9 with
      | none => cases gS
      | some wz =>
        obtain ⟨y0, t0, s0_9, q0, -⟩ := hp_gSi (z := ((-1) + 0)) gS rfl
        cases s0_9
        exact r0 h_9' y0 (by omega) a1_9 a2 a3
    cases hp
theorem wq7_k : hp_chk 138 44 2 [(0, 0, 99), (1, 0, 28)] [] [(0, .inr (.inr (.inl (some 16)))), (1, .inl (0, [(0, 1)])), (2, .inr (.inr (.inr (0, (0, [(0, 1)])))))] [.inl (1, [])] [(45570, (0, [(0, 1)]), (0, [(1, 1)]))] [] 2 [] [([], 2, [(0, 0, 99), (1, 0, 28)], [], [], [.inl (0, [(1, 1)])], [])] = true := by decide +kernel
theorem wq7 {cst : am_K} {strs : List Nat} {Φ : am_Q → Prop} {D : Nat} {M : am_M} {h : am_H} {l : am_L} (c : hp_C cst strs D) (hM : m_P[138]? = some M) (hD : (2 : Int) ≤ (D : Int) + 1) (hy : ly_hy m_tt ly_TH h) (m z : Int) (x0 : Int32) (hx0 : x0.toInt = 1) (b0 : 0 ≤ m) (t0 : m ≤ 99) (b1 : 0 ≤ z) (t1 : z ≤ 28) (k0 : ly_hv cst h 45570 (m) = some (z)) (l0 : hp_a l 0 16) (l1 : hp_i l 1 (m)) (l2 : hp_ml l 2 h.length (m)) (r0 : ∀ (h_9' : am_H) (y0 : Int32), y0.toInt = (z) → ly_hy m_tt ly_TH h_9' → ly_fr cst [] h h_9' → h.length ≤ h_9'.length → Φ (some (.int y0), h_9', 0, 0)) : hp_F cst strs Φ D M 44 l [.int x0] h := by
  refine hp_arc c hM wq7_k hD [m, z] rfl hy (hp_Bc (z := m) rfl b0 t0 (hp_Bc (z := z) rfl b1 t1 hp_Bn)) hp_Fn (hp_Kc (zi := (0 + (1 * m + 0))) (zv := (0 + (1 * z + 0))) k0 rfl rfl (by omega) (by omega) hp_Kn) (hp_La l0 (hp_Li (z := (0 + (1 * m + 0))) l1 rfl (by omega) (hp_Lm (z := (0 + (1 * m + 0))) l2 rfl (by omega) hp_Ln))) (hp_Si (z := (1 + 0)) rfl (by omega) trivial) ?_ ?_
  · intro p_9 hp ys l' st_9' h_9' hys a1_9 a2 a3 gZ gL gS
    cases hp
  · intro p_9 hp ys v_9 h_9' hys a1_9 a2 a3 gZ gS
    rcases List.mem_cons.mp hp with rfl | hp
    · obtain rfl := hp_y0 hys
      cases v_9 with
      | none => cases gS
      | some wz =>
        obtain ⟨y0, t0, s0_9, q0, -⟩ := hp_gSi (z := (0 + (1 * z + 0))) gS rfl
        cases s0_9
        exact r0 h_9' y0 (by omega) a1_9 a2 a3
    cases hp
theorem wqa_k : hp_chk 138 0 1 [(0, (-2147483648), 2147483647)] [] [(0, .inr (.inr (.inl (some 16)))), (1, .inl (0, [(0, 1)]))] [] [] [] 2 [(4, ([], 1, [(0, (-2147483648), 2147483647)], [], [(0, .inr (.inr (.inl (some 16)))), (1, .inl (0, [(0, 1)]))], [.inr (.inr (.inl (some 17)))], []))] [] = true := by decide +kernel
theorem wqa {cst : am_K} {strs : List Nat} {Φ : am_Q → Prop} {D : Nat} {M : am_M} {h : am_H} {l : am_L} (c : hp_C cst strs D) (hM : m_P[138]? = some M) (hD : (2 : Int) ≤ (D : Int) + 1) (hy : ly_hy m_tt ly_TH h) (m : Int) (b0 : (-2147483648) ≤ m) (t0 : m ≤ 2147483647) (l0 : hp_a l 0 16) (l1 : hp_i l 1 (m)) (e0 : ∀ (l' : am_L) (h_9' : am_H), ly_hy m_tt ly_TH h_9' → ly_fr cst [] h h_9' → h.length ≤ h_9'.length → hp_a l' 0 16 → hp_i l' 1 (m) → hp_F cst strs Φ D M 4 l' [.ref 17] h_9') : hp_F cst strs Φ D M 0 l [] h := by
  refine hp_arc c hM wqa_k hD [m] rfl hy (hp_Bc (z := m) rfl b0 t0 hp_Bn) hp_Fn hp_Kn (hp_La l0 (hp_Li (z := (0 + (1 * m + 0))) l1 rfl (by omega) hp_Ln)) trivial ?_ ?_
  · intro p_9 hp ys l' st_9' h_9' hys a1_9 a2 a3 gZ gL gS
    rcases List.mem_cons.mp hp with rfl | hp
    · obtain rfl := hp_y0 hys
      obtain ⟨t0, rfl, g0⟩ := hp_gSa gS (by decide)
      cases hp_gSn g0
      exact e0 l' h_9' a1_9 a2 a3 (hp_gLa gL (List.mem_of_getElem? (i := 0) rfl) (by decide)) (hp_gLi (z := (0 + (1 * m + 0))) gL (List.mem_of_getElem? (i := 1) rfl) rfl (by omega))
    cases hp
  · intro p_9 hp ys v_9 h_9' hys a1_9 a2 a3 gZ gS
    cases hp
/-- how many WORDS begin the text, up to 21 -/
def wcn (kd : Int → Int) (t : Nat) : Nat → Nat → Nat
  | 0, n => n
  | F + 1, n => if fk kd t n = 1 then wcn kd t F (n + 1) else n
/-- the row of WORDS of a text -/
def wds (kd vl : Int → Int) (t : Nat) : Option (List Int) := if 1 ≤ wcn kd t 21 0 ∧ wcn kd t 21 0 ≤ 20 ∧ fk kd t (wcn kd t 21 0) = 0 then some ((List.range (wcn kd t 21 0)).map fun (i : Nat) => vl (i : Int)) else none
theorem wcn_w (kd : Int → Int) (t : Nat) : ∀ (F n i : Nat), n ≤ i → i < wcn kd t F n → fk kd t i = 1
  | 0, n, i, h1, h2 => by
    have h2 : i < n := h2
    omega
  | F + 1, n, i, h1, h2 => by
    have h2 : i < (if fk kd t n = 1 then wcn kd t F (n + 1) else n) := h2
    by_cases z : fk kd t n = 1
    · rw [if_pos z] at h2
      by_cases y : i = n
      · rw [y]
        exact z
      · exact wcn_w kd t F (n + 1) i (by omega) h2
    · rw [if_neg z] at h2
      omega
theorem fk_w {kd : Int → Int} {t i : Nat} (h : fk kd t i = 1) : i < t := by
  unfold fk at h
  split at h
  · assumption
  · cases h
/-- readWords: the WORDS are laid -/
theorem rd_lp {cst : am_K} {strs : List Nat} {D : Nat} {M : am_M} {h0 : am_H} (cc : ∀ d_9, hp_C cst strs d_9) (hM : m_P[140]? = some M) (hD : 3 ≤ D) (hy0 : ly_hy m_tt ly_TH h0) {m : Nat} (m1 : (m : Int) ≤ 99) {kd vl : Int → Int} {t : Nat} (t12 : (t : Int) ≤ 1200) (kt : ly_hv cst h0 261 0 = some (t : Int)) (rows : ∀ j_9 : Nat, j_9 < t → ly_hv cst h0 768 (j_9 : Int) = some (kd (j_9 : Int)) ∧ ly_hv cst h0 1280 (j_9 : Int) = some (vl (j_9 : Int))) {n : Nat} (n0 : 1 ≤ n) (n20 : n ≤ 20) (nt : n ≤ t) (es : wds kd vl t = some ((List.range n).map fun (i_9 : Nat) => vl (i_9 : Int))) :
    ∀ (Q_9 : Nat) (h_9 : am_H) (l : am_L) (i_9 : Nat) (us : List Int), i_9 + Q_9 = n → us.length = i_9 → ly_hy m_tt ly_TH h_9 → 177 + 19 * (m + 1) ≤ h_9.length → mfr cst 45568 (m : Int) [] h0 h_9 → ly_hv cst h_9 45570 (m : Int) = some (i_9 : Int) → fn_N cst h_9 45824 (32 * (m : Int)) ((List.range i_9).map fun (i_9 : Nat) => vl (i_9 : Int)) → fn_N cst h_9 46080 (32 * (m : Int)) us → hp_mlj l 0 1 h_9.length (m : Int) → hp_a l 1 17 → hp_i l 2 (n : Int) → hp_i l 3 (i_9 : Int) → hp_F cst strs (fun r_9 : am_Q => ∃ w_9 : Int32, r_9.1 = some (.int w_9) ∧ r_9.2.2.1 = 0 ∧ r_9.2.2.2 = 0 ∧ ly_hy m_tt ly_TH r_9.2.1 ∧ ((wds kd vl t = none ∧ w_9.toInt = 0 ∧ ly_fr cst [] h0 r_9.2.1) ∨ ∃ ws_9, wds kd vl t = some ws_9 ∧ w_9.toInt = 1 ∧ mfr cst 45568 (m : Int) [] h0 r_9.2.1 ∧ wR cst r_9.2.1 (m : Int) ws_9 ∧ ly_hv cst r_9.2.1 45571 (m : Int) = some 1)) D M 49 l [] h_9 := by
  have c_9 : hp_C cst strs D := cc _
  intro Q_9
  induction Q_9 with
  | zero =>
    intro h_9 l i_9 us e_9 eu hy hm_9 fr_9 kz A_9 A_9' l0 l1 l2 l3
    have ei : i_9 = n := by omega
    subst ei
    refine rdA c_9 hM (by omega) hy (m : Int) (i_9 : Int) (by omega) m1 (by omega) (by omega) l0 l1 l2 l3 (fun l4 h4 z0 z1 e0_9 e1_9 el u1_9 u2_9 u3 g0 g1 g2 g3_9 => ?_)
    have ym : z1 = m := by omega
    rw [ym] at el
    rw [ym]
    have ez : z0 = 1 := Int32.toInt_inj.mp (show z0.toInt = (1 : Int32).toInt from e0_9)
    rw [ez]
    refine hp_mpf (ci := 6) (kf := 3) (lo := 0) (hi := 1) hM (by decide +kernel) u1_9 rfl rfl (by decide) rfl rfl el (by decide) (by decide) (fun h5 x1_9 x2_9 x3 => ?_)
    have x3 : hp_put cst 45571 (m : Int) (1 : Int32).toInt h4 h5 := x3
    refine rdB c_9 hM (by omega) x1_9 (m : Int) (i_9 : Int) (by omega) m1 (by omega) (by omega) (by rw [x2_9]; exact g0) g1 g2 g3_9 (fun h6 w_9 hw y1 y2 y3 => ⟨w_9, rfl, rfl, rfl, y1, Or.inr ⟨_, es, hw, mfr_tr fr_9 (mfr_tr (mfr_L u2_9) (mfr_tr (mfr_p3 (B := 45568) x3) (mfr_L y2))), ⟨?_, ?_, ?_⟩, y2 _ _ _ rfl x3.1⟩⟩)
    · rw [List.length_map, List.length_range]
      omega
    · rw [List.length_map, List.length_range]
      refine y2 _ _ _ rfl ?_
      rw [x3.2 _ _ (Or.inl (by decide))]
      exact u2_9 _ _ _ rfl kz
    · intro k_9 hk
      have hk' : k_9 < i_9 := by
        rw [List.length_map, List.length_range] at hk
        exact hk
      have a_9 := A_9 k_9 hk
      have b_9 : ly_hv cst h6 45824 (32 * (m : Int) + (k_9 : Int)) = some (((List.range i_9).map fun (i_9 : Nat) => vl (i_9 : Int))[k_9]) := by
        refine y2 _ _ _ rfl ?_
        rw [x3.2 _ _ (Or.inl (by decide))]
        exact u2_9 _ _ _ rfl a_9
      refine ⟨b_9, ?_⟩
      have kv := (rows k_9 (by omega)).2
      obtain ⟨v_9, kv', v0_9, v1_9⟩ := hp_rowj (cst := cst) (i := (k_9 : Int)) hy0 (show ly_ths ly_TH 5 = some (.inl (.long, 1200, 0, 0)) from rfl) (by omega) (by omega)
      have kv' : ly_hv cst h0 1280 (k_9 : Int) = some v_9 := kv'
      have ev_9 := Option.some.inj (kv.symm.trans kv')
      have v0_9 : -9223372036854775808 ≤ v_9 := v0_9
      have v1_9 : v_9 ≤ 9223372036854775807 := v1_9
      rw [List.getElem_map, List.getElem_range]
      omega
  | succ Q_9 ih_9 =>
    intro h_9 l i_9 us e_9 eu hy hm_9 fr_9 kz A_9 A_9' l0 l1 l2 l3
    have kv := fr_9 _ _ _ rfl (fun z_9 => by omega) (fun z_9 => by omega) (rows i_9 (by omega)).2
    have kt' := fr_9 _ _ _ rfl (fun z_9 => by omega) (fun z_9 => by omega) kt
    obtain ⟨v_9, kv', v0_9, v1_9⟩ := hp_rowj (cst := cst) (i := (i_9 : Int)) hy (show ly_ths ly_TH 5 = some (.inl (.long, 1200, 0, 0)) from rfl) (by omega) (by omega)
    have kv' : ly_hv cst h_9 1280 (i_9 : Int) = some v_9 := kv'
    have ev_9 := Option.some.inj (kv.symm.trans kv')
    have v0_9 : -9223372036854775808 ≤ v_9 := v0_9
    have v1_9 : v_9 ≤ 9223372036854775807 := v1_9
    refine rd8 c_9 hM (by omega) hy (m : Int) (n : Int) (i_9 : Int) (t : Int) (vl (i_9 : Int)) (by omega) m1 (by omega) (by omega) (by omega) (by omega) (by omega) t12 (by omega) (by omega) (by omega) (by omega) kt' kv l0 l1 l2 l3 (fun l4 h4 z0 z1 z2 e0_9 e1_9 e2_9 el u1_9 u2_9 u3 g0 g1 g2 g3_9 => ?_)
    have ym : z2 = m := by omega
    rw [ym] at el
    rw [ym]
    have li : ((List.range i_9).map fun (i_9 : Nat) => vl (i_9 : Int)).length = i_9 := by rw [List.length_map, List.length_range]
    obtain ⟨r_9, hrun, a_9, r1_9, r2, r3, rhy, rfr, rk, rN_9, rV, rT⟩ := ra1_run (D := D - 1) cc (by omega) u1_9 m1 el (ns := (List.range i_9).map fun (i_9 : Nat) => vl (i_9 : Int)) (vs := us) (by omega) (by omega) (by rw [li]; exact u2_9 _ _ _ rfl kz) (fn_mv A_9 u2_9 rfl) (fn_mv A_9' u2_9 rfl) (xv := z1) (xw := z0) e1_9 e0_9 (by omega) (by omega)
    rw [show D - 1 + 1 = D by omega] at hrun
    refine hp_callm (mi := 140) (pc := 61) (tg := 122) (na := 3) (m := m) (j := 1) (ci := 6) (st0 := [.int z0, .long z1, .ref (16 + (177 + 19 * m + 1))]) (st := []) (av := [.long z1, .int z0]) hM (by decide +kernel) u1_9 rfl el rfl rfl (by decide) hrun r2 r3 ?_
    rw [r1_9]
    have le4 := mfr_len rfr rfl (by decide)
    refine rd9 c_9 hM (by omega) rhy (m : Int) (n : Int) (i_9 : Int) a_9.toInt a_9 rfl (by omega) m1 (by omega) (by omega) (by omega) (by omega) a_9.le_toInt a_9.toInt_le (hp_mljm g0 le4) g1 g2 g3_9 (fun l6 h6 v1_9' v2' v3' o0_9 o1 o2 o3_9 => ?_)
    have er : (List.range (i_9 + 1)).map (fun (i_9 : Nat) => vl (i_9 : Int)) = ((List.range i_9).map fun (i_9 : Nat) => vl (i_9 : Int)) ++ [vl (i_9 : Int)] := by
      rw [List.range_succ, List.map_append]
      rfl
    refine ih_9 h6 l6 (i_9 + 1) (us ++ [0]) (by omega) (by rw [List.length_append, List.length_singleton, eu]) v1_9' (by omega) (mfr_tr fr_9 (mfr_tr (mfr_L u2_9) (mfr_tr rfr (mfr_L v2')))) ?_ ?_ (fn_mv rV v2' rfl) o0_9 o1 o2 (by rw [show (((i_9 + 1 : Nat)) : Int) = (i_9 : Int) + 1 by omega]; exact o3_9)
    · have z_9 := v2' _ _ _ rfl rk
      rw [List.length_append, List.length_singleton, li] at z_9
      exact z_9
    · rw [er]
      exact fn_mv rN_9 v2' rfl
/-- readWords -/
theorem rd_run {cst : am_K} {strs : List Nat} {D : Nat} {h0 : am_H} (cc : ∀ d_9, hp_C cst strs d_9) (hD : 3 ≤ D) (hy0 : ly_hy m_tt ly_TH h0) {m : Nat} (m1 : (m : Int) ≤ 99) (hm : 177 + 19 * (m + 1) ≤ h0.length) {kd vl : Int → Int} {t : Nat} (t12 : (t : Int) ≤ 1200) (kt : ly_hv cst h0 261 0 = some (t : Int)) (rows : ∀ j_9 : Nat, j_9 < t → ly_hv cst h0 768 (j_9 : Int) = some (kd (j_9 : Int)) ∧ ly_hv cst h0 1280 (j_9 : Int) = some (vl (j_9 : Int))) (kb : ∀ j_9 : Nat, j_9 < t → 1 ≤ kd (j_9 : Int) ∧ kd (j_9 : Int) ≤ 61) :
    ∃ r_9, am_Run cst m_cl m_tt m_P strs sx_bi (D + 1) 140 [.ref (16 + (177 + 19 * m + 1)), .ref 17] h0 r_9 ∧ (fun r_9 : am_Q => ∃ w_9 : Int32, r_9.1 = some (.int w_9) ∧ r_9.2.2.1 = 0 ∧ r_9.2.2.2 = 0 ∧ ly_hy m_tt ly_TH r_9.2.1 ∧ ((wds kd vl t = none ∧ w_9.toInt = 0 ∧ ly_fr cst [] h0 r_9.2.1) ∨ ∃ ws_9, wds kd vl t = some ws_9 ∧ w_9.toInt = 1 ∧ mfr cst 45568 (m : Int) [] h0 r_9.2.1 ∧ wR cst r_9.2.1 (m : Int) ws_9 ∧ ly_hv cst r_9.2.1 45571 (m : Int) = some 1)) r_9 := by
  obtain ⟨M_9, hM_9, hl⟩ := hp_M (mi := 140) (k := 2) (by decide +kernel)
  have c_9 : hp_C cst strs D := cc _
  -- the count
  have lp : ∀ (F_9 : Nat) (h_9 : am_H) (l : am_L) (n_9 : Nat), n_9 + F_9 = 21 → wcn kd t F_9 n_9 = wcn kd t 21 0 → (∀ i_9, i_9 < n_9 → fk kd t i_9 = 1) → ly_hy m_tt ly_TH h_9 → ly_fr cst [] h0 h_9 → hp_mlj l 0 1 h_9.length (m : Int) → hp_a l 1 17 → hp_i l 2 (n_9 : Int) → hp_F cst strs (fun r_9 : am_Q => ∃ w_9 : Int32, r_9.1 = some (.int w_9) ∧ r_9.2.2.1 = 0 ∧ r_9.2.2.2 = 0 ∧ ly_hy m_tt ly_TH r_9.2.1 ∧ ((wds kd vl t = none ∧ w_9.toInt = 0 ∧ ly_fr cst [] h0 r_9.2.1) ∨ ∃ ws_9, wds kd vl t = some ws_9 ∧ w_9.toInt = 1 ∧ mfr cst 45568 (m : Int) [] h0 r_9.2.1 ∧ wR cst r_9.2.1 (m : Int) ws_9 ∧ ly_hv cst r_9.2.1 45571 (m : Int) = some 1)) D M_9 2 l [] h_9 := by
    intro F_9
    induction F_9 with
    | zero =>
      intro h_9 l n_9 e_9 ec pf hy fr_9 l0 l1 l2
      have en : n_9 = 21 := by omega
      subst en
      have ec : 21 = wcn kd t 21 0 := ec
      exact rd2 c_9 hM_9 (by omega) hy (m : Int) (by omega) m1 l0 l1 l2 (fun h2 w_9 hw u1_9 u2_9 u3 => ⟨w_9, rfl, rfl, rfl, u1_9, Or.inl ⟨if_neg (by omega), hw, ly_fr_tr fr_9 u2_9⟩⟩)
    | succ F_9 ih_9 =>
      intro h_9 l n_9 e_9 ec pf hy fr_9 l0 l1 l2
      have kt' := fr_9 _ _ _ rfl kt
      have ec : (if fk kd t n_9 = 1 then wcn kd t F_9 (n_9 + 1) else n_9) = wcn kd t 21 0 := ec
      by_cases z_9 : n_9 < t
      · have kk := fr_9 _ _ _ rfl (rows n_9 z_9).1
        have b_9 := kb n_9 z_9
        by_cases y_9 : kd (n_9 : Int) = 1
        · rw [if_pos (by rw [fk_lt z_9]; exact y_9)] at ec
          rw [y_9] at kk
          exact rd1 c_9 hM_9 (by omega) hy (m : Int) (n_9 : Int) (t : Int) (by omega) m1 (by omega) (by omega) (by omega) t12 (by omega) kt' kk l0 l1 l2 (fun l4 h4 u1_9 u2_9 u3 g0 g1 g2 => ih_9 h4 l4 (n_9 + 1) (by omega) ec (fun i_9 hi_9 => if q_9 : i_9 = n_9 then by rw [q_9, fk_lt z_9]; exact y_9 else pf i_9 (by omega)) u1_9 (ly_fr_tr fr_9 u2_9) g0 g1 (by rw [show (((n_9 + 1 : Nat)) : Int) = (n_9 : Int) + 1 by omega]; exact g2))
        · have nz : ¬ fk kd t n_9 = 1 := by rw [fk_lt z_9]; exact y_9
          rw [if_neg nz] at ec
          exact rd5 c_9 hM_9 (by omega) hy (m : Int) (n_9 : Int) (t : Int) (kd (n_9 : Int)) (by omega) m1 (by omega) (by omega) (by omega) t12 (by omega) (by omega) (by omega) kt' kk l0 l1 l2 (fun h2 w_9 hw u1_9 u2_9 u3 => ⟨w_9, rfl, rfl, rfl, u1_9, Or.inl ⟨if_neg (fun q_9 => by
            have q2_9 := q_9.2.2
            rw [← ec, fk_lt z_9] at q2_9
            omega), hw, ly_fr_tr fr_9 u2_9⟩⟩)
      · have f0_9 : fk kd t n_9 = 0 := fk_ge z_9
        rw [if_neg (by rw [f0_9]; decide)] at ec
        have tn : n_9 = t := by
          by_cases y_9 : n_9 = t
          · exact y_9
          · have := fk_w (pf t (by omega))
            omega
        subst tn
        by_cases y_9 : n_9 = 0
        · subst y_9
          exact rd4 c_9 hM_9 (by omega) hy (m : Int) (by omega) m1 kt' l0 l1 l2 (fun h2 w_9 hw u1_9 u2_9 u3 => ⟨w_9, rfl, rfl, rfl, u1_9, Or.inl ⟨if_neg (by omega), hw, ly_fr_tr fr_9 u2_9⟩⟩)
        have es : wds kd vl n_9 = some ((List.range n_9).map fun (i_9 : Nat) => vl (i_9 : Int)) := by
          unfold wds
          rw [← ec, if_pos ⟨by omega, by omega, f0_9⟩]
        refine rd3 c_9 hM_9 (by omega) hy (m : Int) (n_9 : Int) (by omega) m1 (by omega) (by omega) kt' l0 l1 l2 (fun l4 h4 u1_9 u2_9 u3 g0 g1 g2 => ?_)
        refine rd6 c_9 hM_9 (by omega) u1_9 (m : Int) (n_9 : Int) (by omega) m1 (by omega) (by omega) g0 g1 g2 (fun l5 h5 z0 e0_9 el v1_9 v2 v3 o0_9 o1 o2 => ?_)
        have ym : z0 = m := by omega
        rw [ym] at el
        rw [ym]
        obtain ⟨r_9, hrun, r1_9, r2, r3, rhy, rfr, rk, rT⟩ := rc1_run (D := D - 1) cc (by omega) v1_9 m1 el
        rw [show D - 1 + 1 = D by omega] at hrun
        refine hp_callm (mi := 140) (pc := 44) (tg := 60) (na := 1) (m := m) (j := 1) (ci := 6) (st0 := [.ref (16 + (177 + 19 * m + 1))]) (st := []) (av := []) hM_9 (by decide +kernel) v1_9 rfl el rfl rfl (by decide) hrun r2 r3 ?_
        rw [r1_9]
        have le4 := mfr_len rfr rfl (by decide)
        refine rd7 c_9 hM_9 (by omega) rhy (m : Int) (n_9 : Int) (by omega) m1 (by omega) (by omega) (hp_mljm o0_9 le4) o1 o2 (fun l6 h6 w1_9 w2_9 w3_9 p0_9 p1_9 p2_9 p3_9 => ?_)
        have F4 : ly_fr cst [] h0 h5 := ly_fr_tr fr_9 (ly_fr_tr u2_9 v2)
        exact rd_lp cc hM_9 hD hy0 m1 t12 kt rows (by omega) (by omega) (Nat.le_refl _) es n_9 h6 l6 0 [] (by omega) rfl w1_9 (by omega) (mfr_tr (mfr_L F4) (mfr_tr rfr (mfr_L w2_9))) (w2_9 _ _ _ rfl rk) (fun k_9 hk => absurd hk (Nat.not_lt_zero _)) (fun k_9 hk => absurd hk (Nat.not_lt_zero _)) p0_9 p1_9 p2_9 p3_9
  have go_9 : hp_F cst strs (fun r_9 : am_Q => ∃ w_9 : Int32, r_9.1 = some (.int w_9) ∧ r_9.2.2.1 = 0 ∧ r_9.2.2.2 = 0 ∧ ly_hy m_tt ly_TH r_9.2.1 ∧ ((wds kd vl t = none ∧ w_9.toInt = 0 ∧ ly_fr cst [] h0 r_9.2.1) ∨ ∃ ws_9, wds kd vl t = some ws_9 ∧ w_9.toInt = 1 ∧ mfr cst 45568 (m : Int) [] h0 r_9.2.1 ∧ wR cst r_9.2.1 (m : Int) ws_9 ∧ ly_hv cst r_9.2.1 45571 (m : Int) = some 1)) D M_9 0 (lv_args 0 [.ref (16 + (177 + 19 * m + 1)), .ref 17]) [] h0 := rd0 c_9 hM_9 (by omega) hy0 (m : Int) (by omega) m1 ⟨m, rfl, rfl, hm⟩ rfl (fun l1 h1 u1_9 u2_9 u3 g0 g1 g2 => lp 21 h1 l1 0 rfl rfl (fun i_9 hi_9 => absurd hi_9 (Nat.not_lt_zero _)) u1_9 u2_9 g0 g1 g2)
  obtain ⟨n_9', r_9, hgo, w_9, r1_9, r2, r3, r4⟩ := go_9
  simp only [Nat.zero_add] at r2 r3
  exact ⟨r_9, Or.inr ⟨M_9, n_9', hM_9, hl, hgo⟩, w_9, r1_9, r2, r3, r4⟩
/-- what words answers and what it leaves -/
def wdP (res : Option (List Int)) (s m : Int) (su st : Option Int) (cr a : Int) (keep : Prop) (laid : List Int → Prop) : Prop := (¬ (0 ≤ m ∧ m < s ∧ su = some cr) → a = -2 ∧ keep) ∧ ((0 ≤ m ∧ m < s ∧ su = some cr) → (st ≠ some 0 → a = -4 ∧ keep) ∧ (st = some 0 → (res = none → a = -1 ∧ keep) ∧ ∀ ws, res = some ws → a = (ws.length : Int) ∧ laid ws))
abbrev wq_mods : List Nat := [257, 261, 262, 768, 1024, 1280]
/-- words of the class -/
theorem wq_run {cst : am_K} {strs : List Nat} {D : Nat} {h : am_H} (cc : ∀ d_9, hp_C cst strs d_9) (hD : 8 ≤ D) (hy : ly_hy m_tt ly_TH h) {xm : Int32} {N : Nat} {s : Int} (n1 : (N : Int) ≤ 1200) (kn : ly_hv cst h 257 0 = some (N : Int)) (s0 : 0 ≤ s) (s1 : s ≤ 100) (ks : ly_hv cst h 7170 0 = some s) (hl9 : 177 + 19 * s ≤ (h.length : Int)) (ko : ∀ j_9, 0 ≤ j_9 → j_9 < s → ly_hv cst h 7424 j_9 = some 1) (kc : ∀ j_9, 0 ≤ j_9 → j_9 < s → ∃ su st, ly_hv cst h 45313 j_9 = some su ∧ ly_hv cst h 45319 j_9 = some st ∧ -2147483648 ≤ su ∧ su ≤ 2147483647 ∧ -2147483648 ≤ st ∧ st ≤ 2147483647) :
    ∃ r_9, am_Run cst m_cl m_tt m_P strs sx_bi (D + 2) 138 [.ref 16, .int xm] h r_9 ∧ (fun r_9 : am_Q => ∃ w_9 : Int32, r_9.1 = some (.int w_9) ∧ r_9.2.2.1 = 0 ∧ r_9.2.2.2 = 0 ∧ ly_hy m_tt ly_TH r_9.2.1 ∧ mfr cst 45568 xm.toInt wq_mods h r_9.2.1 ∧ (ly_hv cst r_9.2.1 257 0 = some 0 ∧ ∃ (t_9 : Nat) (en : Nat → Int) (kd pl vl : Int → Int), tkT (gt_g cst h 512) (N : Int) t_9 kd pl vl en ∧ wdP (wds kd vl t_9) s xm.toInt (ly_hv cst h 45313 xm.toInt) (ly_hv cst h 45319 xm.toInt) (-1) w_9.toInt (ly_fr cst wq_mods h r_9.2.1) (fun ws_9 => wR cst r_9.2.1 xm.toInt ws_9 ∧ ly_hv cst r_9.2.1 45571 xm.toInt = some 1))) r_9 := by
  obtain ⟨M_9, hM_9, hl⟩ := hp_M (mi := 138) (k := 2) (by decide +kernel)
  have c_9 : hp_C cst strs (D + 1) := cc _
  have b0 := xm.le_toInt
  have b1 := xm.toInt_le
  have go_9 : hp_F cst strs (fun r_9 : am_Q => ∃ w_9 : Int32, r_9.1 = some (.int w_9) ∧ r_9.2.2.1 = 0 ∧ r_9.2.2.2 = 0 ∧ ly_hy m_tt ly_TH r_9.2.1 ∧ mfr cst 45568 xm.toInt wq_mods h r_9.2.1 ∧ (ly_hv cst r_9.2.1 257 0 = some 0 ∧ ∃ (t_9 : Nat) (en : Nat → Int) (kd pl vl : Int → Int), tkT (gt_g cst h 512) (N : Int) t_9 kd pl vl en ∧ wdP (wds kd vl t_9) s xm.toInt (ly_hv cst h 45313 xm.toInt) (ly_hv cst h 45319 xm.toInt) (-1) w_9.toInt (ly_fr cst wq_mods h r_9.2.1) (fun ws_9 => wR cst r_9.2.1 xm.toInt ws_9 ∧ ly_hv cst r_9.2.1 45571 xm.toInt = some 1))) (D + 1) M_9 0 (lv_args 0 [.ref 16, .int xm]) [] h := by
    refine wqa c_9 hM_9 (by omega) hy xm.toInt b0 b1 rfl ⟨xm, rfl, rfl⟩ (fun l1 h1 u1_9 u2_9 u3 g0 g1 => ?_)
    obtain ⟨r_9, hrun, r1_9, r2, r3, rhy, rfr, rk9, rN_9, t_9, en, kt, tN_9, TT⟩ := gt_run (D := D - 1) (cc _) (cc _) (by omega) u1_9 n1 (u2_9 _ _ _ rfl kn)
    rw [show D - 1 + 1 + 1 = D + 1 by omega] at hrun
    refine hp_call (mi := 138) (pc := 4) (tg := 71) (na := 1) (c := 1) (ci := 1) (st0 := [.ref 17]) (st := []) (av := []) hM_9 (by decide +kernel) u1_9 rfl rfl rfl (by decide) hrun r2 r3 ?_
    rw [r1_9]
    have et : gt_g cst h1 512 = gt_g cst h 512 := by
      unfold gt_g
      rw [hp_same (mods := []) (show ly_ths ly_TH 2 = some (.inl (.int, 1200, 0, 255)) from rfl) rfl hy u1_9 u2_9]
    rw [et] at TT
    have TT : tkT (gt_g cst h 512) (N : Int) t_9 (gt_g cst r_9.2.1 768) (gt_g cst r_9.2.1 1024) (gt_g cst r_9.2.1 1280) en := TT
    have frA : ly_fr cst wq_mods h r_9.2.1 := ly_fr_tr (hp_sub2 rfl u2_9) rfr
    have t12 : (t_9 : Int) ≤ 1200 := by omega
    have rows_9 := gt_kk (cst := cst) rhy t12
    have ks_9' := frA _ _ _ rfl ks
    have lenr : h.length ≤ r_9.2.1.length := hp_len2 frA rfl
    have same_9 : ∀ h5, ly_fr cst [] r_9.2.1 h5 → ly_fr cst wq_mods h h5 := fun h5 t2_9 => ly_fr_tr frA (hp_sub2 rfl t2_9)
    by_cases q1_9 : xm.toInt ≤ -1
    · exact wq0 c_9 hM_9 (by omega) rhy xm.toInt s b0 q1_9 s0 s1 ks_9' g0 g1 (fun h5 a_9 ha_9 t1_9 t2_9 t3_9 => ⟨a_9, rfl, rfl, rfl, t1_9, mfr_L (same_9 h5 t2_9), t2_9 _ _ _ rfl rk9, t_9, en, _, _, _, TT, fun _ => ⟨ha_9, same_9 h5 t2_9⟩, fun z_9 => by have := z_9.1; omega⟩)
    by_cases q2_9 : s ≤ xm.toInt
    · exact wq1 c_9 hM_9 (by omega) rhy xm.toInt s (by omega) b1 s0 s1 (by omega) ks_9' g0 g1 (fun h5 a_9 ha_9 t1_9 t2_9 t3_9 => ⟨a_9, rfl, rfl, rfl, t1_9, mfr_L (same_9 h5 t2_9), t2_9 _ _ _ rfl rk9, t_9, en, _, _, _, TT, fun _ => ⟨ha_9, same_9 h5 t2_9⟩, fun z_9 => by have := z_9.2.1; omega⟩)
    obtain ⟨su, st, k1_9, k2_9, e1_9, e2_9, e3_9, e4_9⟩ := kc xm.toInt (by omega) (by omega)
    have ko' := frA _ _ _ rfl (ko xm.toInt (by omega) (by omega))
    have k1_9' := frA _ _ _ rfl k1_9
    have k2_9' := frA _ _ _ rfl k2_9
    by_cases q3_9 : su = -1
    rotate_left
    · have no_9 : ¬ (0 ≤ xm.toInt ∧ xm.toInt < s ∧ ly_hv cst h 45313 xm.toInt = some (-1)) := fun z_9 => by
        have := z_9.2.2
        rw [k1_9] at this
        exact q3_9 (Option.some.inj this)
      by_cases q4_9 : su ≤ -2
      · exact wq20 c_9 hM_9 (by omega) rhy xm.toInt s su (by omega) (by omega) s0 s1 e1_9 q4_9 (by omega) ks_9' ko' k1_9' g0 g1 (fun h5 a_9 ha_9 t1_9 t2_9 t3_9 => ⟨a_9, rfl, rfl, rfl, t1_9, mfr_L (same_9 h5 t2_9), t2_9 _ _ _ rfl rk9, t_9, en, _, _, _, TT, fun _ => ⟨ha_9, same_9 h5 t2_9⟩, fun z_9 => absurd z_9 no_9⟩)
      · exact wq21 c_9 hM_9 (by omega) rhy xm.toInt s su (by omega) (by omega) s0 s1 (by omega) e2_9 (by omega) ks_9' ko' k1_9' g0 g1 (fun h5 a_9 ha_9 t1_9 t2_9 t3_9 => ⟨a_9, rfl, rfl, rfl, t1_9, mfr_L (same_9 h5 t2_9), t2_9 _ _ _ rfl rk9, t_9, en, _, _, _, TT, fun _ => ⟨ha_9, same_9 h5 t2_9⟩, fun z_9 => absurd z_9 no_9⟩)
    rw [q3_9] at k1_9 k1_9'
    have ok_9 : 0 ≤ xm.toInt ∧ xm.toInt < s ∧ ly_hv cst h 45313 xm.toInt = some (-1) := ⟨by omega, by omega, k1_9⟩
    by_cases q5_9 : st = 0
    rotate_left
    · have ns : ly_hv cst h 45319 xm.toInt ≠ some 0 := fun z_9 => by
        rw [k2_9] at z_9
        exact q5_9 (Option.some.inj z_9)
      by_cases q6_9 : st ≤ -1
      · exact wq30 c_9 hM_9 (by omega) rhy xm.toInt s st (by omega) (by omega) s0 s1 e3_9 q6_9 (by omega) ks_9' ko' k1_9' k2_9' g0 g1 (fun h5 a_9 ha_9 t1_9 t2_9 t3_9 => ⟨a_9, rfl, rfl, rfl, t1_9, mfr_L (same_9 h5 t2_9), t2_9 _ _ _ rfl rk9, t_9, en, _, _, _, TT, fun z_9 => absurd ok_9 z_9, fun _ => ⟨fun _ => ⟨ha_9, same_9 h5 t2_9⟩, fun z_9 => absurd z_9 ns⟩⟩)
      · exact wq31 c_9 hM_9 (by omega) rhy xm.toInt s st (by omega) (by omega) s0 s1 (by omega) e4_9 (by omega) ks_9' ko' k1_9' k2_9' g0 g1 (fun h5 a_9 ha_9 t1_9 t2_9 t3_9 => ⟨a_9, rfl, rfl, rfl, t1_9, mfr_L (same_9 h5 t2_9), t2_9 _ _ _ rfl rk9, t_9, en, _, _, _, TT, fun z_9 => absurd ok_9 z_9, fun _ => ⟨fun _ => ⟨ha_9, same_9 h5 t2_9⟩, fun z_9 => absurd z_9 ns⟩⟩)
    rw [q5_9] at k2_9 k2_9'
    obtain ⟨mN, em⟩ : ∃ q_9 : Nat, xm.toInt = (q_9 : Int) := ⟨xm.toInt.toNat, by omega⟩
    refine wq5 c_9 hM_9 (by omega) rhy xm.toInt s (by omega) (by omega) s0 s1 (by omega) ks_9' ko' k1_9' k2_9' g0 g1 (fun l3 h3 z1 e1_9' el v1_9 v2 v3 m0_9 m1_9' m2_9 => ?_)
    have ym : z1 = mN := by omega
    rw [ym] at el
    rw [ym]
    have F3 := same_9 h3 v2
    obtain ⟨r4, hrun4, w4_9, s1_9', s2_9', s3_9', shy, sres⟩ := rd_run (D := D) cc (by omega) v1_9 (m := mN) (by omega) el (kd := gt_g cst r_9.2.1 768) (vl := gt_g cst r_9.2.1 1280) (t := t_9) t12 (v2 _ _ _ rfl kt) (fun j_9 hj => ⟨v2 _ _ _ rfl (rows_9 j_9 hj).1, v2 _ _ _ rfl (rows_9 j_9 hj).2.2⟩) (tkT_kb TT)
    refine hp_callm (mi := 138) (pc := 41) (tg := 140) (na := 2) (m := mN) (j := 1) (ci := 6) (st0 := [.ref 17, .ref (16 + (177 + 19 * mN + 1))]) (st := []) (av := [.ref 17]) hM_9 (by decide +kernel) v1_9 rfl el rfl rfl (by decide) hrun4 s2_9' s3_9' ?_
    rw [s1_9']
    rcases sres with ⟨en4, ew4, fr4⟩ | ⟨ws_9, es4, ew4, fr4, R4, T4⟩
    · exact wq6 c_9 hM_9 (by omega) shy xm.toInt w4_9 ew4 (by omega) (by omega) m0_9 m1_9' (hp_mlm m2_9 (hp_len2 fr4 rfl)) (fun h5 a_9 ha_9 t1_9 t2_9 t3_9 => ⟨a_9, rfl, rfl, rfl, t1_9, mfr_L (ly_fr_tr F3 (hp_sub2 rfl (ly_fr_tr fr4 t2_9))), t2_9 _ _ _ rfl (fr4 _ _ _ rfl (v2 _ _ _ rfl rk9)), t_9, en, _, _, _, TT, fun z_9 => absurd ok_9 z_9, fun _ => ⟨fun z_9 => absurd k2_9 z_9, fun _ => ⟨fun _ => ⟨ha_9, ly_fr_tr F3 (hp_sub2 rfl (ly_fr_tr fr4 t2_9))⟩, fun ws_9 e_9 => by rw [en4] at e_9; cases e_9⟩⟩⟩)
    · have kz4 := R4.2.1
      rw [← em] at kz4
      have n28_9 := R4.1
      refine wq7 c_9 hM_9 (by omega) shy xm.toInt (ws_9.length : Int) w4_9 ew4 (by omega) (by omega) (by omega) (by omega) kz4 m0_9 m1_9' (hp_mlm m2_9 (mfr_len fr4 rfl (by decide))) (fun h5 a_9 ha_9 t1_9 t2_9 t3_9 => ⟨a_9, rfl, rfl, rfl, t1_9, ?_, ?_, t_9, en, _, _, _, TT, fun z_9 => absurd ok_9 z_9, fun _ => ⟨fun z_9 => absurd k2_9 z_9, fun _ => ⟨fun e_9 => (by rw [es4] at e_9; cases e_9), fun ws_9' e_9 => ?_⟩⟩⟩)
      · rw [em]
        exact mfr_tr (mfr_L F3) (mfr_tr (mfr_sub rfl fr4) (mfr_L (hp_sub2 rfl t2_9)))
      · exact t2_9 _ _ _ rfl (fr4 _ _ _ rfl (fun z_9 => by omega) (fun z_9 => by omega) (v2 _ _ _ rfl rk9))
      · rw [es4] at e_9
        cases e_9
        rw [em]
        exact ⟨ha_9, wR_mv R4 t2_9 rfl rfl, t2_9 _ _ _ rfl T4⟩
  obtain ⟨n_9', r_9, hgo, w_9, r1_9, r2, r3, r4⟩ := go_9
  simp only [Nat.zero_add] at r2 r3
  exact ⟨r_9, Or.inr ⟨M_9, n_9', hM_9, hl, hgo⟩, w_9, r1_9, r2, r3, r4⟩
