/-! PRINTED by wip/p2/hp_ask.py: what the law is asked -/
theorem td0_k : hp_chk 112 0 1 [(0, (-2147483648), 2147483647)] [] [(0, .inr (.inr (.inl (some 16)))), (1, .inl (0, [(0, 1)]))] [] [] [] 2 [(4, ([], 1, [(0, (-2147483648), 2147483647)], [], [(0, .inr (.inr (.inl (some 16)))), (1, .inl (0, [(0, 1)]))], [.inr (.inr (.inl (some 17)))], []))] [] = true := by decide +kernel
theorem td0 {cst : am_K} {strs : List Nat} {Φ : am_Q → Prop} {D : Nat} {M : am_M} {h : am_H} {l : am_L} (c : hp_C cst strs D) (hM : m_P[112]? = some M) (hD : (2 : Int) ≤ (D : Int) + 1) (hy : ly_hy m_tt ly_TH h) (k : Int) (b0 : (-2147483648) ≤ k) (t0 : k ≤ 2147483647) (l0 : hp_a l 0 16) (l1 : hp_i l 1 (k)) (e0 : ∀ (l' : am_L) (h' : am_H), ly_hy m_tt ly_TH h' → ly_fr cst [] h h' → h.length ≤ h'.length → hp_a l' 0 16 → hp_i l' 1 (k) → hp_F cst strs Φ D M 4 l' [.ref 17] h') : hp_F cst strs Φ D M 0 l [] h := by
  refine hp_arc c hM td0_k hD [k] rfl hy (hp_Bc (z := k) rfl b0 t0 hp_Bn) hp_Fn hp_Kn (hp_La l0 (hp_Li (z := (0 + (1 * k + 0))) l1 rfl (by omega) hp_Ln)) trivial ?_ ?_
  · intro p_9 hp ys l' st' h' hys a1_9 a2 a3 gZ gL gS
    rcases List.mem_cons.mp hp with rfl | hp
    · obtain rfl := hp_y0 hys
      obtain ⟨t0, rfl, g0⟩ := hp_gSa gS (by decide)
      cases hp_gSn g0
      exact e0 l' h' a1_9 a2 a3 (hp_gLa gL (List.mem_of_getElem? (i := 0) rfl) (by decide)) (hp_gLi (z := (0 + (1 * k + 0))) gL (List.mem_of_getElem? (i := 1) rfl) rfl (by omega))
    cases hp
  · intro p_9 hp ys v_9 h' hys a1_9 a2 a3 gZ gS
    cases hp
theorem td1_k : hp_chk 112 7 1 [(0, 7, 2147483647)] [] [(0, .inr (.inr (.inl (some 16)))), (1, .inl (0, [(0, 1)]))] [] [] [] 2 [] [([], 1, [(0, 7, 2147483647)], [], [], [.inr (.inl (0, []))], [])] = true := by decide +kernel
theorem td1 {cst : am_K} {strs : List Nat} {Φ : am_Q → Prop} {D : Nat} {M : am_M} {h : am_H} {l : am_L} (c : hp_C cst strs D) (hM : m_P[112]? = some M) (hD : (2 : Int) ≤ (D : Int) + 1) (hy : ly_hy m_tt ly_TH h) (k : Int) (b0 : 7 ≤ k) (t0 : k ≤ 2147483647) (l0 : hp_a l 0 16) (l1 : hp_i l 1 (k)) (r0 : ∀ (h' : am_H) (y0 : Int64), y0.toInt = 0 → ly_hy m_tt ly_TH h' → ly_fr cst [] h h' → h.length ≤ h'.length → Φ (some (.long y0), h', 0, 0)) : hp_F cst strs Φ D M 7 l [] h := by
  refine hp_arc c hM td1_k hD [k] rfl hy (hp_Bc (z := k) rfl b0 t0 hp_Bn) hp_Fn hp_Kn (hp_La l0 (hp_Li (z := (0 + (1 * k + 0))) l1 rfl (by omega) hp_Ln)) trivial ?_ ?_
  · intro p_9 hp ys l' st' h' hys a1_9 a2 a3 gZ gL gS
    cases hp
  · intro p_9 hp ys v_9 h' hys a1_9 a2 a3 gZ gS
    rcases List.mem_cons.mp hp with rfl | hp
    · obtain rfl := hp_y0 hys
      cases v_9 with
      | none => cases gS
      | some wz =>
        obtain ⟨y0, t0, s0_9, q0, -⟩ := hp_gSj (z := (0 + 0)) gS rfl
        cases s0_9
        exact r0 h' y0 (by omega) a1_9 a2 a3
    cases hp
theorem td2_k : hq_chk [113] 112 7 2 [(0, (-2147483648), 6), (1, 0, 1200)] [] [(0, .inr (.inr (.inl (some 16)))), (1, .inl (0, [(0, 1)]))] [] [(261, (0, []), (0, [(1, 1)])), (61000, ((-1), [(1, 1)]), (1, []))] [] 3 [] [([], 2, [(0, (-2147483648), 6), (1, 0, 1200)], [], [], [.inr (.inl (0, []))], [])] = true := by decide +kernel
theorem td2 {cst : am_K} {strs : List Nat} {Φ : am_Q → Prop} {D : Nat} {M : am_M} {h : am_H} {l : am_L} (c : hp_C cst strs D) (hM : m_P[112]? = some M) (hD : (3 : Int) ≤ (D : Int) + 1) (hy : ly_hy m_tt ly_TH h) (k t : Int) (b0 : (-2147483648) ≤ k) (t0 : k ≤ 6) (b1 : 0 ≤ t) (t1 : t ≤ 1200) (k0 : ly_hv cst h 261 0 = some (t)) (k1 : ly_hv cst h 61000 (t - 1) = some 1) (l0 : hp_a l 0 16) (l1 : hp_i l 1 (k)) (r0 : ∀ (h' : am_H) (y0 : Int64), y0.toInt = 0 → ly_hy m_tt ly_TH h' → ly_fr cst [] h h' → h.length ≤ h'.length → Φ (some (.long y0), h', 0, 0)) : hp_F cst strs Φ D M 7 l [] h := by
  refine hq_arc c hM td2_k hD [k, t] rfl hy (hp_Bc (z := k) rfl b0 t0 (hp_Bc (z := t) rfl b1 t1 hp_Bn)) hp_Fn (hp_Kc (zi := (0 + 0)) (zv := (0 + (1 * t + 0))) k0 rfl rfl (by omega) (by omega) (hp_Kc (zi := ((-1) + (1 * t + 0))) (zv := (1 + 0)) k1 rfl rfl (by omega) (by omega) hp_Kn)) (hp_La l0 (hp_Li (z := (0 + (1 * k + 0))) l1 rfl (by omega) hp_Ln)) trivial ?_ ?_
  · intro p_9 hp ys l' st' h' hys a1_9 a2 a3 gZ gL gS
    cases hp
  · intro p_9 hp ys v_9 h' hys a1_9 a2 a3 gZ gS
    rcases List.mem_cons.mp hp with rfl | hp
    · obtain rfl := hp_y0 hys
      cases v_9 with
      | none => cases gS
      | some wz =>
        obtain ⟨y0, t0, s0_9, q0, -⟩ := hp_gSj (z := (0 + 0)) gS rfl
        cases s0_9
        exact r0 h' y0 (by omega) a1_9 a2 a3
    cases hp
theorem td3_k : hq_chk [113] 112 7 2 [(0, (-2147483648), 6), (1, 0, 255)] [] [(0, .inr (.inr (.inl (some 16)))), (1, .inl (0, [(0, 1)]))] [] [(261, (0, []), (1, [])), (768, (0, []), (0, [(1, 1)])), (61000, ((-1), [(1, 1)]), (1, []))] [] 3 [] [([], 2, [(0, (-2147483648), 6), (1, 0, 255)], [], [], [.inr (.inl (0, []))], [])] = true := by decide +kernel
theorem td3 {cst : am_K} {strs : List Nat} {Φ : am_Q → Prop} {D : Nat} {M : am_M} {h : am_H} {l : am_L} (c : hp_C cst strs D) (hM : m_P[112]? = some M) (hD : (3 : Int) ≤ (D : Int) + 1) (hy : ly_hy m_tt ly_TH h) (k q : Int) (b0 : (-2147483648) ≤ k) (t0 : k ≤ 6) (b1 : 0 ≤ q) (t1 : q ≤ 255) (k0 : ly_hv cst h 261 0 = some 1) (k1 : ly_hv cst h 768 0 = some (q)) (k2 : ly_hv cst h 61000 (q - 1) = some 1) (l0 : hp_a l 0 16) (l1 : hp_i l 1 (k)) (r0 : ∀ (h' : am_H) (y0 : Int64), y0.toInt = 0 → ly_hy m_tt ly_TH h' → ly_fr cst [] h h' → h.length ≤ h'.length → Φ (some (.long y0), h', 0, 0)) : hp_F cst strs Φ D M 7 l [] h := by
  refine hq_arc c hM td3_k hD [k, q] rfl hy (hp_Bc (z := k) rfl b0 t0 (hp_Bc (z := q) rfl b1 t1 hp_Bn)) hp_Fn (hp_Kc (zi := (0 + 0)) (zv := (1 + 0)) k0 rfl rfl (by omega) (by omega) (hp_Kc (zi := (0 + 0)) (zv := (0 + (1 * q + 0))) k1 rfl rfl (by omega) (by omega) (hp_Kc (zi := ((-1) + (1 * q + 0))) (zv := (1 + 0)) k2 rfl rfl (by omega) (by omega) hp_Kn))) (hp_La l0 (hp_Li (z := (0 + (1 * k + 0))) l1 rfl (by omega) hp_Ln)) trivial ?_ ?_
  · intro p_9 hp ys l' st' h' hys a1_9 a2 a3 gZ gL gS
    cases hp
  · intro p_9 hp ys v_9 h' hys a1_9 a2 a3 gZ gS
    rcases List.mem_cons.mp hp with rfl | hp
    · obtain rfl := hp_y0 hys
      cases v_9 with
      | none => cases gS
      | some wz =>
        obtain ⟨y0, t0, s0_9, q0, -⟩ := hp_gSj (z := (0 + 0)) gS rfl
        cases s0_9
        exact r0 h' y0 (by omega) a1_9 a2 a3
    cases hp
theorem td4_k : hq_chk [113] 112 7 2 [(0, (-2147483648), 6), (1, (-9223372036854775808), 9223372036854775807)] [] [(0, .inr (.inr (.inl (some 16)))), (1, .inl (0, [(0, 1)]))] [] [(261, (0, []), (1, [])), (768, (0, []), (1, [])), (1280, (0, []), (0, [(1, 1)]))] [] 3 [] [([], 2, [(0, (-2147483648), 6), (1, (-9223372036854775808), 9223372036854775807)], [], [], [.inr (.inl (0, [(1, 1)]))], [])] = true := by decide +kernel
theorem td4 {cst : am_K} {strs : List Nat} {Φ : am_Q → Prop} {D : Nat} {M : am_M} {h : am_H} {l : am_L} (c : hp_C cst strs D) (hM : m_P[112]? = some M) (hD : (3 : Int) ≤ (D : Int) + 1) (hy : ly_hy m_tt ly_TH h) (k v : Int) (b0 : (-2147483648) ≤ k) (t0 : k ≤ 6) (b1 : (-9223372036854775808) ≤ v) (t1 : v ≤ 9223372036854775807) (k0 : ly_hv cst h 261 0 = some 1) (k1 : ly_hv cst h 768 0 = some 1) (k2 : ly_hv cst h 1280 0 = some (v)) (l0 : hp_a l 0 16) (l1 : hp_i l 1 (k)) (r0 : ∀ (h' : am_H) (y0 : Int64), y0.toInt = (v) → ly_hy m_tt ly_TH h' → ly_fr cst [] h h' → h.length ≤ h'.length → Φ (some (.long y0), h', 0, 0)) : hp_F cst strs Φ D M 7 l [] h := by
  refine hq_arc c hM td4_k hD [k, v] rfl hy (hp_Bc (z := k) rfl b0 t0 (hp_Bc (z := v) rfl b1 t1 hp_Bn)) hp_Fn (hp_Kc (zi := (0 + 0)) (zv := (1 + 0)) k0 rfl rfl (by omega) (by omega) (hp_Kc (zi := (0 + 0)) (zv := (1 + 0)) k1 rfl rfl (by omega) (by omega) (hp_Kc (zi := (0 + 0)) (zv := (0 + (1 * v + 0))) k2 rfl rfl (by omega) (by omega) hp_Kn))) (hp_La l0 (hp_Li (z := (0 + (1 * k + 0))) l1 rfl (by omega) hp_Ln)) trivial ?_ ?_
  · intro p_9 hp ys l' st' h' hys a1_9 a2 a3 gZ gL gS
    cases hp
  · intro p_9 hp ys v h' hys a1_9 a2 a3 gZ gS
    rcases List.mem_cons.mp hp with rfl | hp
    · obtain rfl := hp_y0 hys
      cases v with
      | none => cases gS
      | some wz =>
        obtain ⟨y0, t0, s0_9, q0, -⟩ := hp_gSj (z := (0 + (1 * v + 0))) gS rfl
        cases s0_9
        exact r0 h' y0 (by omega) a1_9 a2 a3
    cases hp
theorem ox0_k : hp_chk 323 0 0 [] [] [(0, .inr (.inr (.inl (some 94))))] [] [] [] 2 [(1, ([], 0, [], [], [(0, .inr (.inr (.inl (some 94))))], [.inr (.inr (.inl (some 94)))], []))] [] = true := by decide +kernel
theorem ox0 {cst : am_K} {strs : List Nat} {Φ : am_Q → Prop} {D : Nat} {M : am_M} {h : am_H} {l : am_L} (c : hp_C cst strs D) (hM : m_P[323]? = some M) (hD : (2 : Int) ≤ (D : Int) + 1) (hy : ly_hy m_tt ly_TH h) (l0 : hp_a l 0 94) (e0 : ∀ (l' : am_L) (h' : am_H), ly_hy m_tt ly_TH h' → ly_fr cst [] h h' → h.length ≤ h'.length → hp_a l' 0 94 → hp_F cst strs Φ D M 1 l' [.ref 94] h') : hp_F cst strs Φ D M 0 l [] h := by
  refine hp_arc c hM ox0_k hD [] rfl hy hp_Bn hp_Fn hp_Kn (hp_La l0 hp_Ln) trivial ?_ ?_
  · intro p_9 hp ys l' st' h' hys a1_9 a2 a3 gZ gL gS
    rcases List.mem_cons.mp hp with rfl | hp
    · obtain rfl := hp_y0 hys
      obtain ⟨t0_9, rfl, g0⟩ := hp_gSa gS (by decide)
      cases hp_gSn g0
      exact e0 l' h' a1_9 a2 a3 (hp_gLa gL (List.mem_of_getElem? (i := 0) rfl) (by decide))
    cases hp
  · intro p_9 hp ys v_9 h' hys a1_9 a2 a3 gZ gS
    cases hp
theorem ox1_k : hp_chk 323 4 1 [(0, 0, 8)] [] [(0, .inr (.inr (.inl (some 94))))] [] [(19971, (0, []), (0, [(0, 1)])), (61000, ((-1), [(0, 1)]), (1, []))] [] 2 [] [([], 1, [(0, 0, 8)], [], [], [.inr (.inl (0, []))], [])] = true := by decide +kernel
theorem ox1 {cst : am_K} {strs : List Nat} {Φ : am_Q → Prop} {D : Nat} {M : am_M} {h : am_H} {l : am_L} (c : hp_C cst strs D) (hM : m_P[323]? = some M) (hD : (2 : Int) ≤ (D : Int) + 1) (hy : ly_hy m_tt ly_TH h) (q : Int) (b0 : 0 ≤ q) (t0 : q ≤ 8) (k0 : ly_hv cst h 19971 0 = some (q)) (k1 : ly_hv cst h 61000 (q - 1) = some 1) (l0 : hp_a l 0 94) (r0 : ∀ (h' : am_H) (y0 : Int64), y0.toInt = 0 → ly_hy m_tt ly_TH h' → ly_fr cst [] h h' → h.length ≤ h'.length → Φ (some (.long y0), h', 0, 0)) : hp_F cst strs Φ D M 4 l [] h := by
  refine hp_arc c hM ox1_k hD [q] rfl hy (hp_Bc (z := q) rfl b0 t0 hp_Bn) hp_Fn (hp_Kc (zi := (0 + 0)) (zv := (0 + (1 * q + 0))) k0 rfl rfl (by omega) (by omega) (hp_Kc (zi := ((-1) + (1 * q + 0))) (zv := (1 + 0)) k1 rfl rfl (by omega) (by omega) hp_Kn)) (hp_La l0 hp_Ln) trivial ?_ ?_
  · intro p_9 hp ys l' st' h' hys a1_9 a2 a3 gZ gL gS
    cases hp
  · intro p_9 hp ys v_9 h' hys a1_9 a2 a3 gZ gS
    rcases List.mem_cons.mp hp with rfl | hp
    · obtain rfl := hp_y0 hys
      cases v_9 with
      | none => cases gS
      | some wz =>
        obtain ⟨y0, t0, s0_9, q0, -⟩ := hp_gSj (z := (0 + 0)) gS rfl
        cases s0_9
        exact r0 h' y0 (by omega) a1_9 a2 a3
    cases hp
theorem ox2_k : hp_chk 323 4 1 [(0, (-9223372036854775808), 9223372036854775807)] [] [(0, .inr (.inr (.inl (some 94))))] [] [(19971, (0, []), (1, [])), (19976, (0, []), (0, [(0, 1)]))] [] 2 [(20, ([], 1, [(0, (-9223372036854775808), 9223372036854775807)], [], [(0, .inr (.inr (.inl (some 94)))), (1, .inr (.inl (0, [(0, 1)])))], [.inr (.inr (.inl (some 94)))], []))] [] = true := by decide +kernel
theorem ox2 {cst : am_K} {strs : List Nat} {Φ : am_Q → Prop} {D : Nat} {M : am_M} {h : am_H} {l : am_L} (c : hp_C cst strs D) (hM : m_P[323]? = some M) (hD : (2 : Int) ≤ (D : Int) + 1) (hy : ly_hy m_tt ly_TH h) (v : Int) (b0 : (-9223372036854775808) ≤ v) (t0 : v ≤ 9223372036854775807) (k0 : ly_hv cst h 19971 0 = some 1) (k1 : ly_hv cst h 19976 0 = some (v)) (l0 : hp_a l 0 94) (e0 : ∀ (l' : am_L) (h' : am_H), ly_hy m_tt ly_TH h' → ly_fr cst [] h h' → h.length ≤ h'.length → hp_a l' 0 94 → hp_j l' 1 (v) → hp_F cst strs Φ D M 20 l' [.ref 94] h') : hp_F cst strs Φ D M 4 l [] h := by
  refine hp_arc c hM ox2_k hD [v] rfl hy (hp_Bc (z := v) rfl b0 t0 hp_Bn) hp_Fn (hp_Kc (zi := (0 + 0)) (zv := (1 + 0)) k0 rfl rfl (by omega) (by omega) (hp_Kc (zi := (0 + 0)) (zv := (0 + (1 * v + 0))) k1 rfl rfl (by omega) (by omega) hp_Kn)) (hp_La l0 hp_Ln) trivial ?_ ?_
  · intro p_9 hp ys l' st' h' hys a1_9 a2 a3 gZ gL gS
    rcases List.mem_cons.mp hp with rfl | hp
    · obtain rfl := hp_y0 hys
      obtain ⟨t0, rfl, g0⟩ := hp_gSa gS (by decide)
      cases hp_gSn g0
      exact e0 l' h' a1_9 a2 a3 (hp_gLa gL (List.mem_of_getElem? (i := 0) rfl) (by decide)) (hp_gLj (z := (0 + (1 * v + 0))) gL (List.mem_of_getElem? (i := 1) rfl) rfl (by omega))
    cases hp
  · intro p_9 hp ys v h' hys a1_9 a2 a3 gZ gS
    cases hp
theorem ox3_k : hp_chk 323 23 2 [(0, (-9223372036854775808), 9223372036854775807), (1, 0, 8)] [] [(0, .inr (.inr (.inl (some 94)))), (1, .inr (.inl (0, [(0, 1)])))] [] [(19971, (0, []), (0, [(1, 1)])), (61000, ((-8), [(1, 1)]), (1, []))] [] 2 [] [([], 2, [(0, (-9223372036854775808), 9223372036854775807), (1, 0, 8)], [], [], [.inr (.inl (0, []))], [])] = true := by decide +kernel
theorem ox3 {cst : am_K} {strs : List Nat} {Φ : am_Q → Prop} {D : Nat} {M : am_M} {h : am_H} {l : am_L} (c : hp_C cst strs D) (hM : m_P[323]? = some M) (hD : (2 : Int) ≤ (D : Int) + 1) (hy : ly_hy m_tt ly_TH h) (v q : Int) (b0 : (-9223372036854775808) ≤ v) (t0 : v ≤ 9223372036854775807) (b1 : 0 ≤ q) (t1 : q ≤ 8) (k0 : ly_hv cst h 19971 0 = some (q)) (k1 : ly_hv cst h 61000 (q - 8) = some 1) (l0 : hp_a l 0 94) (l1 : hp_j l 1 (v)) (r0 : ∀ (h' : am_H) (y0 : Int64), y0.toInt = 0 → ly_hy m_tt ly_TH h' → ly_fr cst [] h h' → h.length ≤ h'.length → Φ (some (.long y0), h', 0, 0)) : hp_F cst strs Φ D M 23 l [] h := by
  refine hp_arc c hM ox3_k hD [v, q] rfl hy (hp_Bc (z := v) rfl b0 t0 (hp_Bc (z := q) rfl b1 t1 hp_Bn)) hp_Fn (hp_Kc (zi := (0 + 0)) (zv := (0 + (1 * q + 0))) k0 rfl rfl (by omega) (by omega) (hp_Kc (zi := ((-8) + (1 * q + 0))) (zv := (1 + 0)) k1 rfl rfl (by omega) (by omega) hp_Kn)) (hp_La l0 (hp_Lj (z := (0 + (1 * v + 0))) l1 rfl (by omega) hp_Ln)) trivial ?_ ?_
  · intro p_9 hp ys l' st' h' hys a1_9 a2 a3 gZ gL gS
    cases hp
  · intro p_9 hp ys v h' hys a1_9 a2 a3 gZ gS
    rcases List.mem_cons.mp hp with rfl | hp
    · obtain rfl := hp_y0 hys
      cases v with
      | none => cases gS
      | some wz =>
        obtain ⟨y0, t0, s0_9, q0, -⟩ := hp_gSj (z := (0 + 0)) gS rfl
        cases s0_9
        exact r0 h' y0 (by omega) a1_9 a2 a3
    cases hp
theorem ox4_k : hp_chk 323 23 1 [(0, (-9223372036854775808), 9223372036854775807)] [] [(0, .inr (.inr (.inl (some 94)))), (1, .inr (.inl (0, [(0, 1)])))] [] [(19971, (0, []), (8, []))] [] 2 [] [([], 1, [(0, (-9223372036854775808), 9223372036854775807)], [], [], [.inr (.inl (0, [(0, 1)]))], [])] = true := by decide +kernel
theorem ox4 {cst : am_K} {strs : List Nat} {Φ : am_Q → Prop} {D : Nat} {M : am_M} {h : am_H} {l : am_L} (c : hp_C cst strs D) (hM : m_P[323]? = some M) (hD : (2 : Int) ≤ (D : Int) + 1) (hy : ly_hy m_tt ly_TH h) (v : Int) (b0 : (-9223372036854775808) ≤ v) (t0 : v ≤ 9223372036854775807) (k0 : ly_hv cst h 19971 0 = some 8) (l0 : hp_a l 0 94) (l1 : hp_j l 1 (v)) (r0 : ∀ (h' : am_H) (y0 : Int64), y0.toInt = (v) → ly_hy m_tt ly_TH h' → ly_fr cst [] h h' → h.length ≤ h'.length → Φ (some (.long y0), h', 0, 0)) : hp_F cst strs Φ D M 23 l [] h := by
  refine hp_arc c hM ox4_k hD [v] rfl hy (hp_Bc (z := v) rfl b0 t0 hp_Bn) hp_Fn (hp_Kc (zi := (0 + 0)) (zv := (8 + 0)) k0 rfl rfl (by omega) (by omega) hp_Kn) (hp_La l0 (hp_Lj (z := (0 + (1 * v + 0))) l1 rfl (by omega) hp_Ln)) trivial ?_ ?_
  · intro p_9 hp ys l' st' h' hys a1_9 a2 a3 gZ gL gS
    cases hp
  · intro p_9 hp ys v h' hys a1_9 a2 a3 gZ gS
    rcases List.mem_cons.mp hp with rfl | hp
    · obtain rfl := hp_y0 hys
      cases v with
      | none => cases gS
      | some wz =>
        obtain ⟨y0, t0, s0_9, q0, -⟩ := hp_gSj (z := (0 + (1 * v + 0))) gS rfl
        cases s0_9
        exact r0 h' y0 (by omega) a1_9 a2 a3
    cases hp
theorem as0_k : hp_chk 322 0 3 [(0, (-2147483648), 2147483647), (1, (-2147483648), 2147483647), (2, (-2147483648), 2147483647)] [] [(0, .inr (.inr (.inl (some 94)))), (1, .inl (0, [(0, 1)])), (2, .inl (0, [(1, 1)])), (3, .inl (0, [(2, 1)]))] [] [] [] 2 [(2, ([], 3, [(0, (-2147483648), 2147483647), (1, (-2147483648), 2147483647), (2, (-2147483648), 2147483647)], [], [(0, .inr (.inr (.inl (some 94)))), (1, .inl (0, [(0, 1)])), (2, .inl (0, [(1, 1)])), (3, .inl (0, [(2, 1)]))], [.inr (.inr (.inl (some 94))), .inr (.inr (.inl (some 94)))], []))] [] = true := by decide +kernel
theorem as0 {cst : am_K} {strs : List Nat} {Φ : am_Q → Prop} {D : Nat} {M : am_M} {h : am_H} {l : am_L} (c : hp_C cst strs D) (hM : m_P[322]? = some M) (hD : (2 : Int) ≤ (D : Int) + 1) (hy : ly_hy m_tt ly_TH h) (k y s : Int) (b0 : (-2147483648) ≤ k) (t0 : k ≤ 2147483647) (b1 : (-2147483648) ≤ y) (t1 : y ≤ 2147483647) (b2 : (-2147483648) ≤ s) (t2 : s ≤ 2147483647) (l0 : hp_a l 0 94) (l1 : hp_i l 1 (k)) (l2 : hp_i l 2 (y)) (l3 : hp_i l 3 (s)) (e0 : ∀ (l' : am_L) (h' : am_H), ly_hy m_tt ly_TH h' → ly_fr cst [] h h' → h.length ≤ h'.length → hp_a l' 0 94 → hp_i l' 1 (k) → hp_i l' 2 (y) → hp_i l' 3 (s) → hp_F cst strs Φ D M 2 l' [.ref 94, .ref 94] h') : hp_F cst strs Φ D M 0 l [] h := by
  refine hp_arc c hM as0_k hD [k, y, s] rfl hy (hp_Bc (z := k) rfl b0 t0 (hp_Bc (z := y) rfl b1 t1 (hp_Bc (z := s) rfl b2 t2 hp_Bn))) hp_Fn hp_Kn (hp_La l0 (hp_Li (z := (0 + (1 * k + 0))) l1 rfl (by omega) (hp_Li (z := (0 + (1 * y + 0))) l2 rfl (by omega) (hp_Li (z := (0 + (1 * s + 0))) l3 rfl (by omega) hp_Ln)))) trivial ?_ ?_
  · intro p_9 hp ys l' st' h' hys a1_9 a2 a3 gZ gL gS
    rcases List.mem_cons.mp hp with rfl | hp
    · obtain rfl := hp_y0 hys
      obtain ⟨t0, rfl, g0⟩ := hp_gSa gS (by decide)
      obtain ⟨t1, rfl, g1⟩ := hp_gSa g0 (by decide)
      cases hp_gSn g1
      exact e0 l' h' a1_9 a2 a3 (hp_gLa gL (List.mem_of_getElem? (i := 0) rfl) (by decide)) (hp_gLi (z := (0 + (1 * k + 0))) gL (List.mem_of_getElem? (i := 1) rfl) rfl (by omega)) (hp_gLi (z := (0 + (1 * y + 0))) gL (List.mem_of_getElem? (i := 2) rfl) rfl (by omega)) (hp_gLi (z := (0 + (1 * s + 0))) gL (List.mem_of_getElem? (i := 3) rfl) rfl (by omega))
    cases hp
  · intro p_9 hp ys v_9 h' hys a1_9 a2 a3 gZ gS
    cases hp
theorem asR0_k : hq_chk [273, 277, 272] 322 5 4 [(0, (-2147483648), (-1)), (1, (-2147483648), 2147483647), (2, (-2147483648), 2147483647), (3, (-9223372036854775808), 9223372036854775807)] [] [(0, .inr (.inr (.inl (some 94)))), (1, .inl (0, [(0, 1)])), (2, .inl (0, [(1, 1)])), (3, .inl (0, [(2, 1)]))] [.inr (.inl (0, [(3, 1)])), .inr (.inr (.inl (some 94)))] [] [20017] 5 [] [([], 4, [(0, (-2147483648), (-1)), (1, (-2147483648), 2147483647), (2, (-2147483648), 2147483647), (3, (-9223372036854775808), 9223372036854775807)], [], [], [.inl ((-2), [])], [])] = true := by decide +kernel
theorem asR0 {cst : am_K} {strs : List Nat} {Φ : am_Q → Prop} {D : Nat} {M : am_M} {h : am_H} {l : am_L} (c : hp_C cst strs D) (hM : m_P[322]? = some M) (hD : (5 : Int) ≤ (D : Int) + 1) (hy : ly_hy m_tt ly_TH h) (k y s d : Int) (x0 : Int64) (hx0 : x0.toInt = (d)) (b0 : (-2147483648) ≤ k) (t0 : k ≤ (-1)) (b1 : (-2147483648) ≤ y) (t1 : y ≤ 2147483647) (b2 : (-2147483648) ≤ s) (t2 : s ≤ 2147483647) (b3 : (-9223372036854775808) ≤ d) (t3 : d ≤ 9223372036854775807) (l0 : hp_a l 0 94) (l1 : hp_i l 1 (k)) (l2 : hp_i l 2 (y)) (l3 : hp_i l 3 (s)) (r0 : ∀ (h' : am_H) (y0 : Int32), y0.toInt = (-2) → ly_hy m_tt ly_TH h' → ly_fr cst [20017] h h' → h.length ≤ h'.length → Φ (some (.int y0), h', 0, 0)) : hp_F cst strs Φ D M 5 l [.long x0, .ref 94] h := by
  refine hq_arc c hM asR0_k hD [k, y, s, d] rfl hy (hp_Bc (z := k) rfl b0 t0 (hp_Bc (z := y) rfl b1 t1 (hp_Bc (z := s) rfl b2 t2 (hp_Bc (z := d) rfl b3 t3 hp_Bn)))) hp_Fn hp_Kn (hp_La l0 (hp_Li (z := (0 + (1 * k + 0))) l1 rfl (by omega) (hp_Li (z := (0 + (1 * y + 0))) l2 rfl (by omega) (hp_Li (z := (0 + (1 * s + 0))) l3 rfl (by omega) hp_Ln)))) (hp_Sj (z := (0 + (1 * d + 0))) rfl (by omega) (hp_Sa trivial)) ?_ ?_
  · intro p_9 hp ys l' st' h' hys a1_9 a2 a3 gZ gL gS
    cases hp
  · intro p_9 hp ys v_9 h' hys a1_9 a2 a3 gZ gS
    rcases List.mem_cons.mp hp with rfl | hp
    · obtain rfl := hp_y0 hys
      cases v_9 with
      | none => cases gS
      | some wz =>
        obtain ⟨y0, t0, s0_9, q0, -⟩ := hp_gSi (z := ((-2) + 0)) gS rfl
        cases s0_9
        exact r0 h' y0 (by omega) a1_9 a2 a3
    cases hp
theorem asR1_k : hq_chk [273, 277, 272] 322 5 4 [(0, 14, 2147483647), (1, (-2147483648), 2147483647), (2, (-2147483648), 2147483647), (3, (-9223372036854775808), 9223372036854775807)] [] [(0, .inr (.inr (.inl (some 94)))), (1, .inl (0, [(0, 1)])), (2, .inl (0, [(1, 1)])), (3, .inl (0, [(2, 1)]))] [.inr (.inl (0, [(3, 1)])), .inr (.inr (.inl (some 94)))] [] [20017] 5 [] [([], 4, [(0, 14, 2147483647), (1, (-2147483648), 2147483647), (2, (-2147483648), 2147483647), (3, (-9223372036854775808), 9223372036854775807)], [], [], [.inl ((-2), [])], [])] = true := by decide +kernel
theorem asR1 {cst : am_K} {strs : List Nat} {Φ : am_Q → Prop} {D : Nat} {M : am_M} {h : am_H} {l : am_L} (c : hp_C cst strs D) (hM : m_P[322]? = some M) (hD : (5 : Int) ≤ (D : Int) + 1) (hy : ly_hy m_tt ly_TH h) (k y s d : Int) (x0 : Int64) (hx0 : x0.toInt = (d)) (b0 : 14 ≤ k) (t0 : k ≤ 2147483647) (b1 : (-2147483648) ≤ y) (t1 : y ≤ 2147483647) (b2 : (-2147483648) ≤ s) (t2 : s ≤ 2147483647) (b3 : (-9223372036854775808) ≤ d) (t3 : d ≤ 9223372036854775807) (l0 : hp_a l 0 94) (l1 : hp_i l 1 (k)) (l2 : hp_i l 2 (y)) (l3 : hp_i l 3 (s)) (r0 : ∀ (h' : am_H) (y0 : Int32), y0.toInt = (-2) → ly_hy m_tt ly_TH h' → ly_fr cst [20017] h h' → h.length ≤ h'.length → Φ (some (.int y0), h', 0, 0)) : hp_F cst strs Φ D M 5 l [.long x0, .ref 94] h := by
  refine hq_arc c hM asR1_k hD [k, y, s, d] rfl hy (hp_Bc (z := k) rfl b0 t0 (hp_Bc (z := y) rfl b1 t1 (hp_Bc (z := s) rfl b2 t2 (hp_Bc (z := d) rfl b3 t3 hp_Bn)))) hp_Fn hp_Kn (hp_La l0 (hp_Li (z := (0 + (1 * k + 0))) l1 rfl (by omega) (hp_Li (z := (0 + (1 * y + 0))) l2 rfl (by omega) (hp_Li (z := (0 + (1 * s + 0))) l3 rfl (by omega) hp_Ln)))) (hp_Sj (z := (0 + (1 * d + 0))) rfl (by omega) (hp_Sa trivial)) ?_ ?_
  · intro p_9 hp ys l' st' h' hys a1_9 a2 a3 gZ gL gS
    cases hp
  · intro p_9 hp ys v_9 h' hys a1_9 a2 a3 gZ gS
    rcases List.mem_cons.mp hp with rfl | hp
    · obtain rfl := hp_y0 hys
      cases v_9 with
      | none => cases gS
      | some wz =>
        obtain ⟨y0, t0, s0_9, q0, -⟩ := hp_gSi (z := ((-2) + 0)) gS rfl
        cases s0_9
        exact r0 h' y0 (by omega) a1_9 a2 a3
    cases hp
theorem asR2_k : hq_chk [273, 277, 272] 322 5 4 [(0, 0, 13), (1, (-2147483648), (-1)), (2, (-2147483648), 2147483647), (3, (-9223372036854775808), 9223372036854775807)] [] [(0, .inr (.inr (.inl (some 94)))), (1, .inl (0, [(0, 1)])), (2, .inl (0, [(1, 1)])), (3, .inl (0, [(2, 1)]))] [.inr (.inl (0, [(3, 1)])), .inr (.inr (.inl (some 94)))] [] [20017] 5 [] [([], 4, [(0, 0, 13), (1, (-2147483648), (-1)), (2, (-2147483648), 2147483647), (3, (-9223372036854775808), 9223372036854775807)], [], [], [.inl ((-2), [])], [])] = true := by decide +kernel
theorem asR2 {cst : am_K} {strs : List Nat} {Φ : am_Q → Prop} {D : Nat} {M : am_M} {h : am_H} {l : am_L} (c : hp_C cst strs D) (hM : m_P[322]? = some M) (hD : (5 : Int) ≤ (D : Int) + 1) (hy : ly_hy m_tt ly_TH h) (k y s d : Int) (x0 : Int64) (hx0 : x0.toInt = (d)) (b0 : 0 ≤ k) (t0 : k ≤ 13) (b1 : (-2147483648) ≤ y) (t1 : y ≤ (-1)) (b2 : (-2147483648) ≤ s) (t2 : s ≤ 2147483647) (b3 : (-9223372036854775808) ≤ d) (t3 : d ≤ 9223372036854775807) (l0 : hp_a l 0 94) (l1 : hp_i l 1 (k)) (l2 : hp_i l 2 (y)) (l3 : hp_i l 3 (s)) (r0 : ∀ (h' : am_H) (y0 : Int32), y0.toInt = (-2) → ly_hy m_tt ly_TH h' → ly_fr cst [20017] h h' → h.length ≤ h'.length → Φ (some (.int y0), h', 0, 0)) : hp_F cst strs Φ D M 5 l [.long x0, .ref 94] h := by
  refine hq_arc c hM asR2_k hD [k, y, s, d] rfl hy (hp_Bc (z := k) rfl b0 t0 (hp_Bc (z := y) rfl b1 t1 (hp_Bc (z := s) rfl b2 t2 (hp_Bc (z := d) rfl b3 t3 hp_Bn)))) hp_Fn hp_Kn (hp_La l0 (hp_Li (z := (0 + (1 * k + 0))) l1 rfl (by omega) (hp_Li (z := (0 + (1 * y + 0))) l2 rfl (by omega) (hp_Li (z := (0 + (1 * s + 0))) l3 rfl (by omega) hp_Ln)))) (hp_Sj (z := (0 + (1 * d + 0))) rfl (by omega) (hp_Sa trivial)) ?_ ?_
  · intro p_9 hp ys l' st' h' hys a1_9 a2 a3 gZ gL gS
    cases hp
  · intro p_9 hp ys v_9 h' hys a1_9 a2 a3 gZ gS
    rcases List.mem_cons.mp hp with rfl | hp
    · obtain rfl := hp_y0 hys
      cases v_9 with
      | none => cases gS
      | some wz =>
        obtain ⟨y0, t0, s0_9, q0, -⟩ := hp_gSi (z := ((-2) + 0)) gS rfl
        cases s0_9
        exact r0 h' y0 (by omega) a1_9 a2 a3
    cases hp
theorem asR3_k : hq_chk [273, 277, 272] 322 5 4 [(0, 0, 13), (1, 400, 2147483647), (2, (-2147483648), 2147483647), (3, (-9223372036854775808), 9223372036854775807)] [] [(0, .inr (.inr (.inl (some 94)))), (1, .inl (0, [(0, 1)])), (2, .inl (0, [(1, 1)])), (3, .inl (0, [(2, 1)]))] [.inr (.inl (0, [(3, 1)])), .inr (.inr (.inl (some 94)))] [] [20017] 5 [] [([], 4, [(0, 0, 13), (1, 400, 2147483647), (2, (-2147483648), 2147483647), (3, (-9223372036854775808), 9223372036854775807)], [], [], [.inl ((-2), [])], [])] = true := by decide +kernel
theorem asR3 {cst : am_K} {strs : List Nat} {Φ : am_Q → Prop} {D : Nat} {M : am_M} {h : am_H} {l : am_L} (c : hp_C cst strs D) (hM : m_P[322]? = some M) (hD : (5 : Int) ≤ (D : Int) + 1) (hy : ly_hy m_tt ly_TH h) (k y s d : Int) (x0 : Int64) (hx0 : x0.toInt = (d)) (b0 : 0 ≤ k) (t0 : k ≤ 13) (b1 : 400 ≤ y) (t1 : y ≤ 2147483647) (b2 : (-2147483648) ≤ s) (t2 : s ≤ 2147483647) (b3 : (-9223372036854775808) ≤ d) (t3 : d ≤ 9223372036854775807) (l0 : hp_a l 0 94) (l1 : hp_i l 1 (k)) (l2 : hp_i l 2 (y)) (l3 : hp_i l 3 (s)) (r0 : ∀ (h' : am_H) (y0 : Int32), y0.toInt = (-2) → ly_hy m_tt ly_TH h' → ly_fr cst [20017] h h' → h.length ≤ h'.length → Φ (some (.int y0), h', 0, 0)) : hp_F cst strs Φ D M 5 l [.long x0, .ref 94] h := by
  refine hq_arc c hM asR3_k hD [k, y, s, d] rfl hy (hp_Bc (z := k) rfl b0 t0 (hp_Bc (z := y) rfl b1 t1 (hp_Bc (z := s) rfl b2 t2 (hp_Bc (z := d) rfl b3 t3 hp_Bn)))) hp_Fn hp_Kn (hp_La l0 (hp_Li (z := (0 + (1 * k + 0))) l1 rfl (by omega) (hp_Li (z := (0 + (1 * y + 0))) l2 rfl (by omega) (hp_Li (z := (0 + (1 * s + 0))) l3 rfl (by omega) hp_Ln)))) (hp_Sj (z := (0 + (1 * d + 0))) rfl (by omega) (hp_Sa trivial)) ?_ ?_
  · intro p_9 hp ys l' st' h' hys a1_9 a2 a3 gZ gL gS
    cases hp
  · intro p_9 hp ys v_9 h' hys a1_9 a2 a3 gZ gS
    rcases List.mem_cons.mp hp with rfl | hp
    · obtain rfl := hp_y0 hys
      cases v_9 with
      | none => cases gS
      | some wz =>
        obtain ⟨y0, t0, s0_9, q0, -⟩ := hp_gSi (z := ((-2) + 0)) gS rfl
        cases s0_9
        exact r0 h' y0 (by omega) a1_9 a2 a3
    cases hp
theorem asR4_k : hq_chk [273, 277, 272] 322 5 4 [(0, 0, 13), (1, 0, 399), (2, (-2147483648), (-1)), (3, (-9223372036854775808), 9223372036854775807)] [] [(0, .inr (.inr (.inl (some 94)))), (1, .inl (0, [(0, 1)])), (2, .inl (0, [(1, 1)])), (3, .inl (0, [(2, 1)]))] [.inr (.inl (0, [(3, 1)])), .inr (.inr (.inl (some 94)))] [] [20017] 5 [] [([], 4, [(0, 0, 13), (1, 0, 399), (2, (-2147483648), (-1)), (3, (-9223372036854775808), 9223372036854775807)], [], [], [.inl ((-2), [])], [])] = true := by decide +kernel
theorem asR4 {cst : am_K} {strs : List Nat} {Φ : am_Q → Prop} {D : Nat} {M : am_M} {h : am_H} {l : am_L} (c : hp_C cst strs D) (hM : m_P[322]? = some M) (hD : (5 : Int) ≤ (D : Int) + 1) (hy : ly_hy m_tt ly_TH h) (k y s d : Int) (x0 : Int64) (hx0 : x0.toInt = (d)) (b0 : 0 ≤ k) (t0 : k ≤ 13) (b1 : 0 ≤ y) (t1 : y ≤ 399) (b2 : (-2147483648) ≤ s) (t2 : s ≤ (-1)) (b3 : (-9223372036854775808) ≤ d) (t3 : d ≤ 9223372036854775807) (l0 : hp_a l 0 94) (l1 : hp_i l 1 (k)) (l2 : hp_i l 2 (y)) (l3 : hp_i l 3 (s)) (r0 : ∀ (h' : am_H) (y0 : Int32), y0.toInt = (-2) → ly_hy m_tt ly_TH h' → ly_fr cst [20017] h h' → h.length ≤ h'.length → Φ (some (.int y0), h', 0, 0)) : hp_F cst strs Φ D M 5 l [.long x0, .ref 94] h := by
  refine hq_arc c hM asR4_k hD [k, y, s, d] rfl hy (hp_Bc (z := k) rfl b0 t0 (hp_Bc (z := y) rfl b1 t1 (hp_Bc (z := s) rfl b2 t2 (hp_Bc (z := d) rfl b3 t3 hp_Bn)))) hp_Fn hp_Kn (hp_La l0 (hp_Li (z := (0 + (1 * k + 0))) l1 rfl (by omega) (hp_Li (z := (0 + (1 * y + 0))) l2 rfl (by omega) (hp_Li (z := (0 + (1 * s + 0))) l3 rfl (by omega) hp_Ln)))) (hp_Sj (z := (0 + (1 * d + 0))) rfl (by omega) (hp_Sa trivial)) ?_ ?_
  · intro p_9 hp ys l' st' h' hys a1_9 a2 a3 gZ gL gS
    cases hp
  · intro p_9 hp ys v_9 h' hys a1_9 a2 a3 gZ gS
    rcases List.mem_cons.mp hp with rfl | hp
    · obtain rfl := hp_y0 hys
      cases v_9 with
      | none => cases gS
      | some wz =>
        obtain ⟨y0, t0, s0_9, q0, -⟩ := hp_gSi (z := ((-2) + 0)) gS rfl
        cases s0_9
        exact r0 h' y0 (by omega) a1_9 a2 a3
    cases hp
theorem asR5_k : hq_chk [273, 277, 272] 322 5 4 [(0, 0, 13), (1, 0, 399), (2, 6, 2147483647), (3, (-9223372036854775808), 9223372036854775807)] [] [(0, .inr (.inr (.inl (some 94)))), (1, .inl (0, [(0, 1)])), (2, .inl (0, [(1, 1)])), (3, .inl (0, [(2, 1)]))] [.inr (.inl (0, [(3, 1)])), .inr (.inr (.inl (some 94)))] [] [20017] 5 [] [([], 4, [(0, 0, 13), (1, 0, 399), (2, 6, 2147483647), (3, (-9223372036854775808), 9223372036854775807)], [], [], [.inl ((-2), [])], [])] = true := by decide +kernel
theorem asR5 {cst : am_K} {strs : List Nat} {Φ : am_Q → Prop} {D : Nat} {M : am_M} {h : am_H} {l : am_L} (c : hp_C cst strs D) (hM : m_P[322]? = some M) (hD : (5 : Int) ≤ (D : Int) + 1) (hy : ly_hy m_tt ly_TH h) (k y s d : Int) (x0 : Int64) (hx0 : x0.toInt = (d)) (b0 : 0 ≤ k) (t0 : k ≤ 13) (b1 : 0 ≤ y) (t1 : y ≤ 399) (b2 : 6 ≤ s) (t2 : s ≤ 2147483647) (b3 : (-9223372036854775808) ≤ d) (t3 : d ≤ 9223372036854775807) (l0 : hp_a l 0 94) (l1 : hp_i l 1 (k)) (l2 : hp_i l 2 (y)) (l3 : hp_i l 3 (s)) (r0 : ∀ (h' : am_H) (y0 : Int32), y0.toInt = (-2) → ly_hy m_tt ly_TH h' → ly_fr cst [20017] h h' → h.length ≤ h'.length → Φ (some (.int y0), h', 0, 0)) : hp_F cst strs Φ D M 5 l [.long x0, .ref 94] h := by
  refine hq_arc c hM asR5_k hD [k, y, s, d] rfl hy (hp_Bc (z := k) rfl b0 t0 (hp_Bc (z := y) rfl b1 t1 (hp_Bc (z := s) rfl b2 t2 (hp_Bc (z := d) rfl b3 t3 hp_Bn)))) hp_Fn hp_Kn (hp_La l0 (hp_Li (z := (0 + (1 * k + 0))) l1 rfl (by omega) (hp_Li (z := (0 + (1 * y + 0))) l2 rfl (by omega) (hp_Li (z := (0 + (1 * s + 0))) l3 rfl (by omega) hp_Ln)))) (hp_Sj (z := (0 + (1 * d + 0))) rfl (by omega) (hp_Sa trivial)) ?_ ?_
  · intro p_9 hp ys l' st' h' hys a1_9 a2 a3 gZ gL gS
    cases hp
  · intro p_9 hp ys v_9 h' hys a1_9 a2 a3 gZ gS
    rcases List.mem_cons.mp hp with rfl | hp
    · obtain rfl := hp_y0 hys
      cases v_9 with
      | none => cases gS
      | some wz =>
        obtain ⟨y0, t0, s0_9, q0, -⟩ := hp_gSi (z := ((-2) + 0)) gS rfl
        cases s0_9
        exact r0 h' y0 (by omega) a1_9 a2 a3
    cases hp
theorem asS_k : hq_chk [273, 277, 272] 322 5 3 [(0, 0, 6), (1, 0, 399), (2, 0, 5)] [] [(0, .inr (.inr (.inl (some 94)))), (1, .inl (0, [(0, 1)])), (2, .inl (0, [(1, 1)])), (3, .inl (0, [(2, 1)]))] [.inr (.inl (0, [])), .inr (.inr (.inl (some 94)))] [] [20017] 5 [] [([], 3, [(0, 0, 6), (1, 0, 399), (2, 0, 5)], [], [], [.inl ((-4), [])], [])] = true := by decide +kernel
theorem asS {cst : am_K} {strs : List Nat} {Φ : am_Q → Prop} {D : Nat} {M : am_M} {h : am_H} {l : am_L} (c : hp_C cst strs D) (hM : m_P[322]? = some M) (hD : (5 : Int) ≤ (D : Int) + 1) (hy : ly_hy m_tt ly_TH h) (k y s : Int) (x0 : Int64) (hx0 : x0.toInt = 0) (b0 : 0 ≤ k) (t0 : k ≤ 6) (b1 : 0 ≤ y) (t1 : y ≤ 399) (b2 : 0 ≤ s) (t2 : s ≤ 5) (l0 : hp_a l 0 94) (l1 : hp_i l 1 (k)) (l2 : hp_i l 2 (y)) (l3 : hp_i l 3 (s)) (r0 : ∀ (h' : am_H) (y0 : Int32), y0.toInt = (-4) → ly_hy m_tt ly_TH h' → ly_fr cst [20017] h h' → h.length ≤ h'.length → Φ (some (.int y0), h', 0, 0)) : hp_F cst strs Φ D M 5 l [.long x0, .ref 94] h := by
  refine hq_arc c hM asS_k hD [k, y, s] rfl hy (hp_Bc (z := k) rfl b0 t0 (hp_Bc (z := y) rfl b1 t1 (hp_Bc (z := s) rfl b2 t2 hp_Bn))) hp_Fn hp_Kn (hp_La l0 (hp_Li (z := (0 + (1 * k + 0))) l1 rfl (by omega) (hp_Li (z := (0 + (1 * y + 0))) l2 rfl (by omega) (hp_Li (z := (0 + (1 * s + 0))) l3 rfl (by omega) hp_Ln)))) (hp_Sj (z := (0 + 0)) rfl (by omega) (hp_Sa trivial)) ?_ ?_
  · intro p_9 hp ys l' st' h' hys a1_9 a2 a3 gZ gL gS
    cases hp
  · intro p_9 hp ys v_9 h' hys a1_9 a2 a3 gZ gS
    rcases List.mem_cons.mp hp with rfl | hp
    · obtain rfl := hp_y0 hys
      cases v_9 with
      | none => cases gS
      | some wz =>
        obtain ⟨y0, t0, s0_9, q0, -⟩ := hp_gSi (z := ((-4) + 0)) gS rfl
        cases s0_9
        exact r0 h' y0 (by omega) a1_9 a2 a3
    cases hp
theorem asG_k : hq_chk [273, 277, 272] 322 5 4 [(0, 7, 13), (1, 0, 399), (2, 0, 5), (3, (-9223372036854775808), 9223372036854775807)] [] [(0, .inr (.inr (.inl (some 94)))), (1, .inl (0, [(0, 1)])), (2, .inl (0, [(1, 1)])), (3, .inl (0, [(2, 1)]))] [.inr (.inl (0, [(3, 1)])), .inr (.inr (.inl (some 94)))] [] [20017] 5 [] [([], 4, [(0, 7, 13), (1, 0, 399), (2, 0, 5), (3, (-9223372036854775808), 9223372036854775807)], [], [], [.inl (0, [])], [(20017, (0, []), (0, [(3, 1)]))])] = true := by decide +kernel
theorem asG {cst : am_K} {strs : List Nat} {Φ : am_Q → Prop} {D : Nat} {M : am_M} {h : am_H} {l : am_L} (c : hp_C cst strs D) (hM : m_P[322]? = some M) (hD : (5 : Int) ≤ (D : Int) + 1) (hy : ly_hy m_tt ly_TH h) (k y s d : Int) (x0 : Int64) (hx0 : x0.toInt = (d)) (b0 : 7 ≤ k) (t0 : k ≤ 13) (b1 : 0 ≤ y) (t1 : y ≤ 399) (b2 : 0 ≤ s) (t2 : s ≤ 5) (b3 : (-9223372036854775808) ≤ d) (t3 : d ≤ 9223372036854775807) (l0 : hp_a l 0 94) (l1 : hp_i l 1 (k)) (l2 : hp_i l 2 (y)) (l3 : hp_i l 3 (s)) (r0 : ∀ (h' : am_H) (y0 : Int32), y0.toInt = 0 → ly_hy m_tt ly_TH h' → ly_fr cst [20017] h h' → h.length ≤ h'.length → ly_hv cst h' 20017 0 = some (d) → Φ (some (.int y0), h', 0, 0)) : hp_F cst strs Φ D M 5 l [.long x0, .ref 94] h := by
  refine hq_arc c hM asG_k hD [k, y, s, d] rfl hy (hp_Bc (z := k) rfl b0 t0 (hp_Bc (z := y) rfl b1 t1 (hp_Bc (z := s) rfl b2 t2 (hp_Bc (z := d) rfl b3 t3 hp_Bn)))) hp_Fn hp_Kn (hp_La l0 (hp_Li (z := (0 + (1 * k + 0))) l1 rfl (by omega) (hp_Li (z := (0 + (1 * y + 0))) l2 rfl (by omega) (hp_Li (z := (0 + (1 * s + 0))) l3 rfl (by omega) hp_Ln)))) (hp_Sj (z := (0 + (1 * d + 0))) rfl (by omega) (hp_Sa trivial)) ?_ ?_
  · intro p_9 hp ys l' st' h' hys a1_9 a2 a3 gZ gL gS
    cases hp
  · intro p_9 hp ys v_9 h' hys a1_9 a2 a3 gZ gS
    rcases List.mem_cons.mp hp with rfl | hp
    · obtain rfl := hp_y0 hys
      cases v_9 with
      | none => cases gS
      | some wz =>
        obtain ⟨y0, t0, s0_9, q0, -⟩ := hp_gSi (z := (0 + 0)) gS rfl
        cases s0_9
        exact r0 h' y0 (by omega) a1_9 a2 a3 (hp_gK (zi := (0 + 0)) (zv := (0 + (1 * d + 0))) gZ.2.2.2 (List.mem_of_getElem? (i := 0) rfl) rfl rfl (by omega) (by omega))
    cases hp
theorem asH_k : hq_chk [273, 277, 272] 322 5 4 [(0, 0, 6), (1, 0, 399), (2, 0, 5), (3, (-9223372036854775808), 9223372036854775807)] [] [(0, .inr (.inr (.inl (some 94)))), (1, .inl (0, [(0, 1)])), (2, .inl (0, [(1, 1)])), (3, .inl (0, [(2, 1)]))] [.inr (.inl (0, [(3, 1)])), .inr (.inr (.inl (some 94)))] [(61000, (0, [(3, 1)]), (1, []))] [20017] 5 [] [([], 4, [(0, 0, 6), (1, 0, 399), (2, 0, 5), (3, (-9223372036854775808), 9223372036854775807)], [], [], [.inl (0, [])], [(20017, (0, []), (0, [(3, 1)]))])] = true := by decide +kernel
theorem asH {cst : am_K} {strs : List Nat} {Φ : am_Q → Prop} {D : Nat} {M : am_M} {h : am_H} {l : am_L} (c : hp_C cst strs D) (hM : m_P[322]? = some M) (hD : (5 : Int) ≤ (D : Int) + 1) (hy : ly_hy m_tt ly_TH h) (k y s d : Int) (x0 : Int64) (hx0 : x0.toInt = (d)) (b0 : 0 ≤ k) (t0 : k ≤ 6) (b1 : 0 ≤ y) (t1 : y ≤ 399) (b2 : 0 ≤ s) (t2 : s ≤ 5) (b3 : (-9223372036854775808) ≤ d) (t3 : d ≤ 9223372036854775807) (k0 : ly_hv cst h 61000 (d) = some 1) (l0 : hp_a l 0 94) (l1 : hp_i l 1 (k)) (l2 : hp_i l 2 (y)) (l3 : hp_i l 3 (s)) (r0 : ∀ (h' : am_H) (y0 : Int32), y0.toInt = 0 → ly_hy m_tt ly_TH h' → ly_fr cst [20017] h h' → h.length ≤ h'.length → ly_hv cst h' 20017 0 = some (d) → Φ (some (.int y0), h', 0, 0)) : hp_F cst strs Φ D M 5 l [.long x0, .ref 94] h := by
  refine hq_arc c hM asH_k hD [k, y, s, d] rfl hy (hp_Bc (z := k) rfl b0 t0 (hp_Bc (z := y) rfl b1 t1 (hp_Bc (z := s) rfl b2 t2 (hp_Bc (z := d) rfl b3 t3 hp_Bn)))) hp_Fn (hp_Kc (zi := (0 + (1 * d + 0))) (zv := (1 + 0)) k0 rfl rfl (by omega) (by omega) hp_Kn) (hp_La l0 (hp_Li (z := (0 + (1 * k + 0))) l1 rfl (by omega) (hp_Li (z := (0 + (1 * y + 0))) l2 rfl (by omega) (hp_Li (z := (0 + (1 * s + 0))) l3 rfl (by omega) hp_Ln)))) (hp_Sj (z := (0 + (1 * d + 0))) rfl (by omega) (hp_Sa trivial)) ?_ ?_
  · intro p_9 hp ys l' st' h' hys a1_9 a2 a3 gZ gL gS
    cases hp
  · intro p_9 hp ys v_9 h' hys a1_9 a2 a3 gZ gS
    rcases List.mem_cons.mp hp with rfl | hp
    · obtain rfl := hp_y0 hys
      cases v_9 with
      | none => cases gS
      | some wz =>
        obtain ⟨y0, t0, s0_9, q0, -⟩ := hp_gSi (z := (0 + 0)) gS rfl
        cases s0_9
        exact r0 h' y0 (by omega) a1_9 a2 a3 (hp_gK (zi := (0 + 0)) (zv := (0 + (1 * d + 0))) gZ.2.2.2 (List.mem_of_getElem? (i := 0) rfl) rfl rfl (by omega) (by omega))
    cases hp
/-- the tape's word, where it is one word alone -/
def sw (kd vl : Int → Int) (t : Nat) : Int := if t = 1 ∧ kd 0 = 1 then vl 0 else 0
def qok (k y s : Int) : Prop := 0 ≤ k ∧ k ≤ 13 ∧ 0 ≤ y ∧ y ≤ 399 ∧ 0 ≤ s ∧ s ≤ 5
/-- what a question about the law answers -/
def qa (k y s d v : Int) (P : Int → Prop) : Prop := (¬ qok k y s → v = -2) ∧ (qok k y s → (k < 7 ∧ d = 0 → v = -4) ∧ (¬ (k < 7 ∧ d = 0) → P v))
theorem qa_uni {k y s d v w : Int} {P Q : Int → Prop} (A : qa k y s d v P) (B : qa k y s d w Q) (u : P v → Q w → v = w) : v = w := by
  by_cases o : qok k y s
  · by_cases z_9 : k < 7 ∧ d = 0
    · rw [(A.2 o).1 z_9, (B.2 o).1 z_9]
    · exact u ((A.2 o).2 z_9) ((B.2 o).2 z_9)
  · rw [A.1 o, B.1 o]
theorem sz_b (k : Int) : 0 ≤ srt k ∧ srt k ≤ 7 := by
  unfold srt
  split
  · omega
  split
  · omega
  split
  · omega
  split
  · omega
  split
  · omega
  split
  · omega
  split
  · omega
  omega
theorem sz_1 {k : Int} (h : srt k = 1) : k = 1 := by
  unfold srt at h
  split at h
  · assumption
  split at h
  · omega
  split at h
  · omega
  split at h
  · omega
  split at h
  · omega
  split at h
  · omega
  split at h
  · omega
  omega
/-- takeDeed -/
theorem td_run {cst : am_K} {strs : List Nat} {D : Nat} {h : am_H} (cc : ∀ d, hp_C cst strs d) (hD : 5 ≤ D) (hy : ly_hy m_tt ly_TH h) {N : Nat} (n1 : (N : Int) ≤ 1200) (kn : ly_hv cst h 257 0 = some (N : Int)) {xk : Int32} :
    ∃ r, am_Run cst m_cl m_tt m_P strs sx_bi (D + 3) 112 [.ref 16, .int xk] h r ∧ (fun r : am_Q => ∃ w : Int64, r.1 = some (.long w) ∧ r.2.2.1 = 0 ∧ r.2.2.2 = 0 ∧ ly_hy m_tt ly_TH r.2.1 ∧ ly_fr cst gt_mods h r.2.1 ∧ (ly_hv cst r.2.1 257 0 = some 0 ∧ ∃ (t : Nat) (en : Nat → Int) (kd pl vl : Int → Int), tkT (gt_g cst h 512) (N : Int) t kd pl vl en ∧ w.toInt = dz xk.toInt (sw kd vl t))) r := by
  obtain ⟨M_9, hM_9, hl⟩ := hp_M (mi := 112) (k := 2) (by decide +kernel)
  have c : hp_C cst strs (D + 2) := cc _
  have go_9 : hp_F cst strs (fun r : am_Q => ∃ w : Int64, r.1 = some (.long w) ∧ r.2.2.1 = 0 ∧ r.2.2.2 = 0 ∧ ly_hy m_tt ly_TH r.2.1 ∧ ly_fr cst gt_mods h r.2.1 ∧ (ly_hv cst r.2.1 257 0 = some 0 ∧ ∃ (t : Nat) (en : Nat → Int) (kd pl vl : Int → Int), tkT (gt_g cst h 512) (N : Int) t kd pl vl en ∧ w.toInt = dz xk.toInt (sw kd vl t))) (D + 2) M_9 0 (lv_args 0 [.ref 16, .int xk]) [] h := by
    refine td0 c hM_9 (by omega) hy xk.toInt xk.le_toInt xk.toInt_le rfl ⟨xk, rfl, rfl⟩ (fun l1 h1 u1_9 u2_9 u3 g0 g1 => ?_)
    obtain ⟨r, hrun, r1_9, r2, r3, rhy, rfr, rk, rN_9, t, en, kt, tN_9, T⟩ := gt_run (D := D) (cc _) (cc _) (by omega) u1_9 n1 (u2_9 _ _ _ rfl kn)
    refine hp_call (mi := 112) (pc := 4) (tg := 71) (na := 1) (c := 1) (ci := 1) (st0 := [.ref 17]) (st := []) (av := []) hM_9 (by decide +kernel) u1_9 rfl rfl rfl (by decide) hrun r2 r3 ?_
    rw [r1_9]
    have et : gt_g cst h1 512 = gt_g cst h 512 := by
      unfold gt_g
      rw [hp_same (mods := []) (show ly_ths ly_TH 2 = some (.inl (.int, 1200, 0, 255)) from rfl) rfl hy u1_9 u2_9]
    rw [et] at T
    have F1_9 : ly_fr cst gt_mods h r.2.1 := ly_fr_tr (hp_sub2 rfl u2_9) rfr
    have T' : tkT (gt_g cst h 512) (N : Int) t (gt_g cst r.2.1 768) (gt_g cst r.2.1 1024) (gt_g cst r.2.1 1280) en := T
    have fin_9 : ∀ (h3 : am_H) (w : Int64), w.toInt = dz xk.toInt (sw (gt_g cst r.2.1 768) (gt_g cst r.2.1 1280) t) → ly_hy m_tt ly_TH h3 → ly_fr cst [] r.2.1 h3 → (fun r : am_Q => ∃ w : Int64, r.1 = some (.long w) ∧ r.2.2.1 = 0 ∧ r.2.2.2 = 0 ∧ ly_hy m_tt ly_TH r.2.1 ∧ ly_fr cst gt_mods h r.2.1 ∧ (ly_hv cst r.2.1 257 0 = some 0 ∧ ∃ (t : Nat) (en : Nat → Int) (kd pl vl : Int → Int), tkT (gt_g cst h 512) (N : Int) t kd pl vl en ∧ w.toInt = dz xk.toInt (sw kd vl t))) (some (.long w), h3, 0, 0) := fun h3 w hw v1_9 v2 => ⟨w, rfl, rfl, rfl, v1_9, ly_fr_tr F1_9 (hp_sub2 rfl v2), v2 _ _ _ rfl rk, t, en, _, _, _, T', hw⟩
    by_cases q_9 : 7 ≤ xk.toInt
    · exact td1 c hM_9 (by omega) rhy xk.toInt q_9 xk.toInt_le g0 g1 (fun h3 w hw v1_9 v2 v3 => fin_9 h3 w (by rw [hw]; unfold dz; rw [if_neg (by omega)]) v1_9 v2)
    have ez : ∀ d, dz xk.toInt d = d := fun d => if_pos (by omega)
    by_cases q1_9 : t = 1
    rotate_left
    · exact td2 c hM_9 (by omega) rhy xk.toInt (t : Int) xk.le_toInt (by omega) (by omega) (by omega) kt (hp_ne (by omega)) g0 g1 (fun h3 w hw v1_9 v2 v3 => fin_9 h3 w (by
        rw [hw, ez]
        unfold sw
        rw [if_neg (fun z_9 => q1_9 z_9.1)]) v1_9 v2)
    rw [q1_9] at kt
    obtain ⟨k1_9, -, k2_9⟩ := gt_kk rhy (t := t) (by omega) 0 (by omega)
    have k1_9 : ly_hv cst r.2.1 768 0 = some (gt_g cst r.2.1 768 0) := k1_9
    have k2_9 : ly_hv cst r.2.1 1280 0 = some (gt_g cst r.2.1 1280 0) := k2_9
    by_cases q2_9 : gt_g cst r.2.1 768 0 = 1
    · rw [q2_9] at k1_9
      obtain ⟨v_9, kv, v0_9, v1_9⟩ := hp_rowj (cst := cst) (i := 0) rhy (show ly_ths ly_TH 5 = some (.inl (.long, 1200, 0, 0)) from rfl) (by omega) (by omega)
      have kv : ly_hv cst r.2.1 1280 0 = some v_9 := kv
      have ev_9 := Option.some.inj (k2_9.symm.trans kv)
      have v0_9 : -9223372036854775808 ≤ v_9 := v0_9
      have v1_9 : v_9 ≤ 9223372036854775807 := v1_9
      exact td4 c hM_9 (by omega) rhy xk.toInt (gt_g cst r.2.1 1280 0) xk.le_toInt (by omega) (by omega) (by omega) kt k1_9 k2_9 g0 g1 (fun h3 w hw v1_9 v2 v3 => fin_9 h3 w (by
        rw [hw, ez]
        unfold sw
        rw [if_pos ⟨q1_9, q2_9⟩]) v1_9 v2)
    · obtain ⟨v_9, kv, v0_9, v1_9⟩ := hp_row (cst := cst) (i := 0) rhy (show ly_ths ly_TH 3 = some (.inl (.int, 1200, 0, 255)) from rfl) (by omega) (by omega)
      have kv : ly_hv cst r.2.1 768 0 = some v_9 := kv
      have ev_9 := Option.some.inj (k1_9.symm.trans kv)
      exact td3 c hM_9 (by omega) rhy xk.toInt (gt_g cst r.2.1 768 0) xk.le_toInt (by omega) (by omega) (by omega) kt k1_9 (hp_ne (by omega)) g0 g1 (fun h3 w hw v1_9 v2 v3 => fin_9 h3 w (by
        rw [hw, ez]
        unfold sw
        rw [if_neg (fun z_9 => q2_9 z_9.2)]) v1_9 v2)
  obtain ⟨n', r, hgo, w, r1_9, r2, r3, r4⟩ := go_9
  simp only [Nat.zero_add] at r2 r3
  exact ⟨r, Or.inr ⟨M_9, n', hM_9, hl, hgo⟩, w, r1_9, r2, r3, r4⟩
/-- oneWord -/
theorem ox_run {cst : am_K} {strs : List Nat} {D : Nat} {h0 : am_H} (cc : ∀ d, hp_C cst strs d) (hD : 7 ≤ D) (hy : ly_hy m_tt ly_TH h0) {f : Int → Int} {n : Int} {t : Nat} {kd pl vl : Int → Int} {en : Nat → Int} (TT : tkT f n t kd pl vl en) (n0 : 0 ≤ n) (n1 : n ≤ 1200) (ff : ∀ x, 0 ≤ x → x < n → gs_f cst h0 x = f x) (kn : ly_hv cst h0 19969 0 = some n) :
    ∃ r, am_Run cst m_cl m_tt m_P strs sx_bi (D + 3) 323 [.ref 94] h0 r ∧ (fun r : am_Q => ∃ w : Int64, r.1 = some (.long w) ∧ r.2.2.1 = 0 ∧ r.2.2.2 = 0 ∧ ly_hy m_tt ly_TH r.2.1 ∧ ly_fr cst [19969, 19970, 19971, 19972, 19973, 19974, 19975, 19976] h0 r.2.1 ∧ ly_hv cst r.2.1 19969 0 = some 0 ∧ w.toInt = sw kd vl t) r := by
  obtain ⟨M_9, hM_9, hl⟩ := hp_M (mi := 323) (k := 1) (by decide +kernel)
  have c : hp_C cst strs (D + 2) := cc _
  have go_9 : hp_F cst strs (fun r : am_Q => ∃ w : Int64, r.1 = some (.long w) ∧ r.2.2.1 = 0 ∧ r.2.2.2 = 0 ∧ ly_hy m_tt ly_TH r.2.1 ∧ ly_fr cst [19969, 19970, 19971, 19972, 19973, 19974, 19975, 19976] h0 r.2.1 ∧ ly_hv cst r.2.1 19969 0 = some 0 ∧ w.toInt = sw kd vl t) (D + 2) M_9 0 (lv_args 0 [.ref 94]) [] h0 := by
    refine ox0 c hM_9 (by omega) hy rfl (fun l1 h1 u1_9 u2_9 u3 m0_9 => ?_)
    obtain ⟨r, hrun, r1_9, r2, r3, rhy, rfr, rk9, rn, rE_9⟩ := zo_take (D := D) (cc _) (cc _) (by omega) u1_9 n0 n1 (u2_9 _ _ _ rfl kn)
    refine hp_call (mi := 323) (pc := 1) (tg := 298) (na := 1) (c := 78) (ci := 12) (st0 := [.ref 94]) (st := []) (av := []) hM_9 (by decide +kernel) u1_9 rfl rfl rfl (by decide) hrun r2 r3 ?_
    rw [r1_9]
    have F1_9 : ly_fr cst [19969, 19970, 19971, 19972, 19973, 19974, 19975, 19976] h0 r.2.1 := ly_fr_tr (hp_sub2 rfl u2_9) rfr
    have f1_9 : ∀ x, 0 ≤ x → x < n → gs_f cst r.2.1 x = f x := fun x x0_9 x1_9 => by
      rw [gs_same hy rhy F1_9 rfl]
      exact ff x x0_9 x1_9
    have E1_9 : gs_E f cst r.2.1 (en 0) n := by
      rw [TT.1]
      refine gs_ev (Int.le_refl 0) ?_ rE_9
      intro x x0_9 x1_9
      rw [gs_same hy u1_9 u2_9 rfl]
      exact ff x x0_9 x1_9
    have R1 : rq cst r.2.1 f n t kd pl vl en 0 := ⟨⟨TT, n0, n1, f1_9, rn⟩, rs_at TT (Nat.zero_le _) E1_9, rq_at TT (Nat.zero_le _) E1_9⟩
    have so := rs_so R1.2.1
    by_cases q_9 : 0 < t ∧ kd 0 = 1
    rotate_left
    · have nb : 0 ≤ rk kd t 0 ∧ rk kd t 0 ≤ 8 ∧ rk kd t 0 ≠ 1 := by
        unfold rk
        split
        · have z_9 := sz_b (kd ((0 : Nat) : Int))
          exact ⟨z_9.1, by omega, fun e_9 => q_9 ⟨by assumption, sz_1 e_9⟩⟩
        · omega
      exact ox1 c hM_9 (by omega) rhy (rk kd t 0) nb.1 nb.2.1 so (hp_ne (by have := nb.2.2; omega)) m0_9 (fun h3 w hw v1_9 v2 v3 => ⟨w, rfl, rfl, rfl, v1_9, ly_fr_tr F1_9 (hp_sub2 rfl v2), v2 _ _ _ rfl rk9, by
        rw [hw]
        unfold sw
        rw [if_neg (fun z_9 => q_9 ⟨by omega, z_9.2⟩)]⟩)
    have so1 : ly_hv cst r.2.1 19971 0 = some 1 := by
      have z_9 := (R1.2.1.1 q_9.1).1
      rw [show kd ((0 : Nat) : Int) = 1 from q_9.2] at z_9
      exact z_9
    have sv : ly_hv cst r.2.1 19976 0 = some (vl 0) := (R1.2.1.1 q_9.1).2.2.1 q_9.2
    have vb := (tkT_vB TT 0 q_9.1).1 q_9.2
    have vb : 1 ≤ vl 0 ∧ vl 0 < 1152921504606846976 := vb
    refine ox2 c hM_9 (by omega) rhy (vl 0) (by omega) (by omega) so1 sv m0_9 (fun l3 h3 v1_9 v2 v3 n0' n1' => ?_)
    obtain ⟨r', hrun', s1_9, s2_9, s3_9, shy, sfr, R2⟩ := rq_scan (D := D + 1) (cc _) (by omega) v1_9 (rq_mv R1 rhy v1_9 v2 rfl)
    refine hp_call (mi := 323) (pc := 20) (tg := 299) (na := 1) (c := 78) (ci := 12) (st0 := [.ref 94]) (st := []) (av := []) hM_9 (by decide +kernel) v1_9 rfl rfl rfl (by decide) hrun' s2_9 s3_9 ?_
    rw [s1_9]
    have F3 : ly_fr cst [19969, 19970, 19971, 19972, 19973, 19974, 19975, 19976] h0 r'.2.1 := ly_fr_tr F1_9 (ly_fr_tr (hp_sub2 rfl v2) (hp_sub2 rfl sfr))
    have rk3 : ly_hv cst r'.2.1 19969 0 = some 0 := sfr _ _ _ rfl (v2 _ _ _ rfl rk9)
    have so2 := rs_so R2.2.1
    by_cases q3_9 : t = 1
    · have e8 : rk kd t (0 + 1) = 8 := if_neg (by omega)
      rw [e8] at so2
      exact ox4 c hM_9 (by omega) shy (vl 0) (by omega) (by omega) so2 n0' n1' (fun h5 w hw w1_9 w2_9 w3_9 => ⟨w, rfl, rfl, rfl, w1_9, ly_fr_tr F3 (hp_sub2 rfl w2_9), w2_9 _ _ _ rfl rk3, by
        rw [hw]
        unfold sw
        rw [if_pos ⟨q3_9, q_9.2⟩]⟩)
    · have e8 : rk kd t (0 + 1) = srt (kd ((0 + 1 : Nat) : Int)) := if_pos (by omega)
      have z_9 := sz_b (kd ((0 + 1 : Nat) : Int))
      rw [e8] at so2
      exact ox3 c hM_9 (by omega) shy (vl 0) (srt (kd ((0 + 1 : Nat) : Int))) (by omega) (by omega) z_9.1 (by omega) so2 (hp_ne (by omega)) n0' n1' (fun h5 w hw w1_9 w2_9 w3_9 => ⟨w, rfl, rfl, rfl, w1_9, ly_fr_tr F3 (hp_sub2 rfl w2_9), w2_9 _ _ _ rfl rk3, by
        rw [hw]
        unfold sw
        rw [if_neg (fun z_9 => q3_9 z_9.1)]⟩)
  obtain ⟨n', r, hgo, w, r1_9, r2, r3, r4⟩ := go_9
  simp only [Nat.zero_add] at r2 r3
  exact ⟨r, Or.inr ⟨M_9, n', hM_9, hl, hgo⟩, w, r1_9, r2, r3, r4⟩
/-- asked -/
theorem as_run {cst : am_K} {strs : List Nat} {D : Nat} {h0 : am_H} (cc : ∀ d, hp_C cst strs d) (hD : 7 ≤ D) (hy : ly_hy m_tt ly_TH h0) {f : Int → Int} {n : Int} {t : Nat} {kd pl vl : Int → Int} {en : Nat → Int} (TT : tkT f n t kd pl vl en) (n0 : 0 ≤ n) (n1 : n ≤ 1200) (ff : ∀ x, 0 ≤ x → x < n → gs_f cst h0 x = f x) (kn : ly_hv cst h0 19969 0 = some n) {xk xy xs : Int32} :
    ∃ r, am_Run cst m_cl m_tt m_P strs sx_bi (D + 4) 322 [.ref 94, .int xk, .int xy, .int xs] h0 r ∧ (fun r : am_Q => ∃ w : Int32, r.1 = some (.int w) ∧ r.2.2.1 = 0 ∧ r.2.2.2 = 0 ∧ ly_hy m_tt ly_TH r.2.1 ∧ ly_fr cst [19969, 19970, 19971, 19972, 19973, 19974, 19975, 19976, 20017] h0 r.2.1 ∧ ly_hv cst r.2.1 19969 0 = some 0 ∧ ((¬ qok xk.toInt xy.toInt xs.toInt ∧ w.toInt = -2) ∨ (qok xk.toInt xy.toInt xs.toInt ∧ (xk.toInt < 7 ∧ sw kd vl t = 0) ∧ w.toInt = -4) ∨ (qok xk.toInt xy.toInt xs.toInt ∧ ¬ (xk.toInt < 7 ∧ sw kd vl t = 0) ∧ w.toInt = 0 ∧ ly_hv cst r.2.1 20017 0 = some (sw kd vl t)))) r := by
  obtain ⟨M_9, hM_9, hl⟩ := hp_M (mi := 322) (k := 4) (by decide +kernel)
  have c : hp_C cst strs (D + 3) := cc _
  have bk : -2147483648 ≤ xk.toInt := xk.le_toInt
  have bk' : xk.toInt ≤ 2147483647 := xk.toInt_le
  have bz8 : -2147483648 ≤ xy.toInt := xy.le_toInt
  have bz9 : xy.toInt ≤ 2147483647 := xy.toInt_le
  have bs : -2147483648 ≤ xs.toInt := xs.le_toInt
  have bs' : xs.toInt ≤ 2147483647 := xs.toInt_le
  have go_9 : hp_F cst strs (fun r : am_Q => ∃ w : Int32, r.1 = some (.int w) ∧ r.2.2.1 = 0 ∧ r.2.2.2 = 0 ∧ ly_hy m_tt ly_TH r.2.1 ∧ ly_fr cst [19969, 19970, 19971, 19972, 19973, 19974, 19975, 19976, 20017] h0 r.2.1 ∧ ly_hv cst r.2.1 19969 0 = some 0 ∧ ((¬ qok xk.toInt xy.toInt xs.toInt ∧ w.toInt = -2) ∨ (qok xk.toInt xy.toInt xs.toInt ∧ (xk.toInt < 7 ∧ sw kd vl t = 0) ∧ w.toInt = -4) ∨ (qok xk.toInt xy.toInt xs.toInt ∧ ¬ (xk.toInt < 7 ∧ sw kd vl t = 0) ∧ w.toInt = 0 ∧ ly_hv cst r.2.1 20017 0 = some (sw kd vl t)))) (D + 3) M_9 0 (lv_args 0 [.ref 94, .int xk, .int xy, .int xs]) [] h0 := by
    refine as0 c hM_9 (by omega) hy xk.toInt xy.toInt xs.toInt bk bk' bz8 bz9 bs bs' rfl ⟨xk, rfl, rfl⟩ ⟨xy, rfl, rfl⟩ ⟨xs, rfl, rfl⟩ (fun l1 h1 u1_9 u2_9 u3 m0_9 m1_9 m2_9 m3_9 => ?_)
    obtain ⟨r, hrun, w, r1_9, r2, r3, rhy, rfr, rk9, ew⟩ := ox_run (D := D) cc hD u1_9 TT n0 n1 (fun x x0_9 x1_9 => by rw [gs_same hy u1_9 u2_9 rfl]; exact ff x x0_9 x1_9) (u2_9 _ _ _ rfl kn)
    refine hp_call (mi := 322) (pc := 2) (tg := 323) (na := 1) (c := 78) (ci := 12) (st0 := [.ref 94]) (st := [.ref 94]) (av := []) hM_9 (by decide +kernel) u1_9 rfl rfl rfl (by decide) hrun r2 r3 ?_
    rw [r1_9]
    have F1_9 : ly_fr cst [19969, 19970, 19971, 19972, 19973, 19974, 19975, 19976, 20017] h0 r.2.1 := ly_fr_tr (hp_sub2 rfl u2_9) (hp_sub2 rfl rfr)
    have bw : -9223372036854775808 ≤ sw kd vl t := by rw [← ew]; exact w.le_toInt
    have bw' : sw kd vl t ≤ 9223372036854775807 := by rw [← ew]; exact w.toInt_le
    have bad_9 : ¬ qok xk.toInt xy.toInt xs.toInt → ∀ (h3 : am_H) (v_9 : Int32), v_9.toInt = -2 → ly_hy m_tt ly_TH h3 → ly_fr cst [20017] r.2.1 h3 → r.2.1.length ≤ h3.length → (fun r : am_Q => ∃ w : Int32, r.1 = some (.int w) ∧ r.2.2.1 = 0 ∧ r.2.2.2 = 0 ∧ ly_hy m_tt ly_TH r.2.1 ∧ ly_fr cst [19969, 19970, 19971, 19972, 19973, 19974, 19975, 19976, 20017] h0 r.2.1 ∧ ly_hv cst r.2.1 19969 0 = some 0 ∧ ((¬ qok xk.toInt xy.toInt xs.toInt ∧ w.toInt = -2) ∨ (qok xk.toInt xy.toInt xs.toInt ∧ (xk.toInt < 7 ∧ sw kd vl t = 0) ∧ w.toInt = -4) ∨ (qok xk.toInt xy.toInt xs.toInt ∧ ¬ (xk.toInt < 7 ∧ sw kd vl t = 0) ∧ w.toInt = 0 ∧ ly_hv cst r.2.1 20017 0 = some (sw kd vl t)))) (some (.int v_9), h3, 0, 0) := fun z_9 h3 v_9 hv v1_9 v2 v3 => ⟨v_9, rfl, rfl, rfl, v1_9, ly_fr_tr F1_9 (hp_sub2 rfl v2), v2 _ _ _ rfl rk9, Or.inl ⟨z_9, hv⟩⟩
    by_cases q0 : xk.toInt < 0
    · exact asR0 c hM_9 (by omega) rhy xk.toInt xy.toInt xs.toInt (sw kd vl t) w ew bk (by omega) bz8 bz9 bs bs' bw bw' m0_9 m1_9 m2_9 m3_9 (bad_9 (fun z_9 => by unfold qok at z_9; omega))
    by_cases q1_9 : 13 < xk.toInt
    · exact asR1 c hM_9 (by omega) rhy xk.toInt xy.toInt xs.toInt (sw kd vl t) w ew (by omega) bk' bz8 bz9 bs bs' bw bw' m0_9 m1_9 m2_9 m3_9 (bad_9 (fun z_9 => by unfold qok at z_9; omega))
    by_cases q2_9 : xy.toInt < 0
    · exact asR2 c hM_9 (by omega) rhy xk.toInt xy.toInt xs.toInt (sw kd vl t) w ew (by omega) (by omega) bz8 (by omega) bs bs' bw bw' m0_9 m1_9 m2_9 m3_9 (bad_9 (fun z_9 => by unfold qok at z_9; omega))
    by_cases q3_9 : 399 < xy.toInt
    · exact asR3 c hM_9 (by omega) rhy xk.toInt xy.toInt xs.toInt (sw kd vl t) w ew (by omega) (by omega) (by omega) bz9 bs bs' bw bw' m0_9 m1_9 m2_9 m3_9 (bad_9 (fun z_9 => by unfold qok at z_9; omega))
    by_cases q4_9 : xs.toInt < 0
    · exact asR4 c hM_9 (by omega) rhy xk.toInt xy.toInt xs.toInt (sw kd vl t) w ew (by omega) (by omega) (by omega) (by omega) bs (by omega) bw bw' m0_9 m1_9 m2_9 m3_9 (bad_9 (fun z_9 => by unfold qok at z_9; omega))
    by_cases q5_9 : 5 < xs.toInt
    · exact asR5 c hM_9 (by omega) rhy xk.toInt xy.toInt xs.toInt (sw kd vl t) w ew (by omega) (by omega) (by omega) (by omega) (by omega) bs' bw bw' m0_9 m1_9 m2_9 m3_9 (bad_9 (fun z_9 => by unfold qok at z_9; omega))
    have ok_9 : qok xk.toInt xy.toInt xs.toInt := ⟨by omega, by omega, by omega, by omega, by omega, by omega⟩
    by_cases q6_9 : 7 ≤ xk.toInt
    · exact asG c hM_9 (by omega) rhy xk.toInt xy.toInt xs.toInt (sw kd vl t) w ew q6_9 (by omega) (by omega) (by omega) (by omega) (by omega) bw bw' m0_9 m1_9 m2_9 m3_9 (fun h3 v_9 hv v1_9 v2 v3 kd' => ⟨v_9, rfl, rfl, rfl, v1_9, ly_fr_tr F1_9 (hp_sub2 rfl v2), v2 _ _ _ rfl rk9, Or.inr (Or.inr ⟨ok_9, fun z_9 => by omega, hv, kd'⟩)⟩)
    by_cases q7_9 : sw kd vl t = 0
    · rw [q7_9] at ew
      exact asS c hM_9 (by omega) rhy xk.toInt xy.toInt xs.toInt w ew (by omega) (by omega) (by omega) (by omega) (by omega) (by omega) m0_9 m1_9 m2_9 m3_9 (fun h3 v_9 hv v1_9 v2 v3 => ⟨v_9, rfl, rfl, rfl, v1_9, ly_fr_tr F1_9 (hp_sub2 rfl v2), v2 _ _ _ rfl rk9, Or.inr (Or.inl ⟨ok_9, ⟨by omega, q7_9⟩, hv⟩)⟩)
    · exact asH c hM_9 (by omega) rhy xk.toInt xy.toInt xs.toInt (sw kd vl t) w ew (by omega) (by omega) (by omega) (by omega) (by omega) (by omega) bw bw' (hp_ne q7_9) m0_9 m1_9 m2_9 m3_9 (fun h3 v_9 hv v1_9 v2 v3 kd' => ⟨v_9, rfl, rfl, rfl, v1_9, ly_fr_tr F1_9 (hp_sub2 rfl v2), v2 _ _ _ rfl rk9, Or.inr (Or.inr ⟨ok_9, fun z_9 => q7_9 z_9.2, hv, kd'⟩)⟩)
  obtain ⟨n', r, hgo, w, r1_9, r2, r3, r4⟩ := go_9
  simp only [Nat.zero_add] at r2 r3
  exact ⟨r, Or.inr ⟨M_9, n', hM_9, hl, hgo⟩, w, r1_9, r2, r3, r4⟩
theorem sw_b {f : Int → Int} {n : Int} {t : Nat} {kd pl vl : Int → Int} {en : Nat → Int} (TT : tkT f n t kd pl vl en) : -9223372036854775808 ≤ sw kd vl t ∧ sw kd vl t ≤ 9223372036854775807 := by
  unfold sw
  split
  · rename_i z_9
    have b_9 : 1 ≤ vl 0 ∧ vl 0 < 1152921504606846976 := (tkT_vB TT 0 (by omega)).1 z_9.2
    omega
  · omega
