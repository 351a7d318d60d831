/-! PRINTED by wip/p2/hp_gtok.py: takeTokens of the class, exactly -/
theorem gt0_k : hq_chk [73, 75] 71 0 1 [(0, 0, 1200)] [] [(0, .inr (.inr (.inl (some 17))))] [] [(257, (0, []), (0, [(0, 1)]))] [257, 261, 262] 6 [(17, ([], 1, [(0, 0, 1200)], [], [(0, .inr (.inr (.inl (some 17)))), (1, .inl (4, [])), (2, .inl (0, []))], [], [(257, (0, []), (0, [])), (262, (0, []), (0, [(0, 1)])), (261, (0, []), (0, []))]))] [] = true := by decide +kernel
theorem gt0 {cst : am_K} {strs : List Nat} {Φ : am_Q → Prop} {D : Nat} {M : am_M} {h : am_H} {l : am_L} (c : hp_C cst strs D) (hM : m_P[71]? = some M) (hD : (6 : Int) ≤ (D : Int) + 1) (hy : ly_hy m_tt ly_TH h) (n : Int) (b0 : 0 ≤ n) (t0 : n ≤ 1200) (k0 : ly_hv cst h 257 0 = some (n)) (l0 : hp_a l 0 17) (e0 : ∀ (l' : am_L) (h' : am_H), ly_hy m_tt ly_TH h' → ly_fr cst [257, 261, 262] h h' → h.length ≤ h'.length → ly_hv cst h' 257 0 = some 0 → ly_hv cst h' 262 0 = some (n) → ly_hv cst h' 261 0 = some 0 → hp_a l' 0 17 → hp_i l' 1 4 → hp_i l' 2 0 → hp_F cst strs Φ D M 17 l' [] h') : hp_F cst strs Φ D M 0 l [] h := by
  refine hq_arc c hM gt0_k hD [n] rfl hy (hp_Bc (z := n) rfl b0 t0 hp_Bn) hp_Fn (hp_Kc (zi := (0 + 0)) (zv := (0 + (1 * n + 0))) k0 rfl rfl (by omega) (by omega) hp_Kn) (hp_La l0 hp_Ln) trivial ?_ ?_
  · intro p hp ys l' st' h' hys a1 a2 a3 gZ gL gS
    rcases List.mem_cons.mp hp with rfl | hp
    · obtain rfl := hp_y0 hys
      cases hp_gSn gS
      exact e0 l' h' a1 a2 a3 (hp_gK (zi := (0 + 0)) (zv := (0 + 0)) gZ.2.2.2 (List.mem_of_getElem? (i := 0) rfl) rfl rfl (by omega) (by omega)) (hp_gK (zi := (0 + 0)) (zv := (0 + (1 * n + 0))) gZ.2.2.2 (List.mem_of_getElem? (i := 1) rfl) rfl rfl (by omega) (by omega)) (hp_gK (zi := (0 + 0)) (zv := (0 + 0)) gZ.2.2.2 (List.mem_of_getElem? (i := 2) rfl) rfl rfl (by omega) (by omega)) (hp_gLa gL (List.mem_of_getElem? (i := 0) rfl) (by decide)) (hp_gLi (z := (4 + 0)) gL (List.mem_of_getElem? (i := 1) rfl) rfl (by omega)) (hp_gLi (z := (0 + 0)) gL (List.mem_of_getElem? (i := 2) rfl) rfl (by omega))
    cases hp
  · intro p hp ys v h' hys a1 a2 a3 gZ gS
    cases hp
theorem gtA0_k : hq_chk [73, 75] 71 17 4 [(0, 0, 1200), (1, 0, 1199), (2, 0, 1200), (3, 1, 255)] [((-1), [(0, 1), (1, (-1))])] [(0, .inr (.inr (.inl (some 17)))), (1, .inl (0, [(3, 1)])), (2, .inl (0, [(1, 1)]))] [] [(262, (0, []), (0, [(0, 1)])), (261, (0, []), (0, [(2, 1)])), (512, (0, [(1, 1)]), (32, []))] [] 6 [(17, ([], 4, [(0, 0, 1200), (1, 0, 1199), (2, 0, 1200), (3, 1, 255)], [], [(0, .inr (.inr (.inl (some 17)))), (1, .inl (4, [])), (2, .inl (1, [(1, 1)]))], [], [(262, (0, []), (0, [(0, 1)])), (261, (0, []), (0, [(2, 1)]))]))] [] = true := by decide +kernel
theorem gtA0 {cst : am_K} {strs : List Nat} {Φ : am_Q → Prop} {D : Nat} {M : am_M} {h : am_H} {l : am_L} (c : hp_C cst strs D) (hM : m_P[71]? = some M) (hD : (6 : Int) ≤ (D : Int) + 1) (hy : ly_hy m_tt ly_TH h) (n i t w : Int) (b0 : 0 ≤ n) (t0 : n ≤ 1200) (b1 : 0 ≤ i) (t1 : i ≤ 1199) (b2 : 0 ≤ t) (t2 : t ≤ 1200) (b3 : 1 ≤ w) (t3 : w ≤ 255) (f0 : 0 ≤ (n - i - 1)) (k0 : ly_hv cst h 262 0 = some (n)) (k1 : ly_hv cst h 261 0 = some (t)) (k2 : ly_hv cst h 512 (i) = some 32) (l0 : hp_a l 0 17) (l1 : hp_i l 1 (w)) (l2 : hp_i l 2 (i)) (e0 : ∀ (l' : am_L) (h' : am_H), ly_hy m_tt ly_TH h' → ly_fr cst [] h h' → h.length ≤ h'.length → ly_hv cst h' 262 0 = some (n) → ly_hv cst h' 261 0 = some (t) → hp_a l' 0 17 → hp_i l' 1 4 → hp_i l' 2 (i + 1) → hp_F cst strs Φ D M 17 l' [] h') : hp_F cst strs Φ D M 17 l [] h := by
  refine hq_arc c hM gtA0_k hD [n, i, t, w] rfl hy (hp_Bc (z := n) rfl b0 t0 (hp_Bc (z := i) rfl b1 t1 (hp_Bc (z := t) rfl b2 t2 (hp_Bc (z := w) rfl b3 t3 hp_Bn)))) (hp_Fc (z := ((-1) + (1 * n + ((-1) * i + 0)))) rfl (by omega) hp_Fn) (hp_Kc (zi := (0 + 0)) (zv := (0 + (1 * n + 0))) k0 rfl rfl (by omega) (by omega) (hp_Kc (zi := (0 + 0)) (zv := (0 + (1 * t + 0))) k1 rfl rfl (by omega) (by omega) (hp_Kc (zi := (0 + (1 * i + 0))) (zv := (32 + 0)) k2 rfl rfl (by omega) (by omega) hp_Kn))) (hp_La l0 (hp_Li (z := (0 + (1 * w + 0))) l1 rfl (by omega) (hp_Li (z := (0 + (1 * i + 0))) l2 rfl (by omega) hp_Ln))) trivial ?_ ?_
  · intro p hp ys l' st' h' hys a1 a2 a3 gZ gL gS
    rcases List.mem_cons.mp hp with rfl | hp
    · obtain rfl := hp_y0 hys
      cases hp_gSn gS
      exact e0 l' h' a1 a2 a3 (hp_gK (zi := (0 + 0)) (zv := (0 + (1 * n + 0))) gZ.2.2.2 (List.mem_of_getElem? (i := 0) rfl) rfl rfl (by omega) (by omega)) (hp_gK (zi := (0 + 0)) (zv := (0 + (1 * t + 0))) gZ.2.2.2 (List.mem_of_getElem? (i := 1) rfl) rfl rfl (by omega) (by omega)) (hp_gLa gL (List.mem_of_getElem? (i := 0) rfl) (by decide)) (hp_gLi (z := (4 + 0)) gL (List.mem_of_getElem? (i := 1) rfl) rfl (by omega)) (hp_gLi (z := (1 + (1 * i + 0))) gL (List.mem_of_getElem? (i := 2) rfl) rfl (by omega))
    cases hp
  · intro p hp ys v h' hys a1 a2 a3 gZ gS
    cases hp
theorem gtA1_k : hq_chk [73, 75] 71 17 4 [(0, 0, 1200), (1, 0, 1199), (2, 0, 1200), (3, 1, 255)] [((-1), [(0, 1), (1, (-1))])] [(0, .inr (.inr (.inl (some 17)))), (1, .inl (0, [(3, 1)])), (2, .inl (0, [(1, 1)]))] [] [(262, (0, []), (0, [(0, 1)])), (261, (0, []), (0, [(2, 1)])), (512, (0, [(1, 1)]), (10, []))] [] 6 [(17, ([], 4, [(0, 0, 1200), (1, 0, 1199), (2, 0, 1200), (3, 1, 255)], [], [(0, .inr (.inr (.inl (some 17)))), (1, .inl (4, [])), (2, .inl (1, [(1, 1)]))], [], [(262, (0, []), (0, [(0, 1)])), (261, (0, []), (0, [(2, 1)]))]))] [] = true := by decide +kernel
theorem gtA1 {cst : am_K} {strs : List Nat} {Φ : am_Q → Prop} {D : Nat} {M : am_M} {h : am_H} {l : am_L} (c : hp_C cst strs D) (hM : m_P[71]? = some M) (hD : (6 : Int) ≤ (D : Int) + 1) (hy : ly_hy m_tt ly_TH h) (n i t w : Int) (b0 : 0 ≤ n) (t0 : n ≤ 1200) (b1 : 0 ≤ i) (t1 : i ≤ 1199) (b2 : 0 ≤ t) (t2 : t ≤ 1200) (b3 : 1 ≤ w) (t3 : w ≤ 255) (f0 : 0 ≤ (n - i - 1)) (k0 : ly_hv cst h 262 0 = some (n)) (k1 : ly_hv cst h 261 0 = some (t)) (k2 : ly_hv cst h 512 (i) = some 10) (l0 : hp_a l 0 17) (l1 : hp_i l 1 (w)) (l2 : hp_i l 2 (i)) (e0 : ∀ (l' : am_L) (h' : am_H), ly_hy m_tt ly_TH h' → ly_fr cst [] h h' → h.length ≤ h'.length → ly_hv cst h' 262 0 = some (n) → ly_hv cst h' 261 0 = some (t) → hp_a l' 0 17 → hp_i l' 1 4 → hp_i l' 2 (i + 1) → hp_F cst strs Φ D M 17 l' [] h') : hp_F cst strs Φ D M 17 l [] h := by
  refine hq_arc c hM gtA1_k hD [n, i, t, w] rfl hy (hp_Bc (z := n) rfl b0 t0 (hp_Bc (z := i) rfl b1 t1 (hp_Bc (z := t) rfl b2 t2 (hp_Bc (z := w) rfl b3 t3 hp_Bn)))) (hp_Fc (z := ((-1) + (1 * n + ((-1) * i + 0)))) rfl (by omega) hp_Fn) (hp_Kc (zi := (0 + 0)) (zv := (0 + (1 * n + 0))) k0 rfl rfl (by omega) (by omega) (hp_Kc (zi := (0 + 0)) (zv := (0 + (1 * t + 0))) k1 rfl rfl (by omega) (by omega) (hp_Kc (zi := (0 + (1 * i + 0))) (zv := (10 + 0)) k2 rfl rfl (by omega) (by omega) hp_Kn))) (hp_La l0 (hp_Li (z := (0 + (1 * w + 0))) l1 rfl (by omega) (hp_Li (z := (0 + (1 * i + 0))) l2 rfl (by omega) hp_Ln))) trivial ?_ ?_
  · intro p hp ys l' st' h' hys a1 a2 a3 gZ gL gS
    rcases List.mem_cons.mp hp with rfl | hp
    · obtain rfl := hp_y0 hys
      cases hp_gSn gS
      exact e0 l' h' a1 a2 a3 (hp_gK (zi := (0 + 0)) (zv := (0 + (1 * n + 0))) gZ.2.2.2 (List.mem_of_getElem? (i := 0) rfl) rfl rfl (by omega) (by omega)) (hp_gK (zi := (0 + 0)) (zv := (0 + (1 * t + 0))) gZ.2.2.2 (List.mem_of_getElem? (i := 1) rfl) rfl rfl (by omega) (by omega)) (hp_gLa gL (List.mem_of_getElem? (i := 0) rfl) (by decide)) (hp_gLi (z := (4 + 0)) gL (List.mem_of_getElem? (i := 1) rfl) rfl (by omega)) (hp_gLi (z := (1 + (1 * i + 0))) gL (List.mem_of_getElem? (i := 2) rfl) rfl (by omega))
    cases hp
  · intro p hp ys v h' hys a1 a2 a3 gZ gS
    cases hp
theorem gtB_k : hq_chk [73, 75] 71 17 5 [(0, 0, 1200), (1, 0, 1199), (2, 0, 1199), (3, 97, 122), (4, 2, 255)] [((-1), [(0, 1), (1, (-1))]), (0, [(1, 1), (2, (-1))])] [(0, .inr (.inr (.inl (some 17)))), (1, .inl (0, [(4, 1)])), (2, .inl (0, [(1, 1)]))] [] [(262, (0, []), (0, [(0, 1)])), (261, (0, []), (0, [(2, 1)])), (512, (0, [(1, 1)]), (0, [(3, 1)]))] [] 6 [(72, ([], 5, [(0, 0, 1200), (1, 0, 1199), (2, 0, 1199), (3, 97, 122), (4, 2, 255)], [], [(0, .inr (.inr (.inl (some 17)))), (2, .inl (0, [(1, 1)])), (3, .inl (1, []))], [.inl (1, []), .inl (0, [(2, 1)]), .inr (.inr (.inl (some 19)))], [(262, (0, []), (0, [(0, 1)])), (261, (0, []), (0, [(2, 1)]))]))] [] = true := by decide +kernel
theorem gtB {cst : am_K} {strs : List Nat} {Φ : am_Q → Prop} {D : Nat} {M : am_M} {h : am_H} {l : am_L} (c : hp_C cst strs D) (hM : m_P[71]? = some M) (hD : (6 : Int) ≤ (D : Int) + 1) (hy : ly_hy m_tt ly_TH h) (n i t b w : Int) (b0 : 0 ≤ n) (t0 : n ≤ 1200) (b1 : 0 ≤ i) (t1 : i ≤ 1199) (b2 : 0 ≤ t) (t2 : t ≤ 1199) (b3 : 97 ≤ b) (t3 : b ≤ 122) (b4 : 2 ≤ w) (t4 : w ≤ 255) (f0 : 0 ≤ (n - i - 1)) (f1 : 0 ≤ (i - t)) (k0 : ly_hv cst h 262 0 = some (n)) (k1 : ly_hv cst h 261 0 = some (t)) (k2 : ly_hv cst h 512 (i) = some (b)) (l0 : hp_a l 0 17) (l1 : hp_i l 1 (w)) (l2 : hp_i l 2 (i)) (e0 : ∀ (l' : am_L) (h' : am_H) (y0 : Int32) (y1 : Int32), y0.toInt = 1 → y1.toInt = (t) → ly_hy m_tt ly_TH h' → ly_fr cst [] h h' → h.length ≤ h'.length → ly_hv cst h' 262 0 = some (n) → ly_hv cst h' 261 0 = some (t) → hp_a l' 0 17 → hp_i l' 2 (i) → hp_i l' 3 1 → hp_F cst strs Φ D M 72 l' [.int y0, .int y1, .ref 19] h') : hp_F cst strs Φ D M 17 l [] h := by
  refine hq_arc c hM gtB_k hD [n, i, t, b, w] rfl hy (hp_Bc (z := n) rfl b0 t0 (hp_Bc (z := i) rfl b1 t1 (hp_Bc (z := t) rfl b2 t2 (hp_Bc (z := b) rfl b3 t3 (hp_Bc (z := w) rfl b4 t4 hp_Bn))))) (hp_Fc (z := ((-1) + (1 * n + ((-1) * i + 0)))) rfl (by omega) (hp_Fc (z := (0 + (1 * i + ((-1) * t + 0)))) rfl (by omega) hp_Fn)) (hp_Kc (zi := (0 + 0)) (zv := (0 + (1 * n + 0))) k0 rfl rfl (by omega) (by omega) (hp_Kc (zi := (0 + 0)) (zv := (0 + (1 * t + 0))) k1 rfl rfl (by omega) (by omega) (hp_Kc (zi := (0 + (1 * i + 0))) (zv := (0 + (1 * b + 0))) k2 rfl rfl (by omega) (by omega) hp_Kn))) (hp_La l0 (hp_Li (z := (0 + (1 * w + 0))) l1 rfl (by omega) (hp_Li (z := (0 + (1 * i + 0))) l2 rfl (by omega) hp_Ln))) trivial ?_ ?_
  · intro p hp ys l' st' h' hys a1 a2 a3 gZ gL gS
    rcases List.mem_cons.mp hp with rfl | hp
    · obtain rfl := hp_y0 hys
      obtain ⟨y0, t0, rfl, q0, g0⟩ := hp_gSi (z := (1 + 0)) gS rfl
      obtain ⟨y1, t1, rfl, q1, g1⟩ := hp_gSi (z := (0 + (1 * t + 0))) g0 rfl
      obtain ⟨t2, rfl, g2⟩ := hp_gSa g1 (by decide)
      cases hp_gSn g2
      exact e0 l' h' y0 y1 (by omega) (by omega) a1 a2 a3 (hp_gK (zi := (0 + 0)) (zv := (0 + (1 * n + 0))) gZ.2.2.2 (List.mem_of_getElem? (i := 0) rfl) rfl rfl (by omega) (by omega)) (hp_gK (zi := (0 + 0)) (zv := (0 + (1 * t + 0))) gZ.2.2.2 (List.mem_of_getElem? (i := 1) rfl) rfl rfl (by omega) (by omega)) (hp_gLa gL (List.mem_of_getElem? (i := 0) rfl) (by decide)) (hp_gLi (z := (0 + (1 * i + 0))) gL (List.mem_of_getElem? (i := 1) rfl) rfl (by omega)) (hp_gLi (z := (1 + 0)) gL (List.mem_of_getElem? (i := 2) rfl) rfl (by omega))
    cases hp
  · intro p hp ys v h' hys a1 a2 a3 gZ gS
    cases hp
theorem gtC0_k : hq_chk [73, 75] 71 17 4 [(0, 0, 1200), (1, 0, 1199), (2, 0, 1199), (3, 48, 57)] [((-1), [(0, 1), (1, (-1))]), (0, [(1, 1), (2, (-1))])] [(0, .inr (.inr (.inl (some 17)))), (1, .inl (1, [])), (2, .inl (0, [(1, 1)]))] [] [(262, (0, []), (0, [(0, 1)])), (261, (0, []), (0, [(2, 1)])), (512, (0, [(1, 1)]), (0, [(3, 1)]))] [] 6 [(72, ([], 4, [(0, 0, 1200), (1, 0, 1199), (2, 0, 1199), (3, 48, 57)], [], [(0, .inr (.inr (.inl (some 17)))), (2, .inl (0, [(1, 1)])), (3, .inl (2, []))], [.inl (2, []), .inl (0, [(2, 1)]), .inr (.inr (.inl (some 19)))], [(262, (0, []), (0, [(0, 1)])), (261, (0, []), (0, [(2, 1)]))]))] [] = true := by decide +kernel
theorem gtC0 {cst : am_K} {strs : List Nat} {Φ : am_Q → Prop} {D : Nat} {M : am_M} {h : am_H} {l : am_L} (c : hp_C cst strs D) (hM : m_P[71]? = some M) (hD : (6 : Int) ≤ (D : Int) + 1) (hy : ly_hy m_tt ly_TH h) (n i t b : Int) (b0 : 0 ≤ n) (t0 : n ≤ 1200) (b1 : 0 ≤ i) (t1 : i ≤ 1199) (b2 : 0 ≤ t) (t2 : t ≤ 1199) (b3 : 48 ≤ b) (t3 : b ≤ 57) (f0 : 0 ≤ (n - i - 1)) (f1 : 0 ≤ (i - t)) (k0 : ly_hv cst h 262 0 = some (n)) (k1 : ly_hv cst h 261 0 = some (t)) (k2 : ly_hv cst h 512 (i) = some (b)) (l0 : hp_a l 0 17) (l1 : hp_i l 1 1) (l2 : hp_i l 2 (i)) (e0 : ∀ (l' : am_L) (h' : am_H) (y0 : Int32) (y1 : Int32), y0.toInt = 2 → y1.toInt = (t) → ly_hy m_tt ly_TH h' → ly_fr cst [] h h' → h.length ≤ h'.length → ly_hv cst h' 262 0 = some (n) → ly_hv cst h' 261 0 = some (t) → hp_a l' 0 17 → hp_i l' 2 (i) → hp_i l' 3 2 → hp_F cst strs Φ D M 72 l' [.int y0, .int y1, .ref 19] h') : hp_F cst strs Φ D M 17 l [] h := by
  refine hq_arc c hM gtC0_k hD [n, i, t, b] rfl hy (hp_Bc (z := n) rfl b0 t0 (hp_Bc (z := i) rfl b1 t1 (hp_Bc (z := t) rfl b2 t2 (hp_Bc (z := b) rfl b3 t3 hp_Bn)))) (hp_Fc (z := ((-1) + (1 * n + ((-1) * i + 0)))) rfl (by omega) (hp_Fc (z := (0 + (1 * i + ((-1) * t + 0)))) rfl (by omega) hp_Fn)) (hp_Kc (zi := (0 + 0)) (zv := (0 + (1 * n + 0))) k0 rfl rfl (by omega) (by omega) (hp_Kc (zi := (0 + 0)) (zv := (0 + (1 * t + 0))) k1 rfl rfl (by omega) (by omega) (hp_Kc (zi := (0 + (1 * i + 0))) (zv := (0 + (1 * b + 0))) k2 rfl rfl (by omega) (by omega) hp_Kn))) (hp_La l0 (hp_Li (z := (1 + 0)) l1 rfl (by omega) (hp_Li (z := (0 + (1 * i + 0))) l2 rfl (by omega) hp_Ln))) trivial ?_ ?_
  · intro p hp ys l' st' h' hys a1 a2 a3 gZ gL gS
    rcases List.mem_cons.mp hp with rfl | hp
    · obtain rfl := hp_y0 hys
      obtain ⟨y0, t0, rfl, q0, g0⟩ := hp_gSi (z := (2 + 0)) gS rfl
      obtain ⟨y1, t1, rfl, q1, g1⟩ := hp_gSi (z := (0 + (1 * t + 0))) g0 rfl
      obtain ⟨t2, rfl, g2⟩ := hp_gSa g1 (by decide)
      cases hp_gSn g2
      exact e0 l' h' y0 y1 (by omega) (by omega) a1 a2 a3 (hp_gK (zi := (0 + 0)) (zv := (0 + (1 * n + 0))) gZ.2.2.2 (List.mem_of_getElem? (i := 0) rfl) rfl rfl (by omega) (by omega)) (hp_gK (zi := (0 + 0)) (zv := (0 + (1 * t + 0))) gZ.2.2.2 (List.mem_of_getElem? (i := 1) rfl) rfl rfl (by omega) (by omega)) (hp_gLa gL (List.mem_of_getElem? (i := 0) rfl) (by decide)) (hp_gLi (z := (0 + (1 * i + 0))) gL (List.mem_of_getElem? (i := 1) rfl) rfl (by omega)) (hp_gLi (z := (2 + 0)) gL (List.mem_of_getElem? (i := 2) rfl) rfl (by omega))
    cases hp
  · intro p hp ys v h' hys a1 a2 a3 gZ gS
    cases hp
theorem gtC1_k : hq_chk [73, 75] 71 17 5 [(0, 0, 1200), (1, 0, 1199), (2, 0, 1199), (3, 48, 57), (4, 3, 255)] [((-1), [(0, 1), (1, (-1))]), (0, [(1, 1), (2, (-1))])] [(0, .inr (.inr (.inl (some 17)))), (1, .inl (0, [(4, 1)])), (2, .inl (0, [(1, 1)]))] [] [(262, (0, []), (0, [(0, 1)])), (261, (0, []), (0, [(2, 1)])), (512, (0, [(1, 1)]), (0, [(3, 1)]))] [] 6 [(72, ([], 5, [(0, 0, 1200), (1, 0, 1199), (2, 0, 1199), (3, 48, 57), (4, 3, 255)], [], [(0, .inr (.inr (.inl (some 17)))), (2, .inl (0, [(1, 1)])), (3, .inl (2, []))], [.inl (2, []), .inl (0, [(2, 1)]), .inr (.inr (.inl (some 19)))], [(262, (0, []), (0, [(0, 1)])), (261, (0, []), (0, [(2, 1)]))]))] [] = true := by decide +kernel
theorem gtC1 {cst : am_K} {strs : List Nat} {Φ : am_Q → Prop} {D : Nat} {M : am_M} {h : am_H} {l : am_L} (c : hp_C cst strs D) (hM : m_P[71]? = some M) (hD : (6 : Int) ≤ (D : Int) + 1) (hy : ly_hy m_tt ly_TH h) (n i t b w : Int) (b0 : 0 ≤ n) (t0 : n ≤ 1200) (b1 : 0 ≤ i) (t1 : i ≤ 1199) (b2 : 0 ≤ t) (t2 : t ≤ 1199) (b3 : 48 ≤ b) (t3 : b ≤ 57) (b4 : 3 ≤ w) (t4 : w ≤ 255) (f0 : 0 ≤ (n - i - 1)) (f1 : 0 ≤ (i - t)) (k0 : ly_hv cst h 262 0 = some (n)) (k1 : ly_hv cst h 261 0 = some (t)) (k2 : ly_hv cst h 512 (i) = some (b)) (l0 : hp_a l 0 17) (l1 : hp_i l 1 (w)) (l2 : hp_i l 2 (i)) (e0 : ∀ (l' : am_L) (h' : am_H) (y0 : Int32) (y1 : Int32), y0.toInt = 2 → y1.toInt = (t) → ly_hy m_tt ly_TH h' → ly_fr cst [] h h' → h.length ≤ h'.length → ly_hv cst h' 262 0 = some (n) → ly_hv cst h' 261 0 = some (t) → hp_a l' 0 17 → hp_i l' 2 (i) → hp_i l' 3 2 → hp_F cst strs Φ D M 72 l' [.int y0, .int y1, .ref 19] h') : hp_F cst strs Φ D M 17 l [] h := by
  refine hq_arc c hM gtC1_k hD [n, i, t, b, w] rfl hy (hp_Bc (z := n) rfl b0 t0 (hp_Bc (z := i) rfl b1 t1 (hp_Bc (z := t) rfl b2 t2 (hp_Bc (z := b) rfl b3 t3 (hp_Bc (z := w) rfl b4 t4 hp_Bn))))) (hp_Fc (z := ((-1) + (1 * n + ((-1) * i + 0)))) rfl (by omega) (hp_Fc (z := (0 + (1 * i + ((-1) * t + 0)))) rfl (by omega) hp_Fn)) (hp_Kc (zi := (0 + 0)) (zv := (0 + (1 * n + 0))) k0 rfl rfl (by omega) (by omega) (hp_Kc (zi := (0 + 0)) (zv := (0 + (1 * t + 0))) k1 rfl rfl (by omega) (by omega) (hp_Kc (zi := (0 + (1 * i + 0))) (zv := (0 + (1 * b + 0))) k2 rfl rfl (by omega) (by omega) hp_Kn))) (hp_La l0 (hp_Li (z := (0 + (1 * w + 0))) l1 rfl (by omega) (hp_Li (z := (0 + (1 * i + 0))) l2 rfl (by omega) hp_Ln))) trivial ?_ ?_
  · intro p hp ys l' st' h' hys a1 a2 a3 gZ gL gS
    rcases List.mem_cons.mp hp with rfl | hp
    · obtain rfl := hp_y0 hys
      obtain ⟨y0, t0, rfl, q0, g0⟩ := hp_gSi (z := (2 + 0)) gS rfl
      obtain ⟨y1, t1, rfl, q1, g1⟩ := hp_gSi (z := (0 + (1 * t + 0))) g0 rfl
      obtain ⟨t2, rfl, g2⟩ := hp_gSa g1 (by decide)
      cases hp_gSn g2
      exact e0 l' h' y0 y1 (by omega) (by omega) a1 a2 a3 (hp_gK (zi := (0 + 0)) (zv := (0 + (1 * n + 0))) gZ.2.2.2 (List.mem_of_getElem? (i := 0) rfl) rfl rfl (by omega) (by omega)) (hp_gK (zi := (0 + 0)) (zv := (0 + (1 * t + 0))) gZ.2.2.2 (List.mem_of_getElem? (i := 1) rfl) rfl rfl (by omega) (by omega)) (hp_gLa gL (List.mem_of_getElem? (i := 0) rfl) (by decide)) (hp_gLi (z := (0 + (1 * i + 0))) gL (List.mem_of_getElem? (i := 1) rfl) rfl (by omega)) (hp_gLi (z := (2 + 0)) gL (List.mem_of_getElem? (i := 2) rfl) rfl (by omega))
    cases hp
  · intro p hp ys v h' hys a1 a2 a3 gZ gS
    cases hp
theorem gtD0_k : hq_chk [73, 75] 71 17 4 [(0, 0, 1200), (1, 0, 1199), (2, 0, 1199), (3, 1, 255)] [((-1), [(0, 1), (1, (-1))]), (0, [(1, 1), (2, (-1))])] [(0, .inr (.inr (.inl (some 17)))), (1, .inl (0, [(3, 1)])), (2, .inl (0, [(1, 1)]))] [] [(262, (0, []), (0, [(0, 1)])), (261, (0, []), (0, [(2, 1)])), (512, (0, [(1, 1)]), (59, []))] [] 6 [(72, ([], 4, [(0, 0, 1200), (1, 0, 1199), (2, 0, 1199), (3, 1, 255)], [], [(0, .inr (.inr (.inl (some 17)))), (2, .inl (0, [(1, 1)])), (3, .inl (59, []))], [.inl (59, []), .inl (0, [(2, 1)]), .inr (.inr (.inl (some 19)))], [(262, (0, []), (0, [(0, 1)])), (261, (0, []), (0, [(2, 1)]))]))] [] = true := by decide +kernel
theorem gtD0 {cst : am_K} {strs : List Nat} {Φ : am_Q → Prop} {D : Nat} {M : am_M} {h : am_H} {l : am_L} (c : hp_C cst strs D) (hM : m_P[71]? = some M) (hD : (6 : Int) ≤ (D : Int) + 1) (hy : ly_hy m_tt ly_TH h) (n i t w : Int) (b0 : 0 ≤ n) (t0 : n ≤ 1200) (b1 : 0 ≤ i) (t1 : i ≤ 1199) (b2 : 0 ≤ t) (t2 : t ≤ 1199) (b3 : 1 ≤ w) (t3 : w ≤ 255) (f0 : 0 ≤ (n - i - 1)) (f1 : 0 ≤ (i - t)) (k0 : ly_hv cst h 262 0 = some (n)) (k1 : ly_hv cst h 261 0 = some (t)) (k2 : ly_hv cst h 512 (i) = some 59) (l0 : hp_a l 0 17) (l1 : hp_i l 1 (w)) (l2 : hp_i l 2 (i)) (e0 : ∀ (l' : am_L) (h' : am_H) (y0 : Int32) (y1 : Int32), y0.toInt = 59 → y1.toInt = (t) → ly_hy m_tt ly_TH h' → ly_fr cst [] h h' → h.length ≤ h'.length → ly_hv cst h' 262 0 = some (n) → ly_hv cst h' 261 0 = some (t) → hp_a l' 0 17 → hp_i l' 2 (i) → hp_i l' 3 59 → hp_F cst strs Φ D M 72 l' [.int y0, .int y1, .ref 19] h') : hp_F cst strs Φ D M 17 l [] h := by
  refine hq_arc c hM gtD0_k hD [n, i, t, w] rfl hy (hp_Bc (z := n) rfl b0 t0 (hp_Bc (z := i) rfl b1 t1 (hp_Bc (z := t) rfl b2 t2 (hp_Bc (z := w) rfl b3 t3 hp_Bn)))) (hp_Fc (z := ((-1) + (1 * n + ((-1) * i + 0)))) rfl (by omega) (hp_Fc (z := (0 + (1 * i + ((-1) * t + 0)))) rfl (by omega) hp_Fn)) (hp_Kc (zi := (0 + 0)) (zv := (0 + (1 * n + 0))) k0 rfl rfl (by omega) (by omega) (hp_Kc (zi := (0 + 0)) (zv := (0 + (1 * t + 0))) k1 rfl rfl (by omega) (by omega) (hp_Kc (zi := (0 + (1 * i + 0))) (zv := (59 + 0)) k2 rfl rfl (by omega) (by omega) hp_Kn))) (hp_La l0 (hp_Li (z := (0 + (1 * w + 0))) l1 rfl (by omega) (hp_Li (z := (0 + (1 * i + 0))) l2 rfl (by omega) hp_Ln))) trivial ?_ ?_
  · intro p hp ys l' st' h' hys a1 a2 a3 gZ gL gS
    rcases List.mem_cons.mp hp with rfl | hp
    · obtain rfl := hp_y0 hys
      obtain ⟨y0, t0, rfl, q0, g0⟩ := hp_gSi (z := (59 + 0)) gS rfl
      obtain ⟨y1, t1, rfl, q1, g1⟩ := hp_gSi (z := (0 + (1 * t + 0))) g0 rfl
      obtain ⟨t2, rfl, g2⟩ := hp_gSa g1 (by decide)
      cases hp_gSn g2
      exact e0 l' h' y0 y1 (by omega) (by omega) a1 a2 a3 (hp_gK (zi := (0 + 0)) (zv := (0 + (1 * n + 0))) gZ.2.2.2 (List.mem_of_getElem? (i := 0) rfl) rfl rfl (by omega) (by omega)) (hp_gK (zi := (0 + 0)) (zv := (0 + (1 * t + 0))) gZ.2.2.2 (List.mem_of_getElem? (i := 1) rfl) rfl rfl (by omega) (by omega)) (hp_gLa gL (List.mem_of_getElem? (i := 0) rfl) (by decide)) (hp_gLi (z := (0 + (1 * i + 0))) gL (List.mem_of_getElem? (i := 1) rfl) rfl (by omega)) (hp_gLi (z := (59 + 0)) gL (List.mem_of_getElem? (i := 2) rfl) rfl (by omega))
    cases hp
  · intro p hp ys v h' hys a1 a2 a3 gZ gS
    cases hp
theorem gtD1_k : hq_chk [73, 75] 71 17 4 [(0, 0, 1200), (1, 0, 1199), (2, 0, 1199), (3, 1, 255)] [((-1), [(0, 1), (1, (-1))]), (0, [(1, 1), (2, (-1))])] [(0, .inr (.inr (.inl (some 17)))), (1, .inl (0, [(3, 1)])), (2, .inl (0, [(1, 1)]))] [] [(262, (0, []), (0, [(0, 1)])), (261, (0, []), (0, [(2, 1)])), (512, (0, [(1, 1)]), (61, []))] [] 6 [(72, ([], 4, [(0, 0, 1200), (1, 0, 1199), (2, 0, 1199), (3, 1, 255)], [], [(0, .inr (.inr (.inl (some 17)))), (2, .inl (0, [(1, 1)])), (3, .inl (61, []))], [.inl (61, []), .inl (0, [(2, 1)]), .inr (.inr (.inl (some 19)))], [(262, (0, []), (0, [(0, 1)])), (261, (0, []), (0, [(2, 1)]))]))] [] = true := by decide +kernel
theorem gtD1 {cst : am_K} {strs : List Nat} {Φ : am_Q → Prop} {D : Nat} {M : am_M} {h : am_H} {l : am_L} (c : hp_C cst strs D) (hM : m_P[71]? = some M) (hD : (6 : Int) ≤ (D : Int) + 1) (hy : ly_hy m_tt ly_TH h) (n i t w : Int) (b0 : 0 ≤ n) (t0 : n ≤ 1200) (b1 : 0 ≤ i) (t1 : i ≤ 1199) (b2 : 0 ≤ t) (t2 : t ≤ 1199) (b3 : 1 ≤ w) (t3 : w ≤ 255) (f0 : 0 ≤ (n - i - 1)) (f1 : 0 ≤ (i - t)) (k0 : ly_hv cst h 262 0 = some (n)) (k1 : ly_hv cst h 261 0 = some (t)) (k2 : ly_hv cst h 512 (i) = some 61) (l0 : hp_a l 0 17) (l1 : hp_i l 1 (w)) (l2 : hp_i l 2 (i)) (e0 : ∀ (l' : am_L) (h' : am_H) (y0 : Int32) (y1 : Int32), y0.toInt = 61 → y1.toInt = (t) → ly_hy m_tt ly_TH h' → ly_fr cst [] h h' → h.length ≤ h'.length → ly_hv cst h' 262 0 = some (n) → ly_hv cst h' 261 0 = some (t) → hp_a l' 0 17 → hp_i l' 2 (i) → hp_i l' 3 61 → hp_F cst strs Φ D M 72 l' [.int y0, .int y1, .ref 19] h') : hp_F cst strs Φ D M 17 l [] h := by
  refine hq_arc c hM gtD1_k hD [n, i, t, w] rfl hy (hp_Bc (z := n) rfl b0 t0 (hp_Bc (z := i) rfl b1 t1 (hp_Bc (z := t) rfl b2 t2 (hp_Bc (z := w) rfl b3 t3 hp_Bn)))) (hp_Fc (z := ((-1) + (1 * n + ((-1) * i + 0)))) rfl (by omega) (hp_Fc (z := (0 + (1 * i + ((-1) * t + 0)))) rfl (by omega) hp_Fn)) (hp_Kc (zi := (0 + 0)) (zv := (0 + (1 * n + 0))) k0 rfl rfl (by omega) (by omega) (hp_Kc (zi := (0 + 0)) (zv := (0 + (1 * t + 0))) k1 rfl rfl (by omega) (by omega) (hp_Kc (zi := (0 + (1 * i + 0))) (zv := (61 + 0)) k2 rfl rfl (by omega) (by omega) hp_Kn))) (hp_La l0 (hp_Li (z := (0 + (1 * w + 0))) l1 rfl (by omega) (hp_Li (z := (0 + (1 * i + 0))) l2 rfl (by omega) hp_Ln))) trivial ?_ ?_
  · intro p hp ys l' st' h' hys a1 a2 a3 gZ gL gS
    rcases List.mem_cons.mp hp with rfl | hp
    · obtain rfl := hp_y0 hys
      obtain ⟨y0, t0, rfl, q0, g0⟩ := hp_gSi (z := (61 + 0)) gS rfl
      obtain ⟨y1, t1, rfl, q1, g1⟩ := hp_gSi (z := (0 + (1 * t + 0))) g0 rfl
      obtain ⟨t2, rfl, g2⟩ := hp_gSa g1 (by decide)
      cases hp_gSn g2
      exact e0 l' h' y0 y1 (by omega) (by omega) a1 a2 a3 (hp_gK (zi := (0 + 0)) (zv := (0 + (1 * n + 0))) gZ.2.2.2 (List.mem_of_getElem? (i := 0) rfl) rfl rfl (by omega) (by omega)) (hp_gK (zi := (0 + 0)) (zv := (0 + (1 * t + 0))) gZ.2.2.2 (List.mem_of_getElem? (i := 1) rfl) rfl rfl (by omega) (by omega)) (hp_gLa gL (List.mem_of_getElem? (i := 0) rfl) (by decide)) (hp_gLi (z := (0 + (1 * i + 0))) gL (List.mem_of_getElem? (i := 1) rfl) rfl (by omega)) (hp_gLi (z := (61 + 0)) gL (List.mem_of_getElem? (i := 2) rfl) rfl (by omega))
    cases hp
  · intro p hp ys v h' hys a1 a2 a3 gZ gS
    cases hp
theorem gtD2_k : hq_chk [73, 75] 71 17 4 [(0, 0, 1200), (1, 0, 1199), (2, 0, 1199), (3, 1, 255)] [((-1), [(0, 1), (1, (-1))]), (0, [(1, 1), (2, (-1))])] [(0, .inr (.inr (.inl (some 17)))), (1, .inl (0, [(3, 1)])), (2, .inl (0, [(1, 1)]))] [] [(262, (0, []), (0, [(0, 1)])), (261, (0, []), (0, [(2, 1)])), (512, (0, [(1, 1)]), (40, []))] [] 6 [(72, ([], 4, [(0, 0, 1200), (1, 0, 1199), (2, 0, 1199), (3, 1, 255)], [], [(0, .inr (.inr (.inl (some 17)))), (2, .inl (0, [(1, 1)])), (3, .inl (40, []))], [.inl (40, []), .inl (0, [(2, 1)]), .inr (.inr (.inl (some 19)))], [(262, (0, []), (0, [(0, 1)])), (261, (0, []), (0, [(2, 1)]))]))] [] = true := by decide +kernel
theorem gtD2 {cst : am_K} {strs : List Nat} {Φ : am_Q → Prop} {D : Nat} {M : am_M} {h : am_H} {l : am_L} (c : hp_C cst strs D) (hM : m_P[71]? = some M) (hD : (6 : Int) ≤ (D : Int) + 1) (hy : ly_hy m_tt ly_TH h) (n i t w : Int) (b0 : 0 ≤ n) (t0 : n ≤ 1200) (b1 : 0 ≤ i) (t1 : i ≤ 1199) (b2 : 0 ≤ t) (t2 : t ≤ 1199) (b3 : 1 ≤ w) (t3 : w ≤ 255) (f0 : 0 ≤ (n - i - 1)) (f1 : 0 ≤ (i - t)) (k0 : ly_hv cst h 262 0 = some (n)) (k1 : ly_hv cst h 261 0 = some (t)) (k2 : ly_hv cst h 512 (i) = some 40) (l0 : hp_a l 0 17) (l1 : hp_i l 1 (w)) (l2 : hp_i l 2 (i)) (e0 : ∀ (l' : am_L) (h' : am_H) (y0 : Int32) (y1 : Int32), y0.toInt = 40 → y1.toInt = (t) → ly_hy m_tt ly_TH h' → ly_fr cst [] h h' → h.length ≤ h'.length → ly_hv cst h' 262 0 = some (n) → ly_hv cst h' 261 0 = some (t) → hp_a l' 0 17 → hp_i l' 2 (i) → hp_i l' 3 40 → hp_F cst strs Φ D M 72 l' [.int y0, .int y1, .ref 19] h') : hp_F cst strs Φ D M 17 l [] h := by
  refine hq_arc c hM gtD2_k hD [n, i, t, w] rfl hy (hp_Bc (z := n) rfl b0 t0 (hp_Bc (z := i) rfl b1 t1 (hp_Bc (z := t) rfl b2 t2 (hp_Bc (z := w) rfl b3 t3 hp_Bn)))) (hp_Fc (z := ((-1) + (1 * n + ((-1) * i + 0)))) rfl (by omega) (hp_Fc (z := (0 + (1 * i + ((-1) * t + 0)))) rfl (by omega) hp_Fn)) (hp_Kc (zi := (0 + 0)) (zv := (0 + (1 * n + 0))) k0 rfl rfl (by omega) (by omega) (hp_Kc (zi := (0 + 0)) (zv := (0 + (1 * t + 0))) k1 rfl rfl (by omega) (by omega) (hp_Kc (zi := (0 + (1 * i + 0))) (zv := (40 + 0)) k2 rfl rfl (by omega) (by omega) hp_Kn))) (hp_La l0 (hp_Li (z := (0 + (1 * w + 0))) l1 rfl (by omega) (hp_Li (z := (0 + (1 * i + 0))) l2 rfl (by omega) hp_Ln))) trivial ?_ ?_
  · intro p hp ys l' st' h' hys a1 a2 a3 gZ gL gS
    rcases List.mem_cons.mp hp with rfl | hp
    · obtain rfl := hp_y0 hys
      obtain ⟨y0, t0, rfl, q0, g0⟩ := hp_gSi (z := (40 + 0)) gS rfl
      obtain ⟨y1, t1, rfl, q1, g1⟩ := hp_gSi (z := (0 + (1 * t + 0))) g0 rfl
      obtain ⟨t2, rfl, g2⟩ := hp_gSa g1 (by decide)
      cases hp_gSn g2
      exact e0 l' h' y0 y1 (by omega) (by omega) a1 a2 a3 (hp_gK (zi := (0 + 0)) (zv := (0 + (1 * n + 0))) gZ.2.2.2 (List.mem_of_getElem? (i := 0) rfl) rfl rfl (by omega) (by omega)) (hp_gK (zi := (0 + 0)) (zv := (0 + (1 * t + 0))) gZ.2.2.2 (List.mem_of_getElem? (i := 1) rfl) rfl rfl (by omega) (by omega)) (hp_gLa gL (List.mem_of_getElem? (i := 0) rfl) (by decide)) (hp_gLi (z := (0 + (1 * i + 0))) gL (List.mem_of_getElem? (i := 1) rfl) rfl (by omega)) (hp_gLi (z := (40 + 0)) gL (List.mem_of_getElem? (i := 2) rfl) rfl (by omega))
    cases hp
  · intro p hp ys v h' hys a1 a2 a3 gZ gS
    cases hp
theorem gtD3_k : hq_chk [73, 75] 71 17 4 [(0, 0, 1200), (1, 0, 1199), (2, 0, 1199), (3, 1, 255)] [((-1), [(0, 1), (1, (-1))]), (0, [(1, 1), (2, (-1))])] [(0, .inr (.inr (.inl (some 17)))), (1, .inl (0, [(3, 1)])), (2, .inl (0, [(1, 1)]))] [] [(262, (0, []), (0, [(0, 1)])), (261, (0, []), (0, [(2, 1)])), (512, (0, [(1, 1)]), (41, []))] [] 6 [(72, ([], 4, [(0, 0, 1200), (1, 0, 1199), (2, 0, 1199), (3, 1, 255)], [], [(0, .inr (.inr (.inl (some 17)))), (2, .inl (0, [(1, 1)])), (3, .inl (41, []))], [.inl (41, []), .inl (0, [(2, 1)]), .inr (.inr (.inl (some 19)))], [(262, (0, []), (0, [(0, 1)])), (261, (0, []), (0, [(2, 1)]))]))] [] = true := by decide +kernel
theorem gtD3 {cst : am_K} {strs : List Nat} {Φ : am_Q → Prop} {D : Nat} {M : am_M} {h : am_H} {l : am_L} (c : hp_C cst strs D) (hM : m_P[71]? = some M) (hD : (6 : Int) ≤ (D : Int) + 1) (hy : ly_hy m_tt ly_TH h) (n i t w : Int) (b0 : 0 ≤ n) (t0 : n ≤ 1200) (b1 : 0 ≤ i) (t1 : i ≤ 1199) (b2 : 0 ≤ t) (t2 : t ≤ 1199) (b3 : 1 ≤ w) (t3 : w ≤ 255) (f0 : 0 ≤ (n - i - 1)) (f1 : 0 ≤ (i - t)) (k0 : ly_hv cst h 262 0 = some (n)) (k1 : ly_hv cst h 261 0 = some (t)) (k2 : ly_hv cst h 512 (i) = some 41) (l0 : hp_a l 0 17) (l1 : hp_i l 1 (w)) (l2 : hp_i l 2 (i)) (e0 : ∀ (l' : am_L) (h' : am_H) (y0 : Int32) (y1 : Int32), y0.toInt = 41 → y1.toInt = (t) → ly_hy m_tt ly_TH h' → ly_fr cst [] h h' → h.length ≤ h'.length → ly_hv cst h' 262 0 = some (n) → ly_hv cst h' 261 0 = some (t) → hp_a l' 0 17 → hp_i l' 2 (i) → hp_i l' 3 41 → hp_F cst strs Φ D M 72 l' [.int y0, .int y1, .ref 19] h') : hp_F cst strs Φ D M 17 l [] h := by
  refine hq_arc c hM gtD3_k hD [n, i, t, w] rfl hy (hp_Bc (z := n) rfl b0 t0 (hp_Bc (z := i) rfl b1 t1 (hp_Bc (z := t) rfl b2 t2 (hp_Bc (z := w) rfl b3 t3 hp_Bn)))) (hp_Fc (z := ((-1) + (1 * n + ((-1) * i + 0)))) rfl (by omega) (hp_Fc (z := (0 + (1 * i + ((-1) * t + 0)))) rfl (by omega) hp_Fn)) (hp_Kc (zi := (0 + 0)) (zv := (0 + (1 * n + 0))) k0 rfl rfl (by omega) (by omega) (hp_Kc (zi := (0 + 0)) (zv := (0 + (1 * t + 0))) k1 rfl rfl (by omega) (by omega) (hp_Kc (zi := (0 + (1 * i + 0))) (zv := (41 + 0)) k2 rfl rfl (by omega) (by omega) hp_Kn))) (hp_La l0 (hp_Li (z := (0 + (1 * w + 0))) l1 rfl (by omega) (hp_Li (z := (0 + (1 * i + 0))) l2 rfl (by omega) hp_Ln))) trivial ?_ ?_
  · intro p hp ys l' st' h' hys a1 a2 a3 gZ gL gS
    rcases List.mem_cons.mp hp with rfl | hp
    · obtain rfl := hp_y0 hys
      obtain ⟨y0, t0, rfl, q0, g0⟩ := hp_gSi (z := (41 + 0)) gS rfl
      obtain ⟨y1, t1, rfl, q1, g1⟩ := hp_gSi (z := (0 + (1 * t + 0))) g0 rfl
      obtain ⟨t2, rfl, g2⟩ := hp_gSa g1 (by decide)
      cases hp_gSn g2
      exact e0 l' h' y0 y1 (by omega) (by omega) a1 a2 a3 (hp_gK (zi := (0 + 0)) (zv := (0 + (1 * n + 0))) gZ.2.2.2 (List.mem_of_getElem? (i := 0) rfl) rfl rfl (by omega) (by omega)) (hp_gK (zi := (0 + 0)) (zv := (0 + (1 * t + 0))) gZ.2.2.2 (List.mem_of_getElem? (i := 1) rfl) rfl rfl (by omega) (by omega)) (hp_gLa gL (List.mem_of_getElem? (i := 0) rfl) (by decide)) (hp_gLi (z := (0 + (1 * i + 0))) gL (List.mem_of_getElem? (i := 1) rfl) rfl (by omega)) (hp_gLi (z := (41 + 0)) gL (List.mem_of_getElem? (i := 2) rfl) rfl (by omega))
    cases hp
  · intro p hp ys v h' hys a1 a2 a3 gZ gS
    cases hp
theorem gtD4_k : hq_chk [73, 75] 71 17 4 [(0, 0, 1200), (1, 0, 1199), (2, 0, 1199), (3, 1, 255)] [((-1), [(0, 1), (1, (-1))]), (0, [(1, 1), (2, (-1))])] [(0, .inr (.inr (.inl (some 17)))), (1, .inl (0, [(3, 1)])), (2, .inl (0, [(1, 1)]))] [] [(262, (0, []), (0, [(0, 1)])), (261, (0, []), (0, [(2, 1)])), (512, (0, [(1, 1)]), (43, []))] [] 6 [(72, ([], 4, [(0, 0, 1200), (1, 0, 1199), (2, 0, 1199), (3, 1, 255)], [], [(0, .inr (.inr (.inl (some 17)))), (2, .inl (0, [(1, 1)])), (3, .inl (43, []))], [.inl (43, []), .inl (0, [(2, 1)]), .inr (.inr (.inl (some 19)))], [(262, (0, []), (0, [(0, 1)])), (261, (0, []), (0, [(2, 1)]))]))] [] = true := by decide +kernel
theorem gtD4 {cst : am_K} {strs : List Nat} {Φ : am_Q → Prop} {D : Nat} {M : am_M} {h : am_H} {l : am_L} (c : hp_C cst strs D) (hM : m_P[71]? = some M) (hD : (6 : Int) ≤ (D : Int) + 1) (hy : ly_hy m_tt ly_TH h) (n i t w : Int) (b0 : 0 ≤ n) (t0 : n ≤ 1200) (b1 : 0 ≤ i) (t1 : i ≤ 1199) (b2 : 0 ≤ t) (t2 : t ≤ 1199) (b3 : 1 ≤ w) (t3 : w ≤ 255) (f0 : 0 ≤ (n - i - 1)) (f1 : 0 ≤ (i - t)) (k0 : ly_hv cst h 262 0 = some (n)) (k1 : ly_hv cst h 261 0 = some (t)) (k2 : ly_hv cst h 512 (i) = some 43) (l0 : hp_a l 0 17) (l1 : hp_i l 1 (w)) (l2 : hp_i l 2 (i)) (e0 : ∀ (l' : am_L) (h' : am_H) (y0 : Int32) (y1 : Int32), y0.toInt = 43 → y1.toInt = (t) → ly_hy m_tt ly_TH h' → ly_fr cst [] h h' → h.length ≤ h'.length → ly_hv cst h' 262 0 = some (n) → ly_hv cst h' 261 0 = some (t) → hp_a l' 0 17 → hp_i l' 2 (i) → hp_i l' 3 43 → hp_F cst strs Φ D M 72 l' [.int y0, .int y1, .ref 19] h') : hp_F cst strs Φ D M 17 l [] h := by
  refine hq_arc c hM gtD4_k hD [n, i, t, w] rfl hy (hp_Bc (z := n) rfl b0 t0 (hp_Bc (z := i) rfl b1 t1 (hp_Bc (z := t) rfl b2 t2 (hp_Bc (z := w) rfl b3 t3 hp_Bn)))) (hp_Fc (z := ((-1) + (1 * n + ((-1) * i + 0)))) rfl (by omega) (hp_Fc (z := (0 + (1 * i + ((-1) * t + 0)))) rfl (by omega) hp_Fn)) (hp_Kc (zi := (0 + 0)) (zv := (0 + (1 * n + 0))) k0 rfl rfl (by omega) (by omega) (hp_Kc (zi := (0 + 0)) (zv := (0 + (1 * t + 0))) k1 rfl rfl (by omega) (by omega) (hp_Kc (zi := (0 + (1 * i + 0))) (zv := (43 + 0)) k2 rfl rfl (by omega) (by omega) hp_Kn))) (hp_La l0 (hp_Li (z := (0 + (1 * w + 0))) l1 rfl (by omega) (hp_Li (z := (0 + (1 * i + 0))) l2 rfl (by omega) hp_Ln))) trivial ?_ ?_
  · intro p hp ys l' st' h' hys a1 a2 a3 gZ gL gS
    rcases List.mem_cons.mp hp with rfl | hp
    · obtain rfl := hp_y0 hys
      obtain ⟨y0, t0, rfl, q0, g0⟩ := hp_gSi (z := (43 + 0)) gS rfl
      obtain ⟨y1, t1, rfl, q1, g1⟩ := hp_gSi (z := (0 + (1 * t + 0))) g0 rfl
      obtain ⟨t2, rfl, g2⟩ := hp_gSa g1 (by decide)
      cases hp_gSn g2
      exact e0 l' h' y0 y1 (by omega) (by omega) a1 a2 a3 (hp_gK (zi := (0 + 0)) (zv := (0 + (1 * n + 0))) gZ.2.2.2 (List.mem_of_getElem? (i := 0) rfl) rfl rfl (by omega) (by omega)) (hp_gK (zi := (0 + 0)) (zv := (0 + (1 * t + 0))) gZ.2.2.2 (List.mem_of_getElem? (i := 1) rfl) rfl rfl (by omega) (by omega)) (hp_gLa gL (List.mem_of_getElem? (i := 0) rfl) (by decide)) (hp_gLi (z := (0 + (1 * i + 0))) gL (List.mem_of_getElem? (i := 1) rfl) rfl (by omega)) (hp_gLi (z := (43 + 0)) gL (List.mem_of_getElem? (i := 2) rfl) rfl (by omega))
    cases hp
  · intro p hp ys v h' hys a1 a2 a3 gZ gS
    cases hp
theorem gtE0_k : hq_chk [73, 75] 71 17 5 [(0, 0, 1200), (1, 0, 1199), (2, 0, 1199), (3, 0, 9), (4, 1, 255)] [((-1), [(0, 1), (1, (-1))]), (0, [(1, 1), (2, (-1))])] [(0, .inr (.inr (.inl (some 17)))), (1, .inl (0, [(4, 1)])), (2, .inl (0, [(1, 1)]))] [] [(262, (0, []), (0, [(0, 1)])), (261, (0, []), (0, [(2, 1)])), (512, (0, [(1, 1)]), (0, [(3, 1)]))] [] 6 [(72, ([], 5, [(0, 0, 1200), (1, 0, 1199), (2, 0, 1199), (3, 0, 9), (4, 1, 255)], [], [(0, .inr (.inr (.inl (some 17)))), (2, .inl (0, [(1, 1)])), (3, .inl (3, []))], [.inl (3, []), .inl (0, [(2, 1)]), .inr (.inr (.inl (some 19)))], [(262, (0, []), (0, [(0, 1)])), (261, (0, []), (0, [(2, 1)]))]))] [] = true := by decide +kernel
theorem gtE0 {cst : am_K} {strs : List Nat} {Φ : am_Q → Prop} {D : Nat} {M : am_M} {h : am_H} {l : am_L} (c : hp_C cst strs D) (hM : m_P[71]? = some M) (hD : (6 : Int) ≤ (D : Int) + 1) (hy : ly_hy m_tt ly_TH h) (n i t b w : Int) (b0 : 0 ≤ n) (t0 : n ≤ 1200) (b1 : 0 ≤ i) (t1 : i ≤ 1199) (b2 : 0 ≤ t) (t2 : t ≤ 1199) (b3 : 0 ≤ b) (t3 : b ≤ 9) (b4 : 1 ≤ w) (t4 : w ≤ 255) (f0 : 0 ≤ (n - i - 1)) (f1 : 0 ≤ (i - t)) (k0 : ly_hv cst h 262 0 = some (n)) (k1 : ly_hv cst h 261 0 = some (t)) (k2 : ly_hv cst h 512 (i) = some (b)) (l0 : hp_a l 0 17) (l1 : hp_i l 1 (w)) (l2 : hp_i l 2 (i)) (e0 : ∀ (l' : am_L) (h' : am_H) (y0 : Int32) (y1 : Int32), y0.toInt = 3 → y1.toInt = (t) → ly_hy m_tt ly_TH h' → ly_fr cst [] h h' → h.length ≤ h'.length → ly_hv cst h' 262 0 = some (n) → ly_hv cst h' 261 0 = some (t) → hp_a l' 0 17 → hp_i l' 2 (i) → hp_i l' 3 3 → hp_F cst strs Φ D M 72 l' [.int y0, .int y1, .ref 19] h') : hp_F cst strs Φ D M 17 l [] h := by
  refine hq_arc c hM gtE0_k hD [n, i, t, b, w] rfl hy (hp_Bc (z := n) rfl b0 t0 (hp_Bc (z := i) rfl b1 t1 (hp_Bc (z := t) rfl b2 t2 (hp_Bc (z := b) rfl b3 t3 (hp_Bc (z := w) rfl b4 t4 hp_Bn))))) (hp_Fc (z := ((-1) + (1 * n + ((-1) * i + 0)))) rfl (by omega) (hp_Fc (z := (0 + (1 * i + ((-1) * t + 0)))) rfl (by omega) hp_Fn)) (hp_Kc (zi := (0 + 0)) (zv := (0 + (1 * n + 0))) k0 rfl rfl (by omega) (by omega) (hp_Kc (zi := (0 + 0)) (zv := (0 + (1 * t + 0))) k1 rfl rfl (by omega) (by omega) (hp_Kc (zi := (0 + (1 * i + 0))) (zv := (0 + (1 * b + 0))) k2 rfl rfl (by omega) (by omega) hp_Kn))) (hp_La l0 (hp_Li (z := (0 + (1 * w + 0))) l1 rfl (by omega) (hp_Li (z := (0 + (1 * i + 0))) l2 rfl (by omega) hp_Ln))) trivial ?_ ?_
  · intro p hp ys l' st' h' hys a1 a2 a3 gZ gL gS
    rcases List.mem_cons.mp hp with rfl | hp
    · obtain rfl := hp_y0 hys
      obtain ⟨y0, t0, rfl, q0, g0⟩ := hp_gSi (z := (3 + 0)) gS rfl
      obtain ⟨y1, t1, rfl, q1, g1⟩ := hp_gSi (z := (0 + (1 * t + 0))) g0 rfl
      obtain ⟨t2, rfl, g2⟩ := hp_gSa g1 (by decide)
      cases hp_gSn g2
      exact e0 l' h' y0 y1 (by omega) (by omega) a1 a2 a3 (hp_gK (zi := (0 + 0)) (zv := (0 + (1 * n + 0))) gZ.2.2.2 (List.mem_of_getElem? (i := 0) rfl) rfl rfl (by omega) (by omega)) (hp_gK (zi := (0 + 0)) (zv := (0 + (1 * t + 0))) gZ.2.2.2 (List.mem_of_getElem? (i := 1) rfl) rfl rfl (by omega) (by omega)) (hp_gLa gL (List.mem_of_getElem? (i := 0) rfl) (by decide)) (hp_gLi (z := (0 + (1 * i + 0))) gL (List.mem_of_getElem? (i := 1) rfl) rfl (by omega)) (hp_gLi (z := (3 + 0)) gL (List.mem_of_getElem? (i := 2) rfl) rfl (by omega))
    cases hp
  · intro p hp ys v h' hys a1 a2 a3 gZ gS
    cases hp
theorem gtE1_k : hq_chk [73, 75] 71 17 5 [(0, 0, 1200), (1, 0, 1199), (2, 0, 1199), (3, 11, 31), (4, 1, 255)] [((-1), [(0, 1), (1, (-1))]), (0, [(1, 1), (2, (-1))])] [(0, .inr (.inr (.inl (some 17)))), (1, .inl (0, [(4, 1)])), (2, .inl (0, [(1, 1)]))] [] [(262, (0, []), (0, [(0, 1)])), (261, (0, []), (0, [(2, 1)])), (512, (0, [(1, 1)]), (0, [(3, 1)]))] [] 6 [(72, ([], 5, [(0, 0, 1200), (1, 0, 1199), (2, 0, 1199), (3, 11, 31), (4, 1, 255)], [], [(0, .inr (.inr (.inl (some 17)))), (2, .inl (0, [(1, 1)])), (3, .inl (3, []))], [.inl (3, []), .inl (0, [(2, 1)]), .inr (.inr (.inl (some 19)))], [(262, (0, []), (0, [(0, 1)])), (261, (0, []), (0, [(2, 1)]))]))] [] = true := by decide +kernel
theorem gtE1 {cst : am_K} {strs : List Nat} {Φ : am_Q → Prop} {D : Nat} {M : am_M} {h : am_H} {l : am_L} (c : hp_C cst strs D) (hM : m_P[71]? = some M) (hD : (6 : Int) ≤ (D : Int) + 1) (hy : ly_hy m_tt ly_TH h) (n i t b w : Int) (b0 : 0 ≤ n) (t0 : n ≤ 1200) (b1 : 0 ≤ i) (t1 : i ≤ 1199) (b2 : 0 ≤ t) (t2 : t ≤ 1199) (b3 : 11 ≤ b) (t3 : b ≤ 31) (b4 : 1 ≤ w) (t4 : w ≤ 255) (f0 : 0 ≤ (n - i - 1)) (f1 : 0 ≤ (i - t)) (k0 : ly_hv cst h 262 0 = some (n)) (k1 : ly_hv cst h 261 0 = some (t)) (k2 : ly_hv cst h 512 (i) = some (b)) (l0 : hp_a l 0 17) (l1 : hp_i l 1 (w)) (l2 : hp_i l 2 (i)) (e0 : ∀ (l' : am_L) (h' : am_H) (y0 : Int32) (y1 : Int32), y0.toInt = 3 → y1.toInt = (t) → ly_hy m_tt ly_TH h' → ly_fr cst [] h h' → h.length ≤ h'.length → ly_hv cst h' 262 0 = some (n) → ly_hv cst h' 261 0 = some (t) → hp_a l' 0 17 → hp_i l' 2 (i) → hp_i l' 3 3 → hp_F cst strs Φ D M 72 l' [.int y0, .int y1, .ref 19] h') : hp_F cst strs Φ D M 17 l [] h := by
  refine hq_arc c hM gtE1_k hD [n, i, t, b, w] rfl hy (hp_Bc (z := n) rfl b0 t0 (hp_Bc (z := i) rfl b1 t1 (hp_Bc (z := t) rfl b2 t2 (hp_Bc (z := b) rfl b3 t3 (hp_Bc (z := w) rfl b4 t4 hp_Bn))))) (hp_Fc (z := ((-1) + (1 * n + ((-1) * i + 0)))) rfl (by omega) (hp_Fc (z := (0 + (1 * i + ((-1) * t + 0)))) rfl (by omega) hp_Fn)) (hp_Kc (zi := (0 + 0)) (zv := (0 + (1 * n + 0))) k0 rfl rfl (by omega) (by omega) (hp_Kc (zi := (0 + 0)) (zv := (0 + (1 * t + 0))) k1 rfl rfl (by omega) (by omega) (hp_Kc (zi := (0 + (1 * i + 0))) (zv := (0 + (1 * b + 0))) k2 rfl rfl (by omega) (by omega) hp_Kn))) (hp_La l0 (hp_Li (z := (0 + (1 * w + 0))) l1 rfl (by omega) (hp_Li (z := (0 + (1 * i + 0))) l2 rfl (by omega) hp_Ln))) trivial ?_ ?_
  · intro p hp ys l' st' h' hys a1 a2 a3 gZ gL gS
    rcases List.mem_cons.mp hp with rfl | hp
    · obtain rfl := hp_y0 hys
      obtain ⟨y0, t0, rfl, q0, g0⟩ := hp_gSi (z := (3 + 0)) gS rfl
      obtain ⟨y1, t1, rfl, q1, g1⟩ := hp_gSi (z := (0 + (1 * t + 0))) g0 rfl
      obtain ⟨t2, rfl, g2⟩ := hp_gSa g1 (by decide)
      cases hp_gSn g2
      exact e0 l' h' y0 y1 (by omega) (by omega) a1 a2 a3 (hp_gK (zi := (0 + 0)) (zv := (0 + (1 * n + 0))) gZ.2.2.2 (List.mem_of_getElem? (i := 0) rfl) rfl rfl (by omega) (by omega)) (hp_gK (zi := (0 + 0)) (zv := (0 + (1 * t + 0))) gZ.2.2.2 (List.mem_of_getElem? (i := 1) rfl) rfl rfl (by omega) (by omega)) (hp_gLa gL (List.mem_of_getElem? (i := 0) rfl) (by decide)) (hp_gLi (z := (0 + (1 * i + 0))) gL (List.mem_of_getElem? (i := 1) rfl) rfl (by omega)) (hp_gLi (z := (3 + 0)) gL (List.mem_of_getElem? (i := 2) rfl) rfl (by omega))
    cases hp
  · intro p hp ys v h' hys a1 a2 a3 gZ gS
    cases hp
theorem gtE2_k : hq_chk [73, 75] 71 17 5 [(0, 0, 1200), (1, 0, 1199), (2, 0, 1199), (3, 33, 39), (4, 1, 255)] [((-1), [(0, 1), (1, (-1))]), (0, [(1, 1), (2, (-1))])] [(0, .inr (.inr (.inl (some 17)))), (1, .inl (0, [(4, 1)])), (2, .inl (0, [(1, 1)]))] [] [(262, (0, []), (0, [(0, 1)])), (261, (0, []), (0, [(2, 1)])), (512, (0, [(1, 1)]), (0, [(3, 1)]))] [] 6 [(72, ([], 5, [(0, 0, 1200), (1, 0, 1199), (2, 0, 1199), (3, 33, 39), (4, 1, 255)], [], [(0, .inr (.inr (.inl (some 17)))), (2, .inl (0, [(1, 1)])), (3, .inl (3, []))], [.inl (3, []), .inl (0, [(2, 1)]), .inr (.inr (.inl (some 19)))], [(262, (0, []), (0, [(0, 1)])), (261, (0, []), (0, [(2, 1)]))]))] [] = true := by decide +kernel
theorem gtE2 {cst : am_K} {strs : List Nat} {Φ : am_Q → Prop} {D : Nat} {M : am_M} {h : am_H} {l : am_L} (c : hp_C cst strs D) (hM : m_P[71]? = some M) (hD : (6 : Int) ≤ (D : Int) + 1) (hy : ly_hy m_tt ly_TH h) (n i t b w : Int) (b0 : 0 ≤ n) (t0 : n ≤ 1200) (b1 : 0 ≤ i) (t1 : i ≤ 1199) (b2 : 0 ≤ t) (t2 : t ≤ 1199) (b3 : 33 ≤ b) (t3 : b ≤ 39) (b4 : 1 ≤ w) (t4 : w ≤ 255) (f0 : 0 ≤ (n - i - 1)) (f1 : 0 ≤ (i - t)) (k0 : ly_hv cst h 262 0 = some (n)) (k1 : ly_hv cst h 261 0 = some (t)) (k2 : ly_hv cst h 512 (i) = some (b)) (l0 : hp_a l 0 17) (l1 : hp_i l 1 (w)) (l2 : hp_i l 2 (i)) (e0 : ∀ (l' : am_L) (h' : am_H) (y0 : Int32) (y1 : Int32), y0.toInt = 3 → y1.toInt = (t) → ly_hy m_tt ly_TH h' → ly_fr cst [] h h' → h.length ≤ h'.length → ly_hv cst h' 262 0 = some (n) → ly_hv cst h' 261 0 = some (t) → hp_a l' 0 17 → hp_i l' 2 (i) → hp_i l' 3 3 → hp_F cst strs Φ D M 72 l' [.int y0, .int y1, .ref 19] h') : hp_F cst strs Φ D M 17 l [] h := by
  refine hq_arc c hM gtE2_k hD [n, i, t, b, w] rfl hy (hp_Bc (z := n) rfl b0 t0 (hp_Bc (z := i) rfl b1 t1 (hp_Bc (z := t) rfl b2 t2 (hp_Bc (z := b) rfl b3 t3 (hp_Bc (z := w) rfl b4 t4 hp_Bn))))) (hp_Fc (z := ((-1) + (1 * n + ((-1) * i + 0)))) rfl (by omega) (hp_Fc (z := (0 + (1 * i + ((-1) * t + 0)))) rfl (by omega) hp_Fn)) (hp_Kc (zi := (0 + 0)) (zv := (0 + (1 * n + 0))) k0 rfl rfl (by omega) (by omega) (hp_Kc (zi := (0 + 0)) (zv := (0 + (1 * t + 0))) k1 rfl rfl (by omega) (by omega) (hp_Kc (zi := (0 + (1 * i + 0))) (zv := (0 + (1 * b + 0))) k2 rfl rfl (by omega) (by omega) hp_Kn))) (hp_La l0 (hp_Li (z := (0 + (1 * w + 0))) l1 rfl (by omega) (hp_Li (z := (0 + (1 * i + 0))) l2 rfl (by omega) hp_Ln))) trivial ?_ ?_
  · intro p hp ys l' st' h' hys a1 a2 a3 gZ gL gS
    rcases List.mem_cons.mp hp with rfl | hp
    · obtain rfl := hp_y0 hys
      obtain ⟨y0, t0, rfl, q0, g0⟩ := hp_gSi (z := (3 + 0)) gS rfl
      obtain ⟨y1, t1, rfl, q1, g1⟩ := hp_gSi (z := (0 + (1 * t + 0))) g0 rfl
      obtain ⟨t2, rfl, g2⟩ := hp_gSa g1 (by decide)
      cases hp_gSn g2
      exact e0 l' h' y0 y1 (by omega) (by omega) a1 a2 a3 (hp_gK (zi := (0 + 0)) (zv := (0 + (1 * n + 0))) gZ.2.2.2 (List.mem_of_getElem? (i := 0) rfl) rfl rfl (by omega) (by omega)) (hp_gK (zi := (0 + 0)) (zv := (0 + (1 * t + 0))) gZ.2.2.2 (List.mem_of_getElem? (i := 1) rfl) rfl rfl (by omega) (by omega)) (hp_gLa gL (List.mem_of_getElem? (i := 0) rfl) (by decide)) (hp_gLi (z := (0 + (1 * i + 0))) gL (List.mem_of_getElem? (i := 1) rfl) rfl (by omega)) (hp_gLi (z := (3 + 0)) gL (List.mem_of_getElem? (i := 2) rfl) rfl (by omega))
    cases hp
  · intro p hp ys v h' hys a1 a2 a3 gZ gS
    cases hp
theorem gtE3_k : hq_chk [73, 75] 71 17 5 [(0, 0, 1200), (1, 0, 1199), (2, 0, 1199), (3, 42, 42), (4, 1, 255)] [((-1), [(0, 1), (1, (-1))]), (0, [(1, 1), (2, (-1))])] [(0, .inr (.inr (.inl (some 17)))), (1, .inl (0, [(4, 1)])), (2, .inl (0, [(1, 1)]))] [] [(262, (0, []), (0, [(0, 1)])), (261, (0, []), (0, [(2, 1)])), (512, (0, [(1, 1)]), (0, [(3, 1)]))] [] 6 [(72, ([], 5, [(0, 0, 1200), (1, 0, 1199), (2, 0, 1199), (3, 42, 42), (4, 1, 255)], [], [(0, .inr (.inr (.inl (some 17)))), (2, .inl (0, [(1, 1)])), (3, .inl (3, []))], [.inl (3, []), .inl (0, [(2, 1)]), .inr (.inr (.inl (some 19)))], [(262, (0, []), (0, [(0, 1)])), (261, (0, []), (0, [(2, 1)]))]))] [] = true := by decide +kernel
theorem gtE3 {cst : am_K} {strs : List Nat} {Φ : am_Q → Prop} {D : Nat} {M : am_M} {h : am_H} {l : am_L} (c : hp_C cst strs D) (hM : m_P[71]? = some M) (hD : (6 : Int) ≤ (D : Int) + 1) (hy : ly_hy m_tt ly_TH h) (n i t b w : Int) (b0 : 0 ≤ n) (t0 : n ≤ 1200) (b1 : 0 ≤ i) (t1 : i ≤ 1199) (b2 : 0 ≤ t) (t2 : t ≤ 1199) (b3 : 42 ≤ b) (t3 : b ≤ 42) (b4 : 1 ≤ w) (t4 : w ≤ 255) (f0 : 0 ≤ (n - i - 1)) (f1 : 0 ≤ (i - t)) (k0 : ly_hv cst h 262 0 = some (n)) (k1 : ly_hv cst h 261 0 = some (t)) (k2 : ly_hv cst h 512 (i) = some (b)) (l0 : hp_a l 0 17) (l1 : hp_i l 1 (w)) (l2 : hp_i l 2 (i)) (e0 : ∀ (l' : am_L) (h' : am_H) (y0 : Int32) (y1 : Int32), y0.toInt = 3 → y1.toInt = (t) → ly_hy m_tt ly_TH h' → ly_fr cst [] h h' → h.length ≤ h'.length → ly_hv cst h' 262 0 = some (n) → ly_hv cst h' 261 0 = some (t) → hp_a l' 0 17 → hp_i l' 2 (i) → hp_i l' 3 3 → hp_F cst strs Φ D M 72 l' [.int y0, .int y1, .ref 19] h') : hp_F cst strs Φ D M 17 l [] h := by
  refine hq_arc c hM gtE3_k hD [n, i, t, b, w] rfl hy (hp_Bc (z := n) rfl b0 t0 (hp_Bc (z := i) rfl b1 t1 (hp_Bc (z := t) rfl b2 t2 (hp_Bc (z := b) rfl b3 t3 (hp_Bc (z := w) rfl b4 t4 hp_Bn))))) (hp_Fc (z := ((-1) + (1 * n + ((-1) * i + 0)))) rfl (by omega) (hp_Fc (z := (0 + (1 * i + ((-1) * t + 0)))) rfl (by omega) hp_Fn)) (hp_Kc (zi := (0 + 0)) (zv := (0 + (1 * n + 0))) k0 rfl rfl (by omega) (by omega) (hp_Kc (zi := (0 + 0)) (zv := (0 + (1 * t + 0))) k1 rfl rfl (by omega) (by omega) (hp_Kc (zi := (0 + (1 * i + 0))) (zv := (0 + (1 * b + 0))) k2 rfl rfl (by omega) (by omega) hp_Kn))) (hp_La l0 (hp_Li (z := (0 + (1 * w + 0))) l1 rfl (by omega) (hp_Li (z := (0 + (1 * i + 0))) l2 rfl (by omega) hp_Ln))) trivial ?_ ?_
  · intro p hp ys l' st' h' hys a1 a2 a3 gZ gL gS
    rcases List.mem_cons.mp hp with rfl | hp
    · obtain rfl := hp_y0 hys
      obtain ⟨y0, t0, rfl, q0, g0⟩ := hp_gSi (z := (3 + 0)) gS rfl
      obtain ⟨y1, t1, rfl, q1, g1⟩ := hp_gSi (z := (0 + (1 * t + 0))) g0 rfl
      obtain ⟨t2, rfl, g2⟩ := hp_gSa g1 (by decide)
      cases hp_gSn g2
      exact e0 l' h' y0 y1 (by omega) (by omega) a1 a2 a3 (hp_gK (zi := (0 + 0)) (zv := (0 + (1 * n + 0))) gZ.2.2.2 (List.mem_of_getElem? (i := 0) rfl) rfl rfl (by omega) (by omega)) (hp_gK (zi := (0 + 0)) (zv := (0 + (1 * t + 0))) gZ.2.2.2 (List.mem_of_getElem? (i := 1) rfl) rfl rfl (by omega) (by omega)) (hp_gLa gL (List.mem_of_getElem? (i := 0) rfl) (by decide)) (hp_gLi (z := (0 + (1 * i + 0))) gL (List.mem_of_getElem? (i := 1) rfl) rfl (by omega)) (hp_gLi (z := (3 + 0)) gL (List.mem_of_getElem? (i := 2) rfl) rfl (by omega))
    cases hp
  · intro p hp ys v h' hys a1 a2 a3 gZ gS
    cases hp
theorem gtE4_k : hq_chk [73, 75] 71 17 5 [(0, 0, 1200), (1, 0, 1199), (2, 0, 1199), (3, 44, 47), (4, 1, 255)] [((-1), [(0, 1), (1, (-1))]), (0, [(1, 1), (2, (-1))])] [(0, .inr (.inr (.inl (some 17)))), (1, .inl (0, [(4, 1)])), (2, .inl (0, [(1, 1)]))] [] [(262, (0, []), (0, [(0, 1)])), (261, (0, []), (0, [(2, 1)])), (512, (0, [(1, 1)]), (0, [(3, 1)]))] [] 6 [(72, ([], 5, [(0, 0, 1200), (1, 0, 1199), (2, 0, 1199), (3, 44, 47), (4, 1, 255)], [], [(0, .inr (.inr (.inl (some 17)))), (2, .inl (0, [(1, 1)])), (3, .inl (3, []))], [.inl (3, []), .inl (0, [(2, 1)]), .inr (.inr (.inl (some 19)))], [(262, (0, []), (0, [(0, 1)])), (261, (0, []), (0, [(2, 1)]))]))] [] = true := by decide +kernel
theorem gtE4 {cst : am_K} {strs : List Nat} {Φ : am_Q → Prop} {D : Nat} {M : am_M} {h : am_H} {l : am_L} (c : hp_C cst strs D) (hM : m_P[71]? = some M) (hD : (6 : Int) ≤ (D : Int) + 1) (hy : ly_hy m_tt ly_TH h) (n i t b w : Int) (b0 : 0 ≤ n) (t0 : n ≤ 1200) (b1 : 0 ≤ i) (t1 : i ≤ 1199) (b2 : 0 ≤ t) (t2 : t ≤ 1199) (b3 : 44 ≤ b) (t3 : b ≤ 47) (b4 : 1 ≤ w) (t4 : w ≤ 255) (f0 : 0 ≤ (n - i - 1)) (f1 : 0 ≤ (i - t)) (k0 : ly_hv cst h 262 0 = some (n)) (k1 : ly_hv cst h 261 0 = some (t)) (k2 : ly_hv cst h 512 (i) = some (b)) (l0 : hp_a l 0 17) (l1 : hp_i l 1 (w)) (l2 : hp_i l 2 (i)) (e0 : ∀ (l' : am_L) (h' : am_H) (y0 : Int32) (y1 : Int32), y0.toInt = 3 → y1.toInt = (t) → ly_hy m_tt ly_TH h' → ly_fr cst [] h h' → h.length ≤ h'.length → ly_hv cst h' 262 0 = some (n) → ly_hv cst h' 261 0 = some (t) → hp_a l' 0 17 → hp_i l' 2 (i) → hp_i l' 3 3 → hp_F cst strs Φ D M 72 l' [.int y0, .int y1, .ref 19] h') : hp_F cst strs Φ D M 17 l [] h := by
  refine hq_arc c hM gtE4_k hD [n, i, t, b, w] rfl hy (hp_Bc (z := n) rfl b0 t0 (hp_Bc (z := i) rfl b1 t1 (hp_Bc (z := t) rfl b2 t2 (hp_Bc (z := b) rfl b3 t3 (hp_Bc (z := w) rfl b4 t4 hp_Bn))))) (hp_Fc (z := ((-1) + (1 * n + ((-1) * i + 0)))) rfl (by omega) (hp_Fc (z := (0 + (1 * i + ((-1) * t + 0)))) rfl (by omega) hp_Fn)) (hp_Kc (zi := (0 + 0)) (zv := (0 + (1 * n + 0))) k0 rfl rfl (by omega) (by omega) (hp_Kc (zi := (0 + 0)) (zv := (0 + (1 * t + 0))) k1 rfl rfl (by omega) (by omega) (hp_Kc (zi := (0 + (1 * i + 0))) (zv := (0 + (1 * b + 0))) k2 rfl rfl (by omega) (by omega) hp_Kn))) (hp_La l0 (hp_Li (z := (0 + (1 * w + 0))) l1 rfl (by omega) (hp_Li (z := (0 + (1 * i + 0))) l2 rfl (by omega) hp_Ln))) trivial ?_ ?_
  · intro p hp ys l' st' h' hys a1 a2 a3 gZ gL gS
    rcases List.mem_cons.mp hp with rfl | hp
    · obtain rfl := hp_y0 hys
      obtain ⟨y0, t0, rfl, q0, g0⟩ := hp_gSi (z := (3 + 0)) gS rfl
      obtain ⟨y1, t1, rfl, q1, g1⟩ := hp_gSi (z := (0 + (1 * t + 0))) g0 rfl
      obtain ⟨t2, rfl, g2⟩ := hp_gSa g1 (by decide)
      cases hp_gSn g2
      exact e0 l' h' y0 y1 (by omega) (by omega) a1 a2 a3 (hp_gK (zi := (0 + 0)) (zv := (0 + (1 * n + 0))) gZ.2.2.2 (List.mem_of_getElem? (i := 0) rfl) rfl rfl (by omega) (by omega)) (hp_gK (zi := (0 + 0)) (zv := (0 + (1 * t + 0))) gZ.2.2.2 (List.mem_of_getElem? (i := 1) rfl) rfl rfl (by omega) (by omega)) (hp_gLa gL (List.mem_of_getElem? (i := 0) rfl) (by decide)) (hp_gLi (z := (0 + (1 * i + 0))) gL (List.mem_of_getElem? (i := 1) rfl) rfl (by omega)) (hp_gLi (z := (3 + 0)) gL (List.mem_of_getElem? (i := 2) rfl) rfl (by omega))
    cases hp
  · intro p hp ys v h' hys a1 a2 a3 gZ gS
    cases hp
theorem gtE5_k : hq_chk [73, 75] 71 17 5 [(0, 0, 1200), (1, 0, 1199), (2, 0, 1199), (3, 58, 58), (4, 1, 255)] [((-1), [(0, 1), (1, (-1))]), (0, [(1, 1), (2, (-1))])] [(0, .inr (.inr (.inl (some 17)))), (1, .inl (0, [(4, 1)])), (2, .inl (0, [(1, 1)]))] [] [(262, (0, []), (0, [(0, 1)])), (261, (0, []), (0, [(2, 1)])), (512, (0, [(1, 1)]), (0, [(3, 1)]))] [] 6 [(72, ([], 5, [(0, 0, 1200), (1, 0, 1199), (2, 0, 1199), (3, 58, 58), (4, 1, 255)], [], [(0, .inr (.inr (.inl (some 17)))), (2, .inl (0, [(1, 1)])), (3, .inl (3, []))], [.inl (3, []), .inl (0, [(2, 1)]), .inr (.inr (.inl (some 19)))], [(262, (0, []), (0, [(0, 1)])), (261, (0, []), (0, [(2, 1)]))]))] [] = true := by decide +kernel
theorem gtE5 {cst : am_K} {strs : List Nat} {Φ : am_Q → Prop} {D : Nat} {M : am_M} {h : am_H} {l : am_L} (c : hp_C cst strs D) (hM : m_P[71]? = some M) (hD : (6 : Int) ≤ (D : Int) + 1) (hy : ly_hy m_tt ly_TH h) (n i t b w : Int) (b0 : 0 ≤ n) (t0 : n ≤ 1200) (b1 : 0 ≤ i) (t1 : i ≤ 1199) (b2 : 0 ≤ t) (t2 : t ≤ 1199) (b3 : 58 ≤ b) (t3 : b ≤ 58) (b4 : 1 ≤ w) (t4 : w ≤ 255) (f0 : 0 ≤ (n - i - 1)) (f1 : 0 ≤ (i - t)) (k0 : ly_hv cst h 262 0 = some (n)) (k1 : ly_hv cst h 261 0 = some (t)) (k2 : ly_hv cst h 512 (i) = some (b)) (l0 : hp_a l 0 17) (l1 : hp_i l 1 (w)) (l2 : hp_i l 2 (i)) (e0 : ∀ (l' : am_L) (h' : am_H) (y0 : Int32) (y1 : Int32), y0.toInt = 3 → y1.toInt = (t) → ly_hy m_tt ly_TH h' → ly_fr cst [] h h' → h.length ≤ h'.length → ly_hv cst h' 262 0 = some (n) → ly_hv cst h' 261 0 = some (t) → hp_a l' 0 17 → hp_i l' 2 (i) → hp_i l' 3 3 → hp_F cst strs Φ D M 72 l' [.int y0, .int y1, .ref 19] h') : hp_F cst strs Φ D M 17 l [] h := by
  refine hq_arc c hM gtE5_k hD [n, i, t, b, w] rfl hy (hp_Bc (z := n) rfl b0 t0 (hp_Bc (z := i) rfl b1 t1 (hp_Bc (z := t) rfl b2 t2 (hp_Bc (z := b) rfl b3 t3 (hp_Bc (z := w) rfl b4 t4 hp_Bn))))) (hp_Fc (z := ((-1) + (1 * n + ((-1) * i + 0)))) rfl (by omega) (hp_Fc (z := (0 + (1 * i + ((-1) * t + 0)))) rfl (by omega) hp_Fn)) (hp_Kc (zi := (0 + 0)) (zv := (0 + (1 * n + 0))) k0 rfl rfl (by omega) (by omega) (hp_Kc (zi := (0 + 0)) (zv := (0 + (1 * t + 0))) k1 rfl rfl (by omega) (by omega) (hp_Kc (zi := (0 + (1 * i + 0))) (zv := (0 + (1 * b + 0))) k2 rfl rfl (by omega) (by omega) hp_Kn))) (hp_La l0 (hp_Li (z := (0 + (1 * w + 0))) l1 rfl (by omega) (hp_Li (z := (0 + (1 * i + 0))) l2 rfl (by omega) hp_Ln))) trivial ?_ ?_
  · intro p hp ys l' st' h' hys a1 a2 a3 gZ gL gS
    rcases List.mem_cons.mp hp with rfl | hp
    · obtain rfl := hp_y0 hys
      obtain ⟨y0, t0, rfl, q0, g0⟩ := hp_gSi (z := (3 + 0)) gS rfl
      obtain ⟨y1, t1, rfl, q1, g1⟩ := hp_gSi (z := (0 + (1 * t + 0))) g0 rfl
      obtain ⟨t2, rfl, g2⟩ := hp_gSa g1 (by decide)
      cases hp_gSn g2
      exact e0 l' h' y0 y1 (by omega) (by omega) a1 a2 a3 (hp_gK (zi := (0 + 0)) (zv := (0 + (1 * n + 0))) gZ.2.2.2 (List.mem_of_getElem? (i := 0) rfl) rfl rfl (by omega) (by omega)) (hp_gK (zi := (0 + 0)) (zv := (0 + (1 * t + 0))) gZ.2.2.2 (List.mem_of_getElem? (i := 1) rfl) rfl rfl (by omega) (by omega)) (hp_gLa gL (List.mem_of_getElem? (i := 0) rfl) (by decide)) (hp_gLi (z := (0 + (1 * i + 0))) gL (List.mem_of_getElem? (i := 1) rfl) rfl (by omega)) (hp_gLi (z := (3 + 0)) gL (List.mem_of_getElem? (i := 2) rfl) rfl (by omega))
    cases hp
  · intro p hp ys v h' hys a1 a2 a3 gZ gS
    cases hp
theorem gtE6_k : hq_chk [73, 75] 71 17 5 [(0, 0, 1200), (1, 0, 1199), (2, 0, 1199), (3, 60, 60), (4, 1, 255)] [((-1), [(0, 1), (1, (-1))]), (0, [(1, 1), (2, (-1))])] [(0, .inr (.inr (.inl (some 17)))), (1, .inl (0, [(4, 1)])), (2, .inl (0, [(1, 1)]))] [] [(262, (0, []), (0, [(0, 1)])), (261, (0, []), (0, [(2, 1)])), (512, (0, [(1, 1)]), (0, [(3, 1)]))] [] 6 [(72, ([], 5, [(0, 0, 1200), (1, 0, 1199), (2, 0, 1199), (3, 60, 60), (4, 1, 255)], [], [(0, .inr (.inr (.inl (some 17)))), (2, .inl (0, [(1, 1)])), (3, .inl (3, []))], [.inl (3, []), .inl (0, [(2, 1)]), .inr (.inr (.inl (some 19)))], [(262, (0, []), (0, [(0, 1)])), (261, (0, []), (0, [(2, 1)]))]))] [] = true := by decide +kernel
theorem gtE6 {cst : am_K} {strs : List Nat} {Φ : am_Q → Prop} {D : Nat} {M : am_M} {h : am_H} {l : am_L} (c : hp_C cst strs D) (hM : m_P[71]? = some M) (hD : (6 : Int) ≤ (D : Int) + 1) (hy : ly_hy m_tt ly_TH h) (n i t b w : Int) (b0 : 0 ≤ n) (t0 : n ≤ 1200) (b1 : 0 ≤ i) (t1 : i ≤ 1199) (b2 : 0 ≤ t) (t2 : t ≤ 1199) (b3 : 60 ≤ b) (t3 : b ≤ 60) (b4 : 1 ≤ w) (t4 : w ≤ 255) (f0 : 0 ≤ (n - i - 1)) (f1 : 0 ≤ (i - t)) (k0 : ly_hv cst h 262 0 = some (n)) (k1 : ly_hv cst h 261 0 = some (t)) (k2 : ly_hv cst h 512 (i) = some (b)) (l0 : hp_a l 0 17) (l1 : hp_i l 1 (w)) (l2 : hp_i l 2 (i)) (e0 : ∀ (l' : am_L) (h' : am_H) (y0 : Int32) (y1 : Int32), y0.toInt = 3 → y1.toInt = (t) → ly_hy m_tt ly_TH h' → ly_fr cst [] h h' → h.length ≤ h'.length → ly_hv cst h' 262 0 = some (n) → ly_hv cst h' 261 0 = some (t) → hp_a l' 0 17 → hp_i l' 2 (i) → hp_i l' 3 3 → hp_F cst strs Φ D M 72 l' [.int y0, .int y1, .ref 19] h') : hp_F cst strs Φ D M 17 l [] h := by
  refine hq_arc c hM gtE6_k hD [n, i, t, b, w] rfl hy (hp_Bc (z := n) rfl b0 t0 (hp_Bc (z := i) rfl b1 t1 (hp_Bc (z := t) rfl b2 t2 (hp_Bc (z := b) rfl b3 t3 (hp_Bc (z := w) rfl b4 t4 hp_Bn))))) (hp_Fc (z := ((-1) + (1 * n + ((-1) * i + 0)))) rfl (by omega) (hp_Fc (z := (0 + (1 * i + ((-1) * t + 0)))) rfl (by omega) hp_Fn)) (hp_Kc (zi := (0 + 0)) (zv := (0 + (1 * n + 0))) k0 rfl rfl (by omega) (by omega) (hp_Kc (zi := (0 + 0)) (zv := (0 + (1 * t + 0))) k1 rfl rfl (by omega) (by omega) (hp_Kc (zi := (0 + (1 * i + 0))) (zv := (0 + (1 * b + 0))) k2 rfl rfl (by omega) (by omega) hp_Kn))) (hp_La l0 (hp_Li (z := (0 + (1 * w + 0))) l1 rfl (by omega) (hp_Li (z := (0 + (1 * i + 0))) l2 rfl (by omega) hp_Ln))) trivial ?_ ?_
  · intro p hp ys l' st' h' hys a1 a2 a3 gZ gL gS
    rcases List.mem_cons.mp hp with rfl | hp
    · obtain rfl := hp_y0 hys
      obtain ⟨y0, t0, rfl, q0, g0⟩ := hp_gSi (z := (3 + 0)) gS rfl
      obtain ⟨y1, t1, rfl, q1, g1⟩ := hp_gSi (z := (0 + (1 * t + 0))) g0 rfl
      obtain ⟨t2, rfl, g2⟩ := hp_gSa g1 (by decide)
      cases hp_gSn g2
      exact e0 l' h' y0 y1 (by omega) (by omega) a1 a2 a3 (hp_gK (zi := (0 + 0)) (zv := (0 + (1 * n + 0))) gZ.2.2.2 (List.mem_of_getElem? (i := 0) rfl) rfl rfl (by omega) (by omega)) (hp_gK (zi := (0 + 0)) (zv := (0 + (1 * t + 0))) gZ.2.2.2 (List.mem_of_getElem? (i := 1) rfl) rfl rfl (by omega) (by omega)) (hp_gLa gL (List.mem_of_getElem? (i := 0) rfl) (by decide)) (hp_gLi (z := (0 + (1 * i + 0))) gL (List.mem_of_getElem? (i := 1) rfl) rfl (by omega)) (hp_gLi (z := (3 + 0)) gL (List.mem_of_getElem? (i := 2) rfl) rfl (by omega))
    cases hp
  · intro p hp ys v h' hys a1 a2 a3 gZ gS
    cases hp
theorem gtE7_k : hq_chk [73, 75] 71 17 5 [(0, 0, 1200), (1, 0, 1199), (2, 0, 1199), (3, 62, 96), (4, 1, 255)] [((-1), [(0, 1), (1, (-1))]), (0, [(1, 1), (2, (-1))])] [(0, .inr (.inr (.inl (some 17)))), (1, .inl (0, [(4, 1)])), (2, .inl (0, [(1, 1)]))] [] [(262, (0, []), (0, [(0, 1)])), (261, (0, []), (0, [(2, 1)])), (512, (0, [(1, 1)]), (0, [(3, 1)]))] [] 6 [(72, ([], 5, [(0, 0, 1200), (1, 0, 1199), (2, 0, 1199), (3, 62, 96), (4, 1, 255)], [], [(0, .inr (.inr (.inl (some 17)))), (2, .inl (0, [(1, 1)])), (3, .inl (3, []))], [.inl (3, []), .inl (0, [(2, 1)]), .inr (.inr (.inl (some 19)))], [(262, (0, []), (0, [(0, 1)])), (261, (0, []), (0, [(2, 1)]))]))] [] = true := by decide +kernel
theorem gtE7 {cst : am_K} {strs : List Nat} {Φ : am_Q → Prop} {D : Nat} {M : am_M} {h : am_H} {l : am_L} (c : hp_C cst strs D) (hM : m_P[71]? = some M) (hD : (6 : Int) ≤ (D : Int) + 1) (hy : ly_hy m_tt ly_TH h) (n i t b w : Int) (b0 : 0 ≤ n) (t0 : n ≤ 1200) (b1 : 0 ≤ i) (t1 : i ≤ 1199) (b2 : 0 ≤ t) (t2 : t ≤ 1199) (b3 : 62 ≤ b) (t3 : b ≤ 96) (b4 : 1 ≤ w) (t4 : w ≤ 255) (f0 : 0 ≤ (n - i - 1)) (f1 : 0 ≤ (i - t)) (k0 : ly_hv cst h 262 0 = some (n)) (k1 : ly_hv cst h 261 0 = some (t)) (k2 : ly_hv cst h 512 (i) = some (b)) (l0 : hp_a l 0 17) (l1 : hp_i l 1 (w)) (l2 : hp_i l 2 (i)) (e0 : ∀ (l' : am_L) (h' : am_H) (y0 : Int32) (y1 : Int32), y0.toInt = 3 → y1.toInt = (t) → ly_hy m_tt ly_TH h' → ly_fr cst [] h h' → h.length ≤ h'.length → ly_hv cst h' 262 0 = some (n) → ly_hv cst h' 261 0 = some (t) → hp_a l' 0 17 → hp_i l' 2 (i) → hp_i l' 3 3 → hp_F cst strs Φ D M 72 l' [.int y0, .int y1, .ref 19] h') : hp_F cst strs Φ D M 17 l [] h := by
  refine hq_arc c hM gtE7_k hD [n, i, t, b, w] rfl hy (hp_Bc (z := n) rfl b0 t0 (hp_Bc (z := i) rfl b1 t1 (hp_Bc (z := t) rfl b2 t2 (hp_Bc (z := b) rfl b3 t3 (hp_Bc (z := w) rfl b4 t4 hp_Bn))))) (hp_Fc (z := ((-1) + (1 * n + ((-1) * i + 0)))) rfl (by omega) (hp_Fc (z := (0 + (1 * i + ((-1) * t + 0)))) rfl (by omega) hp_Fn)) (hp_Kc (zi := (0 + 0)) (zv := (0 + (1 * n + 0))) k0 rfl rfl (by omega) (by omega) (hp_Kc (zi := (0 + 0)) (zv := (0 + (1 * t + 0))) k1 rfl rfl (by omega) (by omega) (hp_Kc (zi := (0 + (1 * i + 0))) (zv := (0 + (1 * b + 0))) k2 rfl rfl (by omega) (by omega) hp_Kn))) (hp_La l0 (hp_Li (z := (0 + (1 * w + 0))) l1 rfl (by omega) (hp_Li (z := (0 + (1 * i + 0))) l2 rfl (by omega) hp_Ln))) trivial ?_ ?_
  · intro p hp ys l' st' h' hys a1 a2 a3 gZ gL gS
    rcases List.mem_cons.mp hp with rfl | hp
    · obtain rfl := hp_y0 hys
      obtain ⟨y0, t0, rfl, q0, g0⟩ := hp_gSi (z := (3 + 0)) gS rfl
      obtain ⟨y1, t1, rfl, q1, g1⟩ := hp_gSi (z := (0 + (1 * t + 0))) g0 rfl
      obtain ⟨t2, rfl, g2⟩ := hp_gSa g1 (by decide)
      cases hp_gSn g2
      exact e0 l' h' y0 y1 (by omega) (by omega) a1 a2 a3 (hp_gK (zi := (0 + 0)) (zv := (0 + (1 * n + 0))) gZ.2.2.2 (List.mem_of_getElem? (i := 0) rfl) rfl rfl (by omega) (by omega)) (hp_gK (zi := (0 + 0)) (zv := (0 + (1 * t + 0))) gZ.2.2.2 (List.mem_of_getElem? (i := 1) rfl) rfl rfl (by omega) (by omega)) (hp_gLa gL (List.mem_of_getElem? (i := 0) rfl) (by decide)) (hp_gLi (z := (0 + (1 * i + 0))) gL (List.mem_of_getElem? (i := 1) rfl) rfl (by omega)) (hp_gLi (z := (3 + 0)) gL (List.mem_of_getElem? (i := 2) rfl) rfl (by omega))
    cases hp
  · intro p hp ys v h' hys a1 a2 a3 gZ gS
    cases hp
theorem gtE8_k : hq_chk [73, 75] 71 17 5 [(0, 0, 1200), (1, 0, 1199), (2, 0, 1199), (3, 123, 255), (4, 1, 255)] [((-1), [(0, 1), (1, (-1))]), (0, [(1, 1), (2, (-1))])] [(0, .inr (.inr (.inl (some 17)))), (1, .inl (0, [(4, 1)])), (2, .inl (0, [(1, 1)]))] [] [(262, (0, []), (0, [(0, 1)])), (261, (0, []), (0, [(2, 1)])), (512, (0, [(1, 1)]), (0, [(3, 1)]))] [] 6 [(72, ([], 5, [(0, 0, 1200), (1, 0, 1199), (2, 0, 1199), (3, 123, 255), (4, 1, 255)], [], [(0, .inr (.inr (.inl (some 17)))), (2, .inl (0, [(1, 1)])), (3, .inl (3, []))], [.inl (3, []), .inl (0, [(2, 1)]), .inr (.inr (.inl (some 19)))], [(262, (0, []), (0, [(0, 1)])), (261, (0, []), (0, [(2, 1)]))]))] [] = true := by decide +kernel
theorem gtE8 {cst : am_K} {strs : List Nat} {Φ : am_Q → Prop} {D : Nat} {M : am_M} {h : am_H} {l : am_L} (c : hp_C cst strs D) (hM : m_P[71]? = some M) (hD : (6 : Int) ≤ (D : Int) + 1) (hy : ly_hy m_tt ly_TH h) (n i t b w : Int) (b0 : 0 ≤ n) (t0 : n ≤ 1200) (b1 : 0 ≤ i) (t1 : i ≤ 1199) (b2 : 0 ≤ t) (t2 : t ≤ 1199) (b3 : 123 ≤ b) (t3 : b ≤ 255) (b4 : 1 ≤ w) (t4 : w ≤ 255) (f0 : 0 ≤ (n - i - 1)) (f1 : 0 ≤ (i - t)) (k0 : ly_hv cst h 262 0 = some (n)) (k1 : ly_hv cst h 261 0 = some (t)) (k2 : ly_hv cst h 512 (i) = some (b)) (l0 : hp_a l 0 17) (l1 : hp_i l 1 (w)) (l2 : hp_i l 2 (i)) (e0 : ∀ (l' : am_L) (h' : am_H) (y0 : Int32) (y1 : Int32), y0.toInt = 3 → y1.toInt = (t) → ly_hy m_tt ly_TH h' → ly_fr cst [] h h' → h.length ≤ h'.length → ly_hv cst h' 262 0 = some (n) → ly_hv cst h' 261 0 = some (t) → hp_a l' 0 17 → hp_i l' 2 (i) → hp_i l' 3 3 → hp_F cst strs Φ D M 72 l' [.int y0, .int y1, .ref 19] h') : hp_F cst strs Φ D M 17 l [] h := by
  refine hq_arc c hM gtE8_k hD [n, i, t, b, w] rfl hy (hp_Bc (z := n) rfl b0 t0 (hp_Bc (z := i) rfl b1 t1 (hp_Bc (z := t) rfl b2 t2 (hp_Bc (z := b) rfl b3 t3 (hp_Bc (z := w) rfl b4 t4 hp_Bn))))) (hp_Fc (z := ((-1) + (1 * n + ((-1) * i + 0)))) rfl (by omega) (hp_Fc (z := (0 + (1 * i + ((-1) * t + 0)))) rfl (by omega) hp_Fn)) (hp_Kc (zi := (0 + 0)) (zv := (0 + (1 * n + 0))) k0 rfl rfl (by omega) (by omega) (hp_Kc (zi := (0 + 0)) (zv := (0 + (1 * t + 0))) k1 rfl rfl (by omega) (by omega) (hp_Kc (zi := (0 + (1 * i + 0))) (zv := (0 + (1 * b + 0))) k2 rfl rfl (by omega) (by omega) hp_Kn))) (hp_La l0 (hp_Li (z := (0 + (1 * w + 0))) l1 rfl (by omega) (hp_Li (z := (0 + (1 * i + 0))) l2 rfl (by omega) hp_Ln))) trivial ?_ ?_
  · intro p hp ys l' st' h' hys a1 a2 a3 gZ gL gS
    rcases List.mem_cons.mp hp with rfl | hp
    · obtain rfl := hp_y0 hys
      obtain ⟨y0, t0, rfl, q0, g0⟩ := hp_gSi (z := (3 + 0)) gS rfl
      obtain ⟨y1, t1, rfl, q1, g1⟩ := hp_gSi (z := (0 + (1 * t + 0))) g0 rfl
      obtain ⟨t2, rfl, g2⟩ := hp_gSa g1 (by decide)
      cases hp_gSn g2
      exact e0 l' h' y0 y1 (by omega) (by omega) a1 a2 a3 (hp_gK (zi := (0 + 0)) (zv := (0 + (1 * n + 0))) gZ.2.2.2 (List.mem_of_getElem? (i := 0) rfl) rfl rfl (by omega) (by omega)) (hp_gK (zi := (0 + 0)) (zv := (0 + (1 * t + 0))) gZ.2.2.2 (List.mem_of_getElem? (i := 1) rfl) rfl rfl (by omega) (by omega)) (hp_gLa gL (List.mem_of_getElem? (i := 0) rfl) (by decide)) (hp_gLi (z := (0 + (1 * i + 0))) gL (List.mem_of_getElem? (i := 1) rfl) rfl (by omega)) (hp_gLi (z := (3 + 0)) gL (List.mem_of_getElem? (i := 2) rfl) rfl (by omega))
    cases hp
  · intro p hp ys v h' hys a1 a2 a3 gZ gS
    cases hp
theorem gtF_k : hq_chk [73, 75] 71 73 4 [(0, 0, 1200), (1, 0, 1199), (2, 0, 1199), (3, 1, 255)] [((-1), [(0, 1), (1, (-1))]), (0, [(1, 1), (2, (-1))])] [(0, .inr (.inr (.inl (some 17)))), (2, .inl (0, [(1, 1)])), (3, .inl (0, [(3, 1)]))] [] [(262, (0, []), (0, [(0, 1)])), (261, (0, []), (0, [(2, 1)]))] [] 6 [(82, ([], 4, [(0, 0, 1200), (1, 0, 1199), (2, 0, 1199), (3, 1, 255)], [], [(0, .inr (.inr (.inl (some 17)))), (2, .inl (0, [(1, 1)])), (3, .inl (0, [(3, 1)]))], [.inl (0, [(1, 1)]), .inl (0, [(2, 1)]), .inr (.inr (.inl (some 20)))], [(262, (0, []), (0, [(0, 1)])), (261, (0, []), (0, [(2, 1)]))]))] [] = true := by decide +kernel
theorem gtF {cst : am_K} {strs : List Nat} {Φ : am_Q → Prop} {D : Nat} {M : am_M} {h : am_H} {l : am_L} (c : hp_C cst strs D) (hM : m_P[71]? = some M) (hD : (6 : Int) ≤ (D : Int) + 1) (hy : ly_hy m_tt ly_TH h) (n i t kk : Int) (b0 : 0 ≤ n) (t0 : n ≤ 1200) (b1 : 0 ≤ i) (t1 : i ≤ 1199) (b2 : 0 ≤ t) (t2 : t ≤ 1199) (b3 : 1 ≤ kk) (t3 : kk ≤ 255) (f0 : 0 ≤ (n - i - 1)) (f1 : 0 ≤ (i - t)) (k0 : ly_hv cst h 262 0 = some (n)) (k1 : ly_hv cst h 261 0 = some (t)) (l0 : hp_a l 0 17) (l2 : hp_i l 2 (i)) (l3 : hp_i l 3 (kk)) (e0 : ∀ (l' : am_L) (h' : am_H) (y0 : Int32) (y1 : Int32), y0.toInt = (i) → y1.toInt = (t) → ly_hy m_tt ly_TH h' → ly_fr cst [] h h' → h.length ≤ h'.length → ly_hv cst h' 262 0 = some (n) → ly_hv cst h' 261 0 = some (t) → hp_a l' 0 17 → hp_i l' 2 (i) → hp_i l' 3 (kk) → hp_F cst strs Φ D M 82 l' [.int y0, .int y1, .ref 20] h') : hp_F cst strs Φ D M 73 l [] h := by
  refine hq_arc c hM gtF_k hD [n, i, t, kk] rfl hy (hp_Bc (z := n) rfl b0 t0 (hp_Bc (z := i) rfl b1 t1 (hp_Bc (z := t) rfl b2 t2 (hp_Bc (z := kk) rfl b3 t3 hp_Bn)))) (hp_Fc (z := ((-1) + (1 * n + ((-1) * i + 0)))) rfl (by omega) (hp_Fc (z := (0 + (1 * i + ((-1) * t + 0)))) rfl (by omega) hp_Fn)) (hp_Kc (zi := (0 + 0)) (zv := (0 + (1 * n + 0))) k0 rfl rfl (by omega) (by omega) (hp_Kc (zi := (0 + 0)) (zv := (0 + (1 * t + 0))) k1 rfl rfl (by omega) (by omega) hp_Kn)) (hp_La l0 (hp_Li (z := (0 + (1 * i + 0))) l2 rfl (by omega) (hp_Li (z := (0 + (1 * kk + 0))) l3 rfl (by omega) hp_Ln))) trivial ?_ ?_
  · intro p hp ys l' st' h' hys a1 a2 a3 gZ gL gS
    rcases List.mem_cons.mp hp with rfl | hp
    · obtain rfl := hp_y0 hys
      obtain ⟨y0, t0, rfl, q0, g0⟩ := hp_gSi (z := (0 + (1 * i + 0))) gS rfl
      obtain ⟨y1, t1, rfl, q1, g1⟩ := hp_gSi (z := (0 + (1 * t + 0))) g0 rfl
      obtain ⟨t2, rfl, g2⟩ := hp_gSa g1 (by decide)
      cases hp_gSn g2
      exact e0 l' h' y0 y1 (by omega) (by omega) a1 a2 a3 (hp_gK (zi := (0 + 0)) (zv := (0 + (1 * n + 0))) gZ.2.2.2 (List.mem_of_getElem? (i := 0) rfl) rfl rfl (by omega) (by omega)) (hp_gK (zi := (0 + 0)) (zv := (0 + (1 * t + 0))) gZ.2.2.2 (List.mem_of_getElem? (i := 1) rfl) rfl rfl (by omega) (by omega)) (hp_gLa gL (List.mem_of_getElem? (i := 0) rfl) (by decide)) (hp_gLi (z := (0 + (1 * i + 0))) gL (List.mem_of_getElem? (i := 1) rfl) rfl (by omega)) (hp_gLi (z := (0 + (1 * kk + 0))) gL (List.mem_of_getElem? (i := 2) rfl) rfl (by omega))
    cases hp
  · intro p hp ys v h' hys a1 a2 a3 gZ gS
    cases hp
theorem gtG0_k : hq_chk [73, 75] 71 83 5 [(0, 0, 1200), (1, 0, 1199), (2, 0, 1199), (3, 1, 255), (4, 97, 122)] [((-1), [(0, 1), (1, (-1))]), (0, [(1, 1), (2, (-1))])] [(0, .inr (.inr (.inl (some 17)))), (2, .inl (0, [(1, 1)])), (3, .inl (0, [(3, 1)]))] [] [(262, (0, []), (0, [(0, 1)])), (261, (0, []), (0, [(2, 1)])), (512, (0, [(1, 1)]), (0, [(4, 1)]))] [] 6 [(101, ([], 5, [(0, 0, 1200), (1, 0, 1199), (2, 0, 1199), (3, 1, 255), (4, 97, 122)], [], [(0, .inr (.inr (.inl (some 17)))), (2, .inl (0, [(1, 1)])), (3, .inl (0, [(3, 1)]))], [.inr (.inl ((-96), [(4, 1)])), .inl (0, [(2, 1)]), .inr (.inr (.inl (some 21)))], [(262, (0, []), (0, [(0, 1)])), (261, (0, []), (0, [(2, 1)]))]))] [] = true := by decide +kernel
theorem gtG0 {cst : am_K} {strs : List Nat} {Φ : am_Q → Prop} {D : Nat} {M : am_M} {h : am_H} {l : am_L} (c : hp_C cst strs D) (hM : m_P[71]? = some M) (hD : (6 : Int) ≤ (D : Int) + 1) (hy : ly_hy m_tt ly_TH h) (n i t kk b : Int) (b0 : 0 ≤ n) (t0 : n ≤ 1200) (b1 : 0 ≤ i) (t1 : i ≤ 1199) (b2 : 0 ≤ t) (t2 : t ≤ 1199) (b3 : 1 ≤ kk) (t3 : kk ≤ 255) (b4 : 97 ≤ b) (t4 : b ≤ 122) (f0 : 0 ≤ (n - i - 1)) (f1 : 0 ≤ (i - t)) (k0 : ly_hv cst h 262 0 = some (n)) (k1 : ly_hv cst h 261 0 = some (t)) (k2 : ly_hv cst h 512 (i) = some (b)) (l0 : hp_a l 0 17) (l2 : hp_i l 2 (i)) (l3 : hp_i l 3 (kk)) (e0 : ∀ (l' : am_L) (h' : am_H) (y0 : Int64) (y1 : Int32), y0.toInt = (b - 96) → y1.toInt = (t) → ly_hy m_tt ly_TH h' → ly_fr cst [] h h' → h.length ≤ h'.length → ly_hv cst h' 262 0 = some (n) → ly_hv cst h' 261 0 = some (t) → hp_a l' 0 17 → hp_i l' 2 (i) → hp_i l' 3 (kk) → hp_F cst strs Φ D M 101 l' [.long y0, .int y1, .ref 21] h') : hp_F cst strs Φ D M 83 l [] h := by
  refine hq_arc c hM gtG0_k hD [n, i, t, kk, b] rfl hy (hp_Bc (z := n) rfl b0 t0 (hp_Bc (z := i) rfl b1 t1 (hp_Bc (z := t) rfl b2 t2 (hp_Bc (z := kk) rfl b3 t3 (hp_Bc (z := b) rfl b4 t4 hp_Bn))))) (hp_Fc (z := ((-1) + (1 * n + ((-1) * i + 0)))) rfl (by omega) (hp_Fc (z := (0 + (1 * i + ((-1) * t + 0)))) rfl (by omega) hp_Fn)) (hp_Kc (zi := (0 + 0)) (zv := (0 + (1 * n + 0))) k0 rfl rfl (by omega) (by omega) (hp_Kc (zi := (0 + 0)) (zv := (0 + (1 * t + 0))) k1 rfl rfl (by omega) (by omega) (hp_Kc (zi := (0 + (1 * i + 0))) (zv := (0 + (1 * b + 0))) k2 rfl rfl (by omega) (by omega) hp_Kn))) (hp_La l0 (hp_Li (z := (0 + (1 * i + 0))) l2 rfl (by omega) (hp_Li (z := (0 + (1 * kk + 0))) l3 rfl (by omega) hp_Ln))) trivial ?_ ?_
  · intro p hp ys l' st' h' hys a1 a2 a3 gZ gL gS
    rcases List.mem_cons.mp hp with rfl | hp
    · obtain rfl := hp_y0 hys
      obtain ⟨y0, t0, rfl, q0, g0⟩ := hp_gSj (z := ((-96) + (1 * b + 0))) gS rfl
      obtain ⟨y1, t1, rfl, q1, g1⟩ := hp_gSi (z := (0 + (1 * t + 0))) g0 rfl
      obtain ⟨t2, rfl, g2⟩ := hp_gSa g1 (by decide)
      cases hp_gSn g2
      exact e0 l' h' y0 y1 (by omega) (by omega) a1 a2 a3 (hp_gK (zi := (0 + 0)) (zv := (0 + (1 * n + 0))) gZ.2.2.2 (List.mem_of_getElem? (i := 0) rfl) rfl rfl (by omega) (by omega)) (hp_gK (zi := (0 + 0)) (zv := (0 + (1 * t + 0))) gZ.2.2.2 (List.mem_of_getElem? (i := 1) rfl) rfl rfl (by omega) (by omega)) (hp_gLa gL (List.mem_of_getElem? (i := 0) rfl) (by decide)) (hp_gLi (z := (0 + (1 * i + 0))) gL (List.mem_of_getElem? (i := 1) rfl) rfl (by omega)) (hp_gLi (z := (0 + (1 * kk + 0))) gL (List.mem_of_getElem? (i := 2) rfl) rfl (by omega))
    cases hp
  · intro p hp ys v h' hys a1 a2 a3 gZ gS
    cases hp
theorem gtG1_k : hq_chk [73, 75] 71 83 5 [(0, 0, 1200), (1, 0, 1199), (2, 0, 1199), (3, 1, 255), (4, 0, 96)] [((-1), [(0, 1), (1, (-1))]), (0, [(1, 1), (2, (-1))])] [(0, .inr (.inr (.inl (some 17)))), (2, .inl (0, [(1, 1)])), (3, .inl (0, [(3, 1)]))] [] [(262, (0, []), (0, [(0, 1)])), (261, (0, []), (0, [(2, 1)])), (512, (0, [(1, 1)]), (0, [(4, 1)]))] [] 6 [(101, ([], 5, [(0, 0, 1200), (1, 0, 1199), (2, 0, 1199), (3, 1, 255), (4, 0, 96)], [], [(0, .inr (.inr (.inl (some 17)))), (2, .inl (0, [(1, 1)])), (3, .inl (0, [(3, 1)]))], [.inr (.inl ((-48), [(4, 1)])), .inl (0, [(2, 1)]), .inr (.inr (.inl (some 21)))], [(262, (0, []), (0, [(0, 1)])), (261, (0, []), (0, [(2, 1)]))]))] [] = true := by decide +kernel
theorem gtG1 {cst : am_K} {strs : List Nat} {Φ : am_Q → Prop} {D : Nat} {M : am_M} {h : am_H} {l : am_L} (c : hp_C cst strs D) (hM : m_P[71]? = some M) (hD : (6 : Int) ≤ (D : Int) + 1) (hy : ly_hy m_tt ly_TH h) (n i t kk b : Int) (b0 : 0 ≤ n) (t0 : n ≤ 1200) (b1 : 0 ≤ i) (t1 : i ≤ 1199) (b2 : 0 ≤ t) (t2 : t ≤ 1199) (b3 : 1 ≤ kk) (t3 : kk ≤ 255) (b4 : 0 ≤ b) (t4 : b ≤ 96) (f0 : 0 ≤ (n - i - 1)) (f1 : 0 ≤ (i - t)) (k0 : ly_hv cst h 262 0 = some (n)) (k1 : ly_hv cst h 261 0 = some (t)) (k2 : ly_hv cst h 512 (i) = some (b)) (l0 : hp_a l 0 17) (l2 : hp_i l 2 (i)) (l3 : hp_i l 3 (kk)) (e0 : ∀ (l' : am_L) (h' : am_H) (y0 : Int64) (y1 : Int32), y0.toInt = (b - 48) → y1.toInt = (t) → ly_hy m_tt ly_TH h' → ly_fr cst [] h h' → h.length ≤ h'.length → ly_hv cst h' 262 0 = some (n) → ly_hv cst h' 261 0 = some (t) → hp_a l' 0 17 → hp_i l' 2 (i) → hp_i l' 3 (kk) → hp_F cst strs Φ D M 101 l' [.long y0, .int y1, .ref 21] h') : hp_F cst strs Φ D M 83 l [] h := by
  refine hq_arc c hM gtG1_k hD [n, i, t, kk, b] rfl hy (hp_Bc (z := n) rfl b0 t0 (hp_Bc (z := i) rfl b1 t1 (hp_Bc (z := t) rfl b2 t2 (hp_Bc (z := kk) rfl b3 t3 (hp_Bc (z := b) rfl b4 t4 hp_Bn))))) (hp_Fc (z := ((-1) + (1 * n + ((-1) * i + 0)))) rfl (by omega) (hp_Fc (z := (0 + (1 * i + ((-1) * t + 0)))) rfl (by omega) hp_Fn)) (hp_Kc (zi := (0 + 0)) (zv := (0 + (1 * n + 0))) k0 rfl rfl (by omega) (by omega) (hp_Kc (zi := (0 + 0)) (zv := (0 + (1 * t + 0))) k1 rfl rfl (by omega) (by omega) (hp_Kc (zi := (0 + (1 * i + 0))) (zv := (0 + (1 * b + 0))) k2 rfl rfl (by omega) (by omega) hp_Kn))) (hp_La l0 (hp_Li (z := (0 + (1 * i + 0))) l2 rfl (by omega) (hp_Li (z := (0 + (1 * kk + 0))) l3 rfl (by omega) hp_Ln))) trivial ?_ ?_
  · intro p hp ys l' st' h' hys a1 a2 a3 gZ gL gS
    rcases List.mem_cons.mp hp with rfl | hp
    · obtain rfl := hp_y0 hys
      obtain ⟨y0, t0, rfl, q0, g0⟩ := hp_gSj (z := ((-48) + (1 * b + 0))) gS rfl
      obtain ⟨y1, t1, rfl, q1, g1⟩ := hp_gSi (z := (0 + (1 * t + 0))) g0 rfl
      obtain ⟨t2, rfl, g2⟩ := hp_gSa g1 (by decide)
      cases hp_gSn g2
      exact e0 l' h' y0 y1 (by omega) (by omega) a1 a2 a3 (hp_gK (zi := (0 + 0)) (zv := (0 + (1 * n + 0))) gZ.2.2.2 (List.mem_of_getElem? (i := 0) rfl) rfl rfl (by omega) (by omega)) (hp_gK (zi := (0 + 0)) (zv := (0 + (1 * t + 0))) gZ.2.2.2 (List.mem_of_getElem? (i := 1) rfl) rfl rfl (by omega) (by omega)) (hp_gLa gL (List.mem_of_getElem? (i := 0) rfl) (by decide)) (hp_gLi (z := (0 + (1 * i + 0))) gL (List.mem_of_getElem? (i := 1) rfl) rfl (by omega)) (hp_gLi (z := (0 + (1 * kk + 0))) gL (List.mem_of_getElem? (i := 2) rfl) rfl (by omega))
    cases hp
  · intro p hp ys v h' hys a1 a2 a3 gZ gS
    cases hp
theorem gtG2_k : hq_chk [73, 75] 71 83 5 [(0, 0, 1200), (1, 0, 1199), (2, 0, 1199), (3, 1, 255), (4, 123, 255)] [((-1), [(0, 1), (1, (-1))]), (0, [(1, 1), (2, (-1))])] [(0, .inr (.inr (.inl (some 17)))), (2, .inl (0, [(1, 1)])), (3, .inl (0, [(3, 1)]))] [] [(262, (0, []), (0, [(0, 1)])), (261, (0, []), (0, [(2, 1)])), (512, (0, [(1, 1)]), (0, [(4, 1)]))] [] 6 [(101, ([], 5, [(0, 0, 1200), (1, 0, 1199), (2, 0, 1199), (3, 1, 255), (4, 123, 255)], [], [(0, .inr (.inr (.inl (some 17)))), (2, .inl (0, [(1, 1)])), (3, .inl (0, [(3, 1)]))], [.inr (.inl ((-48), [(4, 1)])), .inl (0, [(2, 1)]), .inr (.inr (.inl (some 21)))], [(262, (0, []), (0, [(0, 1)])), (261, (0, []), (0, [(2, 1)]))]))] [] = true := by decide +kernel
theorem gtG2 {cst : am_K} {strs : List Nat} {Φ : am_Q → Prop} {D : Nat} {M : am_M} {h : am_H} {l : am_L} (c : hp_C cst strs D) (hM : m_P[71]? = some M) (hD : (6 : Int) ≤ (D : Int) + 1) (hy : ly_hy m_tt ly_TH h) (n i t kk b : Int) (b0 : 0 ≤ n) (t0 : n ≤ 1200) (b1 : 0 ≤ i) (t1 : i ≤ 1199) (b2 : 0 ≤ t) (t2 : t ≤ 1199) (b3 : 1 ≤ kk) (t3 : kk ≤ 255) (b4 : 123 ≤ b) (t4 : b ≤ 255) (f0 : 0 ≤ (n - i - 1)) (f1 : 0 ≤ (i - t)) (k0 : ly_hv cst h 262 0 = some (n)) (k1 : ly_hv cst h 261 0 = some (t)) (k2 : ly_hv cst h 512 (i) = some (b)) (l0 : hp_a l 0 17) (l2 : hp_i l 2 (i)) (l3 : hp_i l 3 (kk)) (e0 : ∀ (l' : am_L) (h' : am_H) (y0 : Int64) (y1 : Int32), y0.toInt = (b - 48) → y1.toInt = (t) → ly_hy m_tt ly_TH h' → ly_fr cst [] h h' → h.length ≤ h'.length → ly_hv cst h' 262 0 = some (n) → ly_hv cst h' 261 0 = some (t) → hp_a l' 0 17 → hp_i l' 2 (i) → hp_i l' 3 (kk) → hp_F cst strs Φ D M 101 l' [.long y0, .int y1, .ref 21] h') : hp_F cst strs Φ D M 83 l [] h := by
  refine hq_arc c hM gtG2_k hD [n, i, t, kk, b] rfl hy (hp_Bc (z := n) rfl b0 t0 (hp_Bc (z := i) rfl b1 t1 (hp_Bc (z := t) rfl b2 t2 (hp_Bc (z := kk) rfl b3 t3 (hp_Bc (z := b) rfl b4 t4 hp_Bn))))) (hp_Fc (z := ((-1) + (1 * n + ((-1) * i + 0)))) rfl (by omega) (hp_Fc (z := (0 + (1 * i + ((-1) * t + 0)))) rfl (by omega) hp_Fn)) (hp_Kc (zi := (0 + 0)) (zv := (0 + (1 * n + 0))) k0 rfl rfl (by omega) (by omega) (hp_Kc (zi := (0 + 0)) (zv := (0 + (1 * t + 0))) k1 rfl rfl (by omega) (by omega) (hp_Kc (zi := (0 + (1 * i + 0))) (zv := (0 + (1 * b + 0))) k2 rfl rfl (by omega) (by omega) hp_Kn))) (hp_La l0 (hp_Li (z := (0 + (1 * i + 0))) l2 rfl (by omega) (hp_Li (z := (0 + (1 * kk + 0))) l3 rfl (by omega) hp_Ln))) trivial ?_ ?_
  · intro p hp ys l' st' h' hys a1 a2 a3 gZ gL gS
    rcases List.mem_cons.mp hp with rfl | hp
    · obtain rfl := hp_y0 hys
      obtain ⟨y0, t0, rfl, q0, g0⟩ := hp_gSj (z := ((-48) + (1 * b + 0))) gS rfl
      obtain ⟨y1, t1, rfl, q1, g1⟩ := hp_gSi (z := (0 + (1 * t + 0))) g0 rfl
      obtain ⟨t2, rfl, g2⟩ := hp_gSa g1 (by decide)
      cases hp_gSn g2
      exact e0 l' h' y0 y1 (by omega) (by omega) a1 a2 a3 (hp_gK (zi := (0 + 0)) (zv := (0 + (1 * n + 0))) gZ.2.2.2 (List.mem_of_getElem? (i := 0) rfl) rfl rfl (by omega) (by omega)) (hp_gK (zi := (0 + 0)) (zv := (0 + (1 * t + 0))) gZ.2.2.2 (List.mem_of_getElem? (i := 1) rfl) rfl rfl (by omega) (by omega)) (hp_gLa gL (List.mem_of_getElem? (i := 0) rfl) (by decide)) (hp_gLi (z := (0 + (1 * i + 0))) gL (List.mem_of_getElem? (i := 1) rfl) rfl (by omega)) (hp_gLi (z := (0 + (1 * kk + 0))) gL (List.mem_of_getElem? (i := 2) rfl) rfl (by omega))
    cases hp
  · intro p hp ys v h' hys a1 a2 a3 gZ gS
    cases hp
theorem gtH_k : hq_chk [73, 75] 71 102 4 [(0, 0, 1200), (1, 0, 1199), (2, 0, 1199), (3, 1, 255)] [((-1), [(0, 1), (1, (-1))]), (0, [(1, 1), (2, (-1))])] [(0, .inr (.inr (.inl (some 17)))), (2, .inl (0, [(1, 1)])), (3, .inl (0, [(3, 1)]))] [] [(262, (0, []), (0, [(0, 1)])), (261, (0, []), (0, [(2, 1)]))] [261] 6 [(17, ([], 4, [(0, 0, 1200), (1, 0, 1199), (2, 0, 1199), (3, 1, 255)], [], [(0, .inr (.inr (.inl (some 17)))), (1, .inl (0, [(3, 1)])), (2, .inl (1, [(1, 1)]))], [], [(262, (0, []), (0, [(0, 1)])), (261, (0, []), (1, [(2, 1)]))]))] [] = true := by decide +kernel
theorem gtH {cst : am_K} {strs : List Nat} {Φ : am_Q → Prop} {D : Nat} {M : am_M} {h : am_H} {l : am_L} (c : hp_C cst strs D) (hM : m_P[71]? = some M) (hD : (6 : Int) ≤ (D : Int) + 1) (hy : ly_hy m_tt ly_TH h) (n i t kk : Int) (b0 : 0 ≤ n) (t0 : n ≤ 1200) (b1 : 0 ≤ i) (t1 : i ≤ 1199) (b2 : 0 ≤ t) (t2 : t ≤ 1199) (b3 : 1 ≤ kk) (t3 : kk ≤ 255) (f0 : 0 ≤ (n - i - 1)) (f1 : 0 ≤ (i - t)) (k0 : ly_hv cst h 262 0 = some (n)) (k1 : ly_hv cst h 261 0 = some (t)) (l0 : hp_a l 0 17) (l2 : hp_i l 2 (i)) (l3 : hp_i l 3 (kk)) (e0 : ∀ (l' : am_L) (h' : am_H), ly_hy m_tt ly_TH h' → ly_fr cst [261] h h' → h.length ≤ h'.length → ly_hv cst h' 262 0 = some (n) → ly_hv cst h' 261 0 = some (t + 1) → hp_a l' 0 17 → hp_i l' 1 (kk) → hp_i l' 2 (i + 1) → hp_F cst strs Φ D M 17 l' [] h') : hp_F cst strs Φ D M 102 l [] h := by
  refine hq_arc c hM gtH_k hD [n, i, t, kk] rfl hy (hp_Bc (z := n) rfl b0 t0 (hp_Bc (z := i) rfl b1 t1 (hp_Bc (z := t) rfl b2 t2 (hp_Bc (z := kk) rfl b3 t3 hp_Bn)))) (hp_Fc (z := ((-1) + (1 * n + ((-1) * i + 0)))) rfl (by omega) (hp_Fc (z := (0 + (1 * i + ((-1) * t + 0)))) rfl (by omega) hp_Fn)) (hp_Kc (zi := (0 + 0)) (zv := (0 + (1 * n + 0))) k0 rfl rfl (by omega) (by omega) (hp_Kc (zi := (0 + 0)) (zv := (0 + (1 * t + 0))) k1 rfl rfl (by omega) (by omega) hp_Kn)) (hp_La l0 (hp_Li (z := (0 + (1 * i + 0))) l2 rfl (by omega) (hp_Li (z := (0 + (1 * kk + 0))) l3 rfl (by omega) hp_Ln))) trivial ?_ ?_
  · intro p hp ys l' st' h' hys a1 a2 a3 gZ gL gS
    rcases List.mem_cons.mp hp with rfl | hp
    · obtain rfl := hp_y0 hys
      cases hp_gSn gS
      exact e0 l' h' a1 a2 a3 (hp_gK (zi := (0 + 0)) (zv := (0 + (1 * n + 0))) gZ.2.2.2 (List.mem_of_getElem? (i := 0) rfl) rfl rfl (by omega) (by omega)) (hp_gK (zi := (0 + 0)) (zv := (1 + (1 * t + 0))) gZ.2.2.2 (List.mem_of_getElem? (i := 1) rfl) rfl rfl (by omega) (by omega)) (hp_gLa gL (List.mem_of_getElem? (i := 0) rfl) (by decide)) (hp_gLi (z := (0 + (1 * kk + 0))) gL (List.mem_of_getElem? (i := 1) rfl) rfl (by omega)) (hp_gLi (z := (1 + (1 * i + 0))) gL (List.mem_of_getElem? (i := 2) rfl) rfl (by omega))
    cases hp
  · intro p hp ys v h' hys a1 a2 a3 gZ gS
    cases hp
theorem gtI1_k : hq_chk [73, 75] 71 17 4 [(0, 0, 1200), (1, 0, 1199), (2, 0, 1200), (3, 97, 122)] [((-1), [(0, 1), (1, (-1))])] [(0, .inr (.inr (.inl (some 17)))), (1, .inl (1, [])), (2, .inl (0, [(1, 1)]))] [] [(262, (0, []), (0, [(0, 1)])), (261, (0, []), (0, [(2, 1)])), (512, (0, [(1, 1)]), (0, [(3, 1)]))] [] 6 [(52, ([], 4, [(0, 0, 1200), (1, 0, 1199), (2, 0, 1200), (3, 97, 122)], [], [(0, .inr (.inr (.inl (some 17)))), (2, .inl (0, [(1, 1)])), (3, .inl (1, []))], [.inl (0, [(1, 1)]), .inr (.inr (.inl (some 17)))], [(262, (0, []), (0, [(0, 1)])), (261, (0, []), (0, [(2, 1)]))]))] [] = true := by decide +kernel
theorem gtI1 {cst : am_K} {strs : List Nat} {Φ : am_Q → Prop} {D : Nat} {M : am_M} {h : am_H} {l : am_L} (c : hp_C cst strs D) (hM : m_P[71]? = some M) (hD : (6 : Int) ≤ (D : Int) + 1) (hy : ly_hy m_tt ly_TH h) (n i t b : Int) (b0 : 0 ≤ n) (t0 : n ≤ 1200) (b1 : 0 ≤ i) (t1 : i ≤ 1199) (b2 : 0 ≤ t) (t2 : t ≤ 1200) (b3 : 97 ≤ b) (t3 : b ≤ 122) (f0 : 0 ≤ (n - i - 1)) (k0 : ly_hv cst h 262 0 = some (n)) (k1 : ly_hv cst h 261 0 = some (t)) (k2 : ly_hv cst h 512 (i) = some (b)) (l0 : hp_a l 0 17) (l1 : hp_i l 1 1) (l2 : hp_i l 2 (i)) (e0 : ∀ (l' : am_L) (h' : am_H) (y0 : Int32), y0.toInt = (i) → ly_hy m_tt ly_TH h' → ly_fr cst [] h h' → h.length ≤ h'.length → ly_hv cst h' 262 0 = some (n) → ly_hv cst h' 261 0 = some (t) → hp_a l' 0 17 → hp_i l' 2 (i) → hp_i l' 3 1 → hp_F cst strs Φ D M 52 l' [.int y0, .ref 17] h') : hp_F cst strs Φ D M 17 l [] h := by
  refine hq_arc c hM gtI1_k hD [n, i, t, b] rfl hy (hp_Bc (z := n) rfl b0 t0 (hp_Bc (z := i) rfl b1 t1 (hp_Bc (z := t) rfl b2 t2 (hp_Bc (z := b) rfl b3 t3 hp_Bn)))) (hp_Fc (z := ((-1) + (1 * n + ((-1) * i + 0)))) rfl (by omega) hp_Fn) (hp_Kc (zi := (0 + 0)) (zv := (0 + (1 * n + 0))) k0 rfl rfl (by omega) (by omega) (hp_Kc (zi := (0 + 0)) (zv := (0 + (1 * t + 0))) k1 rfl rfl (by omega) (by omega) (hp_Kc (zi := (0 + (1 * i + 0))) (zv := (0 + (1 * b + 0))) k2 rfl rfl (by omega) (by omega) hp_Kn))) (hp_La l0 (hp_Li (z := (1 + 0)) l1 rfl (by omega) (hp_Li (z := (0 + (1 * i + 0))) l2 rfl (by omega) hp_Ln))) trivial ?_ ?_
  · intro p hp ys l' st' h' hys a1 a2 a3 gZ gL gS
    rcases List.mem_cons.mp hp with rfl | hp
    · obtain rfl := hp_y0 hys
      obtain ⟨y0, t0, rfl, q0, g0⟩ := hp_gSi (z := (0 + (1 * i + 0))) gS rfl
      obtain ⟨t1, rfl, g1⟩ := hp_gSa g0 (by decide)
      cases hp_gSn g1
      exact e0 l' h' y0 (by omega) a1 a2 a3 (hp_gK (zi := (0 + 0)) (zv := (0 + (1 * n + 0))) gZ.2.2.2 (List.mem_of_getElem? (i := 0) rfl) rfl rfl (by omega) (by omega)) (hp_gK (zi := (0 + 0)) (zv := (0 + (1 * t + 0))) gZ.2.2.2 (List.mem_of_getElem? (i := 1) rfl) rfl rfl (by omega) (by omega)) (hp_gLa gL (List.mem_of_getElem? (i := 0) rfl) (by decide)) (hp_gLi (z := (0 + (1 * i + 0))) gL (List.mem_of_getElem? (i := 1) rfl) rfl (by omega)) (hp_gLi (z := (1 + 0)) gL (List.mem_of_getElem? (i := 2) rfl) rfl (by omega))
    cases hp
  · intro p hp ys v h' hys a1 a2 a3 gZ gS
    cases hp
theorem gtI2_k : hq_chk [73, 75] 71 17 4 [(0, 0, 1200), (1, 0, 1199), (2, 0, 1200), (3, 48, 57)] [((-1), [(0, 1), (1, (-1))])] [(0, .inr (.inr (.inl (some 17)))), (1, .inl (2, [])), (2, .inl (0, [(1, 1)]))] [] [(262, (0, []), (0, [(0, 1)])), (261, (0, []), (0, [(2, 1)])), (512, (0, [(1, 1)]), (0, [(3, 1)]))] [] 6 [(52, ([], 4, [(0, 0, 1200), (1, 0, 1199), (2, 0, 1200), (3, 48, 57)], [], [(0, .inr (.inr (.inl (some 17)))), (2, .inl (0, [(1, 1)])), (3, .inl (2, []))], [.inl (0, [(1, 1)]), .inr (.inr (.inl (some 17)))], [(262, (0, []), (0, [(0, 1)])), (261, (0, []), (0, [(2, 1)]))]))] [] = true := by decide +kernel
theorem gtI2 {cst : am_K} {strs : List Nat} {Φ : am_Q → Prop} {D : Nat} {M : am_M} {h : am_H} {l : am_L} (c : hp_C cst strs D) (hM : m_P[71]? = some M) (hD : (6 : Int) ≤ (D : Int) + 1) (hy : ly_hy m_tt ly_TH h) (n i t b : Int) (b0 : 0 ≤ n) (t0 : n ≤ 1200) (b1 : 0 ≤ i) (t1 : i ≤ 1199) (b2 : 0 ≤ t) (t2 : t ≤ 1200) (b3 : 48 ≤ b) (t3 : b ≤ 57) (f0 : 0 ≤ (n - i - 1)) (k0 : ly_hv cst h 262 0 = some (n)) (k1 : ly_hv cst h 261 0 = some (t)) (k2 : ly_hv cst h 512 (i) = some (b)) (l0 : hp_a l 0 17) (l1 : hp_i l 1 2) (l2 : hp_i l 2 (i)) (e0 : ∀ (l' : am_L) (h' : am_H) (y0 : Int32), y0.toInt = (i) → ly_hy m_tt ly_TH h' → ly_fr cst [] h h' → h.length ≤ h'.length → ly_hv cst h' 262 0 = some (n) → ly_hv cst h' 261 0 = some (t) → hp_a l' 0 17 → hp_i l' 2 (i) → hp_i l' 3 2 → hp_F cst strs Φ D M 52 l' [.int y0, .ref 17] h') : hp_F cst strs Φ D M 17 l [] h := by
  refine hq_arc c hM gtI2_k hD [n, i, t, b] rfl hy (hp_Bc (z := n) rfl b0 t0 (hp_Bc (z := i) rfl b1 t1 (hp_Bc (z := t) rfl b2 t2 (hp_Bc (z := b) rfl b3 t3 hp_Bn)))) (hp_Fc (z := ((-1) + (1 * n + ((-1) * i + 0)))) rfl (by omega) hp_Fn) (hp_Kc (zi := (0 + 0)) (zv := (0 + (1 * n + 0))) k0 rfl rfl (by omega) (by omega) (hp_Kc (zi := (0 + 0)) (zv := (0 + (1 * t + 0))) k1 rfl rfl (by omega) (by omega) (hp_Kc (zi := (0 + (1 * i + 0))) (zv := (0 + (1 * b + 0))) k2 rfl rfl (by omega) (by omega) hp_Kn))) (hp_La l0 (hp_Li (z := (2 + 0)) l1 rfl (by omega) (hp_Li (z := (0 + (1 * i + 0))) l2 rfl (by omega) hp_Ln))) trivial ?_ ?_
  · intro p hp ys l' st' h' hys a1 a2 a3 gZ gL gS
    rcases List.mem_cons.mp hp with rfl | hp
    · obtain rfl := hp_y0 hys
      obtain ⟨y0, t0, rfl, q0, g0⟩ := hp_gSi (z := (0 + (1 * i + 0))) gS rfl
      obtain ⟨t1, rfl, g1⟩ := hp_gSa g0 (by decide)
      cases hp_gSn g1
      exact e0 l' h' y0 (by omega) a1 a2 a3 (hp_gK (zi := (0 + 0)) (zv := (0 + (1 * n + 0))) gZ.2.2.2 (List.mem_of_getElem? (i := 0) rfl) rfl rfl (by omega) (by omega)) (hp_gK (zi := (0 + 0)) (zv := (0 + (1 * t + 0))) gZ.2.2.2 (List.mem_of_getElem? (i := 1) rfl) rfl rfl (by omega) (by omega)) (hp_gLa gL (List.mem_of_getElem? (i := 0) rfl) (by decide)) (hp_gLi (z := (0 + (1 * i + 0))) gL (List.mem_of_getElem? (i := 1) rfl) rfl (by omega)) (hp_gLi (z := (2 + 0)) gL (List.mem_of_getElem? (i := 2) rfl) rfl (by omega))
    cases hp
  · intro p hp ys v h' hys a1 a2 a3 gZ gS
    cases hp
theorem gtJ_k : hp_chk 71 55 4 [(0, 0, 1200), (1, 0, 1199), (2, 0, 1200), (3, 1, 255)] [((-1), [(0, 1), (1, (-1))])] [(0, .inr (.inr (.inl (some 17)))), (2, .inl (0, [(1, 1)])), (3, .inl (0, [(3, 1)]))] [] [(262, (0, []), (0, [(0, 1)])), (261, (0, []), (0, [(2, 1)]))] [] 6 [(17, ([], 4, [(0, 0, 1200), (1, 0, 1199), (2, 0, 1200), (3, 1, 255)], [], [(0, .inr (.inr (.inl (some 17)))), (1, .inl (0, [(3, 1)])), (2, .inl (1, [(1, 1)]))], [], [(262, (0, []), (0, [(0, 1)])), (261, (0, []), (0, [(2, 1)]))]))] [] = true := by decide +kernel
theorem gtJ {cst : am_K} {strs : List Nat} {Φ : am_Q → Prop} {D : Nat} {M : am_M} {h : am_H} {l : am_L} (c : hp_C cst strs D) (hM : m_P[71]? = some M) (hD : (6 : Int) ≤ (D : Int) + 1) (hy : ly_hy m_tt ly_TH h) (n i t kk : Int) (b0 : 0 ≤ n) (t0 : n ≤ 1200) (b1 : 0 ≤ i) (t1 : i ≤ 1199) (b2 : 0 ≤ t) (t2 : t ≤ 1200) (b3 : 1 ≤ kk) (t3 : kk ≤ 255) (f0 : 0 ≤ (n - i - 1)) (k0 : ly_hv cst h 262 0 = some (n)) (k1 : ly_hv cst h 261 0 = some (t)) (l0 : hp_a l 0 17) (l2 : hp_i l 2 (i)) (l3 : hp_i l 3 (kk)) (e0 : ∀ (l' : am_L) (h' : am_H), ly_hy m_tt ly_TH h' → ly_fr cst [] h h' → h.length ≤ h'.length → ly_hv cst h' 262 0 = some (n) → ly_hv cst h' 261 0 = some (t) → hp_a l' 0 17 → hp_i l' 1 (kk) → hp_i l' 2 (i + 1) → hp_F cst strs Φ D M 17 l' [] h') : hp_F cst strs Φ D M 55 l [] h := by
  refine hp_arc c hM gtJ_k hD [n, i, t, kk] rfl hy (hp_Bc (z := n) rfl b0 t0 (hp_Bc (z := i) rfl b1 t1 (hp_Bc (z := t) rfl b2 t2 (hp_Bc (z := kk) rfl b3 t3 hp_Bn)))) (hp_Fc (z := ((-1) + (1 * n + ((-1) * i + 0)))) rfl (by omega) hp_Fn) (hp_Kc (zi := (0 + 0)) (zv := (0 + (1 * n + 0))) k0 rfl rfl (by omega) (by omega) (hp_Kc (zi := (0 + 0)) (zv := (0 + (1 * t + 0))) k1 rfl rfl (by omega) (by omega) hp_Kn)) (hp_La l0 (hp_Li (z := (0 + (1 * i + 0))) l2 rfl (by omega) (hp_Li (z := (0 + (1 * kk + 0))) l3 rfl (by omega) hp_Ln))) trivial ?_ ?_
  · intro p hp ys l' st' h' hys a1 a2 a3 gZ gL gS
    rcases List.mem_cons.mp hp with rfl | hp
    · obtain rfl := hp_y0 hys
      cases hp_gSn gS
      exact e0 l' h' a1 a2 a3 (hp_gK (zi := (0 + 0)) (zv := (0 + (1 * n + 0))) gZ.2.2.2 (List.mem_of_getElem? (i := 0) rfl) rfl rfl (by omega) (by omega)) (hp_gK (zi := (0 + 0)) (zv := (0 + (1 * t + 0))) gZ.2.2.2 (List.mem_of_getElem? (i := 1) rfl) rfl rfl (by omega) (by omega)) (hp_gLa gL (List.mem_of_getElem? (i := 0) rfl) (by decide)) (hp_gLi (z := (0 + (1 * kk + 0))) gL (List.mem_of_getElem? (i := 1) rfl) rfl (by omega)) (hp_gLi (z := (1 + (1 * i + 0))) gL (List.mem_of_getElem? (i := 2) rfl) rfl (by omega))
    cases hp
  · intro p hp ys v h' hys a1 a2 a3 gZ gS
    cases hp
theorem gtK_k : hp_chk 71 17 3 [(0, 0, 1200), (1, 1, 255), (2, 0, 1200)] [] [(0, .inr (.inr (.inl (some 17)))), (1, .inl (0, [(1, 1)])), (2, .inl (0, [(0, 1)]))] [] [(262, (0, []), (0, [(0, 1)])), (261, (0, []), (0, [(2, 1)]))] [] 6 [] [([], 3, [(0, 0, 1200), (1, 1, 255), (2, 0, 1200)], [], [], [], [(261, (0, []), (0, [(2, 1)]))])] = true := by decide +kernel
theorem gtK {cst : am_K} {strs : List Nat} {Φ : am_Q → Prop} {D : Nat} {M : am_M} {h : am_H} {l : am_L} (c : hp_C cst strs D) (hM : m_P[71]? = some M) (hD : (6 : Int) ≤ (D : Int) + 1) (hy : ly_hy m_tt ly_TH h) (n w t : Int) (b0 : 0 ≤ n) (t0 : n ≤ 1200) (b1 : 1 ≤ w) (t1 : w ≤ 255) (b2 : 0 ≤ t) (t2 : t ≤ 1200) (k0 : ly_hv cst h 262 0 = some (n)) (k1 : ly_hv cst h 261 0 = some (t)) (l0 : hp_a l 0 17) (l1 : hp_i l 1 (w)) (l2 : hp_i l 2 (n)) (r0 : ∀ (h' : am_H), ly_hy m_tt ly_TH h' → ly_fr cst [] h h' → h.length ≤ h'.length → ly_hv cst h' 261 0 = some (t) → Φ (none, h', 0, 0)) : hp_F cst strs Φ D M 17 l [] h := by
  refine hp_arc c hM gtK_k hD [n, w, t] rfl hy (hp_Bc (z := n) rfl b0 t0 (hp_Bc (z := w) rfl b1 t1 (hp_Bc (z := t) rfl b2 t2 hp_Bn))) hp_Fn (hp_Kc (zi := (0 + 0)) (zv := (0 + (1 * n + 0))) k0 rfl rfl (by omega) (by omega) (hp_Kc (zi := (0 + 0)) (zv := (0 + (1 * t + 0))) k1 rfl rfl (by omega) (by omega) hp_Kn)) (hp_La l0 (hp_Li (z := (0 + (1 * w + 0))) l1 rfl (by omega) (hp_Li (z := (0 + (1 * n + 0))) l2 rfl (by omega) hp_Ln))) trivial ?_ ?_
  · intro p hp ys l' st' h' hys a1 a2 a3 gZ gL gS
    cases hp
  · intro p hp ys v h' hys a1 a2 a3 gZ gS
    rcases List.mem_cons.mp hp with rfl | hp
    · obtain rfl := hp_y0 hys
      have sv := hp_gSn gS
      cases v with
      | some w => cases sv
      | none =>
        exact r0 h' a1 a2 a3 (hp_gK (zi := (0 + 0)) (zv := (0 + (1 * t + 0))) gZ.2.2.2 (List.mem_of_getElem? (i := 0) rfl) rfl rfl (by omega) (by omega))
    cases hp
theorem gw0_k : hq_chk [75] 74 0 2 [(0, 0, 1199), (1, 1, 1200)] [] [(0, .inr (.inr (.inl (some 17)))), (1, .inl (0, [(0, 1)]))] [] [(261, (0, []), (0, [(1, 1)])), (768, ((-1), [(1, 1)]), (3, []))] [] 5 [] [([], 2, [(0, 0, 1199), (1, 1, 1200)], [], [], [], [])] = true := by decide +kernel
theorem gw0 {cst : am_K} {strs : List Nat} {Φ : am_Q → Prop} {D : Nat} {M : am_M} {h : am_H} {l : am_L} (c : hp_C cst strs D) (hM : m_P[74]? = some M) (hD : (5 : Int) ≤ (D : Int) + 1) (hy : ly_hy m_tt ly_TH h) (i t : Int) (b0 : 0 ≤ i) (t0 : i ≤ 1199) (b1 : 1 ≤ t) (t1 : t ≤ 1200) (k0 : ly_hv cst h 261 0 = some (t)) (k1 : ly_hv cst h 768 (t - 1) = some 3) (l0 : hp_a l 0 17) (l1 : hp_i l 1 (i)) (r0 : ∀ (h' : am_H), ly_hy m_tt ly_TH h' → ly_fr cst [] h h' → h.length ≤ h'.length → Φ (none, h', 0, 0)) : hp_F cst strs Φ D M 0 l [] h := by
  refine hq_arc c hM gw0_k hD [i, t] rfl hy (hp_Bc (z := i) rfl b0 t0 (hp_Bc (z := t) rfl b1 t1 hp_Bn)) hp_Fn (hp_Kc (zi := (0 + 0)) (zv := (0 + (1 * t + 0))) k0 rfl rfl (by omega) (by omega) (hp_Kc (zi := ((-1) + (1 * t + 0))) (zv := (3 + 0)) k1 rfl rfl (by omega) (by omega) hp_Kn)) (hp_La l0 (hp_Li (z := (0 + (1 * i + 0))) l1 rfl (by omega) hp_Ln)) trivial ?_ ?_
  · intro p hp ys l' st' h' hys a1 a2 a3 gZ gL gS
    cases hp
  · intro p hp ys v h' hys a1 a2 a3 gZ gS
    rcases List.mem_cons.mp hp with rfl | hp
    · obtain rfl := hp_y0 hys
      have sv := hp_gSn gS
      cases v with
      | some w => cases sv
      | none =>
        exact r0 h' a1 a2 a3
    cases hp
theorem gwa1_k : hq_chk [75] 74 0 3 [(0, 0, 1199), (1, 1, 1200), (2, 0, 1199)] [((-12), [(0, 1), (2, (-1))])] [(0, .inr (.inr (.inl (some 17)))), (1, .inl (0, [(0, 1)]))] [] [(261, (0, []), (0, [(1, 1)])), (768, ((-1), [(1, 1)]), (1, [])), (1024, ((-1), [(1, 1)]), (0, [(2, 1)]))] [] 5 [(59, ([], 3, [(0, 0, 1199), (1, 1, 1200), (2, 0, 1199)], [], [(0, .inr (.inr (.inl (some 17))))], [.inl (3, []), .inl ((-1), [(1, 1)]), .inr (.inr (.inl (some 19)))], []))] [] = true := by decide +kernel
theorem gwa1 {cst : am_K} {strs : List Nat} {Φ : am_Q → Prop} {D : Nat} {M : am_M} {h : am_H} {l : am_L} (c : hp_C cst strs D) (hM : m_P[74]? = some M) (hD : (5 : Int) ≤ (D : Int) + 1) (hy : ly_hy m_tt ly_TH h) (i t p : Int) (b0 : 0 ≤ i) (t0 : i ≤ 1199) (b1 : 1 ≤ t) (t1 : t ≤ 1200) (b2 : 0 ≤ p) (t2 : p ≤ 1199) (f0 : 0 ≤ (i - p - 12)) (k0 : ly_hv cst h 261 0 = some (t)) (k1 : ly_hv cst h 768 (t - 1) = some 1) (k2 : ly_hv cst h 1024 (t - 1) = some (p)) (l0 : hp_a l 0 17) (l1 : hp_i l 1 (i)) (e0 : ∀ (l' : am_L) (h' : am_H) (y0 : Int32) (y1 : Int32), y0.toInt = 3 → y1.toInt = (t - 1) → ly_hy m_tt ly_TH h' → ly_fr cst [] h h' → h.length ≤ h'.length → hp_a l' 0 17 → hp_F cst strs Φ D M 59 l' [.int y0, .int y1, .ref 19] h') : hp_F cst strs Φ D M 0 l [] h := by
  refine hq_arc c hM gwa1_k hD [i, t, p] rfl hy (hp_Bc (z := i) rfl b0 t0 (hp_Bc (z := t) rfl b1 t1 (hp_Bc (z := p) rfl b2 t2 hp_Bn))) (hp_Fc (z := ((-12) + (1 * i + ((-1) * p + 0)))) rfl (by omega) hp_Fn) (hp_Kc (zi := (0 + 0)) (zv := (0 + (1 * t + 0))) k0 rfl rfl (by omega) (by omega) (hp_Kc (zi := ((-1) + (1 * t + 0))) (zv := (1 + 0)) k1 rfl rfl (by omega) (by omega) (hp_Kc (zi := ((-1) + (1 * t + 0))) (zv := (0 + (1 * p + 0))) k2 rfl rfl (by omega) (by omega) hp_Kn))) (hp_La l0 (hp_Li (z := (0 + (1 * i + 0))) l1 rfl (by omega) hp_Ln)) trivial ?_ ?_
  · intro p hp ys l' st' h' hys a1 a2 a3 gZ gL gS
    rcases List.mem_cons.mp hp with rfl | hp
    · obtain rfl := hp_y0 hys
      obtain ⟨y0, t0, rfl, q0, g0⟩ := hp_gSi (z := (3 + 0)) gS rfl
      obtain ⟨y1, t1, rfl, q1, g1⟩ := hp_gSi (z := ((-1) + (1 * t + 0))) g0 rfl
      obtain ⟨t2, rfl, g2⟩ := hp_gSa g1 (by decide)
      cases hp_gSn g2
      exact e0 l' h' y0 y1 (by omega) (by omega) a1 a2 a3 (hp_gLa gL (List.mem_of_getElem? (i := 0) rfl) (by decide))
    cases hp
  · intro p hp ys v h' hys a1 a2 a3 gZ gS
    cases hp
theorem gwb1_k : hq_chk [75] 74 0 5 [(0, 0, 1199), (1, 1, 1200), (2, 0, 1199), (3, 97, 122), (4, 0, 36028797018963968)] [((-1), [(0, 1), (2, (-1))]), (11, [(0, (-1)), (2, 1)])] [(0, .inr (.inr (.inl (some 17)))), (1, .inl (0, [(0, 1)]))] [] [(261, (0, []), (0, [(1, 1)])), (768, ((-1), [(1, 1)]), (1, [])), (1024, ((-1), [(1, 1)]), (0, [(2, 1)])), (512, (0, [(0, 1)]), (0, [(3, 1)])), (1280, ((-1), [(1, 1)]), (0, [(4, 1)]))] [] 5 [(102, ([], 5, [(0, 0, 1199), (1, 1, 1200), (2, 0, 1199), (3, 97, 122), (4, 0, 36028797018963968)], [], [(0, .inr (.inr (.inl (some 17))))], [.inr (.inl ((-96), [(3, 1), (4, 32)])), .inl ((-1), [(1, 1)]), .inr (.inr (.inl (some 21)))], []))] [] = true := by decide +kernel
theorem gwb1 {cst : am_K} {strs : List Nat} {Φ : am_Q → Prop} {D : Nat} {M : am_M} {h : am_H} {l : am_L} (c : hp_C cst strs D) (hM : m_P[74]? = some M) (hD : (5 : Int) ≤ (D : Int) + 1) (hy : ly_hy m_tt ly_TH h) (i t p b x : Int) (b0 : 0 ≤ i) (t0 : i ≤ 1199) (b1 : 1 ≤ t) (t1 : t ≤ 1200) (b2 : 0 ≤ p) (t2 : p ≤ 1199) (b3 : 97 ≤ b) (t3 : b ≤ 122) (b4 : 0 ≤ x) (t4 : x ≤ 36028797018963968) (f0 : 0 ≤ (i - p - 1)) (f1 : 0 ≤ (p - i + 11)) (k0 : ly_hv cst h 261 0 = some (t)) (k1 : ly_hv cst h 768 (t - 1) = some 1) (k2 : ly_hv cst h 1024 (t - 1) = some (p)) (k3 : ly_hv cst h 512 (i) = some (b)) (k4 : ly_hv cst h 1280 (t - 1) = some (x)) (l0 : hp_a l 0 17) (l1 : hp_i l 1 (i)) (e0 : ∀ (l' : am_L) (h' : am_H) (y0 : Int64) (y1 : Int32), y0.toInt = (32 * x + b - 96) → y1.toInt = (t - 1) → ly_hy m_tt ly_TH h' → ly_fr cst [] h h' → h.length ≤ h'.length → hp_a l' 0 17 → hp_F cst strs Φ D M 102 l' [.long y0, .int y1, .ref 21] h') : hp_F cst strs Φ D M 0 l [] h := by
  refine hq_arc c hM gwb1_k hD [i, t, p, b, x] rfl hy (hp_Bc (z := i) rfl b0 t0 (hp_Bc (z := t) rfl b1 t1 (hp_Bc (z := p) rfl b2 t2 (hp_Bc (z := b) rfl b3 t3 (hp_Bc (z := x) rfl b4 t4 hp_Bn))))) (hp_Fc (z := ((-1) + (1 * i + ((-1) * p + 0)))) rfl (by omega) (hp_Fc (z := (11 + ((-1) * i + (1 * p + 0)))) rfl (by omega) hp_Fn)) (hp_Kc (zi := (0 + 0)) (zv := (0 + (1 * t + 0))) k0 rfl rfl (by omega) (by omega) (hp_Kc (zi := ((-1) + (1 * t + 0))) (zv := (1 + 0)) k1 rfl rfl (by omega) (by omega) (hp_Kc (zi := ((-1) + (1 * t + 0))) (zv := (0 + (1 * p + 0))) k2 rfl rfl (by omega) (by omega) (hp_Kc (zi := (0 + (1 * i + 0))) (zv := (0 + (1 * b + 0))) k3 rfl rfl (by omega) (by omega) (hp_Kc (zi := ((-1) + (1 * t + 0))) (zv := (0 + (1 * x + 0))) k4 rfl rfl (by omega) (by omega) hp_Kn))))) (hp_La l0 (hp_Li (z := (0 + (1 * i + 0))) l1 rfl (by omega) hp_Ln)) trivial ?_ ?_
  · intro p hp ys l' st' h' hys a1 a2 a3 gZ gL gS
    rcases List.mem_cons.mp hp with rfl | hp
    · obtain rfl := hp_y0 hys
      obtain ⟨y0, t0, rfl, q0, g0⟩ := hp_gSj (z := ((-96) + (1 * b + (32 * x + 0)))) gS rfl
      obtain ⟨y1, t1, rfl, q1, g1⟩ := hp_gSi (z := ((-1) + (1 * t + 0))) g0 rfl
      obtain ⟨t2, rfl, g2⟩ := hp_gSa g1 (by decide)
      cases hp_gSn g2
      exact e0 l' h' y0 y1 (by omega) (by omega) a1 a2 a3 (hp_gLa gL (List.mem_of_getElem? (i := 0) rfl) (by decide))
    cases hp
  · intro p hp ys v h' hys a1 a2 a3 gZ gS
    cases hp
theorem gwa2_k : hq_chk [75] 74 0 3 [(0, 0, 1199), (1, 1, 1200), (2, 0, 1199)] [((-4), [(0, 1), (2, (-1))])] [(0, .inr (.inr (.inl (some 17)))), (1, .inl (0, [(0, 1)]))] [] [(261, (0, []), (0, [(1, 1)])), (768, ((-1), [(1, 1)]), (2, [])), (1024, ((-1), [(1, 1)]), (0, [(2, 1)]))] [] 5 [(59, ([], 3, [(0, 0, 1199), (1, 1, 1200), (2, 0, 1199)], [], [(0, .inr (.inr (.inl (some 17))))], [.inl (3, []), .inl ((-1), [(1, 1)]), .inr (.inr (.inl (some 19)))], []))] [] = true := by decide +kernel
theorem gwa2 {cst : am_K} {strs : List Nat} {Φ : am_Q → Prop} {D : Nat} {M : am_M} {h : am_H} {l : am_L} (c : hp_C cst strs D) (hM : m_P[74]? = some M) (hD : (5 : Int) ≤ (D : Int) + 1) (hy : ly_hy m_tt ly_TH h) (i t p : Int) (b0 : 0 ≤ i) (t0 : i ≤ 1199) (b1 : 1 ≤ t) (t1 : t ≤ 1200) (b2 : 0 ≤ p) (t2 : p ≤ 1199) (f0 : 0 ≤ (i - p - 4)) (k0 : ly_hv cst h 261 0 = some (t)) (k1 : ly_hv cst h 768 (t - 1) = some 2) (k2 : ly_hv cst h 1024 (t - 1) = some (p)) (l0 : hp_a l 0 17) (l1 : hp_i l 1 (i)) (e0 : ∀ (l' : am_L) (h' : am_H) (y0 : Int32) (y1 : Int32), y0.toInt = 3 → y1.toInt = (t - 1) → ly_hy m_tt ly_TH h' → ly_fr cst [] h h' → h.length ≤ h'.length → hp_a l' 0 17 → hp_F cst strs Φ D M 59 l' [.int y0, .int y1, .ref 19] h') : hp_F cst strs Φ D M 0 l [] h := by
  refine hq_arc c hM gwa2_k hD [i, t, p] rfl hy (hp_Bc (z := i) rfl b0 t0 (hp_Bc (z := t) rfl b1 t1 (hp_Bc (z := p) rfl b2 t2 hp_Bn))) (hp_Fc (z := ((-4) + (1 * i + ((-1) * p + 0)))) rfl (by omega) hp_Fn) (hp_Kc (zi := (0 + 0)) (zv := (0 + (1 * t + 0))) k0 rfl rfl (by omega) (by omega) (hp_Kc (zi := ((-1) + (1 * t + 0))) (zv := (2 + 0)) k1 rfl rfl (by omega) (by omega) (hp_Kc (zi := ((-1) + (1 * t + 0))) (zv := (0 + (1 * p + 0))) k2 rfl rfl (by omega) (by omega) hp_Kn))) (hp_La l0 (hp_Li (z := (0 + (1 * i + 0))) l1 rfl (by omega) hp_Ln)) trivial ?_ ?_
  · intro p hp ys l' st' h' hys a1 a2 a3 gZ gL gS
    rcases List.mem_cons.mp hp with rfl | hp
    · obtain rfl := hp_y0 hys
      obtain ⟨y0, t0, rfl, q0, g0⟩ := hp_gSi (z := (3 + 0)) gS rfl
      obtain ⟨y1, t1, rfl, q1, g1⟩ := hp_gSi (z := ((-1) + (1 * t + 0))) g0 rfl
      obtain ⟨t2, rfl, g2⟩ := hp_gSa g1 (by decide)
      cases hp_gSn g2
      exact e0 l' h' y0 y1 (by omega) (by omega) a1 a2 a3 (hp_gLa gL (List.mem_of_getElem? (i := 0) rfl) (by decide))
    cases hp
  · intro p hp ys v h' hys a1 a2 a3 gZ gS
    cases hp
theorem gwb2_k : hq_chk [75] 74 0 5 [(0, 0, 1199), (1, 1, 1200), (2, 0, 1199), (3, 48, 57), (4, 0, 9999)] [((-1), [(0, 1), (2, (-1))]), (3, [(0, (-1)), (2, 1)])] [(0, .inr (.inr (.inl (some 17)))), (1, .inl (0, [(0, 1)]))] [] [(261, (0, []), (0, [(1, 1)])), (768, ((-1), [(1, 1)]), (2, [])), (1024, ((-1), [(1, 1)]), (0, [(2, 1)])), (512, (0, [(0, 1)]), (0, [(3, 1)])), (1280, ((-1), [(1, 1)]), (0, [(4, 1)]))] [] 5 [(102, ([], 5, [(0, 0, 1199), (1, 1, 1200), (2, 0, 1199), (3, 48, 57), (4, 0, 9999)], [], [(0, .inr (.inr (.inl (some 17))))], [.inr (.inl ((-48), [(3, 1), (4, 10)])), .inl ((-1), [(1, 1)]), .inr (.inr (.inl (some 21)))], []))] [] = true := by decide +kernel
theorem gwb2 {cst : am_K} {strs : List Nat} {Φ : am_Q → Prop} {D : Nat} {M : am_M} {h : am_H} {l : am_L} (c : hp_C cst strs D) (hM : m_P[74]? = some M) (hD : (5 : Int) ≤ (D : Int) + 1) (hy : ly_hy m_tt ly_TH h) (i t p b x : Int) (b0 : 0 ≤ i) (t0 : i ≤ 1199) (b1 : 1 ≤ t) (t1 : t ≤ 1200) (b2 : 0 ≤ p) (t2 : p ≤ 1199) (b3 : 48 ≤ b) (t3 : b ≤ 57) (b4 : 0 ≤ x) (t4 : x ≤ 9999) (f0 : 0 ≤ (i - p - 1)) (f1 : 0 ≤ (p - i + 3)) (k0 : ly_hv cst h 261 0 = some (t)) (k1 : ly_hv cst h 768 (t - 1) = some 2) (k2 : ly_hv cst h 1024 (t - 1) = some (p)) (k3 : ly_hv cst h 512 (i) = some (b)) (k4 : ly_hv cst h 1280 (t - 1) = some (x)) (l0 : hp_a l 0 17) (l1 : hp_i l 1 (i)) (e0 : ∀ (l' : am_L) (h' : am_H) (y0 : Int64) (y1 : Int32), y0.toInt = (10 * x + b - 48) → y1.toInt = (t - 1) → ly_hy m_tt ly_TH h' → ly_fr cst [] h h' → h.length ≤ h'.length → hp_a l' 0 17 → hp_F cst strs Φ D M 102 l' [.long y0, .int y1, .ref 21] h') : hp_F cst strs Φ D M 0 l [] h := by
  refine hq_arc c hM gwb2_k hD [i, t, p, b, x] rfl hy (hp_Bc (z := i) rfl b0 t0 (hp_Bc (z := t) rfl b1 t1 (hp_Bc (z := p) rfl b2 t2 (hp_Bc (z := b) rfl b3 t3 (hp_Bc (z := x) rfl b4 t4 hp_Bn))))) (hp_Fc (z := ((-1) + (1 * i + ((-1) * p + 0)))) rfl (by omega) (hp_Fc (z := (3 + ((-1) * i + (1 * p + 0)))) rfl (by omega) hp_Fn)) (hp_Kc (zi := (0 + 0)) (zv := (0 + (1 * t + 0))) k0 rfl rfl (by omega) (by omega) (hp_Kc (zi := ((-1) + (1 * t + 0))) (zv := (2 + 0)) k1 rfl rfl (by omega) (by omega) (hp_Kc (zi := ((-1) + (1 * t + 0))) (zv := (0 + (1 * p + 0))) k2 rfl rfl (by omega) (by omega) (hp_Kc (zi := (0 + (1 * i + 0))) (zv := (0 + (1 * b + 0))) k3 rfl rfl (by omega) (by omega) (hp_Kc (zi := ((-1) + (1 * t + 0))) (zv := (0 + (1 * x + 0))) k4 rfl rfl (by omega) (by omega) hp_Kn))))) (hp_La l0 (hp_Li (z := (0 + (1 * i + 0))) l1 rfl (by omega) hp_Ln)) trivial ?_ ?_
  · intro p hp ys l' st' h' hys a1 a2 a3 gZ gL gS
    rcases List.mem_cons.mp hp with rfl | hp
    · obtain rfl := hp_y0 hys
      obtain ⟨y0, t0, rfl, q0, g0⟩ := hp_gSj (z := ((-48) + (1 * b + (10 * x + 0)))) gS rfl
      obtain ⟨y1, t1, rfl, q1, g1⟩ := hp_gSi (z := ((-1) + (1 * t + 0))) g0 rfl
      obtain ⟨t2, rfl, g2⟩ := hp_gSa g1 (by decide)
      cases hp_gSn g2
      exact e0 l' h' y0 y1 (by omega) (by omega) a1 a2 a3 (hp_gLa gL (List.mem_of_getElem? (i := 0) rfl) (by decide))
    cases hp
  · intro p hp ys v h' hys a1 a2 a3 gZ gS
    cases hp
theorem gwc_k : hp_chk 74 60 0 [] [] [(0, .inr (.inr (.inl (some 17))))] [] [] [] 5 [] [([], 0, [], [], [], [], [])] = true := by decide +kernel
theorem gwc {cst : am_K} {strs : List Nat} {Φ : am_Q → Prop} {D : Nat} {M : am_M} {h : am_H} {l : am_L} (c : hp_C cst strs D) (hM : m_P[74]? = some M) (hD : (5 : Int) ≤ (D : Int) + 1) (hy : ly_hy m_tt ly_TH h) (l0 : hp_a l 0 17) (r0 : ∀ (h' : am_H), ly_hy m_tt ly_TH h' → ly_fr cst [] h h' → h.length ≤ h'.length → Φ (none, h', 0, 0)) : hp_F cst strs Φ D M 60 l [] h := by
  refine hp_arc c hM gwc_k hD [] rfl hy hp_Bn hp_Fn hp_Kn (hp_La l0 hp_Ln) trivial ?_ ?_
  · intro p hp ys l' st' h' hys a1 a2 a3 gZ gL gS
    cases hp
  · intro p hp ys v h' hys a1 a2 a3 gZ gS
    rcases List.mem_cons.mp hp with rfl | hp
    · obtain rfl := hp_y0 hys
      have sv := hp_gSn gS
      cases v with
      | some w => cases sv
      | none =>
        exact r0 h' a1 a2 a3
    cases hp
theorem gwd_k : hp_chk 74 103 0 [] [] [(0, .inr (.inr (.inl (some 17))))] [] [] [] 5 [] [([], 0, [], [], [], [], [])] = true := by decide +kernel
theorem gwd {cst : am_K} {strs : List Nat} {Φ : am_Q → Prop} {D : Nat} {M : am_M} {h : am_H} {l : am_L} (c : hp_C cst strs D) (hM : m_P[74]? = some M) (hD : (5 : Int) ≤ (D : Int) + 1) (hy : ly_hy m_tt ly_TH h) (l0 : hp_a l 0 17) (r0 : ∀ (h' : am_H), ly_hy m_tt ly_TH h' → ly_fr cst [] h h' → h.length ≤ h'.length → Φ (none, h', 0, 0)) : hp_F cst strs Φ D M 103 l [] h := by
  refine hp_arc c hM gwd_k hD [] rfl hy hp_Bn hp_Fn hp_Kn (hp_La l0 hp_Ln) trivial ?_ ?_
  · intro p hp ys l' st' h' hys a1 a2 a3 gZ gL gS
    cases hp
  · intro p hp ys v h' hys a1 a2 a3 gZ gS
    rcases List.mem_cons.mp hp with rfl | hp
    · obtain rfl := hp_y0 hys
      have sv := hp_gSn gS
      cases v with
      | some w => cases sv
      | none =>
        exact r0 h' a1 a2 a3
    cases hp
theorem tkk_l {b : Int} (h0 : 97 ≤ b) (h1 : b ≤ 122) : tkk b = 1 := by
  unfold tkk
  rw [if_pos ⟨h0, h1⟩]
theorem tkk_d {b : Int} (h0 : 48 ≤ b) (h1 : b ≤ 57) : tkk b = 2 := by
  unfold tkk
  rw [if_neg (by omega), if_pos ⟨h0, h1⟩]
theorem tkk_b {b : Int} (h : b = 32 ∨ b = 10) : tkk b = 4 := by
  unfold tkk
  rw [if_neg (by omega), if_neg (by omega), if_pos h]
theorem tkk_s {b : Int} (h : b = 59 ∨ b = 61 ∨ b = 40 ∨ b = 41 ∨ b = 43) : tkk b = b := by
  unfold tkk
  rw [if_neg (by omega), if_neg (by omega), if_neg (by omega), if_pos h]
theorem tkk_w {b : Int} (h1 : ¬ (97 ≤ b ∧ b ≤ 122)) (h2 : ¬ (48 ≤ b ∧ b ≤ 57)) (h3 : ¬ (b = 32 ∨ b = 10)) (h4 : ¬ (b = 59 ∨ b = 61 ∨ b = 40 ∨ b = 41 ∨ b = 43)) : tkk b = 3 := by
  unfold tkk
  rw [if_neg h1, if_neg h2, if_neg h3, if_neg h4]
theorem tkk_r (b : Int) : 1 ≤ tkk b ∧ tkk b ≤ 61 := by
  unfold tkk
  split
  · omega
  · split
    · omega
    · split
      · omega
      · split <;> omega
theorem tkv_l {b : Int} (h0 : 97 ≤ b) (h1 : b ≤ 122) : tkv b = b - 96 := by
  unfold tkv
  rw [if_pos ⟨h0, h1⟩]
theorem tkv_o {b : Int} (h : ¬ (97 ≤ b ∧ b ≤ 122)) : tkv b = b - 48 := by
  unfold tkv
  rw [if_neg h]
theorem tkk_1 {b : Int} (h : tkk b = 1) : 97 ≤ b ∧ b ≤ 122 := by
  unfold tkk at h
  split at h
  · assumption
  · split at h
    · omega
    · split at h
      · omega
      · split at h <;> omega
theorem tkk_2 {b : Int} (h : tkk b = 2) : 48 ≤ b ∧ b ≤ 57 := by
  unfold tkk at h
  split at h
  · omega
  · split at h
    · assumption
    · split at h
      · omega
      · split at h <;> omega
/-- d letters are worth less than 32 ^ d, d figures less than 10 ^ d -/
theorem tk_wl {f : Int → Int} {s : Int} : ∀ d : Nat, (∀ x, s ≤ x → x < s + (d : Int) → tkk (f x) = 1) → 0 ≤ tk_w f 32 s d ∧ tk_w f 32 s d < ((32 ^ d : Nat) : Int)
  | 0, _ => by simp [tk_w]
  | d + 1, h => by
    have ih := tk_wl d (fun x a b => h x a (by omega))
    have q := tkk_1 (h (s + (d : Int)) (by omega) (by omega))
    have v := tkv_l q.1 q.2
    rw [tk_w, Nat.pow_succ]
    generalize 32 ^ d = z at ih ⊢
    omega
theorem tk_wd {f : Int → Int} {s : Int} : ∀ d : Nat, (∀ x, s ≤ x → x < s + (d : Int) → tkk (f x) = 2) → 0 ≤ tk_w f 10 s d ∧ tk_w f 10 s d < ((10 ^ d : Nat) : Int)
  | 0, _ => by simp [tk_w]
  | d + 1, h => by
    have ih := tk_wd d (fun x a b => h x a (by omega))
    have q := tkk_2 (h (s + (d : Int)) (by omega) (by omega))
    have v : tkv (f (s + (d : Int))) = f (s + (d : Int)) - 48 := tkv_o (by omega)
    rw [tk_w, Nat.pow_succ]
    generalize 10 ^ d = z at ih ⊢
    omega
/-- a row as a function -/
noncomputable def gt_g (cst : am_K) (h : am_H) (r : Nat) : Int → Int := fun j => (ly_hv cst h r j).getD 0
theorem gt_gs {cst : am_K} {h : am_H} {r : Nat} {j v : Int} (e : ly_hv cst h r j = some v) : gt_g cst h r j = v := by
  unfold gt_g
  rw [e]
  rfl
theorem gt_gq {cst : am_K} {h h' : am_H} {r : Nat} {j : Int} (e : ly_hv cst h' r j = ly_hv cst h r j) : gt_g cst h' r j = gt_g cst h r j := by
  unfold gt_g
  rw [e]
/-- growToken -/
def gw_P (cst : am_K) (h h' : am_H) (t i p kd x b k : Int) : Prop := (∀ j, j ≠ t - 1 → ly_hv cst h' 768 j = ly_hv cst h 768 j) ∧ (∀ j, j ≠ t - 1 → ly_hv cst h' 1280 j = ly_hv cst h 1280 j) ∧ (kd = k → i + 1 - p ≤ tk_m k → ly_hv cst h' 768 (t - 1) = some kd ∧ ly_hv cst h' 1280 (t - 1) = some (tk_b k * x + tkv b)) ∧ (kd = 3 ∨ tk_m k < i + 1 - p → ly_hv cst h' 768 (t - 1) = some 3)
theorem gw_run {cst : am_K} {strs : List Nat} {D : Nat} {h : am_H} (c : hp_C cst strs D) (hD : (5 : Int) ≤ (D : Int) + 1) (hy : ly_hy m_tt ly_TH h) {xi : Int32} {t p kd x b k : Int} (i0 : 0 ≤ xi.toInt) (i1 : xi.toInt ≤ 1199) (t0 : 1 ≤ t) (t1 : t ≤ 1200) (p0 : 0 ≤ p) (p1 : p < xi.toInt) (kt : ly_hv cst h 261 0 = some t) (kk : ly_hv cst h 768 (t - 1) = some kd) (kp : ly_hv cst h 1024 (t - 1) = some p) (kx : ly_hv cst h 1280 (t - 1) = some x) (kb : ly_hv cst h 512 xi.toInt = some b) (hk : (k = 1 ∧ 97 ≤ b ∧ b ≤ 122) ∨ (k = 2 ∧ 48 ≤ b ∧ b ≤ 57)) (hd : kd = 3 ∨ kd = k) (hx : kd = k → xi.toInt + 1 - p ≤ tk_m k → 0 ≤ x ∧ (k = 1 → x ≤ 36028797018963968) ∧ (k = 2 → x ≤ 9999)) :
    ∃ r, am_Run cst m_cl m_tt m_P strs sx_bi (D + 1) 74 [.ref 17, .int xi] h r ∧ r.1 = none ∧ r.2.2.1 = 0 ∧ r.2.2.2 = 0 ∧ ly_hy m_tt ly_TH r.2.1 ∧ ly_fr cst [768, 1280] h r.2.1 ∧ gw_P cst h r.2.1 t xi.toInt p kd x b k := by
  obtain ⟨M, hM, hl⟩ := hp_M (mi := 74) (k := 2) (by decide +kernel)
  have go : hp_F cst strs (fun r : am_Q => r.1 = none ∧ r.2.2.1 = 0 ∧ r.2.2.2 = 0 ∧ ly_hy m_tt ly_TH r.2.1 ∧ ly_fr cst [768, 1280] h r.2.1 ∧ gw_P cst h r.2.1 t xi.toInt p kd x b k) D M 0 (lv_args 0 [.ref 17, .int xi]) [] h := by
    by_cases q1 : kd = 3
    · rw [q1] at kk
      refine gw0 c hM (by omega) hy xi.toInt t i0 i1 t0 t1 kt kk rfl ⟨xi, rfl, rfl⟩ (fun h2 u1 u2 u3 => ⟨rfl, rfl, rfl, u1, hp_sub2 rfl u2, ?_⟩)
      have e1 : ly_hv cst h2 768 = ly_hv cst h 768 := hp_same (show ly_ths ly_TH 3 = some (.inl (.int, 1200, 0, 255)) from rfl) rfl hy u1 u2
      have e2 : ly_hv cst h2 1280 = ly_hv cst h 1280 := hp_samej (show ly_ths ly_TH 5 = some (.inl (.long, 1200, 0, 0)) from rfl) rfl hy u1 u2
      refine ⟨fun j _ => by rw [e1], fun j _ => by rw [e2], fun z => ?_, fun _ => by rw [e1]; exact kk⟩
      rcases hk with ⟨rfl, -⟩ | ⟨rfl, -⟩ <;> omega
    have dk : kd = k := hd.resolve_left q1
    rw [dk] at kk hx ⊢
    rcases hk with ⟨ek, b0, b1⟩ | ⟨ek, b0, b1⟩
    · subst ek
      by_cases q2 : 12 < xi.toInt + 1 - p
      · refine gwa1 c hM (by omega) hy xi.toInt t p i0 i1 t0 t1 p0 (by omega) (by omega) kt kk kp rfl ⟨xi, rfl, rfl⟩ (fun l1 h1 y0 y1 f0 f1 u1 u2 u3 g0 => ?_)
        refine hp_st (c := 3) hM (by decide +kernel) u1 (show ly_ths ly_TH 3 = some (.inl (.int, 1200, 0, 255)) from rfl) rfl (by omega) (by omega) (by omega) (by omega) (fun h2 v1 v2 v3 => ?_)
        rw [f0, f1] at v3
        have v3 : hp_put cst 768 (t - 1) 3 h1 h2 := v3
        have e1 : ly_hv cst h1 768 = ly_hv cst h 768 := hp_same (show ly_ths ly_TH 3 = some (.inl (.int, 1200, 0, 255)) from rfl) rfl hy u1 u2
        have e2 : ly_hv cst h1 1280 = ly_hv cst h 1280 := hp_samej (show ly_ths ly_TH 5 = some (.inl (.long, 1200, 0, 0)) from rfl) rfl hy u1 u2
        refine gwc c hM (by omega) v1 g0 (fun h5 w1 w2 w3 => ⟨rfl, rfl, rfl, w1, ly_fr_tr (hp_sub2 rfl u2) (ly_fr_tr (hp_put_fr (by rfl) v3) (hp_sub2 rfl w2)), ?_⟩)
        have e3 : ly_hv cst h5 768 = ly_hv cst h2 768 := hp_same (show ly_ths ly_TH 3 = some (.inl (.int, 1200, 0, 255)) from rfl) rfl v1 w1 w2
        have e4 : ly_hv cst h5 1280 = ly_hv cst h2 1280 := hp_samej (show ly_ths ly_TH 5 = some (.inl (.long, 1200, 0, 0)) from rfl) rfl v1 w1 w2
        exact ⟨fun j hj => by rw [e3, v3.2 _ _ (Or.inr hj), e1], fun j _ => by rw [e4, v3.2 _ _ (Or.inl (by decide)), e2], fun _ z => absurd z (by unfold tk_m; simp; omega), fun _ => by rw [e3]; exact v3.1⟩
      · obtain ⟨x0, x1, x2⟩ := hx rfl (by unfold tk_m; simp; omega)
        refine gwb1 c hM (by omega) hy xi.toInt t p b x i0 i1 t0 t1 p0 (by omega) b0 b1 x0 (x1 rfl) (by omega) (by omega) kt kk kp kb kx rfl ⟨xi, rfl, rfl⟩ (fun l1 h1 y0 y1 f0 f1 u1 u2 u3 g0 => ?_)
        refine hp_stj (c := 5) hM (by decide +kernel) u1 (show ly_ths ly_TH 5 = some (.inl (.long, 1200, 0, 0)) from rfl) rfl (by omega) (by omega) (fun h2 v1 v2 v3 => ?_)
        rw [f0, f1] at v3
        have v3 : hp_put cst 1280 (t - 1) (32 * x + b - 96) h1 h2 := v3
        have e1 : ly_hv cst h1 768 = ly_hv cst h 768 := hp_same (show ly_ths ly_TH 3 = some (.inl (.int, 1200, 0, 255)) from rfl) rfl hy u1 u2
        have e2 : ly_hv cst h1 1280 = ly_hv cst h 1280 := hp_samej (show ly_ths ly_TH 5 = some (.inl (.long, 1200, 0, 0)) from rfl) rfl hy u1 u2
        refine gwd c hM (by omega) v1 g0 (fun h5 w1 w2 w3 => ⟨rfl, rfl, rfl, w1, ly_fr_tr (hp_sub2 rfl u2) (ly_fr_tr (hp_put_fr (by rfl) v3) (hp_sub2 rfl w2)), ?_⟩)
        have e3 : ly_hv cst h5 768 = ly_hv cst h2 768 := hp_same (show ly_ths ly_TH 3 = some (.inl (.int, 1200, 0, 255)) from rfl) rfl v1 w1 w2
        have e4 : ly_hv cst h5 1280 = ly_hv cst h2 1280 := hp_samej (show ly_ths ly_TH 5 = some (.inl (.long, 1200, 0, 0)) from rfl) rfl v1 w1 w2
        refine ⟨fun j _ => by rw [e3, v3.2 _ _ (Or.inl (by decide)), e1], fun j hj => by rw [e4, v3.2 _ _ (Or.inr hj), e2], fun _ _ => ⟨by rw [e3, v3.2 _ _ (Or.inl (by decide)), e1]; exact kk, ?_⟩, fun z => ?_⟩
        · rw [e4, v3.1, tkv_l b0 b1]
          unfold tk_b
          simp only [if_true]
          exact congrArg some (by omega)
        · unfold tk_m at z
          simp at z
          omega
    · subst ek
      by_cases q2 : 4 < xi.toInt + 1 - p
      · refine gwa2 c hM (by omega) hy xi.toInt t p i0 i1 t0 t1 p0 (by omega) (by omega) kt kk kp rfl ⟨xi, rfl, rfl⟩ (fun l1 h1 y0 y1 f0 f1 u1 u2 u3 g0 => ?_)
        refine hp_st (c := 3) hM (by decide +kernel) u1 (show ly_ths ly_TH 3 = some (.inl (.int, 1200, 0, 255)) from rfl) rfl (by omega) (by omega) (by omega) (by omega) (fun h2 v1 v2 v3 => ?_)
        rw [f0, f1] at v3
        have v3 : hp_put cst 768 (t - 1) 3 h1 h2 := v3
        have e1 : ly_hv cst h1 768 = ly_hv cst h 768 := hp_same (show ly_ths ly_TH 3 = some (.inl (.int, 1200, 0, 255)) from rfl) rfl hy u1 u2
        have e2 : ly_hv cst h1 1280 = ly_hv cst h 1280 := hp_samej (show ly_ths ly_TH 5 = some (.inl (.long, 1200, 0, 0)) from rfl) rfl hy u1 u2
        refine gwc c hM (by omega) v1 g0 (fun h5 w1 w2 w3 => ⟨rfl, rfl, rfl, w1, ly_fr_tr (hp_sub2 rfl u2) (ly_fr_tr (hp_put_fr (by rfl) v3) (hp_sub2 rfl w2)), ?_⟩)
        have e3 : ly_hv cst h5 768 = ly_hv cst h2 768 := hp_same (show ly_ths ly_TH 3 = some (.inl (.int, 1200, 0, 255)) from rfl) rfl v1 w1 w2
        have e4 : ly_hv cst h5 1280 = ly_hv cst h2 1280 := hp_samej (show ly_ths ly_TH 5 = some (.inl (.long, 1200, 0, 0)) from rfl) rfl v1 w1 w2
        exact ⟨fun j hj => by rw [e3, v3.2 _ _ (Or.inr hj), e1], fun j _ => by rw [e4, v3.2 _ _ (Or.inl (by decide)), e2], fun _ z => absurd z (by unfold tk_m; simp; omega), fun _ => by rw [e3]; exact v3.1⟩
      · obtain ⟨x0, x1, x2⟩ := hx rfl (by unfold tk_m; simp; omega)
        refine gwb2 c hM (by omega) hy xi.toInt t p b x i0 i1 t0 t1 p0 (by omega) b0 b1 x0 (x2 rfl) (by omega) (by omega) kt kk kp kb kx rfl ⟨xi, rfl, rfl⟩ (fun l1 h1 y0 y1 f0 f1 u1 u2 u3 g0 => ?_)
        refine hp_stj (c := 5) hM (by decide +kernel) u1 (show ly_ths ly_TH 5 = some (.inl (.long, 1200, 0, 0)) from rfl) rfl (by omega) (by omega) (fun h2 v1 v2 v3 => ?_)
        rw [f0, f1] at v3
        have v3 : hp_put cst 1280 (t - 1) (10 * x + b - 48) h1 h2 := v3
        have e1 : ly_hv cst h1 768 = ly_hv cst h 768 := hp_same (show ly_ths ly_TH 3 = some (.inl (.int, 1200, 0, 255)) from rfl) rfl hy u1 u2
        have e2 : ly_hv cst h1 1280 = ly_hv cst h 1280 := hp_samej (show ly_ths ly_TH 5 = some (.inl (.long, 1200, 0, 0)) from rfl) rfl hy u1 u2
        refine gwd c hM (by omega) v1 g0 (fun h5 w1 w2 w3 => ⟨rfl, rfl, rfl, w1, ly_fr_tr (hp_sub2 rfl u2) (ly_fr_tr (hp_put_fr (by rfl) v3) (hp_sub2 rfl w2)), ?_⟩)
        have e3 : ly_hv cst h5 768 = ly_hv cst h2 768 := hp_same (show ly_ths ly_TH 3 = some (.inl (.int, 1200, 0, 255)) from rfl) rfl v1 w1 w2
        have e4 : ly_hv cst h5 1280 = ly_hv cst h2 1280 := hp_samej (show ly_ths ly_TH 5 = some (.inl (.long, 1200, 0, 0)) from rfl) rfl v1 w1 w2
        refine ⟨fun j _ => by rw [e3, v3.2 _ _ (Or.inl (by decide)), e1], fun j hj => by rw [e4, v3.2 _ _ (Or.inr hj), e2], fun _ _ => ⟨by rw [e3, v3.2 _ _ (Or.inl (by decide)), e1]; exact kk, ?_⟩, fun z => ?_⟩
        · rw [e4, v3.1, tkv_o (by omega)]
          unfold tk_b
          simp only [show ¬ ((2 : Int) = 1) by decide, if_false]
          exact congrArg some (by omega)
        · unfold tk_m at z
          simp at z
          omega
  obtain ⟨n', r, hgo, r1, r2, r3, r4⟩ := go
  simp only [Nat.zero_add] at r2 r3
  exact ⟨r, Or.inr ⟨M, n', hM, hl, hgo⟩, r1, r2, r3, r4⟩
abbrev gt_mods : List Nat := [257, 261, 262, 768, 1024, 1280]
def gt_T (cst : am_K) (f : Int → Int) (h : am_H) (n : Int) (t : Nat) (en : Nat → Int) : Prop := tkT f n t (gt_g cst h 768) (gt_g cst h 1024) (gt_g cst h 1280) en
theorem gt_mv {cst : am_K} {f : Int → Int} {h h' : am_H} {n : Int} {t : Nat} {en : Nat → Int} {ms : List Nat} (T : gt_T cst f h n t en) (hy : ly_hy m_tt ly_TH h) (hy' : ly_hy m_tt ly_TH h') (fr : ly_fr cst ms h h') (q1 : ly_has 768 ms = false) (q2 : ly_has 1024 ms = false) (q3 : ly_has 1280 ms = false) : gt_T cst f h' n t en := by
  have e1 : ly_hv cst h' 768 = ly_hv cst h 768 := hp_same (show ly_ths ly_TH 3 = some (.inl (.int, 1200, 0, 255)) from rfl) q1 hy hy' fr
  have e2 : ly_hv cst h' 1024 = ly_hv cst h 1024 := hp_same (show ly_ths ly_TH 4 = some (.inl (.int, 1200, -2147483648, 2147483647)) from rfl) q2 hy hy' fr
  have e3 : ly_hv cst h' 1280 = ly_hv cst h 1280 := hp_samej (show ly_ths ly_TH 5 = some (.inl (.long, 1200, 0, 0)) from rfl) q3 hy hy' fr
  unfold gt_T gt_g at T ⊢
  rw [e1, e2, e3]
  exact T
def gt_Φ (f : Int → Int) (cst : am_K) (h0 : am_H) (N : Nat) (r : am_Q) : Prop := r.1 = none ∧ r.2.2.1 = 0 ∧ r.2.2.2 = 0 ∧ ly_hy m_tt ly_TH r.2.1 ∧ ly_fr cst gt_mods h0 r.2.1 ∧ ly_hv cst r.2.1 257 0 = some 0 ∧ ly_hv cst r.2.1 262 0 = some (N : Int) ∧ ∃ (t : Nat) (en : Nat → Int), ly_hv cst r.2.1 261 0 = some (t : Int) ∧ (t : Int) ≤ (N : Int) ∧ gt_T cst f r.2.1 (N : Int) t en
theorem gt_lp {cst : am_K} {strs : List Nat} {D : Nat} {M : am_M} {h0 : am_H} (c1 : hp_C cst strs D) (c : hp_C cst strs (D + 1)) (hM : m_P[71]? = some M) (hD : (6 : Int) ≤ (D : Int) + 1) {N : Nat} (n1 : (N : Int) ≤ 1200) (hy0 : ly_hy m_tt ly_TH h0) : ∀ (Q : Nat) (h : am_H) (l : am_L) (i t : Nat) (w : Int) (en : Nat → Int), N - i < Q → i ≤ N → ly_hy m_tt ly_TH h → ly_fr cst gt_mods h0 h → ly_hv cst h 257 0 = some 0 → ly_hv cst h 262 0 = some (N : Int) → ly_hv cst h 261 0 = some (t : Int) → gt_T cst (gt_g cst h0 512) h (i : Int) t en → (i = 0 → w = 4) → (1 ≤ i → w = tkk (gt_g cst h0 512 ((i : Int) - 1))) → hp_a l 0 17 → hp_i l 1 w → hp_i l 2 (i : Int) → hp_F cst strs (gt_Φ (gt_g cst h0 512) cst h0 N) (D + 1) M 17 l [] h := by
  intro Q
  induction Q with
  | zero => intro h l i t w en hN; omega
  | succ Q ih =>
    intro h l i t w en hN hi hy fr kz kn kt T w4 wq l0 l1 l2
    have tl := tkT_lt T t (Nat.le_refl _)
    have te := T.2.2.1
    have w01 : 1 ≤ w ∧ w ≤ 255 := by
      by_cases z : i = 0
      · rw [w4 z]
        omega
      · have := tkk_r (gt_g cst h0 512 ((i : Int) - 1))
        rw [← wq (by omega)] at this
        omega
    by_cases z : i = N
    · rw [z] at l2 T
      exact gtK c hM (by omega) hy (N : Int) w (t : Int) (by omega) n1 w01.1 w01.2 (by omega) (by omega) kn kt l0 l1 l2 (fun h2 u1 u2 u3 k => ⟨rfl, rfl, rfl, u1, ly_fr_tr fr (hp_sub2 rfl u2), u2 _ _ _ rfl kz, u2 _ _ _ rfl kn, t, en, k, by omega, gt_mv T hy u1 u2 rfl rfl rfl⟩)
    obtain ⟨b, kb0, b0, b1⟩ := hp_row (cst := cst) (i := (i : Int)) hy0 th_CT (by omega) (by omega)
    have kb : ly_hv cst h 512 (i : Int) = some b := fr _ _ _ rfl kb0
    have fb : gt_g cst h0 512 (i : Int) = b := gt_gs kb0
    have wq1 : ∀ k : Int, tkk b = k → (1 ≤ i + 1 → k = tkk (gt_g cst h0 512 (((i + 1 : Nat) : Int) - 1))) := fun k e _ => by
      rw [show (((i + 1 : Nat) : Int) - 1) = (i : Int) by omega, fb, e]
    -- a blank
    have bl : tkk b = 4 → ∀ (h1 : am_H) (l1' : am_L), ly_hy m_tt ly_TH h1 → ly_fr cst [] h h1 → ly_hv cst h1 262 0 = some (N : Int) → ly_hv cst h1 261 0 = some (t : Int) → hp_a l1' 0 17 → hp_i l1' 1 4 → hp_i l1' 2 ((i : Int) + 1) → hp_F cst strs (gt_Φ (gt_g cst h0 512) cst h0 N) (D + 1) M 17 l1' [] h1 := fun e h1 l1' u1 u2 k1 k2 m0 m1 m2 =>
      ih h1 l1' (i + 1) t 4 en (by omega) (by omega) u1 (ly_fr_tr fr (hp_sub2 rfl u2)) (u2 _ _ _ rfl kz) k1 k2 (gt_mv (tkT_blank T (by rw [fb]; exact e)) hy u1 u2 rfl rfl rfl) (fun q => by omega) (wq1 4 e) m0 m1 m2
    by_cases q1 : b = 32
    · rw [q1] at kb
      exact gtA0 c hM (by omega) hy (N : Int) (i : Int) (t : Int) w (by omega) n1 (by omega) (by omega) (by omega) (by omega) w01.1 w01.2 (by omega) kn kt kb l0 l1 l2 (fun l1' h1 u1 u2 u3 k1 k2 m0 m1 m2 => bl (tkk_b (Or.inl q1)) h1 l1' u1 u2 k1 k2 m0 m1 m2)
    by_cases q2 : b = 10
    · rw [q2] at kb
      exact gtA1 c hM (by omega) hy (N : Int) (i : Int) (t : Int) w (by omega) n1 (by omega) (by omega) (by omega) (by omega) w01.1 w01.2 (by omega) kn kt kb l0 l1 l2 (fun l1' h1 u1 u2 u3 k1 k2 m0 m1 m2 => bl (tkk_b (Or.inr q2)) h1 l1' u1 u2 k1 k2 m0 m1 m2)
    -- a token begins
    have tn : t ≤ i := by omega
    have nw : ∀ k : Int, tkk b = k → k ≠ 4 → (1 ≤ i → tk_r k → k ≠ w) → ∀ (l1' : am_L) (h1 : am_H) (y0 y1 : Int32), y0.toInt = k → y1.toInt = (t : Int) → ly_hy m_tt ly_TH h1 → ly_fr cst [] h h1 → ly_hv cst h1 262 0 = some (N : Int) → ly_hv cst h1 261 0 = some (t : Int) → hp_a l1' 0 17 → hp_i l1' 2 (i : Int) → hp_i l1' 3 k → hp_F cst strs (gt_Φ (gt_g cst h0 512) cst h0 N) (D + 1) M 72 l1' [.int y0, .int y1, .ref 19] h1 := by
      intro k ek k4 kw l1' h1 y0 y1 f0 f1 u1 u2 k1 k2 m0 m2 m3
      have kr := tkk_r b
      rw [ek] at kr
      refine hp_st (c := 3) hM (by decide +kernel) u1 (show ly_ths ly_TH 3 = some (.inl (.int, 1200, 0, 255)) from rfl) rfl (by omega) (by omega) (by omega) (by omega) (fun h2 v1 v2 v3 => ?_)
      rw [f0, f1] at v3
      have v3 : hp_put cst 768 (t : Int) k h1 h2 := v3
      refine gtF c hM (by omega) v1 (N : Int) (i : Int) (t : Int) k (by omega) n1 (by omega) (by omega) (by omega) (by omega) (by omega) (by omega) (by omega) (by omega) (by rw [v3.2 _ _ (Or.inl (by decide))]; exact k1) (by rw [v3.2 _ _ (Or.inl (by decide))]; exact k2) m0 m2 m3 (fun l3 h3 y2 y3 f2 f3 p1 p2 p3 k3 k4' o0 o2 o3 => ?_)
      refine hp_st (c := 4) hM (by decide +kernel) p1 (show ly_ths ly_TH 4 = some (.inl (.int, 1200, -2147483648, 2147483647)) from rfl) rfl (by omega) (by omega) y2.le_toInt y2.toInt_le (fun h4 v4 v5 v6 => ?_)
      rw [f2, f3] at v6
      have v6 : hp_put cst 1024 (t : Int) (i : Int) h3 h4 := v6
      have kb4 : ly_hv cst h4 512 (i : Int) = some b := by
        rw [v6.2 _ _ (Or.inl (by decide))]
        refine p2 _ _ _ rfl ?_
        rw [v3.2 _ _ (Or.inl (by decide))]
        exact u2 _ _ _ rfl kb
      have n4 : ly_hv cst h4 262 0 = some (N : Int) := by rw [v6.2 _ _ (Or.inl (by decide))]; exact k3
      have t4 : ly_hv cst h4 261 0 = some (t : Int) := by rw [v6.2 _ _ (Or.inl (by decide))]; exact k4'
      have rest : ∀ (l5 : am_L) (h5 : am_H) (y4 : Int64) (y5 : Int32), y4.toInt = tkv b → y5.toInt = (t : Int) → ly_hy m_tt ly_TH h5 → ly_fr cst [] h4 h5 → ly_hv cst h5 262 0 = some (N : Int) → ly_hv cst h5 261 0 = some (t : Int) → hp_a l5 0 17 → hp_i l5 2 (i : Int) → hp_i l5 3 k → hp_F cst strs (gt_Φ (gt_g cst h0 512) cst h0 N) (D + 1) M 101 l5 [.long y4, .int y5, .ref 21] h5 := by
        intro l5 h5 y4 y5 f4 f5 r1 r2 n5 t5 a0 a2 a3
        refine hp_stj (c := 5) hM (by decide +kernel) r1 (show ly_ths ly_TH 5 = some (.inl (.long, 1200, 0, 0)) from rfl) rfl (by omega) (by omega) (fun h6 v7 v8 v9 => ?_)
        rw [f4, f5] at v9
        have v9 : hp_put cst 1280 (t : Int) (tkv b) h5 h6 := v9
        refine gtH c hM (by omega) v7 (N : Int) (i : Int) (t : Int) k (by omega) n1 (by omega) (by omega) (by omega) (by omega) (by omega) (by omega) (by omega) (by omega) (by rw [v9.2 _ _ (Or.inl (by decide))]; exact n5) (by rw [v9.2 _ _ (Or.inl (by decide))]; exact t5) a0 a2 a3 (fun l7 h7 s1 s2 s3 n7 t7 b0' b1' b2' => ?_)
        have e1 : ∀ j, ly_hv cst h7 768 j = ly_hv cst h2 768 j := fun j => by
          rw [hp_same (show ly_ths ly_TH 3 = some (.inl (.int, 1200, 0, 255)) from rfl) rfl v7 s1 s2, v9.2 _ _ (Or.inl (by decide)), hp_same (show ly_ths ly_TH 3 = some (.inl (.int, 1200, 0, 255)) from rfl) rfl v4 r1 r2, v6.2 _ _ (Or.inl (by decide)), hp_same (show ly_ths ly_TH 3 = some (.inl (.int, 1200, 0, 255)) from rfl) rfl v1 p1 p2]
        have e2 : ∀ j, ly_hv cst h7 1024 j = ly_hv cst h4 1024 j := fun j => by
          rw [hp_same (show ly_ths ly_TH 4 = some (.inl (.int, 1200, -2147483648, 2147483647)) from rfl) rfl v7 s1 s2, v9.2 _ _ (Or.inl (by decide)), hp_same (show ly_ths ly_TH 4 = some (.inl (.int, 1200, -2147483648, 2147483647)) from rfl) rfl v4 r1 r2]
        have e3 : ∀ j, ly_hv cst h7 1280 j = ly_hv cst h6 1280 j := fun j => by
          rw [hp_samej (show ly_ths ly_TH 5 = some (.inl (.long, 1200, 0, 0)) from rfl) rfl v7 s1 s2]
        have d1 : ∀ j, j ≠ (t : Int) → ly_hv cst h7 768 j = ly_hv cst h 768 j := fun j hj => by
          rw [e1, v3.2 _ _ (Or.inr hj), hp_same (show ly_ths ly_TH 3 = some (.inl (.int, 1200, 0, 255)) from rfl) rfl hy u1 u2]
        have d2 : ∀ j, j ≠ (t : Int) → ly_hv cst h7 1024 j = ly_hv cst h 1024 j := fun j hj => by
          rw [e2, v6.2 _ _ (Or.inr hj), hp_same (show ly_ths ly_TH 4 = some (.inl (.int, 1200, -2147483648, 2147483647)) from rfl) rfl v1 p1 p2, v3.2 _ _ (Or.inl (by decide)), hp_same (show ly_ths ly_TH 4 = some (.inl (.int, 1200, -2147483648, 2147483647)) from rfl) rfl hy u1 u2]
        have d3 : ∀ j, j ≠ (t : Int) → ly_hv cst h7 1280 j = ly_hv cst h 1280 j := fun j hj => by
          rw [e3, v9.2 _ _ (Or.inr hj), hp_samej (show ly_ths ly_TH 5 = some (.inl (.long, 1200, 0, 0)) from rfl) rfl v4 r1 r2, v6.2 _ _ (Or.inl (by decide)), hp_samej (show ly_ths ly_TH 5 = some (.inl (.long, 1200, 0, 0)) from rfl) rfl v1 p1 p2, v3.2 _ _ (Or.inl (by decide)), hp_samej (show ly_ths ly_TH 5 = some (.inl (.long, 1200, 0, 0)) from rfl) rfl hy u1 u2]
        have T7 : gt_T cst (gt_g cst h0 512) h7 ((i : Int) + 1) (t + 1) (fun j => if j ≤ t then en j else (i : Int) + 1) := tkT_new T (by rw [fb, ek]; exact k4) (fun _ r => by
          rw [fb, ek] at r ⊢
          by_cases zi : i = 0
          · rename_i y
            omega
          · rw [← wq (by omega)]
            exact kw (by omega) r) (fun j hj => gt_gq (d1 j (by omega))) (fun j hj => gt_gq (d2 j (by omega))) (fun j hj => gt_gq (d3 j (by omega))) (by rw [fb, ek]; exact gt_gs (by rw [e1]; exact v3.1)) (gt_gs (by rw [e2]; exact v6.1)) (by rw [fb]; exact gt_gs (by rw [e3]; exact v9.1))
        exact ih h7 l7 (i + 1) (t + 1) k _ (by omega) (by omega) s1 (ly_fr_tr fr (ly_fr_tr (hp_sub2 rfl u2) (ly_fr_tr (hp_put_fr (by rfl) v3) (ly_fr_tr (hp_sub2 rfl p2) (ly_fr_tr (hp_put_fr (by rfl) v6) (ly_fr_tr (hp_sub2 rfl r2) (ly_fr_tr (hp_put_fr (by rfl) v9) (hp_sub2 rfl s2)))))))) (s2 _ _ _ rfl (by
          rw [v9.2 _ _ (Or.inl (by decide))]
          refine r2 _ _ _ rfl ?_
          rw [v6.2 _ _ (Or.inl (by decide))]
          refine p2 _ _ _ rfl ?_
          rw [v3.2 _ _ (Or.inl (by decide))]
          exact u2 _ _ _ rfl kz)) n7 t7 T7 (fun q => by omega) (wq1 k ek) b0' b1' b2'
      by_cases g0 : 97 ≤ b ∧ b ≤ 122
      · refine gtG0 c hM (by omega) v4 (N : Int) (i : Int) (t : Int) k b (by omega) n1 (by omega) (by omega) (by omega) (by omega) (by omega) (by omega) g0.1 g0.2 (by omega) (by omega) n4 t4 kb4 o0 o2 o3 (fun l5 h5 y4 y5 f4 f5 r1 r2 r3 n5 t5 a0 a2 a3 => rest l5 h5 y4 y5 (by rw [tkv_l g0.1 g0.2]; exact f4) f5 r1 r2 n5 t5 a0 a2 a3)
      · by_cases g1 : b ≤ 96
        · exact gtG1 c hM (by omega) v4 (N : Int) (i : Int) (t : Int) k b (by omega) n1 (by omega) (by omega) (by omega) (by omega) (by omega) (by omega) b0 g1 (by omega) (by omega) n4 t4 kb4 o0 o2 o3 (fun l5 h5 y4 y5 f4 f5 r1 r2 r3 n5 t5 a0 a2 a3 => rest l5 h5 y4 y5 (by rw [tkv_o g0]; exact f4) f5 r1 r2 n5 t5 a0 a2 a3)
        · exact gtG2 c hM (by omega) v4 (N : Int) (i : Int) (t : Int) k b (by omega) n1 (by omega) (by omega) (by omega) (by omega) (by omega) (by omega) (by omega) b1 (by omega) (by omega) n4 t4 kb4 o0 o2 o3 (fun l5 h5 y4 y5 f4 f5 r1 r2 r3 n5 t5 a0 a2 a3 => rest l5 h5 y4 y5 (by rw [tkv_o g0]; exact f4) f5 r1 r2 n5 t5 a0 a2 a3)

    -- a token grows
    have gr : ∀ k : Int, tkk b = k → tk_r k → w = k → 1 ≤ i → ((k = 1 ∧ 97 ≤ b ∧ b ≤ 122) ∨ (k = 2 ∧ 48 ≤ b ∧ b ≤ 57)) → ∀ (l1' : am_L) (h1 : am_H) (y0 : Int32), y0.toInt = (i : Int) → ly_hy m_tt ly_TH h1 → ly_fr cst [] h h1 → ly_hv cst h1 262 0 = some (N : Int) → ly_hv cst h1 261 0 = some (t : Int) → hp_a l1' 0 17 → hp_i l1' 2 (i : Int) → hp_i l1' 3 k → hp_F cst strs (gt_Φ (gt_g cst h0 512) cst h0 N) (D + 1) M 52 l1' [.int y0, .ref 17] h1 := by
      intro k ek kr kw i1 hk l1' h1 y0 f0 u1 u2 k1 k2 m0 m2 m3
      have T1 := gt_mv T hy u1 u2 rfl rfl rfl
      have r9 : tk_r (tkk (gt_g cst h0 512 (i : Int))) := by
        rw [fb, ek]
        exact kr
      have g9 : tkk (gt_g cst h0 512 (i : Int)) = tkk (gt_g cst h0 512 ((i : Int) - 1)) := by
        rw [fb, ek, ← wq i1]
        exact kw.symm
      obtain ⟨q, tq, es, en9, pl1, pl0, -⟩ := tkT_grow (kd' := fun _ => 0) (vl' := fun _ => 0) T1 (by omega) r9 g9
      obtain ⟨kd, d1, d2, d3⟩ := hp_row (cst := cst) (i := (q : Int)) u1 (show ly_ths ly_TH 3 = some (.inl (.int, 1200, 0, 255)) from rfl) (by omega) (by omega)
      obtain ⟨p, p1, p2, p3⟩ := hp_row (cst := cst) (i := (q : Int)) u1 (show ly_ths ly_TH 4 = some (.inl (.int, 1200, -2147483648, 2147483647)) from rfl) (by omega) (by omega)
      obtain ⟨x, x1, x2, x3⟩ := hp_rowj (cst := cst) (i := (q : Int)) u1 (show ly_ths ly_TH 5 = some (.inl (.long, 1200, 0, 0)) from rfl) (by omega) (by omega)
      have gd : gt_g cst h1 768 (q : Int) = kd := gt_gs d1
      have gp : gt_g cst h1 1024 (q : Int) = p := gt_gs p1
      have gx : gt_g cst h1 1280 (q : Int) = x := gt_gs x1
      have a := T1.2.1 q (by omega)
      rw [show q + 1 = t by omega, en9, gd, gp, gx] at a
      rw [gp] at es pl1 pl0
      rw [fb, ek] at es
      obtain ⟨-, -, -, -, -, a6, -⟩ := a
      rw [es] at a6
      obtain ⟨c1', -, c3', c4'⟩ := a6 kr
      have hd : kd = 3 ∨ kd = k := by
        by_cases z1 : (i : Int) - p ≤ tk_m k
        · exact Or.inr (c3' z1).1
        · exact Or.inl (c4' (by omega))
      have hx : kd = k → (i : Int) + 1 - p ≤ tk_m k → 0 ≤ x ∧ (k = 1 → x ≤ 36028797018963968) ∧ (k = 2 → x ≤ 9999) := fun _ le => by
        have v := (c3' (by omega)).2
        have dd : (((i : Int) - p).toNat : Int) = (i : Int) - p := by omega
        rcases hk with ⟨e1, -⟩ | ⟨e1, -⟩
        · rw [e1] at v c1' le
          have b32 : tk_b 1 = 32 := rfl
          have m12 : tk_m 1 = 12 := rfl
          rw [b32] at v
          rw [m12] at le
          have y := tk_wl (f := gt_g cst h0 512) (s := p) ((i : Int) - p).toNat (fun z za zb => c1' z za (by omega))
          have pw : 32 ^ ((i : Int) - p).toNat ≤ 32 ^ 11 := Nat.pow_le_pow_right (by decide) (by omega)
          rw [← v] at y
          generalize 32 ^ ((i : Int) - p).toNat = zz at y pw
          have : (32 : Nat) ^ 11 = 36028797018963968 := by decide
          exact ⟨y.1, fun _ => by omega, fun z => by omega⟩
        · rw [e1] at v c1' le
          have b10 : tk_b 2 = 10 := rfl
          have m4 : tk_m 2 = 4 := rfl
          rw [b10] at v
          rw [m4] at le
          have y := tk_wd (f := gt_g cst h0 512) (s := p) ((i : Int) - p).toNat (fun z za zb => c1' z za (by omega))
          have pw : 10 ^ ((i : Int) - p).toNat ≤ 10 ^ 4 := Nat.pow_le_pow_right (by decide) (by omega)
          rw [← v] at y
          generalize 10 ^ ((i : Int) - p).toNat = zz at y pw
          have : (10 : Nat) ^ 4 = 10000 := by decide
          exact ⟨y.1, fun z => by omega, fun _ => by omega⟩
      obtain ⟨r, hrun, r1, r2, r3, rhy, rfr, P1, P2, P3, P4⟩ := gw_run (xi := y0) (t := (t : Int)) (p := p) (kd := kd) (x := x) (b := b) (k := k) c1 (by omega) u1 (by omega) (by omega) (by omega) (by omega) pl0 (by omega) k2 (by rw [show (t : Int) - 1 = (q : Int) by omega]; exact d1) (by rw [show (t : Int) - 1 = (q : Int) by omega]; exact p1) (by rw [show (t : Int) - 1 = (q : Int) by omega]; exact x1) (by rw [f0]; exact u2 _ _ _ rfl kb) hk hd (by rw [f0]; exact hx)
      rw [show (t : Int) - 1 = (q : Int) by omega] at P1 P2 P3 P4
      rw [f0] at P3 P4
      refine hp_call (mi := 71) (pc := 52) (tg := 74) (na := 2) (c := 1) (ci := 1) (st0 := [.int y0, .ref 17]) (st := []) (av := [.int y0]) hM (by decide +kernel) u1 rfl rfl rfl (by decide) hrun r2 r3 ?_
      rw [r1]
      have T2 : gt_T cst (gt_g cst h0 512) r.2.1 ((i : Int) + 1) t (fun j => if j ≤ q then en j else (i : Int) + 1) := by
        obtain ⟨q', tq', -, -, -, -, G⟩ := tkT_grow (kd' := gt_g cst r.2.1 768) (vl' := gt_g cst r.2.1 1280) T1 (by omega) r9 g9
        have qq : q' = q := by omega
        subst qq
        rw [gp, gd, gx, fb, ek] at G
        have e9 : gt_g cst r.2.1 1024 = gt_g cst h1 1024 := by
          funext j
          exact gt_gq (by rw [hp_same (show ly_ths ly_TH 4 = some (.inl (.int, 1200, -2147483648, 2147483647)) from rfl) rfl u1 rhy rfr])
        unfold gt_T
        rw [e9]
        refine G (fun j hj => gt_gq (P1 j (by omega))) (fun j hj => gt_gq (P2 j (by omega))) (fun le => ?_) (fun lt => gt_gs (P4 (Or.inr lt)))
        have dk : kd = k := (c3' (by omega)).1
        obtain ⟨y1, y2⟩ := P3 dk le
        exact ⟨gt_gs y1, gt_gs y2⟩
      have kk := tkk_r b
      rw [ek] at kk
      exact gtJ c hM (by omega) rhy (N : Int) (i : Int) (t : Int) k (by omega) n1 (by omega) (by omega) (by omega) (by omega) (by omega) (by omega) (by omega) (rfr _ _ _ rfl k1) (rfr _ _ _ rfl k2) m0 m2 m3 (fun l3 h3 s1 s2 s3 n3 t3 o0 o1 o2 => ih h3 l3 (i + 1) t k _ (by omega) (by omega) s1 (ly_fr_tr fr (ly_fr_tr (hp_sub2 rfl u2) (ly_fr_tr (hp_sub2 rfl rfr) (hp_sub2 rfl s2)))) (s2 _ _ _ rfl (rfr _ _ _ rfl (u2 _ _ _ rfl kz))) n3 t3 (gt_mv T2 rhy s1 s2 rfl rfl rfl) (fun q => by omega) (wq1 k ek) o0 o1 o2)
    by_cases g1 : 97 ≤ b ∧ b ≤ 122
    · have ek := tkk_l g1.1 g1.2
      by_cases hw : w = 1
      · have i1 : 1 ≤ i := by
          by_cases zi : i = 0
          · have := w4 zi
            omega
          · omega
        rw [hw] at l1
        exact gtI1 c hM (by omega) hy (N : Int) (i : Int) (t : Int) b (by omega) n1 (by omega) (by omega) (by omega) (by omega) g1.1 g1.2 (by omega) kn kt kb l0 l1 l2 (fun l1' h1 y0 f0 u1 u2 u3 k1 k2 m0 m2 m3 => gr 1 ek (by unfold tk_r; omega) hw i1 (Or.inl ⟨rfl, g1.1, g1.2⟩) l1' h1 y0 f0 u1 u2 k1 k2 m0 m2 m3)
      · exact gtB c hM (by omega) hy (N : Int) (i : Int) (t : Int) b w (by omega) n1 (by omega) (by omega) (by omega) (by omega) g1.1 g1.2 (by omega) w01.2 (by omega) (by omega) kn kt kb l0 l1 l2 (fun l1' h1 y0 y1 f0 f1 u1 u2 u3 k1 k2 m0 m2 m3 => nw 1 ek (by omega) (fun _ _ e => hw e.symm) l1' h1 y0 y1 f0 f1 u1 u2 k1 k2 m0 m2 m3)
    by_cases g2 : 48 ≤ b ∧ b ≤ 57
    · have ek := tkk_d g2.1 g2.2
      by_cases hw : w = 2
      · have i1 : 1 ≤ i := by
          by_cases zi : i = 0
          · have := w4 zi
            omega
          · omega
        rw [hw] at l1
        exact gtI2 c hM (by omega) hy (N : Int) (i : Int) (t : Int) b (by omega) n1 (by omega) (by omega) (by omega) (by omega) g2.1 g2.2 (by omega) kn kt kb l0 l1 l2 (fun l1' h1 y0 f0 u1 u2 u3 k1 k2 m0 m2 m3 => gr 2 ek (by unfold tk_r; omega) hw i1 (Or.inr ⟨rfl, g2.1, g2.2⟩) l1' h1 y0 f0 u1 u2 k1 k2 m0 m2 m3)
      · by_cases hw1 : w = 1
        · rw [hw1] at l1
          exact gtC0 c hM (by omega) hy (N : Int) (i : Int) (t : Int) b (by omega) n1 (by omega) (by omega) (by omega) (by omega) g2.1 g2.2 (by omega) (by omega) kn kt kb l0 l1 l2 (fun l1' h1 y0 y1 f0 f1 u1 u2 u3 k1 k2 m0 m2 m3 => nw 2 ek (by omega) (fun _ _ e => hw e.symm) l1' h1 y0 y1 f0 f1 u1 u2 k1 k2 m0 m2 m3)
        · exact gtC1 c hM (by omega) hy (N : Int) (i : Int) (t : Int) b w (by omega) n1 (by omega) (by omega) (by omega) (by omega) g2.1 g2.2 (by omega) w01.2 (by omega) (by omega) kn kt kb l0 l1 l2 (fun l1' h1 y0 y1 f0 f1 u1 u2 u3 k1 k2 m0 m2 m3 => nw 2 ek (by omega) (fun _ _ e => hw e.symm) l1' h1 y0 y1 f0 f1 u1 u2 k1 k2 m0 m2 m3)
    by_cases s0 : b = 59
    · have ek : tkk b = 59 := by rw [tkk_s (by omega)]; exact s0
      rw [s0] at kb
      exact gtD0 c hM (by omega) hy (N : Int) (i : Int) (t : Int) w (by omega) n1 (by omega) (by omega) (by omega) (by omega) w01.1 w01.2 (by omega) (by omega) kn kt kb l0 l1 l2 (fun l1' h1 y0 y1 f0 f1 u1 u2 u3 k1 k2 m0 m2 m3 => nw 59 ek (by omega) (fun _ r => by unfold tk_r at r; omega) l1' h1 y0 y1 f0 f1 u1 u2 k1 k2 m0 m2 m3)
    by_cases s1 : b = 61
    · have ek : tkk b = 61 := by rw [tkk_s (by omega)]; exact s1
      rw [s1] at kb
      exact gtD1 c hM (by omega) hy (N : Int) (i : Int) (t : Int) w (by omega) n1 (by omega) (by omega) (by omega) (by omega) w01.1 w01.2 (by omega) (by omega) kn kt kb l0 l1 l2 (fun l1' h1 y0 y1 f0 f1 u1 u2 u3 k1 k2 m0 m2 m3 => nw 61 ek (by omega) (fun _ r => by unfold tk_r at r; omega) l1' h1 y0 y1 f0 f1 u1 u2 k1 k2 m0 m2 m3)
    by_cases s2 : b = 40
    · have ek : tkk b = 40 := by rw [tkk_s (by omega)]; exact s2
      rw [s2] at kb
      exact gtD2 c hM (by omega) hy (N : Int) (i : Int) (t : Int) w (by omega) n1 (by omega) (by omega) (by omega) (by omega) w01.1 w01.2 (by omega) (by omega) kn kt kb l0 l1 l2 (fun l1' h1 y0 y1 f0 f1 u1 u2 u3 k1 k2 m0 m2 m3 => nw 40 ek (by omega) (fun _ r => by unfold tk_r at r; omega) l1' h1 y0 y1 f0 f1 u1 u2 k1 k2 m0 m2 m3)
    by_cases s3 : b = 41
    · have ek : tkk b = 41 := by rw [tkk_s (by omega)]; exact s3
      rw [s3] at kb
      exact gtD3 c hM (by omega) hy (N : Int) (i : Int) (t : Int) w (by omega) n1 (by omega) (by omega) (by omega) (by omega) w01.1 w01.2 (by omega) (by omega) kn kt kb l0 l1 l2 (fun l1' h1 y0 y1 f0 f1 u1 u2 u3 k1 k2 m0 m2 m3 => nw 41 ek (by omega) (fun _ r => by unfold tk_r at r; omega) l1' h1 y0 y1 f0 f1 u1 u2 k1 k2 m0 m2 m3)
    by_cases s4 : b = 43
    · have ek : tkk b = 43 := by rw [tkk_s (by omega)]; exact s4
      rw [s4] at kb
      exact gtD4 c hM (by omega) hy (N : Int) (i : Int) (t : Int) w (by omega) n1 (by omega) (by omega) (by omega) (by omega) w01.1 w01.2 (by omega) (by omega) kn kt kb l0 l1 l2 (fun l1' h1 y0 y1 f0 f1 u1 u2 u3 k1 k2 m0 m2 m3 => nw 43 ek (by omega) (fun _ r => by unfold tk_r at r; omega) l1' h1 y0 y1 f0 f1 u1 u2 k1 k2 m0 m2 m3)
    have ek : tkk b = 3 := tkk_w g1 g2 (by omega) (by omega)
    by_cases e0 : b ≤ 9
    · exact gtE0 c hM (by omega) hy (N : Int) (i : Int) (t : Int) b w (by omega) n1 (by omega) (by omega) (by omega) (by omega) (by omega) (by omega) w01.1 w01.2 (by omega) (by omega) kn kt kb l0 l1 l2 (fun l1' h1 y0 y1 f0 f1 u1 u2 u3 k1 k2 m0 m2 m3 => nw 3 ek (by omega) (fun _ r => by unfold tk_r at r; omega) l1' h1 y0 y1 f0 f1 u1 u2 k1 k2 m0 m2 m3)
    by_cases e1 : b ≤ 31
    · exact gtE1 c hM (by omega) hy (N : Int) (i : Int) (t : Int) b w (by omega) n1 (by omega) (by omega) (by omega) (by omega) (by omega) (by omega) w01.1 w01.2 (by omega) (by omega) kn kt kb l0 l1 l2 (fun l1' h1 y0 y1 f0 f1 u1 u2 u3 k1 k2 m0 m2 m3 => nw 3 ek (by omega) (fun _ r => by unfold tk_r at r; omega) l1' h1 y0 y1 f0 f1 u1 u2 k1 k2 m0 m2 m3)
    by_cases e2 : b ≤ 39
    · exact gtE2 c hM (by omega) hy (N : Int) (i : Int) (t : Int) b w (by omega) n1 (by omega) (by omega) (by omega) (by omega) (by omega) (by omega) w01.1 w01.2 (by omega) (by omega) kn kt kb l0 l1 l2 (fun l1' h1 y0 y1 f0 f1 u1 u2 u3 k1 k2 m0 m2 m3 => nw 3 ek (by omega) (fun _ r => by unfold tk_r at r; omega) l1' h1 y0 y1 f0 f1 u1 u2 k1 k2 m0 m2 m3)
    by_cases e3 : b = 42
    · exact gtE3 c hM (by omega) hy (N : Int) (i : Int) (t : Int) b w (by omega) n1 (by omega) (by omega) (by omega) (by omega) (by omega) (by omega) w01.1 w01.2 (by omega) (by omega) kn kt kb l0 l1 l2 (fun l1' h1 y0 y1 f0 f1 u1 u2 u3 k1 k2 m0 m2 m3 => nw 3 ek (by omega) (fun _ r => by unfold tk_r at r; omega) l1' h1 y0 y1 f0 f1 u1 u2 k1 k2 m0 m2 m3)
    by_cases e4 : b ≤ 47
    · exact gtE4 c hM (by omega) hy (N : Int) (i : Int) (t : Int) b w (by omega) n1 (by omega) (by omega) (by omega) (by omega) (by omega) (by omega) w01.1 w01.2 (by omega) (by omega) kn kt kb l0 l1 l2 (fun l1' h1 y0 y1 f0 f1 u1 u2 u3 k1 k2 m0 m2 m3 => nw 3 ek (by omega) (fun _ r => by unfold tk_r at r; omega) l1' h1 y0 y1 f0 f1 u1 u2 k1 k2 m0 m2 m3)
    by_cases e5 : b = 58
    · exact gtE5 c hM (by omega) hy (N : Int) (i : Int) (t : Int) b w (by omega) n1 (by omega) (by omega) (by omega) (by omega) (by omega) (by omega) w01.1 w01.2 (by omega) (by omega) kn kt kb l0 l1 l2 (fun l1' h1 y0 y1 f0 f1 u1 u2 u3 k1 k2 m0 m2 m3 => nw 3 ek (by omega) (fun _ r => by unfold tk_r at r; omega) l1' h1 y0 y1 f0 f1 u1 u2 k1 k2 m0 m2 m3)
    by_cases e6 : b = 60
    · exact gtE6 c hM (by omega) hy (N : Int) (i : Int) (t : Int) b w (by omega) n1 (by omega) (by omega) (by omega) (by omega) (by omega) (by omega) w01.1 w01.2 (by omega) (by omega) kn kt kb l0 l1 l2 (fun l1' h1 y0 y1 f0 f1 u1 u2 u3 k1 k2 m0 m2 m3 => nw 3 ek (by omega) (fun _ r => by unfold tk_r at r; omega) l1' h1 y0 y1 f0 f1 u1 u2 k1 k2 m0 m2 m3)
    by_cases e7 : b ≤ 96
    · exact gtE7 c hM (by omega) hy (N : Int) (i : Int) (t : Int) b w (by omega) n1 (by omega) (by omega) (by omega) (by omega) (by omega) (by omega) w01.1 w01.2 (by omega) (by omega) kn kt kb l0 l1 l2 (fun l1' h1 y0 y1 f0 f1 u1 u2 u3 k1 k2 m0 m2 m3 => nw 3 ek (by omega) (fun _ r => by unfold tk_r at r; omega) l1' h1 y0 y1 f0 f1 u1 u2 k1 k2 m0 m2 m3)
    exact gtE8 c hM (by omega) hy (N : Int) (i : Int) (t : Int) b w (by omega) n1 (by omega) (by omega) (by omega) (by omega) (by omega) (by omega) w01.1 w01.2 (by omega) (by omega) kn kt kb l0 l1 l2 (fun l1' h1 y0 y1 f0 f1 u1 u2 u3 k1 k2 m0 m2 m3 => nw 3 ek (by omega) (fun _ r => by unfold tk_r at r; omega) l1' h1 y0 y1 f0 f1 u1 u2 k1 k2 m0 m2 m3)
/-- takeTokens: the tokens of the tape's bytes -/
theorem gt_run {cst : am_K} {strs : List Nat} {D : Nat} {h : am_H} (c1 : hp_C cst strs D) (c : hp_C cst strs (D + 1)) (hD : (6 : Int) ≤ (D : Int) + 1) (hy : ly_hy m_tt ly_TH h) {N : Nat} (n1 : (N : Int) ≤ 1200) (kn : ly_hv cst h 257 0 = some (N : Int)) :
    ∃ r, am_Run cst m_cl m_tt m_P strs sx_bi (D + 1 + 1) 71 [.ref 17] h r ∧ gt_Φ (gt_g cst h 512) cst h N r := by
  obtain ⟨M, hM, hl⟩ := hp_M (mi := 71) (k := 1) (by decide +kernel)
  obtain ⟨n', r, hgo, r1, r2, r3, r4⟩ := gt0 (Φ := gt_Φ (gt_g cst h 512) cst h N) (l := lv_args 0 [.ref 17]) c hM (by omega) hy (N : Int) (by omega) n1 kn rfl (fun l1 h1 u1 u2 u3 k1 k2 k3 m0 m1 m2 => gt_lp c1 c hM hD n1 hy (N + 1) h1 l1 0 0 4 (fun _ => 0) (by omega) (by omega) u1 (hp_sub2 rfl u2) k1 k2 k3 (tkT_0 _ _ _ _) (fun _ => rfl) (fun q => by omega) m0 m1 m2)
  simp only [Nat.zero_add] at r2 r3
  exact ⟨r, Or.inr ⟨M, n', hM, hl, hgo⟩, r1, r2, r3, r4⟩
