/-! PRINTED by wip/p2/hp_gscan.py: scan and take of the reference, exactly -/
theorem zn0_k : hp_chk 299 0 2 [(0, 0, 1200), (1, 0, 1200)] [] [(0, .inr (.inr (.inl (some 94))))] [] [(19970, (0, []), (0, [(0, 1)])), (19974, (0, []), (0, [(1, 1)]))] [19971, 19972, 19973, 19974, 19975, 19976] 8 [(5, ([], 2, [(0, 0, 1200), (1, 0, 1200)], [], [(0, .inr (.inr (.inl (some 94)))), (1, .inl (0, [(1, 1)]))], [], [(19970, (0, []), (0, [(0, 1)]))]))] [] = true := by decide +kernel
theorem zn0 {cst : am_K} {strs : List Nat} {Φ : am_Q → Prop} {D : Nat} {M : am_M} {h : am_H} {l : am_L} (c : hp_C cst strs D) (hM : m_P[299]? = some M) (hD : (8 : Int) ≤ (D : Int) + 1) (hy : ly_hy m_tt ly_TH h) (n p : Int) (b0 : 0 ≤ n) (t0 : n ≤ 1200) (b1 : 0 ≤ p) (t1 : p ≤ 1200) (k0 : ly_hv cst h 19970 0 = some (n)) (k1 : ly_hv cst h 19974 0 = some (p)) (l0 : hp_a l 0 94) (e0 : ∀ (l' : am_L) (h' : am_H), ly_hy m_tt ly_TH h' → ly_fr cst [19971, 19972, 19973, 19974, 19975, 19976] h h' → h.length ≤ h'.length → ly_hv cst h' 19970 0 = some (n) → hp_a l' 0 94 → hp_i l' 1 (p) → hp_F cst strs Φ D M 5 l' [] h') : hp_F cst strs Φ D M 0 l [] h := by
  refine hp_arc c hM zn0_k hD [n, p] rfl hy (hp_Bc (z := n) rfl b0 t0 (hp_Bc (z := p) rfl b1 t1 hp_Bn)) hp_Fn (hp_Kc (zi := (0 + 0)) (zv := (0 + (1 * n + 0))) k0 rfl rfl (by omega) (by omega) (hp_Kc (zi := (0 + 0)) (zv := (0 + (1 * p + 0))) k1 rfl rfl (by omega) (by omega) hp_Kn)) (hp_La l0 hp_Ln) trivial ?_ ?_
  · intro p hp ys l' st' h' hys a1 a2 a3 gZ gL gS
    rcases List.mem_cons.mp hp with rfl | hp
    · obtain rfl := hp_y0 hys
      cases hp_gSn gS
      exact e0 l' h' a1 a2 a3 (hp_gK (zi := (0 + 0)) (zv := (0 + (1 * n + 0))) gZ.2.2.2 (List.mem_of_getElem? (i := 0) rfl) rfl rfl (by omega) (by omega)) (hp_gLa gL (List.mem_of_getElem? (i := 0) rfl) (by decide)) (hp_gLi (z := (0 + (1 * p + 0))) gL (List.mem_of_getElem? (i := 1) rfl) rfl (by omega))
    cases hp
  · intro p hp ys v h' hys a1 a2 a3 gZ gS
    cases hp
theorem znA_k : hp_chk 299 5 2 [(0, 0, 1200), (1, 0, 1199)] [((-1), [(0, 1), (1, (-1))])] [(0, .inr (.inr (.inl (some 94)))), (1, .inl (0, [(1, 1)]))] [] [(19970, (0, []), (0, [(0, 1)])), (20224, (0, [(1, 1)]), (32, []))] [19971, 19972, 19973, 19974, 19975, 19976] 8 [(5, ([], 2, [(0, 0, 1200), (1, 0, 1199)], [], [(0, .inr (.inr (.inl (some 94)))), (1, .inl (1, [(1, 1)]))], [], [(19970, (0, []), (0, [(0, 1)]))]))] [] = true := by decide +kernel
theorem znA {cst : am_K} {strs : List Nat} {Φ : am_Q → Prop} {D : Nat} {M : am_M} {h : am_H} {l : am_L} (c : hp_C cst strs D) (hM : m_P[299]? = some M) (hD : (8 : Int) ≤ (D : Int) + 1) (hy : ly_hy m_tt ly_TH h) (n p : Int) (b0 : 0 ≤ n) (t0 : n ≤ 1200) (b1 : 0 ≤ p) (t1 : p ≤ 1199) (f0 : 0 ≤ (n - p - 1)) (k0 : ly_hv cst h 19970 0 = some (n)) (k1 : ly_hv cst h 20224 (p) = some 32) (l0 : hp_a l 0 94) (l1 : hp_i l 1 (p)) (e0 : ∀ (l' : am_L) (h' : am_H), ly_hy m_tt ly_TH h' → ly_fr cst [19971, 19972, 19973, 19974, 19975, 19976] h h' → h.length ≤ h'.length → ly_hv cst h' 19970 0 = some (n) → hp_a l' 0 94 → hp_i l' 1 (p + 1) → hp_F cst strs Φ D M 5 l' [] h') : hp_F cst strs Φ D M 5 l [] h := by
  refine hp_arc c hM znA_k hD [n, p] rfl hy (hp_Bc (z := n) rfl b0 t0 (hp_Bc (z := p) rfl b1 t1 hp_Bn)) (hp_Fc (z := ((-1) + (1 * n + ((-1) * p + 0)))) rfl (by omega) hp_Fn) (hp_Kc (zi := (0 + 0)) (zv := (0 + (1 * n + 0))) k0 rfl rfl (by omega) (by omega) (hp_Kc (zi := (0 + (1 * p + 0))) (zv := (32 + 0)) k1 rfl rfl (by omega) (by omega) hp_Kn)) (hp_La l0 (hp_Li (z := (0 + (1 * p + 0))) l1 rfl (by omega) hp_Ln)) trivial ?_ ?_
  · intro p hp ys l' st' h' hys a1 a2 a3 gZ gL gS
    rcases List.mem_cons.mp hp with rfl | hp
    · obtain rfl := hp_y0 hys
      cases hp_gSn gS
      exact e0 l' h' a1 a2 a3 (hp_gK (zi := (0 + 0)) (zv := (0 + (1 * n + 0))) gZ.2.2.2 (List.mem_of_getElem? (i := 0) rfl) rfl rfl (by omega) (by omega)) (hp_gLa gL (List.mem_of_getElem? (i := 0) rfl) (by decide)) (hp_gLi (z := (1 + (1 * p + 0))) gL (List.mem_of_getElem? (i := 1) rfl) rfl (by omega))
    cases hp
  · intro p hp ys v h' hys a1 a2 a3 gZ gS
    cases hp
theorem znB_k : hp_chk 299 5 2 [(0, 0, 1200), (1, 0, 1199)] [((-1), [(0, 1), (1, (-1))])] [(0, .inr (.inr (.inl (some 94)))), (1, .inl (0, [(1, 1)]))] [] [(19970, (0, []), (0, [(0, 1)])), (20224, (0, [(1, 1)]), (10, []))] [19971, 19972, 19973, 19974, 19975, 19976] 8 [(5, ([], 2, [(0, 0, 1200), (1, 0, 1199)], [], [(0, .inr (.inr (.inl (some 94)))), (1, .inl (1, [(1, 1)]))], [], [(19970, (0, []), (0, [(0, 1)]))]))] [] = true := by decide +kernel
theorem znB {cst : am_K} {strs : List Nat} {Φ : am_Q → Prop} {D : Nat} {M : am_M} {h : am_H} {l : am_L} (c : hp_C cst strs D) (hM : m_P[299]? = some M) (hD : (8 : Int) ≤ (D : Int) + 1) (hy : ly_hy m_tt ly_TH h) (n p : Int) (b0 : 0 ≤ n) (t0 : n ≤ 1200) (b1 : 0 ≤ p) (t1 : p ≤ 1199) (f0 : 0 ≤ (n - p - 1)) (k0 : ly_hv cst h 19970 0 = some (n)) (k1 : ly_hv cst h 20224 (p) = some 10) (l0 : hp_a l 0 94) (l1 : hp_i l 1 (p)) (e0 : ∀ (l' : am_L) (h' : am_H), ly_hy m_tt ly_TH h' → ly_fr cst [19971, 19972, 19973, 19974, 19975, 19976] h h' → h.length ≤ h'.length → ly_hv cst h' 19970 0 = some (n) → hp_a l' 0 94 → hp_i l' 1 (p + 1) → hp_F cst strs Φ D M 5 l' [] h') : hp_F cst strs Φ D M 5 l [] h := by
  refine hp_arc c hM znB_k hD [n, p] rfl hy (hp_Bc (z := n) rfl b0 t0 (hp_Bc (z := p) rfl b1 t1 hp_Bn)) (hp_Fc (z := ((-1) + (1 * n + ((-1) * p + 0)))) rfl (by omega) hp_Fn) (hp_Kc (zi := (0 + 0)) (zv := (0 + (1 * n + 0))) k0 rfl rfl (by omega) (by omega) (hp_Kc (zi := (0 + (1 * p + 0))) (zv := (10 + 0)) k1 rfl rfl (by omega) (by omega) hp_Kn)) (hp_La l0 (hp_Li (z := (0 + (1 * p + 0))) l1 rfl (by omega) hp_Ln)) trivial ?_ ?_
  · intro p hp ys l' st' h' hys a1 a2 a3 gZ gL gS
    rcases List.mem_cons.mp hp with rfl | hp
    · obtain rfl := hp_y0 hys
      cases hp_gSn gS
      exact e0 l' h' a1 a2 a3 (hp_gK (zi := (0 + 0)) (zv := (0 + (1 * n + 0))) gZ.2.2.2 (List.mem_of_getElem? (i := 0) rfl) rfl rfl (by omega) (by omega)) (hp_gLa gL (List.mem_of_getElem? (i := 0) rfl) (by decide)) (hp_gLi (z := (1 + (1 * p + 0))) gL (List.mem_of_getElem? (i := 1) rfl) rfl (by omega))
    cases hp
  · intro p hp ys v h' hys a1 a2 a3 gZ gS
    cases hp
theorem znC0_k : hp_chk 299 5 4 [(0, 0, 1200), (1, 0, 1199), (2, (-128), 127), (3, 0, 9)] [((-1), [(0, 1), (1, (-1))])] [(0, .inr (.inr (.inl (some 94)))), (1, .inl (0, [(1, 1)]))] [] [(19970, (0, []), (0, [(0, 1)])), (20224, (0, [(1, 1)]), (0, [(2, 1)])), (63008, (0, [(2, 1)]), (0, [(3, 1)]))] [19971, 19972, 19973, 19974, 19975, 19976] 8 [(31, ([], 4, [(0, 0, 1200), (1, 0, 1199), (2, (-128), 127), (3, 0, 9)], [], [(0, .inr (.inr (.inl (some 94)))), (1, .inl (0, [(1, 1)]))], [], [(19970, (0, []), (0, [(0, 1)]))]))] [] = true := by decide +kernel
theorem znC0 {cst : am_K} {strs : List Nat} {Φ : am_Q → Prop} {D : Nat} {M : am_M} {h : am_H} {l : am_L} (c : hp_C cst strs D) (hM : m_P[299]? = some M) (hD : (8 : Int) ≤ (D : Int) + 1) (hy : ly_hy m_tt ly_TH h) (n p x b : Int) (b0 : 0 ≤ n) (t0 : n ≤ 1200) (b1 : 0 ≤ p) (t1 : p ≤ 1199) (b2 : (-128) ≤ x) (t2 : x ≤ 127) (b3 : 0 ≤ b) (t3 : b ≤ 9) (f0 : 0 ≤ (n - p - 1)) (k0 : ly_hv cst h 19970 0 = some (n)) (k1 : ly_hv cst h 20224 (p) = some (x)) (k2 : ly_hv cst h 63008 (x) = some (b)) (l0 : hp_a l 0 94) (l1 : hp_i l 1 (p)) (e0 : ∀ (l' : am_L) (h' : am_H), ly_hy m_tt ly_TH h' → ly_fr cst [19971, 19972, 19973, 19974, 19975, 19976] h h' → h.length ≤ h'.length → ly_hv cst h' 19970 0 = some (n) → hp_a l' 0 94 → hp_i l' 1 (p) → hp_F cst strs Φ D M 31 l' [] h') : hp_F cst strs Φ D M 5 l [] h := by
  refine hp_arc c hM znC0_k hD [n, p, x, b] rfl hy (hp_Bc (z := n) rfl b0 t0 (hp_Bc (z := p) rfl b1 t1 (hp_Bc (z := x) rfl b2 t2 (hp_Bc (z := b) rfl b3 t3 hp_Bn)))) (hp_Fc (z := ((-1) + (1 * n + ((-1) * p + 0)))) rfl (by omega) hp_Fn) (hp_Kc (zi := (0 + 0)) (zv := (0 + (1 * n + 0))) k0 rfl rfl (by omega) (by omega) (hp_Kc (zi := (0 + (1 * p + 0))) (zv := (0 + (1 * x + 0))) k1 rfl rfl (by omega) (by omega) (hp_Kc (zi := (0 + (1 * x + 0))) (zv := (0 + (1 * b + 0))) k2 rfl rfl (by omega) (by omega) hp_Kn))) (hp_La l0 (hp_Li (z := (0 + (1 * p + 0))) l1 rfl (by omega) hp_Ln)) trivial ?_ ?_
  · intro p hp ys l' st' h' hys a1 a2 a3 gZ gL gS
    rcases List.mem_cons.mp hp with rfl | hp
    · obtain rfl := hp_y0 hys
      cases hp_gSn gS
      exact e0 l' h' a1 a2 a3 (hp_gK (zi := (0 + 0)) (zv := (0 + (1 * n + 0))) gZ.2.2.2 (List.mem_of_getElem? (i := 0) rfl) rfl rfl (by omega) (by omega)) (hp_gLa gL (List.mem_of_getElem? (i := 0) rfl) (by decide)) (hp_gLi (z := (0 + (1 * p + 0))) gL (List.mem_of_getElem? (i := 1) rfl) rfl (by omega))
    cases hp
  · intro p hp ys v h' hys a1 a2 a3 gZ gS
    cases hp
theorem znC1_k : hp_chk 299 5 4 [(0, 0, 1200), (1, 0, 1199), (2, (-128), 127), (3, 11, 31)] [((-1), [(0, 1), (1, (-1))])] [(0, .inr (.inr (.inl (some 94)))), (1, .inl (0, [(1, 1)]))] [] [(19970, (0, []), (0, [(0, 1)])), (20224, (0, [(1, 1)]), (0, [(2, 1)])), (63008, (0, [(2, 1)]), (0, [(3, 1)]))] [19971, 19972, 19973, 19974, 19975, 19976] 8 [(31, ([], 4, [(0, 0, 1200), (1, 0, 1199), (2, (-128), 127), (3, 11, 31)], [], [(0, .inr (.inr (.inl (some 94)))), (1, .inl (0, [(1, 1)]))], [], [(19970, (0, []), (0, [(0, 1)]))]))] [] = true := by decide +kernel
theorem znC1 {cst : am_K} {strs : List Nat} {Φ : am_Q → Prop} {D : Nat} {M : am_M} {h : am_H} {l : am_L} (c : hp_C cst strs D) (hM : m_P[299]? = some M) (hD : (8 : Int) ≤ (D : Int) + 1) (hy : ly_hy m_tt ly_TH h) (n p x b : Int) (b0 : 0 ≤ n) (t0 : n ≤ 1200) (b1 : 0 ≤ p) (t1 : p ≤ 1199) (b2 : (-128) ≤ x) (t2 : x ≤ 127) (b3 : 11 ≤ b) (t3 : b ≤ 31) (f0 : 0 ≤ (n - p - 1)) (k0 : ly_hv cst h 19970 0 = some (n)) (k1 : ly_hv cst h 20224 (p) = some (x)) (k2 : ly_hv cst h 63008 (x) = some (b)) (l0 : hp_a l 0 94) (l1 : hp_i l 1 (p)) (e0 : ∀ (l' : am_L) (h' : am_H), ly_hy m_tt ly_TH h' → ly_fr cst [19971, 19972, 19973, 19974, 19975, 19976] h h' → h.length ≤ h'.length → ly_hv cst h' 19970 0 = some (n) → hp_a l' 0 94 → hp_i l' 1 (p) → hp_F cst strs Φ D M 31 l' [] h') : hp_F cst strs Φ D M 5 l [] h := by
  refine hp_arc c hM znC1_k hD [n, p, x, b] rfl hy (hp_Bc (z := n) rfl b0 t0 (hp_Bc (z := p) rfl b1 t1 (hp_Bc (z := x) rfl b2 t2 (hp_Bc (z := b) rfl b3 t3 hp_Bn)))) (hp_Fc (z := ((-1) + (1 * n + ((-1) * p + 0)))) rfl (by omega) hp_Fn) (hp_Kc (zi := (0 + 0)) (zv := (0 + (1 * n + 0))) k0 rfl rfl (by omega) (by omega) (hp_Kc (zi := (0 + (1 * p + 0))) (zv := (0 + (1 * x + 0))) k1 rfl rfl (by omega) (by omega) (hp_Kc (zi := (0 + (1 * x + 0))) (zv := (0 + (1 * b + 0))) k2 rfl rfl (by omega) (by omega) hp_Kn))) (hp_La l0 (hp_Li (z := (0 + (1 * p + 0))) l1 rfl (by omega) hp_Ln)) trivial ?_ ?_
  · intro p hp ys l' st' h' hys a1 a2 a3 gZ gL gS
    rcases List.mem_cons.mp hp with rfl | hp
    · obtain rfl := hp_y0 hys
      cases hp_gSn gS
      exact e0 l' h' a1 a2 a3 (hp_gK (zi := (0 + 0)) (zv := (0 + (1 * n + 0))) gZ.2.2.2 (List.mem_of_getElem? (i := 0) rfl) rfl rfl (by omega) (by omega)) (hp_gLa gL (List.mem_of_getElem? (i := 0) rfl) (by decide)) (hp_gLi (z := (0 + (1 * p + 0))) gL (List.mem_of_getElem? (i := 1) rfl) rfl (by omega))
    cases hp
  · intro p hp ys v h' hys a1 a2 a3 gZ gS
    cases hp
theorem znC2_k : hp_chk 299 5 4 [(0, 0, 1200), (1, 0, 1199), (2, (-128), 127), (3, 33, 255)] [((-1), [(0, 1), (1, (-1))])] [(0, .inr (.inr (.inl (some 94)))), (1, .inl (0, [(1, 1)]))] [] [(19970, (0, []), (0, [(0, 1)])), (20224, (0, [(1, 1)]), (0, [(2, 1)])), (63008, (0, [(2, 1)]), (0, [(3, 1)]))] [19971, 19972, 19973, 19974, 19975, 19976] 8 [(31, ([], 4, [(0, 0, 1200), (1, 0, 1199), (2, (-128), 127), (3, 33, 255)], [], [(0, .inr (.inr (.inl (some 94)))), (1, .inl (0, [(1, 1)]))], [], [(19970, (0, []), (0, [(0, 1)]))]))] [] = true := by decide +kernel
theorem znC2 {cst : am_K} {strs : List Nat} {Φ : am_Q → Prop} {D : Nat} {M : am_M} {h : am_H} {l : am_L} (c : hp_C cst strs D) (hM : m_P[299]? = some M) (hD : (8 : Int) ≤ (D : Int) + 1) (hy : ly_hy m_tt ly_TH h) (n p x b : Int) (b0 : 0 ≤ n) (t0 : n ≤ 1200) (b1 : 0 ≤ p) (t1 : p ≤ 1199) (b2 : (-128) ≤ x) (t2 : x ≤ 127) (b3 : 33 ≤ b) (t3 : b ≤ 255) (f0 : 0 ≤ (n - p - 1)) (k0 : ly_hv cst h 19970 0 = some (n)) (k1 : ly_hv cst h 20224 (p) = some (x)) (k2 : ly_hv cst h 63008 (x) = some (b)) (l0 : hp_a l 0 94) (l1 : hp_i l 1 (p)) (e0 : ∀ (l' : am_L) (h' : am_H), ly_hy m_tt ly_TH h' → ly_fr cst [19971, 19972, 19973, 19974, 19975, 19976] h h' → h.length ≤ h'.length → ly_hv cst h' 19970 0 = some (n) → hp_a l' 0 94 → hp_i l' 1 (p) → hp_F cst strs Φ D M 31 l' [] h') : hp_F cst strs Φ D M 5 l [] h := by
  refine hp_arc c hM znC2_k hD [n, p, x, b] rfl hy (hp_Bc (z := n) rfl b0 t0 (hp_Bc (z := p) rfl b1 t1 (hp_Bc (z := x) rfl b2 t2 (hp_Bc (z := b) rfl b3 t3 hp_Bn)))) (hp_Fc (z := ((-1) + (1 * n + ((-1) * p + 0)))) rfl (by omega) hp_Fn) (hp_Kc (zi := (0 + 0)) (zv := (0 + (1 * n + 0))) k0 rfl rfl (by omega) (by omega) (hp_Kc (zi := (0 + (1 * p + 0))) (zv := (0 + (1 * x + 0))) k1 rfl rfl (by omega) (by omega) (hp_Kc (zi := (0 + (1 * x + 0))) (zv := (0 + (1 * b + 0))) k2 rfl rfl (by omega) (by omega) hp_Kn))) (hp_La l0 (hp_Li (z := (0 + (1 * p + 0))) l1 rfl (by omega) hp_Ln)) trivial ?_ ?_
  · intro p hp ys l' st' h' hys a1 a2 a3 gZ gL gS
    rcases List.mem_cons.mp hp with rfl | hp
    · obtain rfl := hp_y0 hys
      cases hp_gSn gS
      exact e0 l' h' a1 a2 a3 (hp_gK (zi := (0 + 0)) (zv := (0 + (1 * n + 0))) gZ.2.2.2 (List.mem_of_getElem? (i := 0) rfl) rfl rfl (by omega) (by omega)) (hp_gLa gL (List.mem_of_getElem? (i := 0) rfl) (by decide)) (hp_gLi (z := (0 + (1 * p + 0))) gL (List.mem_of_getElem? (i := 1) rfl) rfl (by omega))
    cases hp
  · intro p hp ys v h' hys a1 a2 a3 gZ gS
    cases hp
theorem znD_k : hp_chk 299 5 1 [(0, 0, 1200)] [] [(0, .inr (.inr (.inl (some 94)))), (1, .inl (0, [(0, 1)]))] [] [(19970, (0, []), (0, [(0, 1)]))] [19971, 19972, 19973, 19974, 19975, 19976] 8 [(31, ([], 1, [(0, 0, 1200)], [], [(0, .inr (.inr (.inl (some 94)))), (1, .inl (0, [(0, 1)]))], [], [(19970, (0, []), (0, [(0, 1)]))]))] [] = true := by decide +kernel
theorem znD {cst : am_K} {strs : List Nat} {Φ : am_Q → Prop} {D : Nat} {M : am_M} {h : am_H} {l : am_L} (c : hp_C cst strs D) (hM : m_P[299]? = some M) (hD : (8 : Int) ≤ (D : Int) + 1) (hy : ly_hy m_tt ly_TH h) (n : Int) (b0 : 0 ≤ n) (t0 : n ≤ 1200) (k0 : ly_hv cst h 19970 0 = some (n)) (l0 : hp_a l 0 94) (l1 : hp_i l 1 (n)) (e0 : ∀ (l' : am_L) (h' : am_H), ly_hy m_tt ly_TH h' → ly_fr cst [19971, 19972, 19973, 19974, 19975, 19976] h h' → h.length ≤ h'.length → ly_hv cst h' 19970 0 = some (n) → hp_a l' 0 94 → hp_i l' 1 (n) → hp_F cst strs Φ D M 31 l' [] h') : hp_F cst strs Φ D M 5 l [] h := by
  refine hp_arc c hM znD_k hD [n] rfl hy (hp_Bc (z := n) rfl b0 t0 hp_Bn) hp_Fn (hp_Kc (zi := (0 + 0)) (zv := (0 + (1 * n + 0))) k0 rfl rfl (by omega) (by omega) hp_Kn) (hp_La l0 (hp_Li (z := (0 + (1 * n + 0))) l1 rfl (by omega) hp_Ln)) trivial ?_ ?_
  · intro p hp ys l' st' h' hys a1 a2 a3 gZ gL gS
    rcases List.mem_cons.mp hp with rfl | hp
    · obtain rfl := hp_y0 hys
      cases hp_gSn gS
      exact e0 l' h' a1 a2 a3 (hp_gK (zi := (0 + 0)) (zv := (0 + (1 * n + 0))) gZ.2.2.2 (List.mem_of_getElem? (i := 0) rfl) rfl rfl (by omega) (by omega)) (hp_gLa gL (List.mem_of_getElem? (i := 0) rfl) (by decide)) (hp_gLi (z := (0 + (1 * n + 0))) gL (List.mem_of_getElem? (i := 1) rfl) rfl (by omega))
    cases hp
  · intro p hp ys v h' hys a1 a2 a3 gZ gS
    cases hp
theorem znE_k : hp_chk 299 31 1 [(0, 0, 1200)] [] [(0, .inr (.inr (.inl (some 94)))), (1, .inl (0, [(0, 1)]))] [] [(19970, (0, []), (0, [(0, 1)]))] [19971, 19972, 19973, 19974, 19975, 19976] 8 [] [([], 1, [(0, 0, 1200)], [], [], [], [(19970, (0, []), (0, [(0, 1)])), (19971, (0, []), (8, [])), (19974, (0, []), (0, [(0, 1)])), (19973, (0, []), (0, [(0, 1)])), (19972, (0, []), ((-1), []))])] = true := by decide +kernel
theorem znE {cst : am_K} {strs : List Nat} {Φ : am_Q → Prop} {D : Nat} {M : am_M} {h : am_H} {l : am_L} (c : hp_C cst strs D) (hM : m_P[299]? = some M) (hD : (8 : Int) ≤ (D : Int) + 1) (hy : ly_hy m_tt ly_TH h) (n : Int) (b0 : 0 ≤ n) (t0 : n ≤ 1200) (k0 : ly_hv cst h 19970 0 = some (n)) (l0 : hp_a l 0 94) (l1 : hp_i l 1 (n)) (r0 : ∀ (h' : am_H), ly_hy m_tt ly_TH h' → ly_fr cst [19971, 19972, 19973, 19974, 19975, 19976] h h' → h.length ≤ h'.length → ly_hv cst h' 19970 0 = some (n) → ly_hv cst h' 19971 0 = some 8 → ly_hv cst h' 19974 0 = some (n) → ly_hv cst h' 19973 0 = some (n) → ly_hv cst h' 19972 0 = some (-1) → Φ (none, h', 0, 0)) : hp_F cst strs Φ D M 31 l [] h := by
  refine hp_arc c hM znE_k hD [n] rfl hy (hp_Bc (z := n) rfl b0 t0 hp_Bn) hp_Fn (hp_Kc (zi := (0 + 0)) (zv := (0 + (1 * n + 0))) k0 rfl rfl (by omega) (by omega) hp_Kn) (hp_La l0 (hp_Li (z := (0 + (1 * n + 0))) l1 rfl (by omega) hp_Ln)) trivial ?_ ?_
  · intro p hp ys l' st' h' hys a1 a2 a3 gZ gL gS
    cases hp
  · intro p hp ys v h' hys a1 a2 a3 gZ gS
    rcases List.mem_cons.mp hp with rfl | hp
    · obtain rfl := hp_y0 hys
      have sv := hp_gSn gS
      cases v with
      | some w => cases sv
      | none =>
        exact r0 h' a1 a2 a3 (hp_gK (zi := (0 + 0)) (zv := (0 + (1 * n + 0))) gZ.2.2.2 (List.mem_of_getElem? (i := 0) rfl) rfl rfl (by omega) (by omega)) (hp_gK (zi := (0 + 0)) (zv := (8 + 0)) gZ.2.2.2 (List.mem_of_getElem? (i := 1) rfl) rfl rfl (by omega) (by omega)) (hp_gK (zi := (0 + 0)) (zv := (0 + (1 * n + 0))) gZ.2.2.2 (List.mem_of_getElem? (i := 2) rfl) rfl rfl (by omega) (by omega)) (hp_gK (zi := (0 + 0)) (zv := (0 + (1 * n + 0))) gZ.2.2.2 (List.mem_of_getElem? (i := 3) rfl) rfl rfl (by omega) (by omega)) (hp_gK (zi := (0 + 0)) (zv := ((-1) + 0)) gZ.2.2.2 (List.mem_of_getElem? (i := 4) rfl) rfl rfl (by omega) (by omega))
    cases hp
theorem znF_k : hp_chk 299 31 4 [(0, 0, 1200), (1, 0, 1199), (2, (-128), 127), (3, 97, 122)] [((-1), [(0, 1), (1, (-1))])] [(0, .inr (.inr (.inl (some 94)))), (1, .inl (0, [(1, 1)]))] [] [(19970, (0, []), (0, [(0, 1)])), (20224, (0, [(1, 1)]), (0, [(2, 1)])), (63008, (0, [(2, 1)]), (0, [(3, 1)]))] [19971, 19972, 19973, 19974, 19975, 19976] 8 [(81, ([], 4, [(0, 0, 1200), (1, 0, 1199), (2, (-128), 127), (3, 97, 122)], [], [(0, .inr (.inr (.inl (some 94)))), (1, .inl (0, [(1, 1)])), (3, .inl (0, [(1, 1)]))], [], [(19970, (0, []), (0, [(0, 1)])), (19976, (0, []), (0, [])), (19973, (0, []), (0, [(1, 1)])), (19972, (0, []), ((-1), []))]))] [] = true := by decide +kernel
theorem znF {cst : am_K} {strs : List Nat} {Φ : am_Q → Prop} {D : Nat} {M : am_M} {h : am_H} {l : am_L} (c : hp_C cst strs D) (hM : m_P[299]? = some M) (hD : (8 : Int) ≤ (D : Int) + 1) (hy : ly_hy m_tt ly_TH h) (n p x b : Int) (b0 : 0 ≤ n) (t0 : n ≤ 1200) (b1 : 0 ≤ p) (t1 : p ≤ 1199) (b2 : (-128) ≤ x) (t2 : x ≤ 127) (b3 : 97 ≤ b) (t3 : b ≤ 122) (f0 : 0 ≤ (n - p - 1)) (k0 : ly_hv cst h 19970 0 = some (n)) (k1 : ly_hv cst h 20224 (p) = some (x)) (k2 : ly_hv cst h 63008 (x) = some (b)) (l0 : hp_a l 0 94) (l1 : hp_i l 1 (p)) (e0 : ∀ (l' : am_L) (h' : am_H), ly_hy m_tt ly_TH h' → ly_fr cst [19971, 19972, 19973, 19974, 19975, 19976] h h' → h.length ≤ h'.length → ly_hv cst h' 19970 0 = some (n) → ly_hv cst h' 19976 0 = some 0 → ly_hv cst h' 19973 0 = some (p) → ly_hv cst h' 19972 0 = some (-1) → hp_a l' 0 94 → hp_i l' 1 (p) → hp_i l' 3 (p) → hp_F cst strs Φ D M 81 l' [] h') : hp_F cst strs Φ D M 31 l [] h := by
  refine hp_arc c hM znF_k hD [n, p, x, b] rfl hy (hp_Bc (z := n) rfl b0 t0 (hp_Bc (z := p) rfl b1 t1 (hp_Bc (z := x) rfl b2 t2 (hp_Bc (z := b) rfl b3 t3 hp_Bn)))) (hp_Fc (z := ((-1) + (1 * n + ((-1) * p + 0)))) rfl (by omega) hp_Fn) (hp_Kc (zi := (0 + 0)) (zv := (0 + (1 * n + 0))) k0 rfl rfl (by omega) (by omega) (hp_Kc (zi := (0 + (1 * p + 0))) (zv := (0 + (1 * x + 0))) k1 rfl rfl (by omega) (by omega) (hp_Kc (zi := (0 + (1 * x + 0))) (zv := (0 + (1 * b + 0))) k2 rfl rfl (by omega) (by omega) hp_Kn))) (hp_La l0 (hp_Li (z := (0 + (1 * p + 0))) l1 rfl (by omega) hp_Ln)) trivial ?_ ?_
  · intro p hp ys l' st' h' hys a1 a2 a3 gZ gL gS
    rcases List.mem_cons.mp hp with rfl | hp
    · obtain rfl := hp_y0 hys
      cases hp_gSn gS
      exact e0 l' h' a1 a2 a3 (hp_gK (zi := (0 + 0)) (zv := (0 + (1 * n + 0))) gZ.2.2.2 (List.mem_of_getElem? (i := 0) rfl) rfl rfl (by omega) (by omega)) (hp_gK (zi := (0 + 0)) (zv := (0 + 0)) gZ.2.2.2 (List.mem_of_getElem? (i := 1) rfl) rfl rfl (by omega) (by omega)) (hp_gK (zi := (0 + 0)) (zv := (0 + (1 * p + 0))) gZ.2.2.2 (List.mem_of_getElem? (i := 2) rfl) rfl rfl (by omega) (by omega)) (hp_gK (zi := (0 + 0)) (zv := ((-1) + 0)) gZ.2.2.2 (List.mem_of_getElem? (i := 3) rfl) rfl rfl (by omega) (by omega)) (hp_gLa gL (List.mem_of_getElem? (i := 0) rfl) (by decide)) (hp_gLi (z := (0 + (1 * p + 0))) gL (List.mem_of_getElem? (i := 1) rfl) rfl (by omega)) (hp_gLi (z := (0 + (1 * p + 0))) gL (List.mem_of_getElem? (i := 2) rfl) rfl (by omega))
    cases hp
  · intro p hp ys v h' hys a1 a2 a3 gZ gS
    cases hp
theorem znG_k : hp_chk 299 81 6 [(0, 0, 1200), (1, 0, 1199), (2, 0, 1199), (3, (-128), 127), (4, 97, 122), (5, 0, 36028797018963968)] [((-1), [(0, 1), (2, (-1))]), (0, [(1, (-1)), (2, 1)]), (11, [(1, 1), (2, (-1))])] [(0, .inr (.inr (.inl (some 94)))), (1, .inl (0, [(1, 1)])), (3, .inl (0, [(2, 1)]))] [] [(19970, (0, []), (0, [(0, 1)])), (20224, (0, [(2, 1)]), (0, [(3, 1)])), (63008, (0, [(3, 1)]), (0, [(4, 1)])), (19976, (0, []), (0, [(5, 1)])), (19973, (0, []), (0, [(1, 1)])), (19972, (0, []), ((-1), []))] [19971, 19972, 19973, 19974, 19975, 19976] 8 [(81, ([], 6, [(0, 0, 1200), (1, 0, 1199), (2, 0, 1199), (3, (-128), 127), (4, 97, 122), (5, 0, 36028797018963968)], [], [(0, .inr (.inr (.inl (some 94)))), (1, .inl (0, [(1, 1)])), (3, .inl (1, [(2, 1)]))], [], [(19970, (0, []), (0, [(0, 1)])), (19976, (0, []), ((-96), [(4, 1), (5, 32)])), (19973, (0, []), (0, [(1, 1)])), (19972, (0, []), ((-1), []))]))] [] = true := by decide +kernel
theorem znG {cst : am_K} {strs : List Nat} {Φ : am_Q → Prop} {D : Nat} {M : am_M} {h : am_H} {l : am_L} (c : hp_C cst strs D) (hM : m_P[299]? = some M) (hD : (8 : Int) ≤ (D : Int) + 1) (hy : ly_hy m_tt ly_TH h) (n p e x b vv : Int) (b0 : 0 ≤ n) (t0 : n ≤ 1200) (b1 : 0 ≤ p) (t1 : p ≤ 1199) (b2 : 0 ≤ e) (t2 : e ≤ 1199) (b3 : (-128) ≤ x) (t3 : x ≤ 127) (b4 : 97 ≤ b) (t4 : b ≤ 122) (b5 : 0 ≤ vv) (t5 : vv ≤ 36028797018963968) (f0 : 0 ≤ (n - e - 1)) (f1 : 0 ≤ (e - p)) (f2 : 0 ≤ (p - e + 11)) (k0 : ly_hv cst h 19970 0 = some (n)) (k1 : ly_hv cst h 20224 (e) = some (x)) (k2 : ly_hv cst h 63008 (x) = some (b)) (k3 : ly_hv cst h 19976 0 = some (vv)) (k4 : ly_hv cst h 19973 0 = some (p)) (k5 : ly_hv cst h 19972 0 = some (-1)) (l0 : hp_a l 0 94) (l1 : hp_i l 1 (p)) (l3 : hp_i l 3 (e)) (e0 : ∀ (l' : am_L) (h' : am_H), ly_hy m_tt ly_TH h' → ly_fr cst [19971, 19972, 19973, 19974, 19975, 19976] h h' → h.length ≤ h'.length → ly_hv cst h' 19970 0 = some (n) → ly_hv cst h' 19976 0 = some (32 * vv + b - 96) → ly_hv cst h' 19973 0 = some (p) → ly_hv cst h' 19972 0 = some (-1) → hp_a l' 0 94 → hp_i l' 1 (p) → hp_i l' 3 (e + 1) → hp_F cst strs Φ D M 81 l' [] h') : hp_F cst strs Φ D M 81 l [] h := by
  refine hp_arc c hM znG_k hD [n, p, e, x, b, vv] rfl hy (hp_Bc (z := n) rfl b0 t0 (hp_Bc (z := p) rfl b1 t1 (hp_Bc (z := e) rfl b2 t2 (hp_Bc (z := x) rfl b3 t3 (hp_Bc (z := b) rfl b4 t4 (hp_Bc (z := vv) rfl b5 t5 hp_Bn)))))) (hp_Fc (z := ((-1) + (1 * n + ((-1) * e + 0)))) rfl (by omega) (hp_Fc (z := (0 + ((-1) * p + (1 * e + 0)))) rfl (by omega) (hp_Fc (z := (11 + (1 * p + ((-1) * e + 0)))) rfl (by omega) hp_Fn))) (hp_Kc (zi := (0 + 0)) (zv := (0 + (1 * n + 0))) k0 rfl rfl (by omega) (by omega) (hp_Kc (zi := (0 + (1 * e + 0))) (zv := (0 + (1 * x + 0))) k1 rfl rfl (by omega) (by omega) (hp_Kc (zi := (0 + (1 * x + 0))) (zv := (0 + (1 * b + 0))) k2 rfl rfl (by omega) (by omega) (hp_Kc (zi := (0 + 0)) (zv := (0 + (1 * vv + 0))) k3 rfl rfl (by omega) (by omega) (hp_Kc (zi := (0 + 0)) (zv := (0 + (1 * p + 0))) k4 rfl rfl (by omega) (by omega) (hp_Kc (zi := (0 + 0)) (zv := ((-1) + 0)) k5 rfl rfl (by omega) (by omega) hp_Kn)))))) (hp_La l0 (hp_Li (z := (0 + (1 * p + 0))) l1 rfl (by omega) (hp_Li (z := (0 + (1 * e + 0))) l3 rfl (by omega) hp_Ln))) trivial ?_ ?_
  · intro p hp ys l' st' h' hys a1 a2 a3 gZ gL gS
    rcases List.mem_cons.mp hp with rfl | hp
    · obtain rfl := hp_y0 hys
      cases hp_gSn gS
      exact e0 l' h' a1 a2 a3 (hp_gK (zi := (0 + 0)) (zv := (0 + (1 * n + 0))) gZ.2.2.2 (List.mem_of_getElem? (i := 0) rfl) rfl rfl (by omega) (by omega)) (hp_gK (zi := (0 + 0)) (zv := ((-96) + (1 * b + (32 * vv + 0)))) gZ.2.2.2 (List.mem_of_getElem? (i := 1) rfl) rfl rfl (by omega) (by omega)) (hp_gK (zi := (0 + 0)) (zv := (0 + (1 * p + 0))) gZ.2.2.2 (List.mem_of_getElem? (i := 2) rfl) rfl rfl (by omega) (by omega)) (hp_gK (zi := (0 + 0)) (zv := ((-1) + 0)) gZ.2.2.2 (List.mem_of_getElem? (i := 3) rfl) rfl rfl (by omega) (by omega)) (hp_gLa gL (List.mem_of_getElem? (i := 0) rfl) (by decide)) (hp_gLi (z := (0 + (1 * p + 0))) gL (List.mem_of_getElem? (i := 1) rfl) rfl (by omega)) (hp_gLi (z := (1 + (1 * e + 0))) gL (List.mem_of_getElem? (i := 2) rfl) rfl (by omega))
    cases hp
  · intro p hp ys v h' hys a1 a2 a3 gZ gS
    cases hp
theorem znH_k : hp_chk 299 81 6 [(0, 0, 1200), (1, 0, 1199), (2, 0, 1199), (3, (-128), 127), (4, 97, 122), (5, 0, 1152921504606846976)] [((-1), [(0, 1), (2, (-1))]), ((-12), [(1, (-1)), (2, 1)])] [(0, .inr (.inr (.inl (some 94)))), (1, .inl (0, [(1, 1)])), (3, .inl (0, [(2, 1)]))] [] [(19970, (0, []), (0, [(0, 1)])), (20224, (0, [(2, 1)]), (0, [(3, 1)])), (63008, (0, [(3, 1)]), (0, [(4, 1)])), (19976, (0, []), (0, [(5, 1)])), (19973, (0, []), (0, [(1, 1)])), (19972, (0, []), ((-1), []))] [19971, 19972, 19973, 19974, 19975, 19976] 8 [(81, ([], 6, [(0, 0, 1200), (1, 0, 1199), (2, 0, 1199), (3, (-128), 127), (4, 97, 122), (5, 0, 1152921504606846976)], [], [(0, .inr (.inr (.inl (some 94)))), (1, .inl (0, [(1, 1)])), (3, .inl (1, [(2, 1)]))], [], [(19970, (0, []), (0, [(0, 1)])), (19976, (0, []), (0, [(5, 1)])), (19973, (0, []), (0, [(1, 1)])), (19972, (0, []), ((-1), []))]))] [] = true := by decide +kernel
theorem znH {cst : am_K} {strs : List Nat} {Φ : am_Q → Prop} {D : Nat} {M : am_M} {h : am_H} {l : am_L} (c : hp_C cst strs D) (hM : m_P[299]? = some M) (hD : (8 : Int) ≤ (D : Int) + 1) (hy : ly_hy m_tt ly_TH h) (n p e x b vv : Int) (b0 : 0 ≤ n) (t0 : n ≤ 1200) (b1 : 0 ≤ p) (t1 : p ≤ 1199) (b2 : 0 ≤ e) (t2 : e ≤ 1199) (b3 : (-128) ≤ x) (t3 : x ≤ 127) (b4 : 97 ≤ b) (t4 : b ≤ 122) (b5 : 0 ≤ vv) (t5 : vv ≤ 1152921504606846976) (f0 : 0 ≤ (n - e - 1)) (f1 : 0 ≤ (e - p - 12)) (k0 : ly_hv cst h 19970 0 = some (n)) (k1 : ly_hv cst h 20224 (e) = some (x)) (k2 : ly_hv cst h 63008 (x) = some (b)) (k3 : ly_hv cst h 19976 0 = some (vv)) (k4 : ly_hv cst h 19973 0 = some (p)) (k5 : ly_hv cst h 19972 0 = some (-1)) (l0 : hp_a l 0 94) (l1 : hp_i l 1 (p)) (l3 : hp_i l 3 (e)) (e0 : ∀ (l' : am_L) (h' : am_H), ly_hy m_tt ly_TH h' → ly_fr cst [19971, 19972, 19973, 19974, 19975, 19976] h h' → h.length ≤ h'.length → ly_hv cst h' 19970 0 = some (n) → ly_hv cst h' 19976 0 = some (vv) → ly_hv cst h' 19973 0 = some (p) → ly_hv cst h' 19972 0 = some (-1) → hp_a l' 0 94 → hp_i l' 1 (p) → hp_i l' 3 (e + 1) → hp_F cst strs Φ D M 81 l' [] h') : hp_F cst strs Φ D M 81 l [] h := by
  refine hp_arc c hM znH_k hD [n, p, e, x, b, vv] rfl hy (hp_Bc (z := n) rfl b0 t0 (hp_Bc (z := p) rfl b1 t1 (hp_Bc (z := e) rfl b2 t2 (hp_Bc (z := x) rfl b3 t3 (hp_Bc (z := b) rfl b4 t4 (hp_Bc (z := vv) rfl b5 t5 hp_Bn)))))) (hp_Fc (z := ((-1) + (1 * n + ((-1) * e + 0)))) rfl (by omega) (hp_Fc (z := ((-12) + ((-1) * p + (1 * e + 0)))) rfl (by omega) hp_Fn)) (hp_Kc (zi := (0 + 0)) (zv := (0 + (1 * n + 0))) k0 rfl rfl (by omega) (by omega) (hp_Kc (zi := (0 + (1 * e + 0))) (zv := (0 + (1 * x + 0))) k1 rfl rfl (by omega) (by omega) (hp_Kc (zi := (0 + (1 * x + 0))) (zv := (0 + (1 * b + 0))) k2 rfl rfl (by omega) (by omega) (hp_Kc (zi := (0 + 0)) (zv := (0 + (1 * vv + 0))) k3 rfl rfl (by omega) (by omega) (hp_Kc (zi := (0 + 0)) (zv := (0 + (1 * p + 0))) k4 rfl rfl (by omega) (by omega) (hp_Kc (zi := (0 + 0)) (zv := ((-1) + 0)) k5 rfl rfl (by omega) (by omega) hp_Kn)))))) (hp_La l0 (hp_Li (z := (0 + (1 * p + 0))) l1 rfl (by omega) (hp_Li (z := (0 + (1 * e + 0))) l3 rfl (by omega) hp_Ln))) trivial ?_ ?_
  · intro p hp ys l' st' h' hys a1 a2 a3 gZ gL gS
    rcases List.mem_cons.mp hp with rfl | hp
    · obtain rfl := hp_y0 hys
      cases hp_gSn gS
      exact e0 l' h' a1 a2 a3 (hp_gK (zi := (0 + 0)) (zv := (0 + (1 * n + 0))) gZ.2.2.2 (List.mem_of_getElem? (i := 0) rfl) rfl rfl (by omega) (by omega)) (hp_gK (zi := (0 + 0)) (zv := (0 + (1 * vv + 0))) gZ.2.2.2 (List.mem_of_getElem? (i := 1) rfl) rfl rfl (by omega) (by omega)) (hp_gK (zi := (0 + 0)) (zv := (0 + (1 * p + 0))) gZ.2.2.2 (List.mem_of_getElem? (i := 2) rfl) rfl rfl (by omega) (by omega)) (hp_gK (zi := (0 + 0)) (zv := ((-1) + 0)) gZ.2.2.2 (List.mem_of_getElem? (i := 3) rfl) rfl rfl (by omega) (by omega)) (hp_gLa gL (List.mem_of_getElem? (i := 0) rfl) (by decide)) (hp_gLi (z := (0 + (1 * p + 0))) gL (List.mem_of_getElem? (i := 1) rfl) rfl (by omega)) (hp_gLi (z := (1 + (1 * e + 0))) gL (List.mem_of_getElem? (i := 2) rfl) rfl (by omega))
    cases hp
  · intro p hp ys v h' hys a1 a2 a3 gZ gS
    cases hp
theorem znI_k : hp_chk 299 81 3 [(0, 0, 1200), (1, 0, 1199), (2, 0, 1152921504606846976)] [((-1), [(0, 1), (1, (-1))]), (12, [(0, (-1)), (1, 1)])] [(0, .inr (.inr (.inl (some 94)))), (1, .inl (0, [(1, 1)])), (3, .inl (0, [(0, 1)]))] [] [(19970, (0, []), (0, [(0, 1)])), (19976, (0, []), (0, [(2, 1)])), (19973, (0, []), (0, [(1, 1)])), (19972, (0, []), ((-1), []))] [19971, 19972, 19973, 19974, 19975, 19976] 8 [(162, ([], 3, [(0, 0, 1200), (1, 0, 1199), (2, 0, 1152921504606846976)], [], [(0, .inr (.inr (.inl (some 94)))), (1, .inl (0, [(1, 1)])), (3, .inl (0, [(0, 1)]))], [.inl (0, [(0, 1), (1, (-1))]), .inl (0, [(1, 1)]), .inr (.inr (.inl (some 94))), .inr (.inr (.inl (some 94)))], [(19970, (0, []), (0, [(0, 1)])), (19971, (0, []), (1, [])), (19976, (0, []), (0, [(2, 1)])), (19973, (0, []), (0, [(1, 1)]))]))] [] = true := by decide +kernel
theorem znI {cst : am_K} {strs : List Nat} {Φ : am_Q → Prop} {D : Nat} {M : am_M} {h : am_H} {l : am_L} (c : hp_C cst strs D) (hM : m_P[299]? = some M) (hD : (8 : Int) ≤ (D : Int) + 1) (hy : ly_hy m_tt ly_TH h) (n p vv : Int) (b0 : 0 ≤ n) (t0 : n ≤ 1200) (b1 : 0 ≤ p) (t1 : p ≤ 1199) (b2 : 0 ≤ vv) (t2 : vv ≤ 1152921504606846976) (f0 : 0 ≤ (n - p - 1)) (f1 : 0 ≤ (p - n + 12)) (k0 : ly_hv cst h 19970 0 = some (n)) (k1 : ly_hv cst h 19976 0 = some (vv)) (k2 : ly_hv cst h 19973 0 = some (p)) (k3 : ly_hv cst h 19972 0 = some (-1)) (l0 : hp_a l 0 94) (l1 : hp_i l 1 (p)) (l3 : hp_i l 3 (n)) (e0 : ∀ (l' : am_L) (h' : am_H) (y0 : Int32) (y1 : Int32), y0.toInt = (n - p) → y1.toInt = (p) → ly_hy m_tt ly_TH h' → ly_fr cst [19971, 19972, 19973, 19974, 19975, 19976] h h' → h.length ≤ h'.length → ly_hv cst h' 19970 0 = some (n) → ly_hv cst h' 19971 0 = some 1 → ly_hv cst h' 19976 0 = some (vv) → ly_hv cst h' 19973 0 = some (p) → hp_a l' 0 94 → hp_i l' 1 (p) → hp_i l' 3 (n) → hp_F cst strs Φ D M 162 l' [.int y0, .int y1, .ref 94, .ref 94] h') : hp_F cst strs Φ D M 81 l [] h := by
  refine hp_arc c hM znI_k hD [n, p, vv] rfl hy (hp_Bc (z := n) rfl b0 t0 (hp_Bc (z := p) rfl b1 t1 (hp_Bc (z := vv) rfl b2 t2 hp_Bn))) (hp_Fc (z := ((-1) + (1 * n + ((-1) * p + 0)))) rfl (by omega) (hp_Fc (z := (12 + ((-1) * n + (1 * p + 0)))) rfl (by omega) hp_Fn)) (hp_Kc (zi := (0 + 0)) (zv := (0 + (1 * n + 0))) k0 rfl rfl (by omega) (by omega) (hp_Kc (zi := (0 + 0)) (zv := (0 + (1 * vv + 0))) k1 rfl rfl (by omega) (by omega) (hp_Kc (zi := (0 + 0)) (zv := (0 + (1 * p + 0))) k2 rfl rfl (by omega) (by omega) (hp_Kc (zi := (0 + 0)) (zv := ((-1) + 0)) k3 rfl rfl (by omega) (by omega) hp_Kn)))) (hp_La l0 (hp_Li (z := (0 + (1 * p + 0))) l1 rfl (by omega) (hp_Li (z := (0 + (1 * n + 0))) l3 rfl (by omega) hp_Ln))) trivial ?_ ?_
  · intro p hp ys l' st' h' hys a1 a2 a3 gZ gL gS
    rcases List.mem_cons.mp hp with rfl | hp
    · obtain rfl := hp_y0 hys
      obtain ⟨y0, t0, rfl, q0, g0⟩ := hp_gSi (z := (0 + (1 * n + ((-1) * p + 0)))) gS rfl
      obtain ⟨y1, t1, rfl, q1, g1⟩ := hp_gSi (z := (0 + (1 * p + 0))) g0 rfl
      obtain ⟨t2, rfl, g2⟩ := hp_gSa g1 (by decide)
      obtain ⟨t3, rfl, g3⟩ := hp_gSa g2 (by decide)
      cases hp_gSn g3
      exact e0 l' h' y0 y1 (by omega) (by omega) a1 a2 a3 (hp_gK (zi := (0 + 0)) (zv := (0 + (1 * n + 0))) gZ.2.2.2 (List.mem_of_getElem? (i := 0) rfl) rfl rfl (by omega) (by omega)) (hp_gK (zi := (0 + 0)) (zv := (1 + 0)) gZ.2.2.2 (List.mem_of_getElem? (i := 1) rfl) rfl rfl (by omega) (by omega)) (hp_gK (zi := (0 + 0)) (zv := (0 + (1 * vv + 0))) gZ.2.2.2 (List.mem_of_getElem? (i := 2) rfl) rfl rfl (by omega) (by omega)) (hp_gK (zi := (0 + 0)) (zv := (0 + (1 * p + 0))) gZ.2.2.2 (List.mem_of_getElem? (i := 3) rfl) rfl rfl (by omega) (by omega)) (hp_gLa gL (List.mem_of_getElem? (i := 0) rfl) (by decide)) (hp_gLi (z := (0 + (1 * p + 0))) gL (List.mem_of_getElem? (i := 1) rfl) rfl (by omega)) (hp_gLi (z := (0 + (1 * n + 0))) gL (List.mem_of_getElem? (i := 2) rfl) rfl (by omega))
    cases hp
  · intro p hp ys v h' hys a1 a2 a3 gZ gS
    cases hp
theorem znV_k : hp_chk 299 165 5 [(0, 0, 1200), (1, 0, 1199), (2, 0, 1200), (3, 0, 1152921504606846976), (4, (-1), 23)] [] [(0, .inr (.inr (.inl (some 94)))), (1, .inl (0, [(1, 1)])), (3, .inl (0, [(2, 1)]))] [.inl (0, [(4, 1)]), .inr (.inr (.inl (some 94)))] [(19970, (0, []), (0, [(0, 1)])), (19971, (0, []), (1, [])), (19976, (0, []), (0, [(3, 1)])), (19973, (0, []), (0, [(1, 1)]))] [19971, 19972, 19973, 19974, 19975, 19976] 8 [] [([], 5, [(0, 0, 1200), (1, 0, 1199), (2, 0, 1200), (3, 0, 1152921504606846976), (4, (-1), 23)], [], [], [], [(19970, (0, []), (0, [(0, 1)])), (19971, (0, []), (1, [])), (19974, (0, []), (0, [(2, 1)])), (19976, (0, []), (0, [(3, 1)])), (19973, (0, []), (0, [(1, 1)])), (19972, (0, []), (0, [(4, 1)]))])] = true := by decide +kernel
theorem znV {cst : am_K} {strs : List Nat} {Φ : am_Q → Prop} {D : Nat} {M : am_M} {h : am_H} {l : am_L} (c : hp_C cst strs D) (hM : m_P[299]? = some M) (hD : (8 : Int) ≤ (D : Int) + 1) (hy : ly_hy m_tt ly_TH h) (n p e vv y : Int) (x0 : Int32) (hx0 : x0.toInt = (y)) (b0 : 0 ≤ n) (t0 : n ≤ 1200) (b1 : 0 ≤ p) (t1 : p ≤ 1199) (b2 : 0 ≤ e) (t2 : e ≤ 1200) (b3 : 0 ≤ vv) (t3 : vv ≤ 1152921504606846976) (b4 : (-1) ≤ y) (t4 : y ≤ 23) (k0 : ly_hv cst h 19970 0 = some (n)) (k1 : ly_hv cst h 19971 0 = some 1) (k2 : ly_hv cst h 19976 0 = some (vv)) (k3 : ly_hv cst h 19973 0 = some (p)) (l0 : hp_a l 0 94) (l1 : hp_i l 1 (p)) (l3 : hp_i l 3 (e)) (r0 : ∀ (h' : am_H), ly_hy m_tt ly_TH h' → ly_fr cst [19971, 19972, 19973, 19974, 19975, 19976] h h' → h.length ≤ h'.length → ly_hv cst h' 19970 0 = some (n) → ly_hv cst h' 19971 0 = some 1 → ly_hv cst h' 19974 0 = some (e) → ly_hv cst h' 19976 0 = some (vv) → ly_hv cst h' 19973 0 = some (p) → ly_hv cst h' 19972 0 = some (y) → Φ (none, h', 0, 0)) : hp_F cst strs Φ D M 165 l [.int x0, .ref 94] h := by
  refine hp_arc c hM znV_k hD [n, p, e, vv, y] rfl hy (hp_Bc (z := n) rfl b0 t0 (hp_Bc (z := p) rfl b1 t1 (hp_Bc (z := e) rfl b2 t2 (hp_Bc (z := vv) rfl b3 t3 (hp_Bc (z := y) rfl b4 t4 hp_Bn))))) hp_Fn (hp_Kc (zi := (0 + 0)) (zv := (0 + (1 * n + 0))) k0 rfl rfl (by omega) (by omega) (hp_Kc (zi := (0 + 0)) (zv := (1 + 0)) k1 rfl rfl (by omega) (by omega) (hp_Kc (zi := (0 + 0)) (zv := (0 + (1 * vv + 0))) k2 rfl rfl (by omega) (by omega) (hp_Kc (zi := (0 + 0)) (zv := (0 + (1 * p + 0))) k3 rfl rfl (by omega) (by omega) hp_Kn)))) (hp_La l0 (hp_Li (z := (0 + (1 * p + 0))) l1 rfl (by omega) (hp_Li (z := (0 + (1 * e + 0))) l3 rfl (by omega) hp_Ln))) (hp_Si (z := (0 + (1 * y + 0))) rfl (by omega) (hp_Sa trivial)) ?_ ?_
  · intro p hp ys l' st' h' hys a1 a2 a3 gZ gL gS
    cases hp
  · intro p hp ys v h' hys a1 a2 a3 gZ gS
    rcases List.mem_cons.mp hp with rfl | hp
    · obtain rfl := hp_y0 hys
      have sv := hp_gSn gS
      cases v with
      | some w => cases sv
      | none =>
        exact r0 h' a1 a2 a3 (hp_gK (zi := (0 + 0)) (zv := (0 + (1 * n + 0))) gZ.2.2.2 (List.mem_of_getElem? (i := 0) rfl) rfl rfl (by omega) (by omega)) (hp_gK (zi := (0 + 0)) (zv := (1 + 0)) gZ.2.2.2 (List.mem_of_getElem? (i := 1) rfl) rfl rfl (by omega) (by omega)) (hp_gK (zi := (0 + 0)) (zv := (0 + (1 * e + 0))) gZ.2.2.2 (List.mem_of_getElem? (i := 2) rfl) rfl rfl (by omega) (by omega)) (hp_gK (zi := (0 + 0)) (zv := (0 + (1 * vv + 0))) gZ.2.2.2 (List.mem_of_getElem? (i := 3) rfl) rfl rfl (by omega) (by omega)) (hp_gK (zi := (0 + 0)) (zv := (0 + (1 * p + 0))) gZ.2.2.2 (List.mem_of_getElem? (i := 4) rfl) rfl rfl (by omega) (by omega)) (hp_gK (zi := (0 + 0)) (zv := (0 + (1 * y + 0))) gZ.2.2.2 (List.mem_of_getElem? (i := 5) rfl) rfl rfl (by omega) (by omega))
    cases hp
theorem znJ_k : hp_chk 299 81 2 [(0, 0, 1200), (1, 0, 1199)] [((-13), [(0, 1), (1, (-1))])] [(0, .inr (.inr (.inl (some 94)))), (1, .inl (0, [(1, 1)])), (3, .inl (0, [(0, 1)]))] [] [(19970, (0, []), (0, [(0, 1)])), (19973, (0, []), (0, [(1, 1)])), (19972, (0, []), ((-1), []))] [19971, 19972, 19973, 19974, 19975, 19976] 8 [] [([], 2, [(0, 0, 1200), (1, 0, 1199)], [], [], [], [(19970, (0, []), (0, [(0, 1)])), (19971, (0, []), (0, [])), (19974, (0, []), (0, [(0, 1)])), (19973, (0, []), (0, [(1, 1)])), (19972, (0, []), ((-1), []))])] = true := by decide +kernel
theorem znJ {cst : am_K} {strs : List Nat} {Φ : am_Q → Prop} {D : Nat} {M : am_M} {h : am_H} {l : am_L} (c : hp_C cst strs D) (hM : m_P[299]? = some M) (hD : (8 : Int) ≤ (D : Int) + 1) (hy : ly_hy m_tt ly_TH h) (n p : Int) (b0 : 0 ≤ n) (t0 : n ≤ 1200) (b1 : 0 ≤ p) (t1 : p ≤ 1199) (f0 : 0 ≤ (n - p - 13)) (k0 : ly_hv cst h 19970 0 = some (n)) (k1 : ly_hv cst h 19973 0 = some (p)) (k2 : ly_hv cst h 19972 0 = some (-1)) (l0 : hp_a l 0 94) (l1 : hp_i l 1 (p)) (l3 : hp_i l 3 (n)) (r0 : ∀ (h' : am_H), ly_hy m_tt ly_TH h' → ly_fr cst [19971, 19972, 19973, 19974, 19975, 19976] h h' → h.length ≤ h'.length → ly_hv cst h' 19970 0 = some (n) → ly_hv cst h' 19971 0 = some 0 → ly_hv cst h' 19974 0 = some (n) → ly_hv cst h' 19973 0 = some (p) → ly_hv cst h' 19972 0 = some (-1) → Φ (none, h', 0, 0)) : hp_F cst strs Φ D M 81 l [] h := by
  refine hp_arc c hM znJ_k hD [n, p] rfl hy (hp_Bc (z := n) rfl b0 t0 (hp_Bc (z := p) rfl b1 t1 hp_Bn)) (hp_Fc (z := ((-13) + (1 * n + ((-1) * p + 0)))) rfl (by omega) hp_Fn) (hp_Kc (zi := (0 + 0)) (zv := (0 + (1 * n + 0))) k0 rfl rfl (by omega) (by omega) (hp_Kc (zi := (0 + 0)) (zv := (0 + (1 * p + 0))) k1 rfl rfl (by omega) (by omega) (hp_Kc (zi := (0 + 0)) (zv := ((-1) + 0)) k2 rfl rfl (by omega) (by omega) hp_Kn))) (hp_La l0 (hp_Li (z := (0 + (1 * p + 0))) l1 rfl (by omega) (hp_Li (z := (0 + (1 * n + 0))) l3 rfl (by omega) hp_Ln))) trivial ?_ ?_
  · intro p hp ys l' st' h' hys a1 a2 a3 gZ gL gS
    cases hp
  · intro p hp ys v h' hys a1 a2 a3 gZ gS
    rcases List.mem_cons.mp hp with rfl | hp
    · obtain rfl := hp_y0 hys
      have sv := hp_gSn gS
      cases v with
      | some w => cases sv
      | none =>
        exact r0 h' a1 a2 a3 (hp_gK (zi := (0 + 0)) (zv := (0 + (1 * n + 0))) gZ.2.2.2 (List.mem_of_getElem? (i := 0) rfl) rfl rfl (by omega) (by omega)) (hp_gK (zi := (0 + 0)) (zv := (0 + 0)) gZ.2.2.2 (List.mem_of_getElem? (i := 1) rfl) rfl rfl (by omega) (by omega)) (hp_gK (zi := (0 + 0)) (zv := (0 + (1 * n + 0))) gZ.2.2.2 (List.mem_of_getElem? (i := 2) rfl) rfl rfl (by omega) (by omega)) (hp_gK (zi := (0 + 0)) (zv := (0 + (1 * p + 0))) gZ.2.2.2 (List.mem_of_getElem? (i := 3) rfl) rfl rfl (by omega) (by omega)) (hp_gK (zi := (0 + 0)) (zv := ((-1) + 0)) gZ.2.2.2 (List.mem_of_getElem? (i := 4) rfl) rfl rfl (by omega) (by omega))
    cases hp
theorem znK0_k : hp_chk 299 81 6 [(0, 0, 1200), (1, 0, 1199), (2, 0, 1199), (3, (-128), 127), (4, 0, 96), (5, 0, 1152921504606846976)] [((-1), [(0, 1), (2, (-1))]), ((-1), [(1, (-1)), (2, 1)]), (12, [(1, 1), (2, (-1))])] [(0, .inr (.inr (.inl (some 94)))), (1, .inl (0, [(1, 1)])), (3, .inl (0, [(2, 1)]))] [] [(19970, (0, []), (0, [(0, 1)])), (20224, (0, [(2, 1)]), (0, [(3, 1)])), (63008, (0, [(3, 1)]), (0, [(4, 1)])), (19976, (0, []), (0, [(5, 1)])), (19973, (0, []), (0, [(1, 1)])), (19972, (0, []), ((-1), []))] [19971, 19972, 19973, 19974, 19975, 19976] 8 [(162, ([], 6, [(0, 0, 1200), (1, 0, 1199), (2, 0, 1199), (3, (-128), 127), (4, 0, 96), (5, 0, 1152921504606846976)], [], [(0, .inr (.inr (.inl (some 94)))), (1, .inl (0, [(1, 1)])), (3, .inl (0, [(2, 1)]))], [.inl (0, [(1, (-1)), (2, 1)]), .inl (0, [(1, 1)]), .inr (.inr (.inl (some 94))), .inr (.inr (.inl (some 94)))], [(19970, (0, []), (0, [(0, 1)])), (19971, (0, []), (1, [])), (19976, (0, []), (0, [(5, 1)])), (19973, (0, []), (0, [(1, 1)]))]))] [] = true := by decide +kernel
theorem znK0 {cst : am_K} {strs : List Nat} {Φ : am_Q → Prop} {D : Nat} {M : am_M} {h : am_H} {l : am_L} (c : hp_C cst strs D) (hM : m_P[299]? = some M) (hD : (8 : Int) ≤ (D : Int) + 1) (hy : ly_hy m_tt ly_TH h) (n p e x b vv : Int) (b0 : 0 ≤ n) (t0 : n ≤ 1200) (b1 : 0 ≤ p) (t1 : p ≤ 1199) (b2 : 0 ≤ e) (t2 : e ≤ 1199) (b3 : (-128) ≤ x) (t3 : x ≤ 127) (b4 : 0 ≤ b) (t4 : b ≤ 96) (b5 : 0 ≤ vv) (t5 : vv ≤ 1152921504606846976) (f0 : 0 ≤ (n - e - 1)) (f1 : 0 ≤ (e - p - 1)) (f2 : 0 ≤ (p - e + 12)) (k0 : ly_hv cst h 19970 0 = some (n)) (k1 : ly_hv cst h 20224 (e) = some (x)) (k2 : ly_hv cst h 63008 (x) = some (b)) (k3 : ly_hv cst h 19976 0 = some (vv)) (k4 : ly_hv cst h 19973 0 = some (p)) (k5 : ly_hv cst h 19972 0 = some (-1)) (l0 : hp_a l 0 94) (l1 : hp_i l 1 (p)) (l3 : hp_i l 3 (e)) (e0 : ∀ (l' : am_L) (h' : am_H) (y0 : Int32) (y1 : Int32), y0.toInt = (e - p) → y1.toInt = (p) → ly_hy m_tt ly_TH h' → ly_fr cst [19971, 19972, 19973, 19974, 19975, 19976] h h' → h.length ≤ h'.length → ly_hv cst h' 19970 0 = some (n) → ly_hv cst h' 19971 0 = some 1 → ly_hv cst h' 19976 0 = some (vv) → ly_hv cst h' 19973 0 = some (p) → hp_a l' 0 94 → hp_i l' 1 (p) → hp_i l' 3 (e) → hp_F cst strs Φ D M 162 l' [.int y0, .int y1, .ref 94, .ref 94] h') : hp_F cst strs Φ D M 81 l [] h := by
  refine hp_arc c hM znK0_k hD [n, p, e, x, b, vv] rfl hy (hp_Bc (z := n) rfl b0 t0 (hp_Bc (z := p) rfl b1 t1 (hp_Bc (z := e) rfl b2 t2 (hp_Bc (z := x) rfl b3 t3 (hp_Bc (z := b) rfl b4 t4 (hp_Bc (z := vv) rfl b5 t5 hp_Bn)))))) (hp_Fc (z := ((-1) + (1 * n + ((-1) * e + 0)))) rfl (by omega) (hp_Fc (z := ((-1) + ((-1) * p + (1 * e + 0)))) rfl (by omega) (hp_Fc (z := (12 + (1 * p + ((-1) * e + 0)))) rfl (by omega) hp_Fn))) (hp_Kc (zi := (0 + 0)) (zv := (0 + (1 * n + 0))) k0 rfl rfl (by omega) (by omega) (hp_Kc (zi := (0 + (1 * e + 0))) (zv := (0 + (1 * x + 0))) k1 rfl rfl (by omega) (by omega) (hp_Kc (zi := (0 + (1 * x + 0))) (zv := (0 + (1 * b + 0))) k2 rfl rfl (by omega) (by omega) (hp_Kc (zi := (0 + 0)) (zv := (0 + (1 * vv + 0))) k3 rfl rfl (by omega) (by omega) (hp_Kc (zi := (0 + 0)) (zv := (0 + (1 * p + 0))) k4 rfl rfl (by omega) (by omega) (hp_Kc (zi := (0 + 0)) (zv := ((-1) + 0)) k5 rfl rfl (by omega) (by omega) hp_Kn)))))) (hp_La l0 (hp_Li (z := (0 + (1 * p + 0))) l1 rfl (by omega) (hp_Li (z := (0 + (1 * e + 0))) l3 rfl (by omega) hp_Ln))) trivial ?_ ?_
  · intro p hp ys l' st' h' hys a1 a2 a3 gZ gL gS
    rcases List.mem_cons.mp hp with rfl | hp
    · obtain rfl := hp_y0 hys
      obtain ⟨y0, t0, rfl, q0, g0⟩ := hp_gSi (z := (0 + ((-1) * p + (1 * e + 0)))) gS rfl
      obtain ⟨y1, t1, rfl, q1, g1⟩ := hp_gSi (z := (0 + (1 * p + 0))) g0 rfl
      obtain ⟨t2, rfl, g2⟩ := hp_gSa g1 (by decide)
      obtain ⟨t3, rfl, g3⟩ := hp_gSa g2 (by decide)
      cases hp_gSn g3
      exact e0 l' h' y0 y1 (by omega) (by omega) a1 a2 a3 (hp_gK (zi := (0 + 0)) (zv := (0 + (1 * n + 0))) gZ.2.2.2 (List.mem_of_getElem? (i := 0) rfl) rfl rfl (by omega) (by omega)) (hp_gK (zi := (0 + 0)) (zv := (1 + 0)) gZ.2.2.2 (List.mem_of_getElem? (i := 1) rfl) rfl rfl (by omega) (by omega)) (hp_gK (zi := (0 + 0)) (zv := (0 + (1 * vv + 0))) gZ.2.2.2 (List.mem_of_getElem? (i := 2) rfl) rfl rfl (by omega) (by omega)) (hp_gK (zi := (0 + 0)) (zv := (0 + (1 * p + 0))) gZ.2.2.2 (List.mem_of_getElem? (i := 3) rfl) rfl rfl (by omega) (by omega)) (hp_gLa gL (List.mem_of_getElem? (i := 0) rfl) (by decide)) (hp_gLi (z := (0 + (1 * p + 0))) gL (List.mem_of_getElem? (i := 1) rfl) rfl (by omega)) (hp_gLi (z := (0 + (1 * e + 0))) gL (List.mem_of_getElem? (i := 2) rfl) rfl (by omega))
    cases hp
  · intro p hp ys v h' hys a1 a2 a3 gZ gS
    cases hp
theorem znL0_k : hp_chk 299 81 5 [(0, 0, 1200), (1, 0, 1199), (2, 0, 1199), (3, (-128), 127), (4, 0, 96)] [((-1), [(0, 1), (2, (-1))]), ((-13), [(1, (-1)), (2, 1)])] [(0, .inr (.inr (.inl (some 94)))), (1, .inl (0, [(1, 1)])), (3, .inl (0, [(2, 1)]))] [] [(19970, (0, []), (0, [(0, 1)])), (20224, (0, [(2, 1)]), (0, [(3, 1)])), (63008, (0, [(3, 1)]), (0, [(4, 1)])), (19973, (0, []), (0, [(1, 1)])), (19972, (0, []), ((-1), []))] [19971, 19972, 19973, 19974, 19975, 19976] 8 [] [([], 5, [(0, 0, 1200), (1, 0, 1199), (2, 0, 1199), (3, (-128), 127), (4, 0, 96)], [], [], [], [(19970, (0, []), (0, [(0, 1)])), (19971, (0, []), (0, [])), (19974, (0, []), (0, [(2, 1)])), (19973, (0, []), (0, [(1, 1)])), (19972, (0, []), ((-1), []))])] = true := by decide +kernel
theorem znL0 {cst : am_K} {strs : List Nat} {Φ : am_Q → Prop} {D : Nat} {M : am_M} {h : am_H} {l : am_L} (c : hp_C cst strs D) (hM : m_P[299]? = some M) (hD : (8 : Int) ≤ (D : Int) + 1) (hy : ly_hy m_tt ly_TH h) (n p e x b : Int) (b0 : 0 ≤ n) (t0 : n ≤ 1200) (b1 : 0 ≤ p) (t1 : p ≤ 1199) (b2 : 0 ≤ e) (t2 : e ≤ 1199) (b3 : (-128) ≤ x) (t3 : x ≤ 127) (b4 : 0 ≤ b) (t4 : b ≤ 96) (f0 : 0 ≤ (n - e - 1)) (f1 : 0 ≤ (e - p - 13)) (k0 : ly_hv cst h 19970 0 = some (n)) (k1 : ly_hv cst h 20224 (e) = some (x)) (k2 : ly_hv cst h 63008 (x) = some (b)) (k3 : ly_hv cst h 19973 0 = some (p)) (k4 : ly_hv cst h 19972 0 = some (-1)) (l0 : hp_a l 0 94) (l1 : hp_i l 1 (p)) (l3 : hp_i l 3 (e)) (r0 : ∀ (h' : am_H), ly_hy m_tt ly_TH h' → ly_fr cst [19971, 19972, 19973, 19974, 19975, 19976] h h' → h.length ≤ h'.length → ly_hv cst h' 19970 0 = some (n) → ly_hv cst h' 19971 0 = some 0 → ly_hv cst h' 19974 0 = some (e) → ly_hv cst h' 19973 0 = some (p) → ly_hv cst h' 19972 0 = some (-1) → Φ (none, h', 0, 0)) : hp_F cst strs Φ D M 81 l [] h := by
  refine hp_arc c hM znL0_k hD [n, p, e, x, b] rfl hy (hp_Bc (z := n) rfl b0 t0 (hp_Bc (z := p) rfl b1 t1 (hp_Bc (z := e) rfl b2 t2 (hp_Bc (z := x) rfl b3 t3 (hp_Bc (z := b) rfl b4 t4 hp_Bn))))) (hp_Fc (z := ((-1) + (1 * n + ((-1) * e + 0)))) rfl (by omega) (hp_Fc (z := ((-13) + ((-1) * p + (1 * e + 0)))) rfl (by omega) hp_Fn)) (hp_Kc (zi := (0 + 0)) (zv := (0 + (1 * n + 0))) k0 rfl rfl (by omega) (by omega) (hp_Kc (zi := (0 + (1 * e + 0))) (zv := (0 + (1 * x + 0))) k1 rfl rfl (by omega) (by omega) (hp_Kc (zi := (0 + (1 * x + 0))) (zv := (0 + (1 * b + 0))) k2 rfl rfl (by omega) (by omega) (hp_Kc (zi := (0 + 0)) (zv := (0 + (1 * p + 0))) k3 rfl rfl (by omega) (by omega) (hp_Kc (zi := (0 + 0)) (zv := ((-1) + 0)) k4 rfl rfl (by omega) (by omega) hp_Kn))))) (hp_La l0 (hp_Li (z := (0 + (1 * p + 0))) l1 rfl (by omega) (hp_Li (z := (0 + (1 * e + 0))) l3 rfl (by omega) hp_Ln))) trivial ?_ ?_
  · intro p hp ys l' st' h' hys a1 a2 a3 gZ gL gS
    cases hp
  · intro p hp ys v h' hys a1 a2 a3 gZ gS
    rcases List.mem_cons.mp hp with rfl | hp
    · obtain rfl := hp_y0 hys
      have sv := hp_gSn gS
      cases v with
      | some w => cases sv
      | none =>
        exact r0 h' a1 a2 a3 (hp_gK (zi := (0 + 0)) (zv := (0 + (1 * n + 0))) gZ.2.2.2 (List.mem_of_getElem? (i := 0) rfl) rfl rfl (by omega) (by omega)) (hp_gK (zi := (0 + 0)) (zv := (0 + 0)) gZ.2.2.2 (List.mem_of_getElem? (i := 1) rfl) rfl rfl (by omega) (by omega)) (hp_gK (zi := (0 + 0)) (zv := (0 + (1 * e + 0))) gZ.2.2.2 (List.mem_of_getElem? (i := 2) rfl) rfl rfl (by omega) (by omega)) (hp_gK (zi := (0 + 0)) (zv := (0 + (1 * p + 0))) gZ.2.2.2 (List.mem_of_getElem? (i := 3) rfl) rfl rfl (by omega) (by omega)) (hp_gK (zi := (0 + 0)) (zv := ((-1) + 0)) gZ.2.2.2 (List.mem_of_getElem? (i := 4) rfl) rfl rfl (by omega) (by omega))
    cases hp
theorem znK1_k : hp_chk 299 81 6 [(0, 0, 1200), (1, 0, 1199), (2, 0, 1199), (3, (-128), 127), (4, 123, 255), (5, 0, 1152921504606846976)] [((-1), [(0, 1), (2, (-1))]), ((-1), [(1, (-1)), (2, 1)]), (12, [(1, 1), (2, (-1))])] [(0, .inr (.inr (.inl (some 94)))), (1, .inl (0, [(1, 1)])), (3, .inl (0, [(2, 1)]))] [] [(19970, (0, []), (0, [(0, 1)])), (20224, (0, [(2, 1)]), (0, [(3, 1)])), (63008, (0, [(3, 1)]), (0, [(4, 1)])), (19976, (0, []), (0, [(5, 1)])), (19973, (0, []), (0, [(1, 1)])), (19972, (0, []), ((-1), []))] [19971, 19972, 19973, 19974, 19975, 19976] 8 [(162, ([], 6, [(0, 0, 1200), (1, 0, 1199), (2, 0, 1199), (3, (-128), 127), (4, 123, 255), (5, 0, 1152921504606846976)], [], [(0, .inr (.inr (.inl (some 94)))), (1, .inl (0, [(1, 1)])), (3, .inl (0, [(2, 1)]))], [.inl (0, [(1, (-1)), (2, 1)]), .inl (0, [(1, 1)]), .inr (.inr (.inl (some 94))), .inr (.inr (.inl (some 94)))], [(19970, (0, []), (0, [(0, 1)])), (19971, (0, []), (1, [])), (19976, (0, []), (0, [(5, 1)])), (19973, (0, []), (0, [(1, 1)]))]))] [] = true := by decide +kernel
theorem znK1 {cst : am_K} {strs : List Nat} {Φ : am_Q → Prop} {D : Nat} {M : am_M} {h : am_H} {l : am_L} (c : hp_C cst strs D) (hM : m_P[299]? = some M) (hD : (8 : Int) ≤ (D : Int) + 1) (hy : ly_hy m_tt ly_TH h) (n p e x b vv : Int) (b0 : 0 ≤ n) (t0 : n ≤ 1200) (b1 : 0 ≤ p) (t1 : p ≤ 1199) (b2 : 0 ≤ e) (t2 : e ≤ 1199) (b3 : (-128) ≤ x) (t3 : x ≤ 127) (b4 : 123 ≤ b) (t4 : b ≤ 255) (b5 : 0 ≤ vv) (t5 : vv ≤ 1152921504606846976) (f0 : 0 ≤ (n - e - 1)) (f1 : 0 ≤ (e - p - 1)) (f2 : 0 ≤ (p - e + 12)) (k0 : ly_hv cst h 19970 0 = some (n)) (k1 : ly_hv cst h 20224 (e) = some (x)) (k2 : ly_hv cst h 63008 (x) = some (b)) (k3 : ly_hv cst h 19976 0 = some (vv)) (k4 : ly_hv cst h 19973 0 = some (p)) (k5 : ly_hv cst h 19972 0 = some (-1)) (l0 : hp_a l 0 94) (l1 : hp_i l 1 (p)) (l3 : hp_i l 3 (e)) (e0 : ∀ (l' : am_L) (h' : am_H) (y0 : Int32) (y1 : Int32), y0.toInt = (e - p) → y1.toInt = (p) → ly_hy m_tt ly_TH h' → ly_fr cst [19971, 19972, 19973, 19974, 19975, 19976] h h' → h.length ≤ h'.length → ly_hv cst h' 19970 0 = some (n) → ly_hv cst h' 19971 0 = some 1 → ly_hv cst h' 19976 0 = some (vv) → ly_hv cst h' 19973 0 = some (p) → hp_a l' 0 94 → hp_i l' 1 (p) → hp_i l' 3 (e) → hp_F cst strs Φ D M 162 l' [.int y0, .int y1, .ref 94, .ref 94] h') : hp_F cst strs Φ D M 81 l [] h := by
  refine hp_arc c hM znK1_k hD [n, p, e, x, b, vv] rfl hy (hp_Bc (z := n) rfl b0 t0 (hp_Bc (z := p) rfl b1 t1 (hp_Bc (z := e) rfl b2 t2 (hp_Bc (z := x) rfl b3 t3 (hp_Bc (z := b) rfl b4 t4 (hp_Bc (z := vv) rfl b5 t5 hp_Bn)))))) (hp_Fc (z := ((-1) + (1 * n + ((-1) * e + 0)))) rfl (by omega) (hp_Fc (z := ((-1) + ((-1) * p + (1 * e + 0)))) rfl (by omega) (hp_Fc (z := (12 + (1 * p + ((-1) * e + 0)))) rfl (by omega) hp_Fn))) (hp_Kc (zi := (0 + 0)) (zv := (0 + (1 * n + 0))) k0 rfl rfl (by omega) (by omega) (hp_Kc (zi := (0 + (1 * e + 0))) (zv := (0 + (1 * x + 0))) k1 rfl rfl (by omega) (by omega) (hp_Kc (zi := (0 + (1 * x + 0))) (zv := (0 + (1 * b + 0))) k2 rfl rfl (by omega) (by omega) (hp_Kc (zi := (0 + 0)) (zv := (0 + (1 * vv + 0))) k3 rfl rfl (by omega) (by omega) (hp_Kc (zi := (0 + 0)) (zv := (0 + (1 * p + 0))) k4 rfl rfl (by omega) (by omega) (hp_Kc (zi := (0 + 0)) (zv := ((-1) + 0)) k5 rfl rfl (by omega) (by omega) hp_Kn)))))) (hp_La l0 (hp_Li (z := (0 + (1 * p + 0))) l1 rfl (by omega) (hp_Li (z := (0 + (1 * e + 0))) l3 rfl (by omega) hp_Ln))) trivial ?_ ?_
  · intro p hp ys l' st' h' hys a1 a2 a3 gZ gL gS
    rcases List.mem_cons.mp hp with rfl | hp
    · obtain rfl := hp_y0 hys
      obtain ⟨y0, t0, rfl, q0, g0⟩ := hp_gSi (z := (0 + ((-1) * p + (1 * e + 0)))) gS rfl
      obtain ⟨y1, t1, rfl, q1, g1⟩ := hp_gSi (z := (0 + (1 * p + 0))) g0 rfl
      obtain ⟨t2, rfl, g2⟩ := hp_gSa g1 (by decide)
      obtain ⟨t3, rfl, g3⟩ := hp_gSa g2 (by decide)
      cases hp_gSn g3
      exact e0 l' h' y0 y1 (by omega) (by omega) a1 a2 a3 (hp_gK (zi := (0 + 0)) (zv := (0 + (1 * n + 0))) gZ.2.2.2 (List.mem_of_getElem? (i := 0) rfl) rfl rfl (by omega) (by omega)) (hp_gK (zi := (0 + 0)) (zv := (1 + 0)) gZ.2.2.2 (List.mem_of_getElem? (i := 1) rfl) rfl rfl (by omega) (by omega)) (hp_gK (zi := (0 + 0)) (zv := (0 + (1 * vv + 0))) gZ.2.2.2 (List.mem_of_getElem? (i := 2) rfl) rfl rfl (by omega) (by omega)) (hp_gK (zi := (0 + 0)) (zv := (0 + (1 * p + 0))) gZ.2.2.2 (List.mem_of_getElem? (i := 3) rfl) rfl rfl (by omega) (by omega)) (hp_gLa gL (List.mem_of_getElem? (i := 0) rfl) (by decide)) (hp_gLi (z := (0 + (1 * p + 0))) gL (List.mem_of_getElem? (i := 1) rfl) rfl (by omega)) (hp_gLi (z := (0 + (1 * e + 0))) gL (List.mem_of_getElem? (i := 2) rfl) rfl (by omega))
    cases hp
  · intro p hp ys v h' hys a1 a2 a3 gZ gS
    cases hp
theorem znL1_k : hp_chk 299 81 5 [(0, 0, 1200), (1, 0, 1199), (2, 0, 1199), (3, (-128), 127), (4, 123, 255)] [((-1), [(0, 1), (2, (-1))]), ((-13), [(1, (-1)), (2, 1)])] [(0, .inr (.inr (.inl (some 94)))), (1, .inl (0, [(1, 1)])), (3, .inl (0, [(2, 1)]))] [] [(19970, (0, []), (0, [(0, 1)])), (20224, (0, [(2, 1)]), (0, [(3, 1)])), (63008, (0, [(3, 1)]), (0, [(4, 1)])), (19973, (0, []), (0, [(1, 1)])), (19972, (0, []), ((-1), []))] [19971, 19972, 19973, 19974, 19975, 19976] 8 [] [([], 5, [(0, 0, 1200), (1, 0, 1199), (2, 0, 1199), (3, (-128), 127), (4, 123, 255)], [], [], [], [(19970, (0, []), (0, [(0, 1)])), (19971, (0, []), (0, [])), (19974, (0, []), (0, [(2, 1)])), (19973, (0, []), (0, [(1, 1)])), (19972, (0, []), ((-1), []))])] = true := by decide +kernel
theorem znL1 {cst : am_K} {strs : List Nat} {Φ : am_Q → Prop} {D : Nat} {M : am_M} {h : am_H} {l : am_L} (c : hp_C cst strs D) (hM : m_P[299]? = some M) (hD : (8 : Int) ≤ (D : Int) + 1) (hy : ly_hy m_tt ly_TH h) (n p e x b : Int) (b0 : 0 ≤ n) (t0 : n ≤ 1200) (b1 : 0 ≤ p) (t1 : p ≤ 1199) (b2 : 0 ≤ e) (t2 : e ≤ 1199) (b3 : (-128) ≤ x) (t3 : x ≤ 127) (b4 : 123 ≤ b) (t4 : b ≤ 255) (f0 : 0 ≤ (n - e - 1)) (f1 : 0 ≤ (e - p - 13)) (k0 : ly_hv cst h 19970 0 = some (n)) (k1 : ly_hv cst h 20224 (e) = some (x)) (k2 : ly_hv cst h 63008 (x) = some (b)) (k3 : ly_hv cst h 19973 0 = some (p)) (k4 : ly_hv cst h 19972 0 = some (-1)) (l0 : hp_a l 0 94) (l1 : hp_i l 1 (p)) (l3 : hp_i l 3 (e)) (r0 : ∀ (h' : am_H), ly_hy m_tt ly_TH h' → ly_fr cst [19971, 19972, 19973, 19974, 19975, 19976] h h' → h.length ≤ h'.length → ly_hv cst h' 19970 0 = some (n) → ly_hv cst h' 19971 0 = some 0 → ly_hv cst h' 19974 0 = some (e) → ly_hv cst h' 19973 0 = some (p) → ly_hv cst h' 19972 0 = some (-1) → Φ (none, h', 0, 0)) : hp_F cst strs Φ D M 81 l [] h := by
  refine hp_arc c hM znL1_k hD [n, p, e, x, b] rfl hy (hp_Bc (z := n) rfl b0 t0 (hp_Bc (z := p) rfl b1 t1 (hp_Bc (z := e) rfl b2 t2 (hp_Bc (z := x) rfl b3 t3 (hp_Bc (z := b) rfl b4 t4 hp_Bn))))) (hp_Fc (z := ((-1) + (1 * n + ((-1) * e + 0)))) rfl (by omega) (hp_Fc (z := ((-13) + ((-1) * p + (1 * e + 0)))) rfl (by omega) hp_Fn)) (hp_Kc (zi := (0 + 0)) (zv := (0 + (1 * n + 0))) k0 rfl rfl (by omega) (by omega) (hp_Kc (zi := (0 + (1 * e + 0))) (zv := (0 + (1 * x + 0))) k1 rfl rfl (by omega) (by omega) (hp_Kc (zi := (0 + (1 * x + 0))) (zv := (0 + (1 * b + 0))) k2 rfl rfl (by omega) (by omega) (hp_Kc (zi := (0 + 0)) (zv := (0 + (1 * p + 0))) k3 rfl rfl (by omega) (by omega) (hp_Kc (zi := (0 + 0)) (zv := ((-1) + 0)) k4 rfl rfl (by omega) (by omega) hp_Kn))))) (hp_La l0 (hp_Li (z := (0 + (1 * p + 0))) l1 rfl (by omega) (hp_Li (z := (0 + (1 * e + 0))) l3 rfl (by omega) hp_Ln))) trivial ?_ ?_
  · intro p hp ys l' st' h' hys a1 a2 a3 gZ gL gS
    cases hp
  · intro p hp ys v h' hys a1 a2 a3 gZ gS
    rcases List.mem_cons.mp hp with rfl | hp
    · obtain rfl := hp_y0 hys
      have sv := hp_gSn gS
      cases v with
      | some w => cases sv
      | none =>
        exact r0 h' a1 a2 a3 (hp_gK (zi := (0 + 0)) (zv := (0 + (1 * n + 0))) gZ.2.2.2 (List.mem_of_getElem? (i := 0) rfl) rfl rfl (by omega) (by omega)) (hp_gK (zi := (0 + 0)) (zv := (0 + 0)) gZ.2.2.2 (List.mem_of_getElem? (i := 1) rfl) rfl rfl (by omega) (by omega)) (hp_gK (zi := (0 + 0)) (zv := (0 + (1 * e + 0))) gZ.2.2.2 (List.mem_of_getElem? (i := 2) rfl) rfl rfl (by omega) (by omega)) (hp_gK (zi := (0 + 0)) (zv := (0 + (1 * p + 0))) gZ.2.2.2 (List.mem_of_getElem? (i := 3) rfl) rfl rfl (by omega) (by omega)) (hp_gK (zi := (0 + 0)) (zv := ((-1) + 0)) gZ.2.2.2 (List.mem_of_getElem? (i := 4) rfl) rfl rfl (by omega) (by omega))
    cases hp
theorem znM_k : hp_chk 299 31 4 [(0, 0, 1200), (1, 0, 1199), (2, (-128), 127), (3, 48, 57)] [((-1), [(0, 1), (1, (-1))])] [(0, .inr (.inr (.inl (some 94)))), (1, .inl (0, [(1, 1)]))] [] [(19970, (0, []), (0, [(0, 1)])), (20224, (0, [(1, 1)]), (0, [(2, 1)])), (63008, (0, [(2, 1)]), (0, [(3, 1)]))] [19971, 19972, 19973, 19974, 19975, 19976] 8 [(186, ([], 4, [(0, 0, 1200), (1, 0, 1199), (2, (-128), 127), (3, 48, 57)], [], [(0, .inr (.inr (.inl (some 94)))), (1, .inl (0, [(1, 1)])), (3, .inl (1, [(1, 1)]))], [], [(19970, (0, []), (0, [(0, 1)])), (19975, (0, []), ((-48), [(3, 1)])), (19973, (0, []), (0, [(1, 1)])), (19972, (0, []), ((-1), []))]))] [] = true := by decide +kernel
theorem znM {cst : am_K} {strs : List Nat} {Φ : am_Q → Prop} {D : Nat} {M : am_M} {h : am_H} {l : am_L} (c : hp_C cst strs D) (hM : m_P[299]? = some M) (hD : (8 : Int) ≤ (D : Int) + 1) (hy : ly_hy m_tt ly_TH h) (n p x b : Int) (b0 : 0 ≤ n) (t0 : n ≤ 1200) (b1 : 0 ≤ p) (t1 : p ≤ 1199) (b2 : (-128) ≤ x) (t2 : x ≤ 127) (b3 : 48 ≤ b) (t3 : b ≤ 57) (f0 : 0 ≤ (n - p - 1)) (k0 : ly_hv cst h 19970 0 = some (n)) (k1 : ly_hv cst h 20224 (p) = some (x)) (k2 : ly_hv cst h 63008 (x) = some (b)) (l0 : hp_a l 0 94) (l1 : hp_i l 1 (p)) (e0 : ∀ (l' : am_L) (h' : am_H), ly_hy m_tt ly_TH h' → ly_fr cst [19971, 19972, 19973, 19974, 19975, 19976] h h' → h.length ≤ h'.length → ly_hv cst h' 19970 0 = some (n) → ly_hv cst h' 19975 0 = some (b - 48) → ly_hv cst h' 19973 0 = some (p) → ly_hv cst h' 19972 0 = some (-1) → hp_a l' 0 94 → hp_i l' 1 (p) → hp_i l' 3 (p + 1) → hp_F cst strs Φ D M 186 l' [] h') : hp_F cst strs Φ D M 31 l [] h := by
  refine hp_arc c hM znM_k hD [n, p, x, b] rfl hy (hp_Bc (z := n) rfl b0 t0 (hp_Bc (z := p) rfl b1 t1 (hp_Bc (z := x) rfl b2 t2 (hp_Bc (z := b) rfl b3 t3 hp_Bn)))) (hp_Fc (z := ((-1) + (1 * n + ((-1) * p + 0)))) rfl (by omega) hp_Fn) (hp_Kc (zi := (0 + 0)) (zv := (0 + (1 * n + 0))) k0 rfl rfl (by omega) (by omega) (hp_Kc (zi := (0 + (1 * p + 0))) (zv := (0 + (1 * x + 0))) k1 rfl rfl (by omega) (by omega) (hp_Kc (zi := (0 + (1 * x + 0))) (zv := (0 + (1 * b + 0))) k2 rfl rfl (by omega) (by omega) hp_Kn))) (hp_La l0 (hp_Li (z := (0 + (1 * p + 0))) l1 rfl (by omega) hp_Ln)) trivial ?_ ?_
  · intro p hp ys l' st' h' hys a1 a2 a3 gZ gL gS
    rcases List.mem_cons.mp hp with rfl | hp
    · obtain rfl := hp_y0 hys
      cases hp_gSn gS
      exact e0 l' h' a1 a2 a3 (hp_gK (zi := (0 + 0)) (zv := (0 + (1 * n + 0))) gZ.2.2.2 (List.mem_of_getElem? (i := 0) rfl) rfl rfl (by omega) (by omega)) (hp_gK (zi := (0 + 0)) (zv := ((-48) + (1 * b + 0))) gZ.2.2.2 (List.mem_of_getElem? (i := 1) rfl) rfl rfl (by omega) (by omega)) (hp_gK (zi := (0 + 0)) (zv := (0 + (1 * p + 0))) gZ.2.2.2 (List.mem_of_getElem? (i := 2) rfl) rfl rfl (by omega) (by omega)) (hp_gK (zi := (0 + 0)) (zv := ((-1) + 0)) gZ.2.2.2 (List.mem_of_getElem? (i := 3) rfl) rfl rfl (by omega) (by omega)) (hp_gLa gL (List.mem_of_getElem? (i := 0) rfl) (by decide)) (hp_gLi (z := (0 + (1 * p + 0))) gL (List.mem_of_getElem? (i := 1) rfl) rfl (by omega)) (hp_gLi (z := (1 + (1 * p + 0))) gL (List.mem_of_getElem? (i := 2) rfl) rfl (by omega))
    cases hp
  · intro p hp ys v h' hys a1 a2 a3 gZ gS
    cases hp
theorem znN0_k : hp_chk 299 186 6 [(0, 0, 1200), (1, 0, 1199), (2, 0, 1199), (3, (-128), 127), (4, 48, 57), (5, 0, 999)] [((-1), [(0, 1), (2, (-1))]), ((-1), [(1, (-1)), (2, 1)]), (3, [(1, 1), (2, (-1))])] [(0, .inr (.inr (.inl (some 94)))), (1, .inl (0, [(1, 1)])), (3, .inl (0, [(2, 1)]))] [] [(19970, (0, []), (0, [(0, 1)])), (20224, (0, [(2, 1)]), (0, [(3, 1)])), (63008, (0, [(3, 1)]), (0, [(4, 1)])), (19975, (0, []), (0, [(5, 1)])), (19973, (0, []), (0, [(1, 1)])), (19972, (0, []), ((-1), []))] [19971, 19972, 19973, 19974, 19975, 19976] 8 [(186, ([], 6, [(0, 0, 1200), (1, 0, 1199), (2, 0, 1199), (3, (-128), 127), (4, 48, 57), (5, 0, 999)], [], [(0, .inr (.inr (.inl (some 94)))), (1, .inl (0, [(1, 1)])), (3, .inl (1, [(2, 1)]))], [], [(19970, (0, []), (0, [(0, 1)])), (19975, (0, []), ((-48), [(4, 1), (5, 10)])), (19973, (0, []), (0, [(1, 1)])), (19972, (0, []), ((-1), []))]))] [] = true := by decide +kernel
theorem znN0 {cst : am_K} {strs : List Nat} {Φ : am_Q → Prop} {D : Nat} {M : am_M} {h : am_H} {l : am_L} (c : hp_C cst strs D) (hM : m_P[299]? = some M) (hD : (8 : Int) ≤ (D : Int) + 1) (hy : ly_hy m_tt ly_TH h) (n p e x b vv : Int) (b0 : 0 ≤ n) (t0 : n ≤ 1200) (b1 : 0 ≤ p) (t1 : p ≤ 1199) (b2 : 0 ≤ e) (t2 : e ≤ 1199) (b3 : (-128) ≤ x) (t3 : x ≤ 127) (b4 : 48 ≤ b) (t4 : b ≤ 57) (b5 : 0 ≤ vv) (t5 : vv ≤ 999) (f0 : 0 ≤ (n - e - 1)) (f1 : 0 ≤ (e - p - 1)) (f2 : 0 ≤ (p - e + 3)) (k0 : ly_hv cst h 19970 0 = some (n)) (k1 : ly_hv cst h 20224 (e) = some (x)) (k2 : ly_hv cst h 63008 (x) = some (b)) (k3 : ly_hv cst h 19975 0 = some (vv)) (k4 : ly_hv cst h 19973 0 = some (p)) (k5 : ly_hv cst h 19972 0 = some (-1)) (l0 : hp_a l 0 94) (l1 : hp_i l 1 (p)) (l3 : hp_i l 3 (e)) (e0 : ∀ (l' : am_L) (h' : am_H), ly_hy m_tt ly_TH h' → ly_fr cst [19971, 19972, 19973, 19974, 19975, 19976] h h' → h.length ≤ h'.length → ly_hv cst h' 19970 0 = some (n) → ly_hv cst h' 19975 0 = some (10 * vv + b - 48) → ly_hv cst h' 19973 0 = some (p) → ly_hv cst h' 19972 0 = some (-1) → hp_a l' 0 94 → hp_i l' 1 (p) → hp_i l' 3 (e + 1) → hp_F cst strs Φ D M 186 l' [] h') : hp_F cst strs Φ D M 186 l [] h := by
  refine hp_arc c hM znN0_k hD [n, p, e, x, b, vv] rfl hy (hp_Bc (z := n) rfl b0 t0 (hp_Bc (z := p) rfl b1 t1 (hp_Bc (z := e) rfl b2 t2 (hp_Bc (z := x) rfl b3 t3 (hp_Bc (z := b) rfl b4 t4 (hp_Bc (z := vv) rfl b5 t5 hp_Bn)))))) (hp_Fc (z := ((-1) + (1 * n + ((-1) * e + 0)))) rfl (by omega) (hp_Fc (z := ((-1) + ((-1) * p + (1 * e + 0)))) rfl (by omega) (hp_Fc (z := (3 + (1 * p + ((-1) * e + 0)))) rfl (by omega) hp_Fn))) (hp_Kc (zi := (0 + 0)) (zv := (0 + (1 * n + 0))) k0 rfl rfl (by omega) (by omega) (hp_Kc (zi := (0 + (1 * e + 0))) (zv := (0 + (1 * x + 0))) k1 rfl rfl (by omega) (by omega) (hp_Kc (zi := (0 + (1 * x + 0))) (zv := (0 + (1 * b + 0))) k2 rfl rfl (by omega) (by omega) (hp_Kc (zi := (0 + 0)) (zv := (0 + (1 * vv + 0))) k3 rfl rfl (by omega) (by omega) (hp_Kc (zi := (0 + 0)) (zv := (0 + (1 * p + 0))) k4 rfl rfl (by omega) (by omega) (hp_Kc (zi := (0 + 0)) (zv := ((-1) + 0)) k5 rfl rfl (by omega) (by omega) hp_Kn)))))) (hp_La l0 (hp_Li (z := (0 + (1 * p + 0))) l1 rfl (by omega) (hp_Li (z := (0 + (1 * e + 0))) l3 rfl (by omega) hp_Ln))) trivial ?_ ?_
  · intro p hp ys l' st' h' hys a1 a2 a3 gZ gL gS
    rcases List.mem_cons.mp hp with rfl | hp
    · obtain rfl := hp_y0 hys
      cases hp_gSn gS
      exact e0 l' h' a1 a2 a3 (hp_gK (zi := (0 + 0)) (zv := (0 + (1 * n + 0))) gZ.2.2.2 (List.mem_of_getElem? (i := 0) rfl) rfl rfl (by omega) (by omega)) (hp_gK (zi := (0 + 0)) (zv := ((-48) + (1 * b + (10 * vv + 0)))) gZ.2.2.2 (List.mem_of_getElem? (i := 1) rfl) rfl rfl (by omega) (by omega)) (hp_gK (zi := (0 + 0)) (zv := (0 + (1 * p + 0))) gZ.2.2.2 (List.mem_of_getElem? (i := 2) rfl) rfl rfl (by omega) (by omega)) (hp_gK (zi := (0 + 0)) (zv := ((-1) + 0)) gZ.2.2.2 (List.mem_of_getElem? (i := 3) rfl) rfl rfl (by omega) (by omega)) (hp_gLa gL (List.mem_of_getElem? (i := 0) rfl) (by decide)) (hp_gLi (z := (0 + (1 * p + 0))) gL (List.mem_of_getElem? (i := 1) rfl) rfl (by omega)) (hp_gLi (z := (1 + (1 * e + 0))) gL (List.mem_of_getElem? (i := 2) rfl) rfl (by omega))
    cases hp
  · intro p hp ys v h' hys a1 a2 a3 gZ gS
    cases hp
theorem znN1_k : hp_chk 299 186 6 [(0, 0, 1200), (1, 0, 1199), (2, 0, 1199), (3, (-128), 127), (4, 48, 57), (5, 0, 9999)] [((-1), [(0, 1), (2, (-1))]), ((-4), [(1, (-1)), (2, 1)])] [(0, .inr (.inr (.inl (some 94)))), (1, .inl (0, [(1, 1)])), (3, .inl (0, [(2, 1)]))] [] [(19970, (0, []), (0, [(0, 1)])), (20224, (0, [(2, 1)]), (0, [(3, 1)])), (63008, (0, [(3, 1)]), (0, [(4, 1)])), (19975, (0, []), (0, [(5, 1)])), (19973, (0, []), (0, [(1, 1)])), (19972, (0, []), ((-1), []))] [19971, 19972, 19973, 19974, 19975, 19976] 8 [(186, ([], 6, [(0, 0, 1200), (1, 0, 1199), (2, 0, 1199), (3, (-128), 127), (4, 48, 57), (5, 0, 9999)], [], [(0, .inr (.inr (.inl (some 94)))), (1, .inl (0, [(1, 1)])), (3, .inl (1, [(2, 1)]))], [], [(19970, (0, []), (0, [(0, 1)])), (19975, (0, []), (0, [(5, 1)])), (19973, (0, []), (0, [(1, 1)])), (19972, (0, []), ((-1), []))]))] [] = true := by decide +kernel
theorem znN1 {cst : am_K} {strs : List Nat} {Φ : am_Q → Prop} {D : Nat} {M : am_M} {h : am_H} {l : am_L} (c : hp_C cst strs D) (hM : m_P[299]? = some M) (hD : (8 : Int) ≤ (D : Int) + 1) (hy : ly_hy m_tt ly_TH h) (n p e x b vv : Int) (b0 : 0 ≤ n) (t0 : n ≤ 1200) (b1 : 0 ≤ p) (t1 : p ≤ 1199) (b2 : 0 ≤ e) (t2 : e ≤ 1199) (b3 : (-128) ≤ x) (t3 : x ≤ 127) (b4 : 48 ≤ b) (t4 : b ≤ 57) (b5 : 0 ≤ vv) (t5 : vv ≤ 9999) (f0 : 0 ≤ (n - e - 1)) (f1 : 0 ≤ (e - p - 4)) (k0 : ly_hv cst h 19970 0 = some (n)) (k1 : ly_hv cst h 20224 (e) = some (x)) (k2 : ly_hv cst h 63008 (x) = some (b)) (k3 : ly_hv cst h 19975 0 = some (vv)) (k4 : ly_hv cst h 19973 0 = some (p)) (k5 : ly_hv cst h 19972 0 = some (-1)) (l0 : hp_a l 0 94) (l1 : hp_i l 1 (p)) (l3 : hp_i l 3 (e)) (e0 : ∀ (l' : am_L) (h' : am_H), ly_hy m_tt ly_TH h' → ly_fr cst [19971, 19972, 19973, 19974, 19975, 19976] h h' → h.length ≤ h'.length → ly_hv cst h' 19970 0 = some (n) → ly_hv cst h' 19975 0 = some (vv) → ly_hv cst h' 19973 0 = some (p) → ly_hv cst h' 19972 0 = some (-1) → hp_a l' 0 94 → hp_i l' 1 (p) → hp_i l' 3 (e + 1) → hp_F cst strs Φ D M 186 l' [] h') : hp_F cst strs Φ D M 186 l [] h := by
  refine hp_arc c hM znN1_k hD [n, p, e, x, b, vv] rfl hy (hp_Bc (z := n) rfl b0 t0 (hp_Bc (z := p) rfl b1 t1 (hp_Bc (z := e) rfl b2 t2 (hp_Bc (z := x) rfl b3 t3 (hp_Bc (z := b) rfl b4 t4 (hp_Bc (z := vv) rfl b5 t5 hp_Bn)))))) (hp_Fc (z := ((-1) + (1 * n + ((-1) * e + 0)))) rfl (by omega) (hp_Fc (z := ((-4) + ((-1) * p + (1 * e + 0)))) rfl (by omega) hp_Fn)) (hp_Kc (zi := (0 + 0)) (zv := (0 + (1 * n + 0))) k0 rfl rfl (by omega) (by omega) (hp_Kc (zi := (0 + (1 * e + 0))) (zv := (0 + (1 * x + 0))) k1 rfl rfl (by omega) (by omega) (hp_Kc (zi := (0 + (1 * x + 0))) (zv := (0 + (1 * b + 0))) k2 rfl rfl (by omega) (by omega) (hp_Kc (zi := (0 + 0)) (zv := (0 + (1 * vv + 0))) k3 rfl rfl (by omega) (by omega) (hp_Kc (zi := (0 + 0)) (zv := (0 + (1 * p + 0))) k4 rfl rfl (by omega) (by omega) (hp_Kc (zi := (0 + 0)) (zv := ((-1) + 0)) k5 rfl rfl (by omega) (by omega) hp_Kn)))))) (hp_La l0 (hp_Li (z := (0 + (1 * p + 0))) l1 rfl (by omega) (hp_Li (z := (0 + (1 * e + 0))) l3 rfl (by omega) hp_Ln))) trivial ?_ ?_
  · intro p hp ys l' st' h' hys a1 a2 a3 gZ gL gS
    rcases List.mem_cons.mp hp with rfl | hp
    · obtain rfl := hp_y0 hys
      cases hp_gSn gS
      exact e0 l' h' a1 a2 a3 (hp_gK (zi := (0 + 0)) (zv := (0 + (1 * n + 0))) gZ.2.2.2 (List.mem_of_getElem? (i := 0) rfl) rfl rfl (by omega) (by omega)) (hp_gK (zi := (0 + 0)) (zv := (0 + (1 * vv + 0))) gZ.2.2.2 (List.mem_of_getElem? (i := 1) rfl) rfl rfl (by omega) (by omega)) (hp_gK (zi := (0 + 0)) (zv := (0 + (1 * p + 0))) gZ.2.2.2 (List.mem_of_getElem? (i := 2) rfl) rfl rfl (by omega) (by omega)) (hp_gK (zi := (0 + 0)) (zv := ((-1) + 0)) gZ.2.2.2 (List.mem_of_getElem? (i := 3) rfl) rfl rfl (by omega) (by omega)) (hp_gLa gL (List.mem_of_getElem? (i := 0) rfl) (by decide)) (hp_gLi (z := (0 + (1 * p + 0))) gL (List.mem_of_getElem? (i := 1) rfl) rfl (by omega)) (hp_gLi (z := (1 + (1 * e + 0))) gL (List.mem_of_getElem? (i := 2) rfl) rfl (by omega))
    cases hp
  · intro p hp ys v h' hys a1 a2 a3 gZ gS
    cases hp
theorem znO0_k : hp_chk 299 186 3 [(0, 0, 1200), (1, 0, 1199), (2, 0, 9999)] [((-1), [(0, 1), (1, (-1))]), (4, [(0, (-1)), (1, 1)])] [(0, .inr (.inr (.inl (some 94)))), (1, .inl (0, [(1, 1)])), (3, .inl (0, [(0, 1)]))] [] [(19970, (0, []), (0, [(0, 1)])), (19975, (0, []), (0, [(2, 1)])), (19973, (0, []), (0, [(1, 1)])), (19972, (0, []), ((-1), []))] [19971, 19972, 19973, 19974, 19975, 19976] 8 [] [([], 3, [(0, 0, 1200), (1, 0, 1199), (2, 0, 9999)], [], [], [], [(19970, (0, []), (0, [(0, 1)])), (19971, (0, []), (2, [])), (19974, (0, []), (0, [(0, 1)])), (19975, (0, []), (0, [(2, 1)])), (19973, (0, []), (0, [(1, 1)])), (19972, (0, []), ((-1), []))])] = true := by decide +kernel
theorem znO0 {cst : am_K} {strs : List Nat} {Φ : am_Q → Prop} {D : Nat} {M : am_M} {h : am_H} {l : am_L} (c : hp_C cst strs D) (hM : m_P[299]? = some M) (hD : (8 : Int) ≤ (D : Int) + 1) (hy : ly_hy m_tt ly_TH h) (n p vv : Int) (b0 : 0 ≤ n) (t0 : n ≤ 1200) (b1 : 0 ≤ p) (t1 : p ≤ 1199) (b2 : 0 ≤ vv) (t2 : vv ≤ 9999) (f0 : 0 ≤ (n - p - 1)) (f1 : 0 ≤ (p - n + 4)) (k0 : ly_hv cst h 19970 0 = some (n)) (k1 : ly_hv cst h 19975 0 = some (vv)) (k2 : ly_hv cst h 19973 0 = some (p)) (k3 : ly_hv cst h 19972 0 = some (-1)) (l0 : hp_a l 0 94) (l1 : hp_i l 1 (p)) (l3 : hp_i l 3 (n)) (r0 : ∀ (h' : am_H), ly_hy m_tt ly_TH h' → ly_fr cst [19971, 19972, 19973, 19974, 19975, 19976] h h' → h.length ≤ h'.length → ly_hv cst h' 19970 0 = some (n) → ly_hv cst h' 19971 0 = some 2 → ly_hv cst h' 19974 0 = some (n) → ly_hv cst h' 19975 0 = some (vv) → ly_hv cst h' 19973 0 = some (p) → ly_hv cst h' 19972 0 = some (-1) → Φ (none, h', 0, 0)) : hp_F cst strs Φ D M 186 l [] h := by
  refine hp_arc c hM znO0_k hD [n, p, vv] rfl hy (hp_Bc (z := n) rfl b0 t0 (hp_Bc (z := p) rfl b1 t1 (hp_Bc (z := vv) rfl b2 t2 hp_Bn))) (hp_Fc (z := ((-1) + (1 * n + ((-1) * p + 0)))) rfl (by omega) (hp_Fc (z := (4 + ((-1) * n + (1 * p + 0)))) rfl (by omega) hp_Fn)) (hp_Kc (zi := (0 + 0)) (zv := (0 + (1 * n + 0))) k0 rfl rfl (by omega) (by omega) (hp_Kc (zi := (0 + 0)) (zv := (0 + (1 * vv + 0))) k1 rfl rfl (by omega) (by omega) (hp_Kc (zi := (0 + 0)) (zv := (0 + (1 * p + 0))) k2 rfl rfl (by omega) (by omega) (hp_Kc (zi := (0 + 0)) (zv := ((-1) + 0)) k3 rfl rfl (by omega) (by omega) hp_Kn)))) (hp_La l0 (hp_Li (z := (0 + (1 * p + 0))) l1 rfl (by omega) (hp_Li (z := (0 + (1 * n + 0))) l3 rfl (by omega) hp_Ln))) trivial ?_ ?_
  · intro p hp ys l' st' h' hys a1 a2 a3 gZ gL gS
    cases hp
  · intro p hp ys v h' hys a1 a2 a3 gZ gS
    rcases List.mem_cons.mp hp with rfl | hp
    · obtain rfl := hp_y0 hys
      have sv := hp_gSn gS
      cases v with
      | some w => cases sv
      | none =>
        exact r0 h' a1 a2 a3 (hp_gK (zi := (0 + 0)) (zv := (0 + (1 * n + 0))) gZ.2.2.2 (List.mem_of_getElem? (i := 0) rfl) rfl rfl (by omega) (by omega)) (hp_gK (zi := (0 + 0)) (zv := (2 + 0)) gZ.2.2.2 (List.mem_of_getElem? (i := 1) rfl) rfl rfl (by omega) (by omega)) (hp_gK (zi := (0 + 0)) (zv := (0 + (1 * n + 0))) gZ.2.2.2 (List.mem_of_getElem? (i := 2) rfl) rfl rfl (by omega) (by omega)) (hp_gK (zi := (0 + 0)) (zv := (0 + (1 * vv + 0))) gZ.2.2.2 (List.mem_of_getElem? (i := 3) rfl) rfl rfl (by omega) (by omega)) (hp_gK (zi := (0 + 0)) (zv := (0 + (1 * p + 0))) gZ.2.2.2 (List.mem_of_getElem? (i := 4) rfl) rfl rfl (by omega) (by omega)) (hp_gK (zi := (0 + 0)) (zv := ((-1) + 0)) gZ.2.2.2 (List.mem_of_getElem? (i := 5) rfl) rfl rfl (by omega) (by omega))
    cases hp
theorem znO1_k : hp_chk 299 186 2 [(0, 0, 1200), (1, 0, 1199)] [((-5), [(0, 1), (1, (-1))])] [(0, .inr (.inr (.inl (some 94)))), (1, .inl (0, [(1, 1)])), (3, .inl (0, [(0, 1)]))] [] [(19970, (0, []), (0, [(0, 1)])), (19973, (0, []), (0, [(1, 1)])), (19972, (0, []), ((-1), []))] [19971, 19972, 19973, 19974, 19975, 19976] 8 [] [([], 2, [(0, 0, 1200), (1, 0, 1199)], [], [], [], [(19970, (0, []), (0, [(0, 1)])), (19971, (0, []), (0, [])), (19974, (0, []), (0, [(0, 1)])), (19973, (0, []), (0, [(1, 1)])), (19972, (0, []), ((-1), []))])] = true := by decide +kernel
theorem znO1 {cst : am_K} {strs : List Nat} {Φ : am_Q → Prop} {D : Nat} {M : am_M} {h : am_H} {l : am_L} (c : hp_C cst strs D) (hM : m_P[299]? = some M) (hD : (8 : Int) ≤ (D : Int) + 1) (hy : ly_hy m_tt ly_TH h) (n p : Int) (b0 : 0 ≤ n) (t0 : n ≤ 1200) (b1 : 0 ≤ p) (t1 : p ≤ 1199) (f0 : 0 ≤ (n - p - 5)) (k0 : ly_hv cst h 19970 0 = some (n)) (k1 : ly_hv cst h 19973 0 = some (p)) (k2 : ly_hv cst h 19972 0 = some (-1)) (l0 : hp_a l 0 94) (l1 : hp_i l 1 (p)) (l3 : hp_i l 3 (n)) (r0 : ∀ (h' : am_H), ly_hy m_tt ly_TH h' → ly_fr cst [19971, 19972, 19973, 19974, 19975, 19976] h h' → h.length ≤ h'.length → ly_hv cst h' 19970 0 = some (n) → ly_hv cst h' 19971 0 = some 0 → ly_hv cst h' 19974 0 = some (n) → ly_hv cst h' 19973 0 = some (p) → ly_hv cst h' 19972 0 = some (-1) → Φ (none, h', 0, 0)) : hp_F cst strs Φ D M 186 l [] h := by
  refine hp_arc c hM znO1_k hD [n, p] rfl hy (hp_Bc (z := n) rfl b0 t0 (hp_Bc (z := p) rfl b1 t1 hp_Bn)) (hp_Fc (z := ((-5) + (1 * n + ((-1) * p + 0)))) rfl (by omega) hp_Fn) (hp_Kc (zi := (0 + 0)) (zv := (0 + (1 * n + 0))) k0 rfl rfl (by omega) (by omega) (hp_Kc (zi := (0 + 0)) (zv := (0 + (1 * p + 0))) k1 rfl rfl (by omega) (by omega) (hp_Kc (zi := (0 + 0)) (zv := ((-1) + 0)) k2 rfl rfl (by omega) (by omega) hp_Kn))) (hp_La l0 (hp_Li (z := (0 + (1 * p + 0))) l1 rfl (by omega) (hp_Li (z := (0 + (1 * n + 0))) l3 rfl (by omega) hp_Ln))) trivial ?_ ?_
  · intro p hp ys l' st' h' hys a1 a2 a3 gZ gL gS
    cases hp
  · intro p hp ys v h' hys a1 a2 a3 gZ gS
    rcases List.mem_cons.mp hp with rfl | hp
    · obtain rfl := hp_y0 hys
      have sv := hp_gSn gS
      cases v with
      | some w => cases sv
      | none =>
        exact r0 h' a1 a2 a3 (hp_gK (zi := (0 + 0)) (zv := (0 + (1 * n + 0))) gZ.2.2.2 (List.mem_of_getElem? (i := 0) rfl) rfl rfl (by omega) (by omega)) (hp_gK (zi := (0 + 0)) (zv := (0 + 0)) gZ.2.2.2 (List.mem_of_getElem? (i := 1) rfl) rfl rfl (by omega) (by omega)) (hp_gK (zi := (0 + 0)) (zv := (0 + (1 * n + 0))) gZ.2.2.2 (List.mem_of_getElem? (i := 2) rfl) rfl rfl (by omega) (by omega)) (hp_gK (zi := (0 + 0)) (zv := (0 + (1 * p + 0))) gZ.2.2.2 (List.mem_of_getElem? (i := 3) rfl) rfl rfl (by omega) (by omega)) (hp_gK (zi := (0 + 0)) (zv := ((-1) + 0)) gZ.2.2.2 (List.mem_of_getElem? (i := 4) rfl) rfl rfl (by omega) (by omega))
    cases hp
theorem znP0_k : hp_chk 299 186 6 [(0, 0, 1200), (1, 0, 1199), (2, 0, 1199), (3, (-128), 127), (4, 0, 47), (5, 0, 9999)] [((-1), [(0, 1), (2, (-1))]), ((-1), [(1, (-1)), (2, 1)]), (4, [(1, 1), (2, (-1))])] [(0, .inr (.inr (.inl (some 94)))), (1, .inl (0, [(1, 1)])), (3, .inl (0, [(2, 1)]))] [] [(19970, (0, []), (0, [(0, 1)])), (20224, (0, [(2, 1)]), (0, [(3, 1)])), (63008, (0, [(3, 1)]), (0, [(4, 1)])), (19975, (0, []), (0, [(5, 1)])), (19973, (0, []), (0, [(1, 1)])), (19972, (0, []), ((-1), []))] [19971, 19972, 19973, 19974, 19975, 19976] 8 [] [([], 6, [(0, 0, 1200), (1, 0, 1199), (2, 0, 1199), (3, (-128), 127), (4, 0, 47), (5, 0, 9999)], [], [], [], [(19970, (0, []), (0, [(0, 1)])), (19971, (0, []), (2, [])), (19974, (0, []), (0, [(2, 1)])), (19975, (0, []), (0, [(5, 1)])), (19973, (0, []), (0, [(1, 1)])), (19972, (0, []), ((-1), []))])] = true := by decide +kernel
theorem znP0 {cst : am_K} {strs : List Nat} {Φ : am_Q → Prop} {D : Nat} {M : am_M} {h : am_H} {l : am_L} (c : hp_C cst strs D) (hM : m_P[299]? = some M) (hD : (8 : Int) ≤ (D : Int) + 1) (hy : ly_hy m_tt ly_TH h) (n p e x b vv : Int) (b0 : 0 ≤ n) (t0 : n ≤ 1200) (b1 : 0 ≤ p) (t1 : p ≤ 1199) (b2 : 0 ≤ e) (t2 : e ≤ 1199) (b3 : (-128) ≤ x) (t3 : x ≤ 127) (b4 : 0 ≤ b) (t4 : b ≤ 47) (b5 : 0 ≤ vv) (t5 : vv ≤ 9999) (f0 : 0 ≤ (n - e - 1)) (f1 : 0 ≤ (e - p - 1)) (f2 : 0 ≤ (p - e + 4)) (k0 : ly_hv cst h 19970 0 = some (n)) (k1 : ly_hv cst h 20224 (e) = some (x)) (k2 : ly_hv cst h 63008 (x) = some (b)) (k3 : ly_hv cst h 19975 0 = some (vv)) (k4 : ly_hv cst h 19973 0 = some (p)) (k5 : ly_hv cst h 19972 0 = some (-1)) (l0 : hp_a l 0 94) (l1 : hp_i l 1 (p)) (l3 : hp_i l 3 (e)) (r0 : ∀ (h' : am_H), ly_hy m_tt ly_TH h' → ly_fr cst [19971, 19972, 19973, 19974, 19975, 19976] h h' → h.length ≤ h'.length → ly_hv cst h' 19970 0 = some (n) → ly_hv cst h' 19971 0 = some 2 → ly_hv cst h' 19974 0 = some (e) → ly_hv cst h' 19975 0 = some (vv) → ly_hv cst h' 19973 0 = some (p) → ly_hv cst h' 19972 0 = some (-1) → Φ (none, h', 0, 0)) : hp_F cst strs Φ D M 186 l [] h := by
  refine hp_arc c hM znP0_k hD [n, p, e, x, b, vv] rfl hy (hp_Bc (z := n) rfl b0 t0 (hp_Bc (z := p) rfl b1 t1 (hp_Bc (z := e) rfl b2 t2 (hp_Bc (z := x) rfl b3 t3 (hp_Bc (z := b) rfl b4 t4 (hp_Bc (z := vv) rfl b5 t5 hp_Bn)))))) (hp_Fc (z := ((-1) + (1 * n + ((-1) * e + 0)))) rfl (by omega) (hp_Fc (z := ((-1) + ((-1) * p + (1 * e + 0)))) rfl (by omega) (hp_Fc (z := (4 + (1 * p + ((-1) * e + 0)))) rfl (by omega) hp_Fn))) (hp_Kc (zi := (0 + 0)) (zv := (0 + (1 * n + 0))) k0 rfl rfl (by omega) (by omega) (hp_Kc (zi := (0 + (1 * e + 0))) (zv := (0 + (1 * x + 0))) k1 rfl rfl (by omega) (by omega) (hp_Kc (zi := (0 + (1 * x + 0))) (zv := (0 + (1 * b + 0))) k2 rfl rfl (by omega) (by omega) (hp_Kc (zi := (0 + 0)) (zv := (0 + (1 * vv + 0))) k3 rfl rfl (by omega) (by omega) (hp_Kc (zi := (0 + 0)) (zv := (0 + (1 * p + 0))) k4 rfl rfl (by omega) (by omega) (hp_Kc (zi := (0 + 0)) (zv := ((-1) + 0)) k5 rfl rfl (by omega) (by omega) hp_Kn)))))) (hp_La l0 (hp_Li (z := (0 + (1 * p + 0))) l1 rfl (by omega) (hp_Li (z := (0 + (1 * e + 0))) l3 rfl (by omega) hp_Ln))) trivial ?_ ?_
  · intro p hp ys l' st' h' hys a1 a2 a3 gZ gL gS
    cases hp
  · intro p hp ys v h' hys a1 a2 a3 gZ gS
    rcases List.mem_cons.mp hp with rfl | hp
    · obtain rfl := hp_y0 hys
      have sv := hp_gSn gS
      cases v with
      | some w => cases sv
      | none =>
        exact r0 h' a1 a2 a3 (hp_gK (zi := (0 + 0)) (zv := (0 + (1 * n + 0))) gZ.2.2.2 (List.mem_of_getElem? (i := 0) rfl) rfl rfl (by omega) (by omega)) (hp_gK (zi := (0 + 0)) (zv := (2 + 0)) gZ.2.2.2 (List.mem_of_getElem? (i := 1) rfl) rfl rfl (by omega) (by omega)) (hp_gK (zi := (0 + 0)) (zv := (0 + (1 * e + 0))) gZ.2.2.2 (List.mem_of_getElem? (i := 2) rfl) rfl rfl (by omega) (by omega)) (hp_gK (zi := (0 + 0)) (zv := (0 + (1 * vv + 0))) gZ.2.2.2 (List.mem_of_getElem? (i := 3) rfl) rfl rfl (by omega) (by omega)) (hp_gK (zi := (0 + 0)) (zv := (0 + (1 * p + 0))) gZ.2.2.2 (List.mem_of_getElem? (i := 4) rfl) rfl rfl (by omega) (by omega)) (hp_gK (zi := (0 + 0)) (zv := ((-1) + 0)) gZ.2.2.2 (List.mem_of_getElem? (i := 5) rfl) rfl rfl (by omega) (by omega))
    cases hp
theorem znR0_k : hp_chk 299 186 5 [(0, 0, 1200), (1, 0, 1199), (2, 0, 1199), (3, (-128), 127), (4, 0, 47)] [((-1), [(0, 1), (2, (-1))]), ((-5), [(1, (-1)), (2, 1)])] [(0, .inr (.inr (.inl (some 94)))), (1, .inl (0, [(1, 1)])), (3, .inl (0, [(2, 1)]))] [] [(19970, (0, []), (0, [(0, 1)])), (20224, (0, [(2, 1)]), (0, [(3, 1)])), (63008, (0, [(3, 1)]), (0, [(4, 1)])), (19973, (0, []), (0, [(1, 1)])), (19972, (0, []), ((-1), []))] [19971, 19972, 19973, 19974, 19975, 19976] 8 [] [([], 5, [(0, 0, 1200), (1, 0, 1199), (2, 0, 1199), (3, (-128), 127), (4, 0, 47)], [], [], [], [(19970, (0, []), (0, [(0, 1)])), (19971, (0, []), (0, [])), (19974, (0, []), (0, [(2, 1)])), (19973, (0, []), (0, [(1, 1)])), (19972, (0, []), ((-1), []))])] = true := by decide +kernel
theorem znR0 {cst : am_K} {strs : List Nat} {Φ : am_Q → Prop} {D : Nat} {M : am_M} {h : am_H} {l : am_L} (c : hp_C cst strs D) (hM : m_P[299]? = some M) (hD : (8 : Int) ≤ (D : Int) + 1) (hy : ly_hy m_tt ly_TH h) (n p e x b : Int) (b0 : 0 ≤ n) (t0 : n ≤ 1200) (b1 : 0 ≤ p) (t1 : p ≤ 1199) (b2 : 0 ≤ e) (t2 : e ≤ 1199) (b3 : (-128) ≤ x) (t3 : x ≤ 127) (b4 : 0 ≤ b) (t4 : b ≤ 47) (f0 : 0 ≤ (n - e - 1)) (f1 : 0 ≤ (e - p - 5)) (k0 : ly_hv cst h 19970 0 = some (n)) (k1 : ly_hv cst h 20224 (e) = some (x)) (k2 : ly_hv cst h 63008 (x) = some (b)) (k3 : ly_hv cst h 19973 0 = some (p)) (k4 : ly_hv cst h 19972 0 = some (-1)) (l0 : hp_a l 0 94) (l1 : hp_i l 1 (p)) (l3 : hp_i l 3 (e)) (r0 : ∀ (h' : am_H), ly_hy m_tt ly_TH h' → ly_fr cst [19971, 19972, 19973, 19974, 19975, 19976] h h' → h.length ≤ h'.length → ly_hv cst h' 19970 0 = some (n) → ly_hv cst h' 19971 0 = some 0 → ly_hv cst h' 19974 0 = some (e) → ly_hv cst h' 19973 0 = some (p) → ly_hv cst h' 19972 0 = some (-1) → Φ (none, h', 0, 0)) : hp_F cst strs Φ D M 186 l [] h := by
  refine hp_arc c hM znR0_k hD [n, p, e, x, b] rfl hy (hp_Bc (z := n) rfl b0 t0 (hp_Bc (z := p) rfl b1 t1 (hp_Bc (z := e) rfl b2 t2 (hp_Bc (z := x) rfl b3 t3 (hp_Bc (z := b) rfl b4 t4 hp_Bn))))) (hp_Fc (z := ((-1) + (1 * n + ((-1) * e + 0)))) rfl (by omega) (hp_Fc (z := ((-5) + ((-1) * p + (1 * e + 0)))) rfl (by omega) hp_Fn)) (hp_Kc (zi := (0 + 0)) (zv := (0 + (1 * n + 0))) k0 rfl rfl (by omega) (by omega) (hp_Kc (zi := (0 + (1 * e + 0))) (zv := (0 + (1 * x + 0))) k1 rfl rfl (by omega) (by omega) (hp_Kc (zi := (0 + (1 * x + 0))) (zv := (0 + (1 * b + 0))) k2 rfl rfl (by omega) (by omega) (hp_Kc (zi := (0 + 0)) (zv := (0 + (1 * p + 0))) k3 rfl rfl (by omega) (by omega) (hp_Kc (zi := (0 + 0)) (zv := ((-1) + 0)) k4 rfl rfl (by omega) (by omega) hp_Kn))))) (hp_La l0 (hp_Li (z := (0 + (1 * p + 0))) l1 rfl (by omega) (hp_Li (z := (0 + (1 * e + 0))) l3 rfl (by omega) hp_Ln))) trivial ?_ ?_
  · intro p hp ys l' st' h' hys a1 a2 a3 gZ gL gS
    cases hp
  · intro p hp ys v h' hys a1 a2 a3 gZ gS
    rcases List.mem_cons.mp hp with rfl | hp
    · obtain rfl := hp_y0 hys
      have sv := hp_gSn gS
      cases v with
      | some w => cases sv
      | none =>
        exact r0 h' a1 a2 a3 (hp_gK (zi := (0 + 0)) (zv := (0 + (1 * n + 0))) gZ.2.2.2 (List.mem_of_getElem? (i := 0) rfl) rfl rfl (by omega) (by omega)) (hp_gK (zi := (0 + 0)) (zv := (0 + 0)) gZ.2.2.2 (List.mem_of_getElem? (i := 1) rfl) rfl rfl (by omega) (by omega)) (hp_gK (zi := (0 + 0)) (zv := (0 + (1 * e + 0))) gZ.2.2.2 (List.mem_of_getElem? (i := 2) rfl) rfl rfl (by omega) (by omega)) (hp_gK (zi := (0 + 0)) (zv := (0 + (1 * p + 0))) gZ.2.2.2 (List.mem_of_getElem? (i := 3) rfl) rfl rfl (by omega) (by omega)) (hp_gK (zi := (0 + 0)) (zv := ((-1) + 0)) gZ.2.2.2 (List.mem_of_getElem? (i := 4) rfl) rfl rfl (by omega) (by omega))
    cases hp
theorem znP1_k : hp_chk 299 186 6 [(0, 0, 1200), (1, 0, 1199), (2, 0, 1199), (3, (-128), 127), (4, 58, 255), (5, 0, 9999)] [((-1), [(0, 1), (2, (-1))]), ((-1), [(1, (-1)), (2, 1)]), (4, [(1, 1), (2, (-1))])] [(0, .inr (.inr (.inl (some 94)))), (1, .inl (0, [(1, 1)])), (3, .inl (0, [(2, 1)]))] [] [(19970, (0, []), (0, [(0, 1)])), (20224, (0, [(2, 1)]), (0, [(3, 1)])), (63008, (0, [(3, 1)]), (0, [(4, 1)])), (19975, (0, []), (0, [(5, 1)])), (19973, (0, []), (0, [(1, 1)])), (19972, (0, []), ((-1), []))] [19971, 19972, 19973, 19974, 19975, 19976] 8 [] [([], 6, [(0, 0, 1200), (1, 0, 1199), (2, 0, 1199), (3, (-128), 127), (4, 58, 255), (5, 0, 9999)], [], [], [], [(19970, (0, []), (0, [(0, 1)])), (19971, (0, []), (2, [])), (19974, (0, []), (0, [(2, 1)])), (19975, (0, []), (0, [(5, 1)])), (19973, (0, []), (0, [(1, 1)])), (19972, (0, []), ((-1), []))])] = true := by decide +kernel
theorem znP1 {cst : am_K} {strs : List Nat} {Φ : am_Q → Prop} {D : Nat} {M : am_M} {h : am_H} {l : am_L} (c : hp_C cst strs D) (hM : m_P[299]? = some M) (hD : (8 : Int) ≤ (D : Int) + 1) (hy : ly_hy m_tt ly_TH h) (n p e x b vv : Int) (b0 : 0 ≤ n) (t0 : n ≤ 1200) (b1 : 0 ≤ p) (t1 : p ≤ 1199) (b2 : 0 ≤ e) (t2 : e ≤ 1199) (b3 : (-128) ≤ x) (t3 : x ≤ 127) (b4 : 58 ≤ b) (t4 : b ≤ 255) (b5 : 0 ≤ vv) (t5 : vv ≤ 9999) (f0 : 0 ≤ (n - e - 1)) (f1 : 0 ≤ (e - p - 1)) (f2 : 0 ≤ (p - e + 4)) (k0 : ly_hv cst h 19970 0 = some (n)) (k1 : ly_hv cst h 20224 (e) = some (x)) (k2 : ly_hv cst h 63008 (x) = some (b)) (k3 : ly_hv cst h 19975 0 = some (vv)) (k4 : ly_hv cst h 19973 0 = some (p)) (k5 : ly_hv cst h 19972 0 = some (-1)) (l0 : hp_a l 0 94) (l1 : hp_i l 1 (p)) (l3 : hp_i l 3 (e)) (r0 : ∀ (h' : am_H), ly_hy m_tt ly_TH h' → ly_fr cst [19971, 19972, 19973, 19974, 19975, 19976] h h' → h.length ≤ h'.length → ly_hv cst h' 19970 0 = some (n) → ly_hv cst h' 19971 0 = some 2 → ly_hv cst h' 19974 0 = some (e) → ly_hv cst h' 19975 0 = some (vv) → ly_hv cst h' 19973 0 = some (p) → ly_hv cst h' 19972 0 = some (-1) → Φ (none, h', 0, 0)) : hp_F cst strs Φ D M 186 l [] h := by
  refine hp_arc c hM znP1_k hD [n, p, e, x, b, vv] rfl hy (hp_Bc (z := n) rfl b0 t0 (hp_Bc (z := p) rfl b1 t1 (hp_Bc (z := e) rfl b2 t2 (hp_Bc (z := x) rfl b3 t3 (hp_Bc (z := b) rfl b4 t4 (hp_Bc (z := vv) rfl b5 t5 hp_Bn)))))) (hp_Fc (z := ((-1) + (1 * n + ((-1) * e + 0)))) rfl (by omega) (hp_Fc (z := ((-1) + ((-1) * p + (1 * e + 0)))) rfl (by omega) (hp_Fc (z := (4 + (1 * p + ((-1) * e + 0)))) rfl (by omega) hp_Fn))) (hp_Kc (zi := (0 + 0)) (zv := (0 + (1 * n + 0))) k0 rfl rfl (by omega) (by omega) (hp_Kc (zi := (0 + (1 * e + 0))) (zv := (0 + (1 * x + 0))) k1 rfl rfl (by omega) (by omega) (hp_Kc (zi := (0 + (1 * x + 0))) (zv := (0 + (1 * b + 0))) k2 rfl rfl (by omega) (by omega) (hp_Kc (zi := (0 + 0)) (zv := (0 + (1 * vv + 0))) k3 rfl rfl (by omega) (by omega) (hp_Kc (zi := (0 + 0)) (zv := (0 + (1 * p + 0))) k4 rfl rfl (by omega) (by omega) (hp_Kc (zi := (0 + 0)) (zv := ((-1) + 0)) k5 rfl rfl (by omega) (by omega) hp_Kn)))))) (hp_La l0 (hp_Li (z := (0 + (1 * p + 0))) l1 rfl (by omega) (hp_Li (z := (0 + (1 * e + 0))) l3 rfl (by omega) hp_Ln))) trivial ?_ ?_
  · intro p hp ys l' st' h' hys a1 a2 a3 gZ gL gS
    cases hp
  · intro p hp ys v h' hys a1 a2 a3 gZ gS
    rcases List.mem_cons.mp hp with rfl | hp
    · obtain rfl := hp_y0 hys
      have sv := hp_gSn gS
      cases v with
      | some w => cases sv
      | none =>
        exact r0 h' a1 a2 a3 (hp_gK (zi := (0 + 0)) (zv := (0 + (1 * n + 0))) gZ.2.2.2 (List.mem_of_getElem? (i := 0) rfl) rfl rfl (by omega) (by omega)) (hp_gK (zi := (0 + 0)) (zv := (2 + 0)) gZ.2.2.2 (List.mem_of_getElem? (i := 1) rfl) rfl rfl (by omega) (by omega)) (hp_gK (zi := (0 + 0)) (zv := (0 + (1 * e + 0))) gZ.2.2.2 (List.mem_of_getElem? (i := 2) rfl) rfl rfl (by omega) (by omega)) (hp_gK (zi := (0 + 0)) (zv := (0 + (1 * vv + 0))) gZ.2.2.2 (List.mem_of_getElem? (i := 3) rfl) rfl rfl (by omega) (by omega)) (hp_gK (zi := (0 + 0)) (zv := (0 + (1 * p + 0))) gZ.2.2.2 (List.mem_of_getElem? (i := 4) rfl) rfl rfl (by omega) (by omega)) (hp_gK (zi := (0 + 0)) (zv := ((-1) + 0)) gZ.2.2.2 (List.mem_of_getElem? (i := 5) rfl) rfl rfl (by omega) (by omega))
    cases hp
theorem znR1_k : hp_chk 299 186 5 [(0, 0, 1200), (1, 0, 1199), (2, 0, 1199), (3, (-128), 127), (4, 58, 255)] [((-1), [(0, 1), (2, (-1))]), ((-5), [(1, (-1)), (2, 1)])] [(0, .inr (.inr (.inl (some 94)))), (1, .inl (0, [(1, 1)])), (3, .inl (0, [(2, 1)]))] [] [(19970, (0, []), (0, [(0, 1)])), (20224, (0, [(2, 1)]), (0, [(3, 1)])), (63008, (0, [(3, 1)]), (0, [(4, 1)])), (19973, (0, []), (0, [(1, 1)])), (19972, (0, []), ((-1), []))] [19971, 19972, 19973, 19974, 19975, 19976] 8 [] [([], 5, [(0, 0, 1200), (1, 0, 1199), (2, 0, 1199), (3, (-128), 127), (4, 58, 255)], [], [], [], [(19970, (0, []), (0, [(0, 1)])), (19971, (0, []), (0, [])), (19974, (0, []), (0, [(2, 1)])), (19973, (0, []), (0, [(1, 1)])), (19972, (0, []), ((-1), []))])] = true := by decide +kernel
theorem znR1 {cst : am_K} {strs : List Nat} {Φ : am_Q → Prop} {D : Nat} {M : am_M} {h : am_H} {l : am_L} (c : hp_C cst strs D) (hM : m_P[299]? = some M) (hD : (8 : Int) ≤ (D : Int) + 1) (hy : ly_hy m_tt ly_TH h) (n p e x b : Int) (b0 : 0 ≤ n) (t0 : n ≤ 1200) (b1 : 0 ≤ p) (t1 : p ≤ 1199) (b2 : 0 ≤ e) (t2 : e ≤ 1199) (b3 : (-128) ≤ x) (t3 : x ≤ 127) (b4 : 58 ≤ b) (t4 : b ≤ 255) (f0 : 0 ≤ (n - e - 1)) (f1 : 0 ≤ (e - p - 5)) (k0 : ly_hv cst h 19970 0 = some (n)) (k1 : ly_hv cst h 20224 (e) = some (x)) (k2 : ly_hv cst h 63008 (x) = some (b)) (k3 : ly_hv cst h 19973 0 = some (p)) (k4 : ly_hv cst h 19972 0 = some (-1)) (l0 : hp_a l 0 94) (l1 : hp_i l 1 (p)) (l3 : hp_i l 3 (e)) (r0 : ∀ (h' : am_H), ly_hy m_tt ly_TH h' → ly_fr cst [19971, 19972, 19973, 19974, 19975, 19976] h h' → h.length ≤ h'.length → ly_hv cst h' 19970 0 = some (n) → ly_hv cst h' 19971 0 = some 0 → ly_hv cst h' 19974 0 = some (e) → ly_hv cst h' 19973 0 = some (p) → ly_hv cst h' 19972 0 = some (-1) → Φ (none, h', 0, 0)) : hp_F cst strs Φ D M 186 l [] h := by
  refine hp_arc c hM znR1_k hD [n, p, e, x, b] rfl hy (hp_Bc (z := n) rfl b0 t0 (hp_Bc (z := p) rfl b1 t1 (hp_Bc (z := e) rfl b2 t2 (hp_Bc (z := x) rfl b3 t3 (hp_Bc (z := b) rfl b4 t4 hp_Bn))))) (hp_Fc (z := ((-1) + (1 * n + ((-1) * e + 0)))) rfl (by omega) (hp_Fc (z := ((-5) + ((-1) * p + (1 * e + 0)))) rfl (by omega) hp_Fn)) (hp_Kc (zi := (0 + 0)) (zv := (0 + (1 * n + 0))) k0 rfl rfl (by omega) (by omega) (hp_Kc (zi := (0 + (1 * e + 0))) (zv := (0 + (1 * x + 0))) k1 rfl rfl (by omega) (by omega) (hp_Kc (zi := (0 + (1 * x + 0))) (zv := (0 + (1 * b + 0))) k2 rfl rfl (by omega) (by omega) (hp_Kc (zi := (0 + 0)) (zv := (0 + (1 * p + 0))) k3 rfl rfl (by omega) (by omega) (hp_Kc (zi := (0 + 0)) (zv := ((-1) + 0)) k4 rfl rfl (by omega) (by omega) hp_Kn))))) (hp_La l0 (hp_Li (z := (0 + (1 * p + 0))) l1 rfl (by omega) (hp_Li (z := (0 + (1 * e + 0))) l3 rfl (by omega) hp_Ln))) trivial ?_ ?_
  · intro p hp ys l' st' h' hys a1 a2 a3 gZ gL gS
    cases hp
  · intro p hp ys v h' hys a1 a2 a3 gZ gS
    rcases List.mem_cons.mp hp with rfl | hp
    · obtain rfl := hp_y0 hys
      have sv := hp_gSn gS
      cases v with
      | some w => cases sv
      | none =>
        exact r0 h' a1 a2 a3 (hp_gK (zi := (0 + 0)) (zv := (0 + (1 * n + 0))) gZ.2.2.2 (List.mem_of_getElem? (i := 0) rfl) rfl rfl (by omega) (by omega)) (hp_gK (zi := (0 + 0)) (zv := (0 + 0)) gZ.2.2.2 (List.mem_of_getElem? (i := 1) rfl) rfl rfl (by omega) (by omega)) (hp_gK (zi := (0 + 0)) (zv := (0 + (1 * e + 0))) gZ.2.2.2 (List.mem_of_getElem? (i := 2) rfl) rfl rfl (by omega) (by omega)) (hp_gK (zi := (0 + 0)) (zv := (0 + (1 * p + 0))) gZ.2.2.2 (List.mem_of_getElem? (i := 3) rfl) rfl rfl (by omega) (by omega)) (hp_gK (zi := (0 + 0)) (zv := ((-1) + 0)) gZ.2.2.2 (List.mem_of_getElem? (i := 4) rfl) rfl rfl (by omega) (by omega))
    cases hp
theorem znS0_k : hp_chk 299 31 2 [(0, 0, 1200), (1, 0, 1199)] [((-1), [(0, 1), (1, (-1))])] [(0, .inr (.inr (.inl (some 94)))), (1, .inl (0, [(1, 1)]))] [] [(19970, (0, []), (0, [(0, 1)])), (20224, (0, [(1, 1)]), (59, []))] [19971, 19972, 19973, 19974, 19975, 19976] 8 [] [([], 2, [(0, 0, 1200), (1, 0, 1199)], [], [], [], [(19970, (0, []), (0, [(0, 1)])), (19971, (0, []), (3, [])), (19974, (0, []), (1, [(1, 1)])), (19973, (0, []), (0, [(1, 1)])), (19972, (0, []), ((-1), []))])] = true := by decide +kernel
theorem znS0 {cst : am_K} {strs : List Nat} {Φ : am_Q → Prop} {D : Nat} {M : am_M} {h : am_H} {l : am_L} (c : hp_C cst strs D) (hM : m_P[299]? = some M) (hD : (8 : Int) ≤ (D : Int) + 1) (hy : ly_hy m_tt ly_TH h) (n p : Int) (b0 : 0 ≤ n) (t0 : n ≤ 1200) (b1 : 0 ≤ p) (t1 : p ≤ 1199) (f0 : 0 ≤ (n - p - 1)) (k0 : ly_hv cst h 19970 0 = some (n)) (k1 : ly_hv cst h 20224 (p) = some 59) (l0 : hp_a l 0 94) (l1 : hp_i l 1 (p)) (r0 : ∀ (h' : am_H), ly_hy m_tt ly_TH h' → ly_fr cst [19971, 19972, 19973, 19974, 19975, 19976] h h' → h.length ≤ h'.length → ly_hv cst h' 19970 0 = some (n) → ly_hv cst h' 19971 0 = some 3 → ly_hv cst h' 19974 0 = some (p + 1) → ly_hv cst h' 19973 0 = some (p) → ly_hv cst h' 19972 0 = some (-1) → Φ (none, h', 0, 0)) : hp_F cst strs Φ D M 31 l [] h := by
  refine hp_arc c hM znS0_k hD [n, p] rfl hy (hp_Bc (z := n) rfl b0 t0 (hp_Bc (z := p) rfl b1 t1 hp_Bn)) (hp_Fc (z := ((-1) + (1 * n + ((-1) * p + 0)))) rfl (by omega) hp_Fn) (hp_Kc (zi := (0 + 0)) (zv := (0 + (1 * n + 0))) k0 rfl rfl (by omega) (by omega) (hp_Kc (zi := (0 + (1 * p + 0))) (zv := (59 + 0)) k1 rfl rfl (by omega) (by omega) hp_Kn)) (hp_La l0 (hp_Li (z := (0 + (1 * p + 0))) l1 rfl (by omega) hp_Ln)) trivial ?_ ?_
  · intro p hp ys l' st' h' hys a1 a2 a3 gZ gL gS
    cases hp
  · intro p hp ys v h' hys a1 a2 a3 gZ gS
    rcases List.mem_cons.mp hp with rfl | hp
    · obtain rfl := hp_y0 hys
      have sv := hp_gSn gS
      cases v with
      | some w => cases sv
      | none =>
        exact r0 h' a1 a2 a3 (hp_gK (zi := (0 + 0)) (zv := (0 + (1 * n + 0))) gZ.2.2.2 (List.mem_of_getElem? (i := 0) rfl) rfl rfl (by omega) (by omega)) (hp_gK (zi := (0 + 0)) (zv := (3 + 0)) gZ.2.2.2 (List.mem_of_getElem? (i := 1) rfl) rfl rfl (by omega) (by omega)) (hp_gK (zi := (0 + 0)) (zv := (1 + (1 * p + 0))) gZ.2.2.2 (List.mem_of_getElem? (i := 2) rfl) rfl rfl (by omega) (by omega)) (hp_gK (zi := (0 + 0)) (zv := (0 + (1 * p + 0))) gZ.2.2.2 (List.mem_of_getElem? (i := 3) rfl) rfl rfl (by omega) (by omega)) (hp_gK (zi := (0 + 0)) (zv := ((-1) + 0)) gZ.2.2.2 (List.mem_of_getElem? (i := 4) rfl) rfl rfl (by omega) (by omega))
    cases hp
theorem znS1_k : hp_chk 299 31 2 [(0, 0, 1200), (1, 0, 1199)] [((-1), [(0, 1), (1, (-1))])] [(0, .inr (.inr (.inl (some 94)))), (1, .inl (0, [(1, 1)]))] [] [(19970, (0, []), (0, [(0, 1)])), (20224, (0, [(1, 1)]), (61, []))] [19971, 19972, 19973, 19974, 19975, 19976] 8 [] [([], 2, [(0, 0, 1200), (1, 0, 1199)], [], [], [], [(19970, (0, []), (0, [(0, 1)])), (19971, (0, []), (4, [])), (19974, (0, []), (1, [(1, 1)])), (19973, (0, []), (0, [(1, 1)])), (19972, (0, []), ((-1), []))])] = true := by decide +kernel
theorem znS1 {cst : am_K} {strs : List Nat} {Φ : am_Q → Prop} {D : Nat} {M : am_M} {h : am_H} {l : am_L} (c : hp_C cst strs D) (hM : m_P[299]? = some M) (hD : (8 : Int) ≤ (D : Int) + 1) (hy : ly_hy m_tt ly_TH h) (n p : Int) (b0 : 0 ≤ n) (t0 : n ≤ 1200) (b1 : 0 ≤ p) (t1 : p ≤ 1199) (f0 : 0 ≤ (n - p - 1)) (k0 : ly_hv cst h 19970 0 = some (n)) (k1 : ly_hv cst h 20224 (p) = some 61) (l0 : hp_a l 0 94) (l1 : hp_i l 1 (p)) (r0 : ∀ (h' : am_H), ly_hy m_tt ly_TH h' → ly_fr cst [19971, 19972, 19973, 19974, 19975, 19976] h h' → h.length ≤ h'.length → ly_hv cst h' 19970 0 = some (n) → ly_hv cst h' 19971 0 = some 4 → ly_hv cst h' 19974 0 = some (p + 1) → ly_hv cst h' 19973 0 = some (p) → ly_hv cst h' 19972 0 = some (-1) → Φ (none, h', 0, 0)) : hp_F cst strs Φ D M 31 l [] h := by
  refine hp_arc c hM znS1_k hD [n, p] rfl hy (hp_Bc (z := n) rfl b0 t0 (hp_Bc (z := p) rfl b1 t1 hp_Bn)) (hp_Fc (z := ((-1) + (1 * n + ((-1) * p + 0)))) rfl (by omega) hp_Fn) (hp_Kc (zi := (0 + 0)) (zv := (0 + (1 * n + 0))) k0 rfl rfl (by omega) (by omega) (hp_Kc (zi := (0 + (1 * p + 0))) (zv := (61 + 0)) k1 rfl rfl (by omega) (by omega) hp_Kn)) (hp_La l0 (hp_Li (z := (0 + (1 * p + 0))) l1 rfl (by omega) hp_Ln)) trivial ?_ ?_
  · intro p hp ys l' st' h' hys a1 a2 a3 gZ gL gS
    cases hp
  · intro p hp ys v h' hys a1 a2 a3 gZ gS
    rcases List.mem_cons.mp hp with rfl | hp
    · obtain rfl := hp_y0 hys
      have sv := hp_gSn gS
      cases v with
      | some w => cases sv
      | none =>
        exact r0 h' a1 a2 a3 (hp_gK (zi := (0 + 0)) (zv := (0 + (1 * n + 0))) gZ.2.2.2 (List.mem_of_getElem? (i := 0) rfl) rfl rfl (by omega) (by omega)) (hp_gK (zi := (0 + 0)) (zv := (4 + 0)) gZ.2.2.2 (List.mem_of_getElem? (i := 1) rfl) rfl rfl (by omega) (by omega)) (hp_gK (zi := (0 + 0)) (zv := (1 + (1 * p + 0))) gZ.2.2.2 (List.mem_of_getElem? (i := 2) rfl) rfl rfl (by omega) (by omega)) (hp_gK (zi := (0 + 0)) (zv := (0 + (1 * p + 0))) gZ.2.2.2 (List.mem_of_getElem? (i := 3) rfl) rfl rfl (by omega) (by omega)) (hp_gK (zi := (0 + 0)) (zv := ((-1) + 0)) gZ.2.2.2 (List.mem_of_getElem? (i := 4) rfl) rfl rfl (by omega) (by omega))
    cases hp
theorem znS2_k : hp_chk 299 31 2 [(0, 0, 1200), (1, 0, 1199)] [((-1), [(0, 1), (1, (-1))])] [(0, .inr (.inr (.inl (some 94)))), (1, .inl (0, [(1, 1)]))] [] [(19970, (0, []), (0, [(0, 1)])), (20224, (0, [(1, 1)]), (40, []))] [19971, 19972, 19973, 19974, 19975, 19976] 8 [] [([], 2, [(0, 0, 1200), (1, 0, 1199)], [], [], [], [(19970, (0, []), (0, [(0, 1)])), (19971, (0, []), (5, [])), (19974, (0, []), (1, [(1, 1)])), (19973, (0, []), (0, [(1, 1)])), (19972, (0, []), ((-1), []))])] = true := by decide +kernel
theorem znS2 {cst : am_K} {strs : List Nat} {Φ : am_Q → Prop} {D : Nat} {M : am_M} {h : am_H} {l : am_L} (c : hp_C cst strs D) (hM : m_P[299]? = some M) (hD : (8 : Int) ≤ (D : Int) + 1) (hy : ly_hy m_tt ly_TH h) (n p : Int) (b0 : 0 ≤ n) (t0 : n ≤ 1200) (b1 : 0 ≤ p) (t1 : p ≤ 1199) (f0 : 0 ≤ (n - p - 1)) (k0 : ly_hv cst h 19970 0 = some (n)) (k1 : ly_hv cst h 20224 (p) = some 40) (l0 : hp_a l 0 94) (l1 : hp_i l 1 (p)) (r0 : ∀ (h' : am_H), ly_hy m_tt ly_TH h' → ly_fr cst [19971, 19972, 19973, 19974, 19975, 19976] h h' → h.length ≤ h'.length → ly_hv cst h' 19970 0 = some (n) → ly_hv cst h' 19971 0 = some 5 → ly_hv cst h' 19974 0 = some (p + 1) → ly_hv cst h' 19973 0 = some (p) → ly_hv cst h' 19972 0 = some (-1) → Φ (none, h', 0, 0)) : hp_F cst strs Φ D M 31 l [] h := by
  refine hp_arc c hM znS2_k hD [n, p] rfl hy (hp_Bc (z := n) rfl b0 t0 (hp_Bc (z := p) rfl b1 t1 hp_Bn)) (hp_Fc (z := ((-1) + (1 * n + ((-1) * p + 0)))) rfl (by omega) hp_Fn) (hp_Kc (zi := (0 + 0)) (zv := (0 + (1 * n + 0))) k0 rfl rfl (by omega) (by omega) (hp_Kc (zi := (0 + (1 * p + 0))) (zv := (40 + 0)) k1 rfl rfl (by omega) (by omega) hp_Kn)) (hp_La l0 (hp_Li (z := (0 + (1 * p + 0))) l1 rfl (by omega) hp_Ln)) trivial ?_ ?_
  · intro p hp ys l' st' h' hys a1 a2 a3 gZ gL gS
    cases hp
  · intro p hp ys v h' hys a1 a2 a3 gZ gS
    rcases List.mem_cons.mp hp with rfl | hp
    · obtain rfl := hp_y0 hys
      have sv := hp_gSn gS
      cases v with
      | some w => cases sv
      | none =>
        exact r0 h' a1 a2 a3 (hp_gK (zi := (0 + 0)) (zv := (0 + (1 * n + 0))) gZ.2.2.2 (List.mem_of_getElem? (i := 0) rfl) rfl rfl (by omega) (by omega)) (hp_gK (zi := (0 + 0)) (zv := (5 + 0)) gZ.2.2.2 (List.mem_of_getElem? (i := 1) rfl) rfl rfl (by omega) (by omega)) (hp_gK (zi := (0 + 0)) (zv := (1 + (1 * p + 0))) gZ.2.2.2 (List.mem_of_getElem? (i := 2) rfl) rfl rfl (by omega) (by omega)) (hp_gK (zi := (0 + 0)) (zv := (0 + (1 * p + 0))) gZ.2.2.2 (List.mem_of_getElem? (i := 3) rfl) rfl rfl (by omega) (by omega)) (hp_gK (zi := (0 + 0)) (zv := ((-1) + 0)) gZ.2.2.2 (List.mem_of_getElem? (i := 4) rfl) rfl rfl (by omega) (by omega))
    cases hp
theorem znS3_k : hp_chk 299 31 2 [(0, 0, 1200), (1, 0, 1199)] [((-1), [(0, 1), (1, (-1))])] [(0, .inr (.inr (.inl (some 94)))), (1, .inl (0, [(1, 1)]))] [] [(19970, (0, []), (0, [(0, 1)])), (20224, (0, [(1, 1)]), (41, []))] [19971, 19972, 19973, 19974, 19975, 19976] 8 [] [([], 2, [(0, 0, 1200), (1, 0, 1199)], [], [], [], [(19970, (0, []), (0, [(0, 1)])), (19971, (0, []), (6, [])), (19974, (0, []), (1, [(1, 1)])), (19973, (0, []), (0, [(1, 1)])), (19972, (0, []), ((-1), []))])] = true := by decide +kernel
theorem znS3 {cst : am_K} {strs : List Nat} {Φ : am_Q → Prop} {D : Nat} {M : am_M} {h : am_H} {l : am_L} (c : hp_C cst strs D) (hM : m_P[299]? = some M) (hD : (8 : Int) ≤ (D : Int) + 1) (hy : ly_hy m_tt ly_TH h) (n p : Int) (b0 : 0 ≤ n) (t0 : n ≤ 1200) (b1 : 0 ≤ p) (t1 : p ≤ 1199) (f0 : 0 ≤ (n - p - 1)) (k0 : ly_hv cst h 19970 0 = some (n)) (k1 : ly_hv cst h 20224 (p) = some 41) (l0 : hp_a l 0 94) (l1 : hp_i l 1 (p)) (r0 : ∀ (h' : am_H), ly_hy m_tt ly_TH h' → ly_fr cst [19971, 19972, 19973, 19974, 19975, 19976] h h' → h.length ≤ h'.length → ly_hv cst h' 19970 0 = some (n) → ly_hv cst h' 19971 0 = some 6 → ly_hv cst h' 19974 0 = some (p + 1) → ly_hv cst h' 19973 0 = some (p) → ly_hv cst h' 19972 0 = some (-1) → Φ (none, h', 0, 0)) : hp_F cst strs Φ D M 31 l [] h := by
  refine hp_arc c hM znS3_k hD [n, p] rfl hy (hp_Bc (z := n) rfl b0 t0 (hp_Bc (z := p) rfl b1 t1 hp_Bn)) (hp_Fc (z := ((-1) + (1 * n + ((-1) * p + 0)))) rfl (by omega) hp_Fn) (hp_Kc (zi := (0 + 0)) (zv := (0 + (1 * n + 0))) k0 rfl rfl (by omega) (by omega) (hp_Kc (zi := (0 + (1 * p + 0))) (zv := (41 + 0)) k1 rfl rfl (by omega) (by omega) hp_Kn)) (hp_La l0 (hp_Li (z := (0 + (1 * p + 0))) l1 rfl (by omega) hp_Ln)) trivial ?_ ?_
  · intro p hp ys l' st' h' hys a1 a2 a3 gZ gL gS
    cases hp
  · intro p hp ys v h' hys a1 a2 a3 gZ gS
    rcases List.mem_cons.mp hp with rfl | hp
    · obtain rfl := hp_y0 hys
      have sv := hp_gSn gS
      cases v with
      | some w => cases sv
      | none =>
        exact r0 h' a1 a2 a3 (hp_gK (zi := (0 + 0)) (zv := (0 + (1 * n + 0))) gZ.2.2.2 (List.mem_of_getElem? (i := 0) rfl) rfl rfl (by omega) (by omega)) (hp_gK (zi := (0 + 0)) (zv := (6 + 0)) gZ.2.2.2 (List.mem_of_getElem? (i := 1) rfl) rfl rfl (by omega) (by omega)) (hp_gK (zi := (0 + 0)) (zv := (1 + (1 * p + 0))) gZ.2.2.2 (List.mem_of_getElem? (i := 2) rfl) rfl rfl (by omega) (by omega)) (hp_gK (zi := (0 + 0)) (zv := (0 + (1 * p + 0))) gZ.2.2.2 (List.mem_of_getElem? (i := 3) rfl) rfl rfl (by omega) (by omega)) (hp_gK (zi := (0 + 0)) (zv := ((-1) + 0)) gZ.2.2.2 (List.mem_of_getElem? (i := 4) rfl) rfl rfl (by omega) (by omega))
    cases hp
theorem znS4_k : hp_chk 299 31 2 [(0, 0, 1200), (1, 0, 1199)] [((-1), [(0, 1), (1, (-1))])] [(0, .inr (.inr (.inl (some 94)))), (1, .inl (0, [(1, 1)]))] [] [(19970, (0, []), (0, [(0, 1)])), (20224, (0, [(1, 1)]), (43, []))] [19971, 19972, 19973, 19974, 19975, 19976] 8 [] [([], 2, [(0, 0, 1200), (1, 0, 1199)], [], [], [], [(19970, (0, []), (0, [(0, 1)])), (19971, (0, []), (7, [])), (19974, (0, []), (1, [(1, 1)])), (19973, (0, []), (0, [(1, 1)])), (19972, (0, []), ((-1), []))])] = true := by decide +kernel
theorem znS4 {cst : am_K} {strs : List Nat} {Φ : am_Q → Prop} {D : Nat} {M : am_M} {h : am_H} {l : am_L} (c : hp_C cst strs D) (hM : m_P[299]? = some M) (hD : (8 : Int) ≤ (D : Int) + 1) (hy : ly_hy m_tt ly_TH h) (n p : Int) (b0 : 0 ≤ n) (t0 : n ≤ 1200) (b1 : 0 ≤ p) (t1 : p ≤ 1199) (f0 : 0 ≤ (n - p - 1)) (k0 : ly_hv cst h 19970 0 = some (n)) (k1 : ly_hv cst h 20224 (p) = some 43) (l0 : hp_a l 0 94) (l1 : hp_i l 1 (p)) (r0 : ∀ (h' : am_H), ly_hy m_tt ly_TH h' → ly_fr cst [19971, 19972, 19973, 19974, 19975, 19976] h h' → h.length ≤ h'.length → ly_hv cst h' 19970 0 = some (n) → ly_hv cst h' 19971 0 = some 7 → ly_hv cst h' 19974 0 = some (p + 1) → ly_hv cst h' 19973 0 = some (p) → ly_hv cst h' 19972 0 = some (-1) → Φ (none, h', 0, 0)) : hp_F cst strs Φ D M 31 l [] h := by
  refine hp_arc c hM znS4_k hD [n, p] rfl hy (hp_Bc (z := n) rfl b0 t0 (hp_Bc (z := p) rfl b1 t1 hp_Bn)) (hp_Fc (z := ((-1) + (1 * n + ((-1) * p + 0)))) rfl (by omega) hp_Fn) (hp_Kc (zi := (0 + 0)) (zv := (0 + (1 * n + 0))) k0 rfl rfl (by omega) (by omega) (hp_Kc (zi := (0 + (1 * p + 0))) (zv := (43 + 0)) k1 rfl rfl (by omega) (by omega) hp_Kn)) (hp_La l0 (hp_Li (z := (0 + (1 * p + 0))) l1 rfl (by omega) hp_Ln)) trivial ?_ ?_
  · intro p hp ys l' st' h' hys a1 a2 a3 gZ gL gS
    cases hp
  · intro p hp ys v h' hys a1 a2 a3 gZ gS
    rcases List.mem_cons.mp hp with rfl | hp
    · obtain rfl := hp_y0 hys
      have sv := hp_gSn gS
      cases v with
      | some w => cases sv
      | none =>
        exact r0 h' a1 a2 a3 (hp_gK (zi := (0 + 0)) (zv := (0 + (1 * n + 0))) gZ.2.2.2 (List.mem_of_getElem? (i := 0) rfl) rfl rfl (by omega) (by omega)) (hp_gK (zi := (0 + 0)) (zv := (7 + 0)) gZ.2.2.2 (List.mem_of_getElem? (i := 1) rfl) rfl rfl (by omega) (by omega)) (hp_gK (zi := (0 + 0)) (zv := (1 + (1 * p + 0))) gZ.2.2.2 (List.mem_of_getElem? (i := 2) rfl) rfl rfl (by omega) (by omega)) (hp_gK (zi := (0 + 0)) (zv := (0 + (1 * p + 0))) gZ.2.2.2 (List.mem_of_getElem? (i := 3) rfl) rfl rfl (by omega) (by omega)) (hp_gK (zi := (0 + 0)) (zv := ((-1) + 0)) gZ.2.2.2 (List.mem_of_getElem? (i := 4) rfl) rfl rfl (by omega) (by omega))
    cases hp
theorem znT0_k : hp_chk 299 31 4 [(0, 0, 1200), (1, 0, 1199), (2, (-128), 127), (3, 0, 9)] [((-1), [(0, 1), (1, (-1))])] [(0, .inr (.inr (.inl (some 94)))), (1, .inl (0, [(1, 1)]))] [] [(19970, (0, []), (0, [(0, 1)])), (20224, (0, [(1, 1)]), (0, [(2, 1)])), (63008, (0, [(2, 1)]), (0, [(3, 1)]))] [19971, 19972, 19973, 19974, 19975, 19976] 8 [] [([], 4, [(0, 0, 1200), (1, 0, 1199), (2, (-128), 127), (3, 0, 9)], [], [], [], [(19970, (0, []), (0, [(0, 1)])), (19971, (0, []), (0, [])), (19974, (0, []), (1, [(1, 1)])), (19973, (0, []), (0, [(1, 1)])), (19972, (0, []), ((-1), []))])] = true := by decide +kernel
theorem znT0 {cst : am_K} {strs : List Nat} {Φ : am_Q → Prop} {D : Nat} {M : am_M} {h : am_H} {l : am_L} (c : hp_C cst strs D) (hM : m_P[299]? = some M) (hD : (8 : Int) ≤ (D : Int) + 1) (hy : ly_hy m_tt ly_TH h) (n p x b : Int) (b0 : 0 ≤ n) (t0 : n ≤ 1200) (b1 : 0 ≤ p) (t1 : p ≤ 1199) (b2 : (-128) ≤ x) (t2 : x ≤ 127) (b3 : 0 ≤ b) (t3 : b ≤ 9) (f0 : 0 ≤ (n - p - 1)) (k0 : ly_hv cst h 19970 0 = some (n)) (k1 : ly_hv cst h 20224 (p) = some (x)) (k2 : ly_hv cst h 63008 (x) = some (b)) (l0 : hp_a l 0 94) (l1 : hp_i l 1 (p)) (r0 : ∀ (h' : am_H), ly_hy m_tt ly_TH h' → ly_fr cst [19971, 19972, 19973, 19974, 19975, 19976] h h' → h.length ≤ h'.length → ly_hv cst h' 19970 0 = some (n) → ly_hv cst h' 19971 0 = some 0 → ly_hv cst h' 19974 0 = some (p + 1) → ly_hv cst h' 19973 0 = some (p) → ly_hv cst h' 19972 0 = some (-1) → Φ (none, h', 0, 0)) : hp_F cst strs Φ D M 31 l [] h := by
  refine hp_arc c hM znT0_k hD [n, p, x, b] rfl hy (hp_Bc (z := n) rfl b0 t0 (hp_Bc (z := p) rfl b1 t1 (hp_Bc (z := x) rfl b2 t2 (hp_Bc (z := b) rfl b3 t3 hp_Bn)))) (hp_Fc (z := ((-1) + (1 * n + ((-1) * p + 0)))) rfl (by omega) hp_Fn) (hp_Kc (zi := (0 + 0)) (zv := (0 + (1 * n + 0))) k0 rfl rfl (by omega) (by omega) (hp_Kc (zi := (0 + (1 * p + 0))) (zv := (0 + (1 * x + 0))) k1 rfl rfl (by omega) (by omega) (hp_Kc (zi := (0 + (1 * x + 0))) (zv := (0 + (1 * b + 0))) k2 rfl rfl (by omega) (by omega) hp_Kn))) (hp_La l0 (hp_Li (z := (0 + (1 * p + 0))) l1 rfl (by omega) hp_Ln)) trivial ?_ ?_
  · intro p hp ys l' st' h' hys a1 a2 a3 gZ gL gS
    cases hp
  · intro p hp ys v h' hys a1 a2 a3 gZ gS
    rcases List.mem_cons.mp hp with rfl | hp
    · obtain rfl := hp_y0 hys
      have sv := hp_gSn gS
      cases v with
      | some w => cases sv
      | none =>
        exact r0 h' a1 a2 a3 (hp_gK (zi := (0 + 0)) (zv := (0 + (1 * n + 0))) gZ.2.2.2 (List.mem_of_getElem? (i := 0) rfl) rfl rfl (by omega) (by omega)) (hp_gK (zi := (0 + 0)) (zv := (0 + 0)) gZ.2.2.2 (List.mem_of_getElem? (i := 1) rfl) rfl rfl (by omega) (by omega)) (hp_gK (zi := (0 + 0)) (zv := (1 + (1 * p + 0))) gZ.2.2.2 (List.mem_of_getElem? (i := 2) rfl) rfl rfl (by omega) (by omega)) (hp_gK (zi := (0 + 0)) (zv := (0 + (1 * p + 0))) gZ.2.2.2 (List.mem_of_getElem? (i := 3) rfl) rfl rfl (by omega) (by omega)) (hp_gK (zi := (0 + 0)) (zv := ((-1) + 0)) gZ.2.2.2 (List.mem_of_getElem? (i := 4) rfl) rfl rfl (by omega) (by omega))
    cases hp
theorem znT1_k : hp_chk 299 31 4 [(0, 0, 1200), (1, 0, 1199), (2, (-128), 127), (3, 11, 31)] [((-1), [(0, 1), (1, (-1))])] [(0, .inr (.inr (.inl (some 94)))), (1, .inl (0, [(1, 1)]))] [] [(19970, (0, []), (0, [(0, 1)])), (20224, (0, [(1, 1)]), (0, [(2, 1)])), (63008, (0, [(2, 1)]), (0, [(3, 1)]))] [19971, 19972, 19973, 19974, 19975, 19976] 8 [] [([], 4, [(0, 0, 1200), (1, 0, 1199), (2, (-128), 127), (3, 11, 31)], [], [], [], [(19970, (0, []), (0, [(0, 1)])), (19971, (0, []), (0, [])), (19974, (0, []), (1, [(1, 1)])), (19973, (0, []), (0, [(1, 1)])), (19972, (0, []), ((-1), []))])] = true := by decide +kernel
theorem znT1 {cst : am_K} {strs : List Nat} {Φ : am_Q → Prop} {D : Nat} {M : am_M} {h : am_H} {l : am_L} (c : hp_C cst strs D) (hM : m_P[299]? = some M) (hD : (8 : Int) ≤ (D : Int) + 1) (hy : ly_hy m_tt ly_TH h) (n p x b : Int) (b0 : 0 ≤ n) (t0 : n ≤ 1200) (b1 : 0 ≤ p) (t1 : p ≤ 1199) (b2 : (-128) ≤ x) (t2 : x ≤ 127) (b3 : 11 ≤ b) (t3 : b ≤ 31) (f0 : 0 ≤ (n - p - 1)) (k0 : ly_hv cst h 19970 0 = some (n)) (k1 : ly_hv cst h 20224 (p) = some (x)) (k2 : ly_hv cst h 63008 (x) = some (b)) (l0 : hp_a l 0 94) (l1 : hp_i l 1 (p)) (r0 : ∀ (h' : am_H), ly_hy m_tt ly_TH h' → ly_fr cst [19971, 19972, 19973, 19974, 19975, 19976] h h' → h.length ≤ h'.length → ly_hv cst h' 19970 0 = some (n) → ly_hv cst h' 19971 0 = some 0 → ly_hv cst h' 19974 0 = some (p + 1) → ly_hv cst h' 19973 0 = some (p) → ly_hv cst h' 19972 0 = some (-1) → Φ (none, h', 0, 0)) : hp_F cst strs Φ D M 31 l [] h := by
  refine hp_arc c hM znT1_k hD [n, p, x, b] rfl hy (hp_Bc (z := n) rfl b0 t0 (hp_Bc (z := p) rfl b1 t1 (hp_Bc (z := x) rfl b2 t2 (hp_Bc (z := b) rfl b3 t3 hp_Bn)))) (hp_Fc (z := ((-1) + (1 * n + ((-1) * p + 0)))) rfl (by omega) hp_Fn) (hp_Kc (zi := (0 + 0)) (zv := (0 + (1 * n + 0))) k0 rfl rfl (by omega) (by omega) (hp_Kc (zi := (0 + (1 * p + 0))) (zv := (0 + (1 * x + 0))) k1 rfl rfl (by omega) (by omega) (hp_Kc (zi := (0 + (1 * x + 0))) (zv := (0 + (1 * b + 0))) k2 rfl rfl (by omega) (by omega) hp_Kn))) (hp_La l0 (hp_Li (z := (0 + (1 * p + 0))) l1 rfl (by omega) hp_Ln)) trivial ?_ ?_
  · intro p hp ys l' st' h' hys a1 a2 a3 gZ gL gS
    cases hp
  · intro p hp ys v h' hys a1 a2 a3 gZ gS
    rcases List.mem_cons.mp hp with rfl | hp
    · obtain rfl := hp_y0 hys
      have sv := hp_gSn gS
      cases v with
      | some w => cases sv
      | none =>
        exact r0 h' a1 a2 a3 (hp_gK (zi := (0 + 0)) (zv := (0 + (1 * n + 0))) gZ.2.2.2 (List.mem_of_getElem? (i := 0) rfl) rfl rfl (by omega) (by omega)) (hp_gK (zi := (0 + 0)) (zv := (0 + 0)) gZ.2.2.2 (List.mem_of_getElem? (i := 1) rfl) rfl rfl (by omega) (by omega)) (hp_gK (zi := (0 + 0)) (zv := (1 + (1 * p + 0))) gZ.2.2.2 (List.mem_of_getElem? (i := 2) rfl) rfl rfl (by omega) (by omega)) (hp_gK (zi := (0 + 0)) (zv := (0 + (1 * p + 0))) gZ.2.2.2 (List.mem_of_getElem? (i := 3) rfl) rfl rfl (by omega) (by omega)) (hp_gK (zi := (0 + 0)) (zv := ((-1) + 0)) gZ.2.2.2 (List.mem_of_getElem? (i := 4) rfl) rfl rfl (by omega) (by omega))
    cases hp
theorem znT2_k : hp_chk 299 31 4 [(0, 0, 1200), (1, 0, 1199), (2, (-128), 127), (3, 33, 39)] [((-1), [(0, 1), (1, (-1))])] [(0, .inr (.inr (.inl (some 94)))), (1, .inl (0, [(1, 1)]))] [] [(19970, (0, []), (0, [(0, 1)])), (20224, (0, [(1, 1)]), (0, [(2, 1)])), (63008, (0, [(2, 1)]), (0, [(3, 1)]))] [19971, 19972, 19973, 19974, 19975, 19976] 8 [] [([], 4, [(0, 0, 1200), (1, 0, 1199), (2, (-128), 127), (3, 33, 39)], [], [], [], [(19970, (0, []), (0, [(0, 1)])), (19971, (0, []), (0, [])), (19974, (0, []), (1, [(1, 1)])), (19973, (0, []), (0, [(1, 1)])), (19972, (0, []), ((-1), []))])] = true := by decide +kernel
theorem znT2 {cst : am_K} {strs : List Nat} {Φ : am_Q → Prop} {D : Nat} {M : am_M} {h : am_H} {l : am_L} (c : hp_C cst strs D) (hM : m_P[299]? = some M) (hD : (8 : Int) ≤ (D : Int) + 1) (hy : ly_hy m_tt ly_TH h) (n p x b : Int) (b0 : 0 ≤ n) (t0 : n ≤ 1200) (b1 : 0 ≤ p) (t1 : p ≤ 1199) (b2 : (-128) ≤ x) (t2 : x ≤ 127) (b3 : 33 ≤ b) (t3 : b ≤ 39) (f0 : 0 ≤ (n - p - 1)) (k0 : ly_hv cst h 19970 0 = some (n)) (k1 : ly_hv cst h 20224 (p) = some (x)) (k2 : ly_hv cst h 63008 (x) = some (b)) (l0 : hp_a l 0 94) (l1 : hp_i l 1 (p)) (r0 : ∀ (h' : am_H), ly_hy m_tt ly_TH h' → ly_fr cst [19971, 19972, 19973, 19974, 19975, 19976] h h' → h.length ≤ h'.length → ly_hv cst h' 19970 0 = some (n) → ly_hv cst h' 19971 0 = some 0 → ly_hv cst h' 19974 0 = some (p + 1) → ly_hv cst h' 19973 0 = some (p) → ly_hv cst h' 19972 0 = some (-1) → Φ (none, h', 0, 0)) : hp_F cst strs Φ D M 31 l [] h := by
  refine hp_arc c hM znT2_k hD [n, p, x, b] rfl hy (hp_Bc (z := n) rfl b0 t0 (hp_Bc (z := p) rfl b1 t1 (hp_Bc (z := x) rfl b2 t2 (hp_Bc (z := b) rfl b3 t3 hp_Bn)))) (hp_Fc (z := ((-1) + (1 * n + ((-1) * p + 0)))) rfl (by omega) hp_Fn) (hp_Kc (zi := (0 + 0)) (zv := (0 + (1 * n + 0))) k0 rfl rfl (by omega) (by omega) (hp_Kc (zi := (0 + (1 * p + 0))) (zv := (0 + (1 * x + 0))) k1 rfl rfl (by omega) (by omega) (hp_Kc (zi := (0 + (1 * x + 0))) (zv := (0 + (1 * b + 0))) k2 rfl rfl (by omega) (by omega) hp_Kn))) (hp_La l0 (hp_Li (z := (0 + (1 * p + 0))) l1 rfl (by omega) hp_Ln)) trivial ?_ ?_
  · intro p hp ys l' st' h' hys a1 a2 a3 gZ gL gS
    cases hp
  · intro p hp ys v h' hys a1 a2 a3 gZ gS
    rcases List.mem_cons.mp hp with rfl | hp
    · obtain rfl := hp_y0 hys
      have sv := hp_gSn gS
      cases v with
      | some w => cases sv
      | none =>
        exact r0 h' a1 a2 a3 (hp_gK (zi := (0 + 0)) (zv := (0 + (1 * n + 0))) gZ.2.2.2 (List.mem_of_getElem? (i := 0) rfl) rfl rfl (by omega) (by omega)) (hp_gK (zi := (0 + 0)) (zv := (0 + 0)) gZ.2.2.2 (List.mem_of_getElem? (i := 1) rfl) rfl rfl (by omega) (by omega)) (hp_gK (zi := (0 + 0)) (zv := (1 + (1 * p + 0))) gZ.2.2.2 (List.mem_of_getElem? (i := 2) rfl) rfl rfl (by omega) (by omega)) (hp_gK (zi := (0 + 0)) (zv := (0 + (1 * p + 0))) gZ.2.2.2 (List.mem_of_getElem? (i := 3) rfl) rfl rfl (by omega) (by omega)) (hp_gK (zi := (0 + 0)) (zv := ((-1) + 0)) gZ.2.2.2 (List.mem_of_getElem? (i := 4) rfl) rfl rfl (by omega) (by omega))
    cases hp
theorem znT3_k : hp_chk 299 31 4 [(0, 0, 1200), (1, 0, 1199), (2, (-128), 127), (3, 42, 42)] [((-1), [(0, 1), (1, (-1))])] [(0, .inr (.inr (.inl (some 94)))), (1, .inl (0, [(1, 1)]))] [] [(19970, (0, []), (0, [(0, 1)])), (20224, (0, [(1, 1)]), (0, [(2, 1)])), (63008, (0, [(2, 1)]), (0, [(3, 1)]))] [19971, 19972, 19973, 19974, 19975, 19976] 8 [] [([], 4, [(0, 0, 1200), (1, 0, 1199), (2, (-128), 127), (3, 42, 42)], [], [], [], [(19970, (0, []), (0, [(0, 1)])), (19971, (0, []), (0, [])), (19974, (0, []), (1, [(1, 1)])), (19973, (0, []), (0, [(1, 1)])), (19972, (0, []), ((-1), []))])] = true := by decide +kernel
theorem znT3 {cst : am_K} {strs : List Nat} {Φ : am_Q → Prop} {D : Nat} {M : am_M} {h : am_H} {l : am_L} (c : hp_C cst strs D) (hM : m_P[299]? = some M) (hD : (8 : Int) ≤ (D : Int) + 1) (hy : ly_hy m_tt ly_TH h) (n p x b : Int) (b0 : 0 ≤ n) (t0 : n ≤ 1200) (b1 : 0 ≤ p) (t1 : p ≤ 1199) (b2 : (-128) ≤ x) (t2 : x ≤ 127) (b3 : 42 ≤ b) (t3 : b ≤ 42) (f0 : 0 ≤ (n - p - 1)) (k0 : ly_hv cst h 19970 0 = some (n)) (k1 : ly_hv cst h 20224 (p) = some (x)) (k2 : ly_hv cst h 63008 (x) = some (b)) (l0 : hp_a l 0 94) (l1 : hp_i l 1 (p)) (r0 : ∀ (h' : am_H), ly_hy m_tt ly_TH h' → ly_fr cst [19971, 19972, 19973, 19974, 19975, 19976] h h' → h.length ≤ h'.length → ly_hv cst h' 19970 0 = some (n) → ly_hv cst h' 19971 0 = some 0 → ly_hv cst h' 19974 0 = some (p + 1) → ly_hv cst h' 19973 0 = some (p) → ly_hv cst h' 19972 0 = some (-1) → Φ (none, h', 0, 0)) : hp_F cst strs Φ D M 31 l [] h := by
  refine hp_arc c hM znT3_k hD [n, p, x, b] rfl hy (hp_Bc (z := n) rfl b0 t0 (hp_Bc (z := p) rfl b1 t1 (hp_Bc (z := x) rfl b2 t2 (hp_Bc (z := b) rfl b3 t3 hp_Bn)))) (hp_Fc (z := ((-1) + (1 * n + ((-1) * p + 0)))) rfl (by omega) hp_Fn) (hp_Kc (zi := (0 + 0)) (zv := (0 + (1 * n + 0))) k0 rfl rfl (by omega) (by omega) (hp_Kc (zi := (0 + (1 * p + 0))) (zv := (0 + (1 * x + 0))) k1 rfl rfl (by omega) (by omega) (hp_Kc (zi := (0 + (1 * x + 0))) (zv := (0 + (1 * b + 0))) k2 rfl rfl (by omega) (by omega) hp_Kn))) (hp_La l0 (hp_Li (z := (0 + (1 * p + 0))) l1 rfl (by omega) hp_Ln)) trivial ?_ ?_
  · intro p hp ys l' st' h' hys a1 a2 a3 gZ gL gS
    cases hp
  · intro p hp ys v h' hys a1 a2 a3 gZ gS
    rcases List.mem_cons.mp hp with rfl | hp
    · obtain rfl := hp_y0 hys
      have sv := hp_gSn gS
      cases v with
      | some w => cases sv
      | none =>
        exact r0 h' a1 a2 a3 (hp_gK (zi := (0 + 0)) (zv := (0 + (1 * n + 0))) gZ.2.2.2 (List.mem_of_getElem? (i := 0) rfl) rfl rfl (by omega) (by omega)) (hp_gK (zi := (0 + 0)) (zv := (0 + 0)) gZ.2.2.2 (List.mem_of_getElem? (i := 1) rfl) rfl rfl (by omega) (by omega)) (hp_gK (zi := (0 + 0)) (zv := (1 + (1 * p + 0))) gZ.2.2.2 (List.mem_of_getElem? (i := 2) rfl) rfl rfl (by omega) (by omega)) (hp_gK (zi := (0 + 0)) (zv := (0 + (1 * p + 0))) gZ.2.2.2 (List.mem_of_getElem? (i := 3) rfl) rfl rfl (by omega) (by omega)) (hp_gK (zi := (0 + 0)) (zv := ((-1) + 0)) gZ.2.2.2 (List.mem_of_getElem? (i := 4) rfl) rfl rfl (by omega) (by omega))
    cases hp
theorem znT4_k : hp_chk 299 31 4 [(0, 0, 1200), (1, 0, 1199), (2, (-128), 127), (3, 44, 47)] [((-1), [(0, 1), (1, (-1))])] [(0, .inr (.inr (.inl (some 94)))), (1, .inl (0, [(1, 1)]))] [] [(19970, (0, []), (0, [(0, 1)])), (20224, (0, [(1, 1)]), (0, [(2, 1)])), (63008, (0, [(2, 1)]), (0, [(3, 1)]))] [19971, 19972, 19973, 19974, 19975, 19976] 8 [] [([], 4, [(0, 0, 1200), (1, 0, 1199), (2, (-128), 127), (3, 44, 47)], [], [], [], [(19970, (0, []), (0, [(0, 1)])), (19971, (0, []), (0, [])), (19974, (0, []), (1, [(1, 1)])), (19973, (0, []), (0, [(1, 1)])), (19972, (0, []), ((-1), []))])] = true := by decide +kernel
theorem znT4 {cst : am_K} {strs : List Nat} {Φ : am_Q → Prop} {D : Nat} {M : am_M} {h : am_H} {l : am_L} (c : hp_C cst strs D) (hM : m_P[299]? = some M) (hD : (8 : Int) ≤ (D : Int) + 1) (hy : ly_hy m_tt ly_TH h) (n p x b : Int) (b0 : 0 ≤ n) (t0 : n ≤ 1200) (b1 : 0 ≤ p) (t1 : p ≤ 1199) (b2 : (-128) ≤ x) (t2 : x ≤ 127) (b3 : 44 ≤ b) (t3 : b ≤ 47) (f0 : 0 ≤ (n - p - 1)) (k0 : ly_hv cst h 19970 0 = some (n)) (k1 : ly_hv cst h 20224 (p) = some (x)) (k2 : ly_hv cst h 63008 (x) = some (b)) (l0 : hp_a l 0 94) (l1 : hp_i l 1 (p)) (r0 : ∀ (h' : am_H), ly_hy m_tt ly_TH h' → ly_fr cst [19971, 19972, 19973, 19974, 19975, 19976] h h' → h.length ≤ h'.length → ly_hv cst h' 19970 0 = some (n) → ly_hv cst h' 19971 0 = some 0 → ly_hv cst h' 19974 0 = some (p + 1) → ly_hv cst h' 19973 0 = some (p) → ly_hv cst h' 19972 0 = some (-1) → Φ (none, h', 0, 0)) : hp_F cst strs Φ D M 31 l [] h := by
  refine hp_arc c hM znT4_k hD [n, p, x, b] rfl hy (hp_Bc (z := n) rfl b0 t0 (hp_Bc (z := p) rfl b1 t1 (hp_Bc (z := x) rfl b2 t2 (hp_Bc (z := b) rfl b3 t3 hp_Bn)))) (hp_Fc (z := ((-1) + (1 * n + ((-1) * p + 0)))) rfl (by omega) hp_Fn) (hp_Kc (zi := (0 + 0)) (zv := (0 + (1 * n + 0))) k0 rfl rfl (by omega) (by omega) (hp_Kc (zi := (0 + (1 * p + 0))) (zv := (0 + (1 * x + 0))) k1 rfl rfl (by omega) (by omega) (hp_Kc (zi := (0 + (1 * x + 0))) (zv := (0 + (1 * b + 0))) k2 rfl rfl (by omega) (by omega) hp_Kn))) (hp_La l0 (hp_Li (z := (0 + (1 * p + 0))) l1 rfl (by omega) hp_Ln)) trivial ?_ ?_
  · intro p hp ys l' st' h' hys a1 a2 a3 gZ gL gS
    cases hp
  · intro p hp ys v h' hys a1 a2 a3 gZ gS
    rcases List.mem_cons.mp hp with rfl | hp
    · obtain rfl := hp_y0 hys
      have sv := hp_gSn gS
      cases v with
      | some w => cases sv
      | none =>
        exact r0 h' a1 a2 a3 (hp_gK (zi := (0 + 0)) (zv := (0 + (1 * n + 0))) gZ.2.2.2 (List.mem_of_getElem? (i := 0) rfl) rfl rfl (by omega) (by omega)) (hp_gK (zi := (0 + 0)) (zv := (0 + 0)) gZ.2.2.2 (List.mem_of_getElem? (i := 1) rfl) rfl rfl (by omega) (by omega)) (hp_gK (zi := (0 + 0)) (zv := (1 + (1 * p + 0))) gZ.2.2.2 (List.mem_of_getElem? (i := 2) rfl) rfl rfl (by omega) (by omega)) (hp_gK (zi := (0 + 0)) (zv := (0 + (1 * p + 0))) gZ.2.2.2 (List.mem_of_getElem? (i := 3) rfl) rfl rfl (by omega) (by omega)) (hp_gK (zi := (0 + 0)) (zv := ((-1) + 0)) gZ.2.2.2 (List.mem_of_getElem? (i := 4) rfl) rfl rfl (by omega) (by omega))
    cases hp
theorem znT5_k : hp_chk 299 31 4 [(0, 0, 1200), (1, 0, 1199), (2, (-128), 127), (3, 58, 58)] [((-1), [(0, 1), (1, (-1))])] [(0, .inr (.inr (.inl (some 94)))), (1, .inl (0, [(1, 1)]))] [] [(19970, (0, []), (0, [(0, 1)])), (20224, (0, [(1, 1)]), (0, [(2, 1)])), (63008, (0, [(2, 1)]), (0, [(3, 1)]))] [19971, 19972, 19973, 19974, 19975, 19976] 8 [] [([], 4, [(0, 0, 1200), (1, 0, 1199), (2, (-128), 127), (3, 58, 58)], [], [], [], [(19970, (0, []), (0, [(0, 1)])), (19971, (0, []), (0, [])), (19974, (0, []), (1, [(1, 1)])), (19973, (0, []), (0, [(1, 1)])), (19972, (0, []), ((-1), []))])] = true := by decide +kernel
theorem znT5 {cst : am_K} {strs : List Nat} {Φ : am_Q → Prop} {D : Nat} {M : am_M} {h : am_H} {l : am_L} (c : hp_C cst strs D) (hM : m_P[299]? = some M) (hD : (8 : Int) ≤ (D : Int) + 1) (hy : ly_hy m_tt ly_TH h) (n p x b : Int) (b0 : 0 ≤ n) (t0 : n ≤ 1200) (b1 : 0 ≤ p) (t1 : p ≤ 1199) (b2 : (-128) ≤ x) (t2 : x ≤ 127) (b3 : 58 ≤ b) (t3 : b ≤ 58) (f0 : 0 ≤ (n - p - 1)) (k0 : ly_hv cst h 19970 0 = some (n)) (k1 : ly_hv cst h 20224 (p) = some (x)) (k2 : ly_hv cst h 63008 (x) = some (b)) (l0 : hp_a l 0 94) (l1 : hp_i l 1 (p)) (r0 : ∀ (h' : am_H), ly_hy m_tt ly_TH h' → ly_fr cst [19971, 19972, 19973, 19974, 19975, 19976] h h' → h.length ≤ h'.length → ly_hv cst h' 19970 0 = some (n) → ly_hv cst h' 19971 0 = some 0 → ly_hv cst h' 19974 0 = some (p + 1) → ly_hv cst h' 19973 0 = some (p) → ly_hv cst h' 19972 0 = some (-1) → Φ (none, h', 0, 0)) : hp_F cst strs Φ D M 31 l [] h := by
  refine hp_arc c hM znT5_k hD [n, p, x, b] rfl hy (hp_Bc (z := n) rfl b0 t0 (hp_Bc (z := p) rfl b1 t1 (hp_Bc (z := x) rfl b2 t2 (hp_Bc (z := b) rfl b3 t3 hp_Bn)))) (hp_Fc (z := ((-1) + (1 * n + ((-1) * p + 0)))) rfl (by omega) hp_Fn) (hp_Kc (zi := (0 + 0)) (zv := (0 + (1 * n + 0))) k0 rfl rfl (by omega) (by omega) (hp_Kc (zi := (0 + (1 * p + 0))) (zv := (0 + (1 * x + 0))) k1 rfl rfl (by omega) (by omega) (hp_Kc (zi := (0 + (1 * x + 0))) (zv := (0 + (1 * b + 0))) k2 rfl rfl (by omega) (by omega) hp_Kn))) (hp_La l0 (hp_Li (z := (0 + (1 * p + 0))) l1 rfl (by omega) hp_Ln)) trivial ?_ ?_
  · intro p hp ys l' st' h' hys a1 a2 a3 gZ gL gS
    cases hp
  · intro p hp ys v h' hys a1 a2 a3 gZ gS
    rcases List.mem_cons.mp hp with rfl | hp
    · obtain rfl := hp_y0 hys
      have sv := hp_gSn gS
      cases v with
      | some w => cases sv
      | none =>
        exact r0 h' a1 a2 a3 (hp_gK (zi := (0 + 0)) (zv := (0 + (1 * n + 0))) gZ.2.2.2 (List.mem_of_getElem? (i := 0) rfl) rfl rfl (by omega) (by omega)) (hp_gK (zi := (0 + 0)) (zv := (0 + 0)) gZ.2.2.2 (List.mem_of_getElem? (i := 1) rfl) rfl rfl (by omega) (by omega)) (hp_gK (zi := (0 + 0)) (zv := (1 + (1 * p + 0))) gZ.2.2.2 (List.mem_of_getElem? (i := 2) rfl) rfl rfl (by omega) (by omega)) (hp_gK (zi := (0 + 0)) (zv := (0 + (1 * p + 0))) gZ.2.2.2 (List.mem_of_getElem? (i := 3) rfl) rfl rfl (by omega) (by omega)) (hp_gK (zi := (0 + 0)) (zv := ((-1) + 0)) gZ.2.2.2 (List.mem_of_getElem? (i := 4) rfl) rfl rfl (by omega) (by omega))
    cases hp
theorem znT6_k : hp_chk 299 31 4 [(0, 0, 1200), (1, 0, 1199), (2, (-128), 127), (3, 60, 60)] [((-1), [(0, 1), (1, (-1))])] [(0, .inr (.inr (.inl (some 94)))), (1, .inl (0, [(1, 1)]))] [] [(19970, (0, []), (0, [(0, 1)])), (20224, (0, [(1, 1)]), (0, [(2, 1)])), (63008, (0, [(2, 1)]), (0, [(3, 1)]))] [19971, 19972, 19973, 19974, 19975, 19976] 8 [] [([], 4, [(0, 0, 1200), (1, 0, 1199), (2, (-128), 127), (3, 60, 60)], [], [], [], [(19970, (0, []), (0, [(0, 1)])), (19971, (0, []), (0, [])), (19974, (0, []), (1, [(1, 1)])), (19973, (0, []), (0, [(1, 1)])), (19972, (0, []), ((-1), []))])] = true := by decide +kernel
theorem znT6 {cst : am_K} {strs : List Nat} {Φ : am_Q → Prop} {D : Nat} {M : am_M} {h : am_H} {l : am_L} (c : hp_C cst strs D) (hM : m_P[299]? = some M) (hD : (8 : Int) ≤ (D : Int) + 1) (hy : ly_hy m_tt ly_TH h) (n p x b : Int) (b0 : 0 ≤ n) (t0 : n ≤ 1200) (b1 : 0 ≤ p) (t1 : p ≤ 1199) (b2 : (-128) ≤ x) (t2 : x ≤ 127) (b3 : 60 ≤ b) (t3 : b ≤ 60) (f0 : 0 ≤ (n - p - 1)) (k0 : ly_hv cst h 19970 0 = some (n)) (k1 : ly_hv cst h 20224 (p) = some (x)) (k2 : ly_hv cst h 63008 (x) = some (b)) (l0 : hp_a l 0 94) (l1 : hp_i l 1 (p)) (r0 : ∀ (h' : am_H), ly_hy m_tt ly_TH h' → ly_fr cst [19971, 19972, 19973, 19974, 19975, 19976] h h' → h.length ≤ h'.length → ly_hv cst h' 19970 0 = some (n) → ly_hv cst h' 19971 0 = some 0 → ly_hv cst h' 19974 0 = some (p + 1) → ly_hv cst h' 19973 0 = some (p) → ly_hv cst h' 19972 0 = some (-1) → Φ (none, h', 0, 0)) : hp_F cst strs Φ D M 31 l [] h := by
  refine hp_arc c hM znT6_k hD [n, p, x, b] rfl hy (hp_Bc (z := n) rfl b0 t0 (hp_Bc (z := p) rfl b1 t1 (hp_Bc (z := x) rfl b2 t2 (hp_Bc (z := b) rfl b3 t3 hp_Bn)))) (hp_Fc (z := ((-1) + (1 * n + ((-1) * p + 0)))) rfl (by omega) hp_Fn) (hp_Kc (zi := (0 + 0)) (zv := (0 + (1 * n + 0))) k0 rfl rfl (by omega) (by omega) (hp_Kc (zi := (0 + (1 * p + 0))) (zv := (0 + (1 * x + 0))) k1 rfl rfl (by omega) (by omega) (hp_Kc (zi := (0 + (1 * x + 0))) (zv := (0 + (1 * b + 0))) k2 rfl rfl (by omega) (by omega) hp_Kn))) (hp_La l0 (hp_Li (z := (0 + (1 * p + 0))) l1 rfl (by omega) hp_Ln)) trivial ?_ ?_
  · intro p hp ys l' st' h' hys a1 a2 a3 gZ gL gS
    cases hp
  · intro p hp ys v h' hys a1 a2 a3 gZ gS
    rcases List.mem_cons.mp hp with rfl | hp
    · obtain rfl := hp_y0 hys
      have sv := hp_gSn gS
      cases v with
      | some w => cases sv
      | none =>
        exact r0 h' a1 a2 a3 (hp_gK (zi := (0 + 0)) (zv := (0 + (1 * n + 0))) gZ.2.2.2 (List.mem_of_getElem? (i := 0) rfl) rfl rfl (by omega) (by omega)) (hp_gK (zi := (0 + 0)) (zv := (0 + 0)) gZ.2.2.2 (List.mem_of_getElem? (i := 1) rfl) rfl rfl (by omega) (by omega)) (hp_gK (zi := (0 + 0)) (zv := (1 + (1 * p + 0))) gZ.2.2.2 (List.mem_of_getElem? (i := 2) rfl) rfl rfl (by omega) (by omega)) (hp_gK (zi := (0 + 0)) (zv := (0 + (1 * p + 0))) gZ.2.2.2 (List.mem_of_getElem? (i := 3) rfl) rfl rfl (by omega) (by omega)) (hp_gK (zi := (0 + 0)) (zv := ((-1) + 0)) gZ.2.2.2 (List.mem_of_getElem? (i := 4) rfl) rfl rfl (by omega) (by omega))
    cases hp
theorem znT7_k : hp_chk 299 31 4 [(0, 0, 1200), (1, 0, 1199), (2, (-128), 127), (3, 62, 96)] [((-1), [(0, 1), (1, (-1))])] [(0, .inr (.inr (.inl (some 94)))), (1, .inl (0, [(1, 1)]))] [] [(19970, (0, []), (0, [(0, 1)])), (20224, (0, [(1, 1)]), (0, [(2, 1)])), (63008, (0, [(2, 1)]), (0, [(3, 1)]))] [19971, 19972, 19973, 19974, 19975, 19976] 8 [] [([], 4, [(0, 0, 1200), (1, 0, 1199), (2, (-128), 127), (3, 62, 96)], [], [], [], [(19970, (0, []), (0, [(0, 1)])), (19971, (0, []), (0, [])), (19974, (0, []), (1, [(1, 1)])), (19973, (0, []), (0, [(1, 1)])), (19972, (0, []), ((-1), []))])] = true := by decide +kernel
theorem znT7 {cst : am_K} {strs : List Nat} {Φ : am_Q → Prop} {D : Nat} {M : am_M} {h : am_H} {l : am_L} (c : hp_C cst strs D) (hM : m_P[299]? = some M) (hD : (8 : Int) ≤ (D : Int) + 1) (hy : ly_hy m_tt ly_TH h) (n p x b : Int) (b0 : 0 ≤ n) (t0 : n ≤ 1200) (b1 : 0 ≤ p) (t1 : p ≤ 1199) (b2 : (-128) ≤ x) (t2 : x ≤ 127) (b3 : 62 ≤ b) (t3 : b ≤ 96) (f0 : 0 ≤ (n - p - 1)) (k0 : ly_hv cst h 19970 0 = some (n)) (k1 : ly_hv cst h 20224 (p) = some (x)) (k2 : ly_hv cst h 63008 (x) = some (b)) (l0 : hp_a l 0 94) (l1 : hp_i l 1 (p)) (r0 : ∀ (h' : am_H), ly_hy m_tt ly_TH h' → ly_fr cst [19971, 19972, 19973, 19974, 19975, 19976] h h' → h.length ≤ h'.length → ly_hv cst h' 19970 0 = some (n) → ly_hv cst h' 19971 0 = some 0 → ly_hv cst h' 19974 0 = some (p + 1) → ly_hv cst h' 19973 0 = some (p) → ly_hv cst h' 19972 0 = some (-1) → Φ (none, h', 0, 0)) : hp_F cst strs Φ D M 31 l [] h := by
  refine hp_arc c hM znT7_k hD [n, p, x, b] rfl hy (hp_Bc (z := n) rfl b0 t0 (hp_Bc (z := p) rfl b1 t1 (hp_Bc (z := x) rfl b2 t2 (hp_Bc (z := b) rfl b3 t3 hp_Bn)))) (hp_Fc (z := ((-1) + (1 * n + ((-1) * p + 0)))) rfl (by omega) hp_Fn) (hp_Kc (zi := (0 + 0)) (zv := (0 + (1 * n + 0))) k0 rfl rfl (by omega) (by omega) (hp_Kc (zi := (0 + (1 * p + 0))) (zv := (0 + (1 * x + 0))) k1 rfl rfl (by omega) (by omega) (hp_Kc (zi := (0 + (1 * x + 0))) (zv := (0 + (1 * b + 0))) k2 rfl rfl (by omega) (by omega) hp_Kn))) (hp_La l0 (hp_Li (z := (0 + (1 * p + 0))) l1 rfl (by omega) hp_Ln)) trivial ?_ ?_
  · intro p hp ys l' st' h' hys a1 a2 a3 gZ gL gS
    cases hp
  · intro p hp ys v h' hys a1 a2 a3 gZ gS
    rcases List.mem_cons.mp hp with rfl | hp
    · obtain rfl := hp_y0 hys
      have sv := hp_gSn gS
      cases v with
      | some w => cases sv
      | none =>
        exact r0 h' a1 a2 a3 (hp_gK (zi := (0 + 0)) (zv := (0 + (1 * n + 0))) gZ.2.2.2 (List.mem_of_getElem? (i := 0) rfl) rfl rfl (by omega) (by omega)) (hp_gK (zi := (0 + 0)) (zv := (0 + 0)) gZ.2.2.2 (List.mem_of_getElem? (i := 1) rfl) rfl rfl (by omega) (by omega)) (hp_gK (zi := (0 + 0)) (zv := (1 + (1 * p + 0))) gZ.2.2.2 (List.mem_of_getElem? (i := 2) rfl) rfl rfl (by omega) (by omega)) (hp_gK (zi := (0 + 0)) (zv := (0 + (1 * p + 0))) gZ.2.2.2 (List.mem_of_getElem? (i := 3) rfl) rfl rfl (by omega) (by omega)) (hp_gK (zi := (0 + 0)) (zv := ((-1) + 0)) gZ.2.2.2 (List.mem_of_getElem? (i := 4) rfl) rfl rfl (by omega) (by omega))
    cases hp
theorem znT8_k : hp_chk 299 31 4 [(0, 0, 1200), (1, 0, 1199), (2, (-128), 127), (3, 123, 255)] [((-1), [(0, 1), (1, (-1))])] [(0, .inr (.inr (.inl (some 94)))), (1, .inl (0, [(1, 1)]))] [] [(19970, (0, []), (0, [(0, 1)])), (20224, (0, [(1, 1)]), (0, [(2, 1)])), (63008, (0, [(2, 1)]), (0, [(3, 1)]))] [19971, 19972, 19973, 19974, 19975, 19976] 8 [] [([], 4, [(0, 0, 1200), (1, 0, 1199), (2, (-128), 127), (3, 123, 255)], [], [], [], [(19970, (0, []), (0, [(0, 1)])), (19971, (0, []), (0, [])), (19974, (0, []), (1, [(1, 1)])), (19973, (0, []), (0, [(1, 1)])), (19972, (0, []), ((-1), []))])] = true := by decide +kernel
theorem znT8 {cst : am_K} {strs : List Nat} {Φ : am_Q → Prop} {D : Nat} {M : am_M} {h : am_H} {l : am_L} (c : hp_C cst strs D) (hM : m_P[299]? = some M) (hD : (8 : Int) ≤ (D : Int) + 1) (hy : ly_hy m_tt ly_TH h) (n p x b : Int) (b0 : 0 ≤ n) (t0 : n ≤ 1200) (b1 : 0 ≤ p) (t1 : p ≤ 1199) (b2 : (-128) ≤ x) (t2 : x ≤ 127) (b3 : 123 ≤ b) (t3 : b ≤ 255) (f0 : 0 ≤ (n - p - 1)) (k0 : ly_hv cst h 19970 0 = some (n)) (k1 : ly_hv cst h 20224 (p) = some (x)) (k2 : ly_hv cst h 63008 (x) = some (b)) (l0 : hp_a l 0 94) (l1 : hp_i l 1 (p)) (r0 : ∀ (h' : am_H), ly_hy m_tt ly_TH h' → ly_fr cst [19971, 19972, 19973, 19974, 19975, 19976] h h' → h.length ≤ h'.length → ly_hv cst h' 19970 0 = some (n) → ly_hv cst h' 19971 0 = some 0 → ly_hv cst h' 19974 0 = some (p + 1) → ly_hv cst h' 19973 0 = some (p) → ly_hv cst h' 19972 0 = some (-1) → Φ (none, h', 0, 0)) : hp_F cst strs Φ D M 31 l [] h := by
  refine hp_arc c hM znT8_k hD [n, p, x, b] rfl hy (hp_Bc (z := n) rfl b0 t0 (hp_Bc (z := p) rfl b1 t1 (hp_Bc (z := x) rfl b2 t2 (hp_Bc (z := b) rfl b3 t3 hp_Bn)))) (hp_Fc (z := ((-1) + (1 * n + ((-1) * p + 0)))) rfl (by omega) hp_Fn) (hp_Kc (zi := (0 + 0)) (zv := (0 + (1 * n + 0))) k0 rfl rfl (by omega) (by omega) (hp_Kc (zi := (0 + (1 * p + 0))) (zv := (0 + (1 * x + 0))) k1 rfl rfl (by omega) (by omega) (hp_Kc (zi := (0 + (1 * x + 0))) (zv := (0 + (1 * b + 0))) k2 rfl rfl (by omega) (by omega) hp_Kn))) (hp_La l0 (hp_Li (z := (0 + (1 * p + 0))) l1 rfl (by omega) hp_Ln)) trivial ?_ ?_
  · intro p hp ys l' st' h' hys a1 a2 a3 gZ gL gS
    cases hp
  · intro p hp ys v h' hys a1 a2 a3 gZ gS
    rcases List.mem_cons.mp hp with rfl | hp
    · obtain rfl := hp_y0 hys
      have sv := hp_gSn gS
      cases v with
      | some w => cases sv
      | none =>
        exact r0 h' a1 a2 a3 (hp_gK (zi := (0 + 0)) (zv := (0 + (1 * n + 0))) gZ.2.2.2 (List.mem_of_getElem? (i := 0) rfl) rfl rfl (by omega) (by omega)) (hp_gK (zi := (0 + 0)) (zv := (0 + 0)) gZ.2.2.2 (List.mem_of_getElem? (i := 1) rfl) rfl rfl (by omega) (by omega)) (hp_gK (zi := (0 + 0)) (zv := (1 + (1 * p + 0))) gZ.2.2.2 (List.mem_of_getElem? (i := 2) rfl) rfl rfl (by omega) (by omega)) (hp_gK (zi := (0 + 0)) (zv := (0 + (1 * p + 0))) gZ.2.2.2 (List.mem_of_getElem? (i := 3) rfl) rfl rfl (by omega) (by omega)) (hp_gK (zi := (0 + 0)) (zv := ((-1) + 0)) gZ.2.2.2 (List.mem_of_getElem? (i := 4) rfl) rfl rfl (by omega) (by omega))
    cases hp
theorem zo0_k : hp_chk 298 0 1 [(0, 0, 1200)] [] [(0, .inr (.inr (.inl (some 94))))] [] [(19969, (0, []), (0, [(0, 1)]))] [19969, 19970, 19974] 2 [(19, ([], 1, [(0, 0, 1200)], [], [(0, .inr (.inr (.inl (some 94))))], [.inr (.inr (.inl (some 94)))], [(19969, (0, []), (0, [])), (19970, (0, []), (0, [(0, 1)])), (19974, (0, []), (0, []))]))] [] = true := by decide +kernel
theorem zo0 {cst : am_K} {strs : List Nat} {Φ : am_Q → Prop} {D : Nat} {M : am_M} {h : am_H} {l : am_L} (c : hp_C cst strs D) (hM : m_P[298]? = some M) (hD : (2 : Int) ≤ (D : Int) + 1) (hy : ly_hy m_tt ly_TH h) (n : Int) (b0 : 0 ≤ n) (t0 : n ≤ 1200) (k0 : ly_hv cst h 19969 0 = some (n)) (l0 : hp_a l 0 94) (e0 : ∀ (l' : am_L) (h' : am_H), ly_hy m_tt ly_TH h' → ly_fr cst [19969, 19970, 19974] h h' → h.length ≤ h'.length → ly_hv cst h' 19969 0 = some 0 → ly_hv cst h' 19970 0 = some (n) → ly_hv cst h' 19974 0 = some 0 → hp_a l' 0 94 → hp_F cst strs Φ D M 19 l' [.ref 94] h') : hp_F cst strs Φ D M 0 l [] h := by
  refine hp_arc c hM zo0_k hD [n] rfl hy (hp_Bc (z := n) rfl b0 t0 hp_Bn) hp_Fn (hp_Kc (zi := (0 + 0)) (zv := (0 + (1 * n + 0))) k0 rfl rfl (by omega) (by omega) hp_Kn) (hp_La l0 hp_Ln) trivial ?_ ?_
  · intro p hp ys l' st' h' hys a1 a2 a3 gZ gL gS
    rcases List.mem_cons.mp hp with rfl | hp
    · obtain rfl := hp_y0 hys
      obtain ⟨t0, rfl, g0⟩ := hp_gSa gS (by decide)
      cases hp_gSn g0
      exact e0 l' h' a1 a2 a3 (hp_gK (zi := (0 + 0)) (zv := (0 + 0)) gZ.2.2.2 (List.mem_of_getElem? (i := 0) rfl) rfl rfl (by omega) (by omega)) (hp_gK (zi := (0 + 0)) (zv := (0 + (1 * n + 0))) gZ.2.2.2 (List.mem_of_getElem? (i := 1) rfl) rfl rfl (by omega) (by omega)) (hp_gK (zi := (0 + 0)) (zv := (0 + 0)) gZ.2.2.2 (List.mem_of_getElem? (i := 2) rfl) rfl rfl (by omega) (by omega)) (hp_gLa gL (List.mem_of_getElem? (i := 0) rfl) (by decide))
    cases hp
  · intro p hp ys v h' hys a1 a2 a3 gZ gS
    cases hp
theorem zo1_k : hp_chk 298 22 1 [(0, 0, 1200)] [] [(0, .inr (.inr (.inl (some 94))))] [] [(19970, (0, []), (0, [(0, 1)]))] [] 2 [] [([], 1, [(0, 0, 1200)], [], [], [], [(19970, (0, []), (0, [(0, 1)]))])] = true := by decide +kernel
theorem zo1 {cst : am_K} {strs : List Nat} {Φ : am_Q → Prop} {D : Nat} {M : am_M} {h : am_H} {l : am_L} (c : hp_C cst strs D) (hM : m_P[298]? = some M) (hD : (2 : Int) ≤ (D : Int) + 1) (hy : ly_hy m_tt ly_TH h) (n : Int) (b0 : 0 ≤ n) (t0 : n ≤ 1200) (k0 : ly_hv cst h 19970 0 = some (n)) (l0 : hp_a l 0 94) (r0 : ∀ (h' : am_H), ly_hy m_tt ly_TH h' → ly_fr cst [] h h' → h.length ≤ h'.length → ly_hv cst h' 19970 0 = some (n) → Φ (none, h', 0, 0)) : hp_F cst strs Φ D M 22 l [] h := by
  refine hp_arc c hM zo1_k hD [n] rfl hy (hp_Bc (z := n) rfl b0 t0 hp_Bn) hp_Fn (hp_Kc (zi := (0 + 0)) (zv := (0 + (1 * n + 0))) k0 rfl rfl (by omega) (by omega) hp_Kn) (hp_La l0 hp_Ln) trivial ?_ ?_
  · intro p hp ys l' st' h' hys a1 a2 a3 gZ gL gS
    cases hp
  · intro p hp ys v h' hys a1 a2 a3 gZ gS
    rcases List.mem_cons.mp hp with rfl | hp
    · obtain rfl := hp_y0 hys
      have sv := hp_gSn gS
      cases v with
      | some w => cases sv
      | none =>
        exact r0 h' a1 a2 a3 (hp_gK (zi := (0 + 0)) (zv := (0 + (1 * n + 0))) gZ.2.2.2 (List.mem_of_getElem? (i := 0) rfl) rfl rfl (by omega) (by omega))
    cases hp
/-- the reference's bytes as the class has them -/
noncomputable def gs_f (cst : am_K) (h : am_H) : Int → Int := fun k => ((ly_hv cst h 20224 k).getD 0) % 256
theorem gs_fs {cst : am_K} {h : am_H} {k x : Int} (e : ly_hv cst h 20224 k = some x) : gs_f cst h k = x % 256 := by
  unfold gs_f
  rw [e]
  rfl
theorem tkk_4 {b : Int} (h : tkk b = 4) : b = 32 ∨ b = 10 := by
  unfold tkk at h
  split at h
  · omega
  · split at h
    · omega
    · split at h
      · assumption
      · split at h <;> omega
def srt (k : Int) : Int := if k = 1 then 1 else if k = 2 then 2 else if k = 59 then 3 else if k = 61 then 4 else if k = 40 then 5 else if k = 41 then 6 else if k = 43 then 7 else 0
theorem tk_of {f : Int → Int} {n e0 p e k v k0 : Int} (a1 : e0 ≤ p) (a2 : p < e) (a3 : e ≤ n) (hb : ∀ x, e0 ≤ x → x < p → tkk (f x) = 4) (r : tk_r k0) (all : ∀ x, p ≤ x → x < e → tkk (f x) = k0) (mx : e < n → tkk (f e) ≠ k0) (lo : e - p ≤ tk_m k0 → k = k0 ∧ v = tk_w f (tk_b k0) p (e - p).toNat) (hi : tk_m k0 < e - p → k = 3) : tk f n e0 p e k v := by
  have e1 := all p (Int.le_refl _) a2
  refine ⟨a1, a2, a3, hb, ?_, fun _ => ?_, fun z => absurd ?_ z⟩
  · rw [e1]
    unfold tk_r at r
    omega
  · rw [e1]
    exact ⟨all, mx, lo, hi⟩
  · rw [e1]
    exact r
theorem hp_Cd {cst : am_K} {strs : List Nat} {D : Nat} (c : hp_C cst strs (D + 1)) : hp_C cst strs D := ⟨c.1, c.2.1, fun d hd => c.2.2 d (by omega)⟩
theorem tk_one {f : Int → Int} {n e0 p k v : Int} (a1 : e0 ≤ p) (a3 : p < n) (hb : ∀ x, e0 ≤ x → x < p → tkk (f x) = 4) (e : tkk (f p) = k) (nr : ¬ tk_r k) (n4 : k ≠ 4) : tk f n e0 p (p + 1) k v := ⟨a1, by omega, by omega, hb, by rw [e]; exact n4, fun r => absurd (by rw [e] at r; exact r) nr, fun _ => ⟨rfl, e.symm⟩⟩
def gs_E (f : Int → Int) (cst : am_K) (h : am_H) (e0 n : Int) : Prop := ((∀ x, e0 ≤ x → x < n → tkk (f x) = 4) ∧ ly_hv cst h 19971 0 = some 8 ∧ ly_hv cst h 19974 0 = some n ∧ ly_hv cst h 19973 0 = some n ∧ ly_hv cst h 19972 0 = some (-1)) ∨ ∃ s e k v, tk f n e0 s e k v ∧ ly_hv cst h 19971 0 = some (srt k) ∧ ly_hv cst h 19974 0 = some e ∧ (ly_hv cst h 19973 0 = some s ∧ (k = 1 → ly_hv cst h 19972 0 = some (kw v)) ∧ (k ≠ 1 → ly_hv cst h 19972 0 = some (-1))) ∧ (k = 1 → ly_hv cst h 19976 0 = some v) ∧ (k = 2 → ly_hv cst h 19975 0 = some v)
theorem gs_mv {f : Int → Int} {cst : am_K} {h h' : am_H} {e0 n : Int} (E : gs_E f cst h e0 n) (fr : ly_fr cst [] h h') : gs_E f cst h' e0 n := by
  rcases E with ⟨a1, a2, a3, a4, a7⟩ | ⟨s, e, k, v, a1, a2, a3, ⟨a4, a7, a8⟩, a5, a6⟩
  · exact Or.inl ⟨a1, fr _ _ _ rfl a2, fr _ _ _ rfl a3, fr _ _ _ rfl a4, fr _ _ _ rfl a7⟩
  · exact Or.inr ⟨s, e, k, v, a1, fr _ _ _ rfl a2, fr _ _ _ rfl a3, ⟨fr _ _ _ rfl a4, fun z => fr _ _ _ rfl (a7 z), fun z => fr _ _ _ rfl (a8 z)⟩, fun z => fr _ _ _ rfl (a5 z), fun z => fr _ _ _ rfl (a6 z)⟩
def gs_Φ (f : Int → Int) (cst : am_K) (h0 : am_H) (e0 n : Int) (r : am_Q) : Prop := r.1 = none ∧ r.2.2.1 = 0 ∧ r.2.2.2 = 0 ∧ ly_hy m_tt ly_TH r.2.1 ∧ ly_fr cst [19971, 19972, 19973, 19974, 19975, 19976] h0 r.2.1 ∧ gs_E f cst r.2.1 e0 n
theorem zn_word {cst : am_K} {strs : List Nat} {D : Nat} {M : am_M} {h0 : am_H} (c : hp_C cst strs D) (hM : m_P[299]? = some M) (hD : (8 : Int) ≤ (D : Int) + 1) {n e0 p : Int} (n0 : 0 ≤ n) (n1 : n ≤ 1200) (q0 : 0 ≤ e0) (q1 : e0 ≤ p) (p1 : p < n) (hy0 : ly_hy m_tt ly_TH h0) (hb : ∀ x, e0 ≤ x → x < p → tkk ((gs_f cst h0) x) = 4) (lp : tkk ((gs_f cst h0) p) = 1) : ∀ (N : Nat) (h : am_H) (l : am_L) (e v : Int), (n - e).toNat < N → p ≤ e → e ≤ n → ly_hy m_tt ly_TH h → ly_fr cst [19971, 19972, 19973, 19974, 19975, 19976] h0 h → ly_hv cst h 19970 0 = some n → ly_hv cst h 19976 0 = some v → ly_hv cst h 19973 0 = some p → ly_hv cst h 19972 0 = some (-1) → 0 ≤ v → v ≤ 1152921504606846976 → (e - p ≤ 12 → v = tk_w (gs_f cst h0) 32 p (e - p).toNat) → (∀ x, p ≤ x → x < e → tkk ((gs_f cst h0) x) = 1) → hp_a l 0 94 → hp_i l 1 p → hp_i l 3 e → hp_F cst strs (gs_Φ (gs_f cst h0) cst h0 e0 n) D M 81 l [] h := by
  have mm : tk_m 1 = 12 := rfl
  have r0 : tk_r 1 := by unfold tk_r; omega
  intro N
  induction N with
  | zero => intro h l e v hN; omega
  | succ N ih =>
    intro h l e v hN e1 e2 hy fr kn kv ka ke' v0 v2 vb hl l0 l1 l3
    -- keyAt, and the end
    have key : ∀ (e' : Int) (l2 : am_L) (h2 : am_H) (y0 y1 : Int32), p < e' → e' ≤ n → e' - p ≤ 12 → (e' < n → tkk ((gs_f cst h0) e') ≠ 1) → v = tk_w (gs_f cst h0) 32 p (e' - p).toNat → (∀ x, p ≤ x → x < e' → tkk ((gs_f cst h0) x) = 1) → y0.toInt = e' - p → y1.toInt = p → ly_hy m_tt ly_TH h2 → ly_fr cst [19971, 19972, 19973, 19974, 19975, 19976] h0 h2 → ly_hv cst h2 19970 0 = some n → ly_hv cst h2 19971 0 = some 1 → ly_hv cst h2 19976 0 = some v → ly_hv cst h2 19973 0 = some p → hp_a l2 0 94 → hp_i l2 1 p → hp_i l2 3 e' → hp_F cst strs (gs_Φ (gs_f cst h0) cst h0 e0 n) D M 162 l2 [.int y0, .int y1, .ref 94, .ref 94] h2 := by
      intro e' l2 h2 y0 y1 z1 z2 z3 z4 z5 z6 f0 f1 u1 u2 kn2 k3 k5 k6 m0 m1 m3
      obtain ⟨D', rfl⟩ : ∃ D', D = D' + 1 := ⟨D - 1, by omega⟩
      obtain ⟨r, hrun, w, r1, r2, r3, rhy, rfr, rK⟩ := kz_run (f := (gs_f cst h0)) (n := n) (p := p) (v := v) (m := (e' - p).toNat) (xp := y1) (xm := y0) (hp_Cd c) (by omega) u1 n0 n1 (by omega) (by omega) (by omega) (by omega) (fun x a b => z6 x a (by omega)) (fun x a b => by
        obtain ⟨b0, kb0, bb0, bb1⟩ := hp_rowb (cst := cst) (i := x) u1 th_BT (by omega) (by omega)
        have kb1 : ly_hv cst h0 20224 x = some b0 := by
          rw [← hp_sameb th_BT rfl hy0 u1 u2]
          exact kb0
        have kk := z6 x a (by omega)
        rw [gs_fs kb1] at kk ⊢
        have := tkk_1 kk
        rw [show b0 % 256 = b0 by omega]
        exact kb0) kn2 z5 f1 (by omega)
      refine hp_call (mi := 299) (pc := 162) (tg := 302) (na := 3) (c := 78) (ci := 12) (st0 := [.int y0, .int y1, .ref 94]) (st := [.ref 94]) (av := [.int y1, .int y0]) hM (by decide +kernel) u1 rfl rfl rfl (by decide) hrun r2 r3 ?_
      rw [r1]
      have kb := kw_b v
      exact znV c hM hD rhy n p e' v (kw v) w rK n0 n1 (by omega) (by omega) (by omega) (by omega) v0 v2 kb.1 kb.2 (rfr _ _ _ rfl kn2) (rfr _ _ _ rfl k3) (rfr _ _ _ rfl k5) (rfr _ _ _ rfl k6) m0 m1 m3 (fun h5 w1 w2 w3 j1 j2 j3 j4 j5 j6 => ⟨rfl, rfl, rfl, w1, ly_fr_tr u2 (ly_fr_tr (hp_sub2 rfl rfr) w2), Or.inr ⟨p, e', 1, v, tk_of q1 z1 z2 hb r0 z6 z4 (fun _ => ⟨rfl, z5⟩) (fun z => by rw [mm] at z; omega), j2, j3, ⟨j5, fun _ => j6, fun z => absurd rfl z⟩, fun _ => j4, fun z => by omega⟩⟩)
    by_cases he : e = n
    · subst he
      by_cases q : e - p ≤ 12
      · exact znI c hM hD hy e p v n0 n1 (by omega) (by omega) v0 v2 (by omega) (by omega) kn kv ka ke' l0 l1 l3 (fun l2 h2 y0 y1 f0 f1 u1 u2 u3 kn2 k3 k5 k6 m0 m1 m3 => key e l2 h2 y0 y1 p1 (Int.le_refl _) q (fun z => by omega) (vb q) hl f0 f1 u1 (ly_fr_tr fr u2) kn2 k3 k5 k6 m0 m1 m3)
      · exact znJ c hM hD hy e p n0 n1 (by omega) (by omega) (by omega) kn ka ke' l0 l1 l3 (fun h2 u1 u2 u3 kn2 k3 k4 k6 k7 => ⟨rfl, rfl, rfl, u1, ly_fr_tr fr u2, Or.inr ⟨p, e, 3, v, tk_of q1 p1 (Int.le_refl _) hb r0 hl (fun z => by omega) (fun z => by rw [mm] at z; omega) (fun _ => rfl), k3, k4, ⟨k6, fun z => by omega, fun _ => k7⟩, fun z => by omega, fun z => by omega⟩⟩)
    · obtain ⟨x, kx, x0, x1⟩ := hp_rowb (cst := cst) (i := e) hy th_BT (by omega) (by omega)
      have kx' : ly_hv cst h0 20224 e = some x := by
        rw [← hp_sameb th_BT rfl hy0 hy fr]
        exact kx
      have fx := gs_fs kx'
      by_cases qq : 97 ≤ x % 256 ∧ x % 256 ≤ 122
      · have ke : tkk ((gs_f cst h0) e) = 1 := by rw [fx]; exact tkk_l qq.1 qq.2
        have hl2 : ∀ z, p ≤ z → z < e + 1 → tkk ((gs_f cst h0) z) = 1 := fun z z0 z1 => if w : z = e then by rw [w]; exact ke else hl z z0 (by omega)
        have tv : tkv ((gs_f cst h0) e) = x % 256 - 96 := by rw [fx]; exact tkv_l qq.1 qq.2
        by_cases q2 : e - p ≤ 11
        · have vv := vb (by omega)
          have ev : 32 * v + x % 256 - 96 = tk_w (gs_f cst h0) 32 p (e + 1 - p).toNat := by
            rw [show (e + 1 - p).toNat = (e - p).toNat + 1 by omega, tk_w, ← vv, show p + ((e - p).toNat : Int) = e by omega, tv]
            omega
          have bd := tk_wl (f := (gs_f cst h0)) (s := p) (e - p).toNat (fun z za zb => hl z za (by omega))
          rw [← vv] at bd
          have pw : 32 ^ (e - p).toNat ≤ 32 ^ 11 := Nat.pow_le_pow_right (by decide) (by omega)
          generalize 32 ^ (e - p).toNat = zz at bd pw
          have pv : (32 : Nat) ^ 11 = 36028797018963968 := by decide
          exact znG c hM hD hy n p e x (x % 256) v n0 n1 (by omega) (by omega) (by omega) (by omega) x0 x1 qq.1 qq.2 v0 (by omega) (by omega) (by omega) (by omega) kn kx (hp_m8 x) kv ka ke' l0 l1 l3 (fun l2 h2 u1 u2 u3 kn2 k3 k6 k7 m0 m1 m3 => ih h2 l2 (e + 1) (32 * v + x % 256 - 96) (by omega) (by omega) (by omega) u1 (ly_fr_tr fr u2) kn2 k3 k6 k7 (by omega) (by omega) (fun _ => ev) hl2 m0 m1 m3)
        · exact znH c hM hD hy n p e x (x % 256) v n0 n1 (by omega) (by omega) (by omega) (by omega) x0 x1 qq.1 qq.2 v0 v2 (by omega) (by omega) kn kx (hp_m8 x) kv ka ke' l0 l1 l3 (fun l2 h2 u1 u2 u3 kn2 k3 k6 k7 m0 m1 m3 => ih h2 l2 (e + 1) v (by omega) (by omega) (by omega) u1 (ly_fr_tr fr u2) kn2 k3 k6 k7 v0 v2 (fun z => by omega) hl2 m0 m1 m3)
      · have ne : tkk ((gs_f cst h0) e) ≠ 1 := fun z => by
          rw [fx] at z
          have := tkk_1 z
          omega
        have pe : p < e := by
          by_cases z : p = e
          · rw [← z] at ne
            exact absurd lp ne
          · omega
        by_cases q : e - p ≤ 12
        · by_cases q3 : x % 256 ≤ 96
          · exact znK0 c hM hD hy n p e x (x % 256) v n0 n1 (by omega) (by omega) (by omega) (by omega) x0 x1 (by omega) q3 v0 v2 (by omega) (by omega) (by omega) kn kx (hp_m8 x) kv ka ke' l0 l1 l3 (fun l2 h2 y0 y1 f0 f1 u1 u2 u3 kn2 k3 k5 k6 m0 m1 m3 => key e l2 h2 y0 y1 pe (by omega) q (fun _ => ne) (vb q) hl f0 f1 u1 (ly_fr_tr fr u2) kn2 k3 k5 k6 m0 m1 m3)
          · exact znK1 c hM hD hy n p e x (x % 256) v n0 n1 (by omega) (by omega) (by omega) (by omega) x0 x1 (by omega) (by omega) v0 v2 (by omega) (by omega) (by omega) kn kx (hp_m8 x) kv ka ke' l0 l1 l3 (fun l2 h2 y0 y1 f0 f1 u1 u2 u3 kn2 k3 k5 k6 m0 m1 m3 => key e l2 h2 y0 y1 pe (by omega) q (fun _ => ne) (vb q) hl f0 f1 u1 (ly_fr_tr fr u2) kn2 k3 k5 k6 m0 m1 m3)
        · by_cases q3 : x % 256 ≤ 96
          · exact znL0 c hM hD hy n p e x (x % 256) n0 n1 (by omega) (by omega) (by omega) (by omega) x0 x1 (by omega) q3 (by omega) (by omega) kn kx (hp_m8 x) ka ke' l0 l1 l3 (fun h2 u1 u2 u3 kn2 k3 k4 k6 k7 => ⟨rfl, rfl, rfl, u1, ly_fr_tr fr u2, Or.inr ⟨p, e, 3, v, tk_of q1 pe (by omega) hb r0 hl (fun _ => ne) (fun z => by rw [mm] at z; omega) (fun _ => rfl), k3, k4, ⟨k6, fun z => by omega, fun _ => k7⟩, fun z => by omega, fun z => by omega⟩⟩)
          · exact znL1 c hM hD hy n p e x (x % 256) n0 n1 (by omega) (by omega) (by omega) (by omega) x0 x1 (by omega) (by omega) (by omega) (by omega) kn kx (hp_m8 x) ka ke' l0 l1 l3 (fun h2 u1 u2 u3 kn2 k3 k4 k6 k7 => ⟨rfl, rfl, rfl, u1, ly_fr_tr fr u2, Or.inr ⟨p, e, 3, v, tk_of q1 pe (by omega) hb r0 hl (fun _ => ne) (fun z => by rw [mm] at z; omega) (fun _ => rfl), k3, k4, ⟨k6, fun z => by omega, fun _ => k7⟩, fun z => by omega, fun z => by omega⟩⟩)
theorem zn_num {cst : am_K} {strs : List Nat} {D : Nat} {M : am_M} {h0 : am_H} (c : hp_C cst strs D) (hM : m_P[299]? = some M) (hD : (8 : Int) ≤ (D : Int) + 1) {n e0 p : Int} (n0 : 0 ≤ n) (n1 : n ≤ 1200) (q0 : 0 ≤ e0) (q1 : e0 ≤ p) (p1 : p < n) (hy0 : ly_hy m_tt ly_TH h0) (hb : ∀ x, e0 ≤ x → x < p → tkk ((gs_f cst h0) x) = 4) (lp : tkk ((gs_f cst h0) p) = 2) : ∀ (N : Nat) (h : am_H) (l : am_L) (e v : Int), (n - e).toNat < N → p < e → e ≤ n → ly_hy m_tt ly_TH h → ly_fr cst [19971, 19972, 19973, 19974, 19975, 19976] h0 h → ly_hv cst h 19970 0 = some n → ly_hv cst h 19975 0 = some v → ly_hv cst h 19973 0 = some p → ly_hv cst h 19972 0 = some (-1) → 0 ≤ v → v ≤ 9999 → (e - p ≤ 4 → v = tk_w (gs_f cst h0) 10 p (e - p).toNat) → (∀ x, p ≤ x → x < e → tkk ((gs_f cst h0) x) = 2) → hp_a l 0 94 → hp_i l 1 p → hp_i l 3 e → hp_F cst strs (gs_Φ (gs_f cst h0) cst h0 e0 n) D M 186 l [] h := by
  have mm : tk_m 2 = 4 := rfl
  have r0 : tk_r 2 := by unfold tk_r; omega
  intro N
  induction N with
  | zero => intro h l e v hN; omega
  | succ N ih =>
    intro h l e v hN e1 e2 hy fr kn kv ka ke' v0 v2 vb hl l0 l1 l3
    by_cases he : e = n
    · subst he
      by_cases q : e - p ≤ 4
      · exact znO0 c hM hD hy e p v n0 n1 (by omega) (by omega) v0 v2 (by omega) (by omega) kn kv ka ke' l0 l1 l3 (fun h2 u1 u2 u3 kn2 k3 k4 k5 k6 k7 => ⟨rfl, rfl, rfl, u1, ly_fr_tr fr u2, Or.inr ⟨p, e, 2, v, tk_of q1 p1 (Int.le_refl _) hb r0 hl (fun z => by omega) (fun _ => ⟨rfl, vb q⟩) (fun z => by rw [mm] at z; omega), k3, k4, ⟨k6, fun z => by omega, fun _ => k7⟩, fun z => by omega, fun _ => k5⟩⟩)
      · exact znO1 c hM hD hy e p n0 n1 (by omega) (by omega) (by omega) kn ka ke' l0 l1 l3 (fun h2 u1 u2 u3 kn2 k3 k4 k6 k7 => ⟨rfl, rfl, rfl, u1, ly_fr_tr fr u2, Or.inr ⟨p, e, 3, v, tk_of q1 p1 (Int.le_refl _) hb r0 hl (fun z => by omega) (fun z => by rw [mm] at z; omega) (fun _ => rfl), k3, k4, ⟨k6, fun z => by omega, fun _ => k7⟩, fun z => by omega, fun z => by omega⟩⟩)
    · obtain ⟨x, kx, x0, x1⟩ := hp_rowb (cst := cst) (i := e) hy th_BT (by omega) (by omega)
      have kx' : ly_hv cst h0 20224 e = some x := by
        rw [← hp_sameb th_BT rfl hy0 hy fr]
        exact kx
      have fx := gs_fs kx'
      by_cases qq : 48 ≤ x % 256 ∧ x % 256 ≤ 57
      · have ke : tkk ((gs_f cst h0) e) = 2 := by rw [fx]; exact tkk_d qq.1 qq.2
        have hl2 : ∀ z, p ≤ z → z < e + 1 → tkk ((gs_f cst h0) z) = 2 := fun z z0 z1 => if w : z = e then by rw [w]; exact ke else hl z z0 (by omega)
        have tv : tkv ((gs_f cst h0) e) = x % 256 - 48 := by rw [fx]; exact tkv_o (by omega)
        by_cases q2 : e - p ≤ 3
        · have vv := vb (by omega)
          have ev : 10 * v + x % 256 - 48 = tk_w (gs_f cst h0) 10 p (e + 1 - p).toNat := by
            rw [show (e + 1 - p).toNat = (e - p).toNat + 1 by omega, tk_w, ← vv, show p + ((e - p).toNat : Int) = e by omega, tv]
            omega
          have bd := tk_wd (f := (gs_f cst h0)) (s := p) (e - p).toNat (fun z za zb => hl z za (by omega))
          rw [← vv] at bd
          have pw : 10 ^ (e - p).toNat ≤ 10 ^ 3 := Nat.pow_le_pow_right (by decide) (by omega)
          generalize 10 ^ (e - p).toNat = zz at bd pw
          have pv : (10 : Nat) ^ 3 = 1000 := by decide
          exact znN0 c hM hD hy n p e x (x % 256) v n0 n1 (by omega) (by omega) (by omega) (by omega) x0 x1 qq.1 qq.2 v0 (by omega) (by omega) (by omega) (by omega) kn kx (hp_m8 x) kv ka ke' l0 l1 l3 (fun l2 h2 u1 u2 u3 kn2 k3 k6 k7 m0 m1 m3 => ih h2 l2 (e + 1) (10 * v + x % 256 - 48) (by omega) (by omega) (by omega) u1 (ly_fr_tr fr u2) kn2 k3 k6 k7 (by omega) (by omega) (fun _ => ev) hl2 m0 m1 m3)
        · exact znN1 c hM hD hy n p e x (x % 256) v n0 n1 (by omega) (by omega) (by omega) (by omega) x0 x1 qq.1 qq.2 v0 v2 (by omega) (by omega) kn kx (hp_m8 x) kv ka ke' l0 l1 l3 (fun l2 h2 u1 u2 u3 kn2 k3 k6 k7 m0 m1 m3 => ih h2 l2 (e + 1) v (by omega) (by omega) (by omega) u1 (ly_fr_tr fr u2) kn2 k3 k6 k7 v0 v2 (fun z => by omega) hl2 m0 m1 m3)
      · have ne : tkk ((gs_f cst h0) e) ≠ 2 := fun z => by
          rw [fx] at z
          have := tkk_2 z
          omega
        have pe : p < e := by
          by_cases z : p = e
          · rw [← z] at ne
            exact absurd lp ne
          · omega
        by_cases q : e - p ≤ 4
        · by_cases q3 : x % 256 ≤ 47
          · exact znP0 c hM hD hy n p e x (x % 256) v n0 n1 (by omega) (by omega) (by omega) (by omega) x0 x1 (by omega) q3 v0 v2 (by omega) (by omega) (by omega) kn kx (hp_m8 x) kv ka ke' l0 l1 l3 (fun h2 u1 u2 u3 kn2 k3 k4 k5 k6 k7 => ⟨rfl, rfl, rfl, u1, ly_fr_tr fr u2, Or.inr ⟨p, e, 2, v, tk_of q1 pe (by omega) hb r0 hl (fun _ => ne) (fun _ => ⟨rfl, vb q⟩) (fun z => by rw [mm] at z; omega), k3, k4, ⟨k6, fun z => by omega, fun _ => k7⟩, fun z => by omega, fun _ => k5⟩⟩)
          · exact znP1 c hM hD hy n p e x (x % 256) v n0 n1 (by omega) (by omega) (by omega) (by omega) x0 x1 (by omega) (by omega) v0 v2 (by omega) (by omega) (by omega) kn kx (hp_m8 x) kv ka ke' l0 l1 l3 (fun h2 u1 u2 u3 kn2 k3 k4 k5 k6 k7 => ⟨rfl, rfl, rfl, u1, ly_fr_tr fr u2, Or.inr ⟨p, e, 2, v, tk_of q1 pe (by omega) hb r0 hl (fun _ => ne) (fun _ => ⟨rfl, vb q⟩) (fun z => by rw [mm] at z; omega), k3, k4, ⟨k6, fun z => by omega, fun _ => k7⟩, fun z => by omega, fun _ => k5⟩⟩)
        · by_cases q3 : x % 256 ≤ 47
          · exact znR0 c hM hD hy n p e x (x % 256) n0 n1 (by omega) (by omega) (by omega) (by omega) x0 x1 (by omega) q3 (by omega) (by omega) kn kx (hp_m8 x) ka ke' l0 l1 l3 (fun h2 u1 u2 u3 kn2 k3 k4 k6 k7 => ⟨rfl, rfl, rfl, u1, ly_fr_tr fr u2, Or.inr ⟨p, e, 3, v, tk_of q1 pe (by omega) hb r0 hl (fun _ => ne) (fun z => by rw [mm] at z; omega) (fun _ => rfl), k3, k4, ⟨k6, fun z => by omega, fun _ => k7⟩, fun z => by omega, fun z => by omega⟩⟩)
          · exact znR1 c hM hD hy n p e x (x % 256) n0 n1 (by omega) (by omega) (by omega) (by omega) x0 x1 (by omega) (by omega) (by omega) (by omega) kn kx (hp_m8 x) ka ke' l0 l1 l3 (fun h2 u1 u2 u3 kn2 k3 k4 k6 k7 => ⟨rfl, rfl, rfl, u1, ly_fr_tr fr u2, Or.inr ⟨p, e, 3, v, tk_of q1 pe (by omega) hb r0 hl (fun _ => ne) (fun z => by rw [mm] at z; omega) (fun _ => rfl), k3, k4, ⟨k6, fun z => by omega, fun _ => k7⟩, fun z => by omega, fun z => by omega⟩⟩)
/-- behind the blanks -/
theorem zn_at {cst : am_K} {strs : List Nat} {D : Nat} {M : am_M} {h0 : am_H} (c : hp_C cst strs D) (hM : m_P[299]? = some M) (hD : (8 : Int) ≤ (D : Int) + 1) {n e0 p : Int} (n0 : 0 ≤ n) (n1 : n ≤ 1200) (q0 : 0 ≤ e0) (q1 : e0 ≤ p) (p1 : p < n) (hy0 : ly_hy m_tt ly_TH h0) (hb : ∀ x, e0 ≤ x → x < p → tkk ((gs_f cst h0) x) = 4) : ∀ (h : am_H) (l : am_L), ly_hy m_tt ly_TH h → ly_fr cst [19971, 19972, 19973, 19974, 19975, 19976] h0 h → ly_hv cst h 19970 0 = some n → tkk ((gs_f cst h0) p) ≠ 4 → hp_a l 0 94 → hp_i l 1 p → hp_F cst strs (gs_Φ (gs_f cst h0) cst h0 e0 n) D M 31 l [] h := by
  intro h l hy fr kn nb l0 l1
  obtain ⟨x, kx, x0, x1⟩ := hp_rowb (cst := cst) (i := p) hy th_BT (by omega) (by omega)
  have kx' : ly_hv cst h0 20224 p = some x := by
    rw [← hp_sameb th_BT rfl hy0 hy fr]
    exact kx
  have fx := gs_fs kx'
  have n32 : x % 256 ≠ 32 := fun z => nb (by rw [fx]; exact tkk_b (Or.inl z))
  have n10 : x % 256 ≠ 10 := fun z => nb (by rw [fx]; exact tkk_b (Or.inr z))
  by_cases q : 97 ≤ x % 256 ∧ x % 256 ≤ 122
  · have lp : tkk ((gs_f cst h0) p) = 1 := by rw [fx]; exact tkk_l q.1 q.2
    exact znF c hM hD hy n p x (x % 256) n0 n1 (by omega) (by omega) x0 x1 q.1 q.2 (by omega) kn kx (hp_m8 x) l0 l1 (fun l2 h2 u1 u2 u3 kn2 k3 k6 k7 m0 m1 m3 => zn_word c hM hD n0 n1 q0 q1 p1 hy0 hb lp ((n - p).toNat + 1) h2 l2 p 0 (Nat.lt_succ_self _) (Int.le_refl _) (by omega) u1 (ly_fr_tr fr u2) kn2 k3 k6 k7 (by omega) (by omega) (fun _ => by rw [show (p - p).toNat = 0 by omega]; rfl) (fun z z0 z1 => by omega) m0 m1 m3)
  by_cases q2 : 48 ≤ x % 256 ∧ x % 256 ≤ 57
  · have lp : tkk ((gs_f cst h0) p) = 2 := by rw [fx]; exact tkk_d q2.1 q2.2
    exact znM c hM hD hy n p x (x % 256) n0 n1 (by omega) (by omega) x0 x1 q2.1 q2.2 (by omega) kn kx (hp_m8 x) l0 l1 (fun l2 h2 u1 u2 u3 kn2 k3 k6 k7 m0 m1 m3 => zn_num c hM hD n0 n1 q0 q1 p1 hy0 hb lp ((n - (p + 1)).toNat + 1) h2 l2 (p + 1) (x % 256 - 48) (Nat.lt_succ_self _) (by omega) (by omega) u1 (ly_fr_tr fr u2) kn2 k3 k6 k7 (by omega) (by omega) (fun _ => by
      rw [show (p + 1 - p).toNat = 0 + 1 by omega, tk_w, tk_w, show p + ((0 : Nat) : Int) = p by omega, fx, tkv_o (by omega)]
      omega) (fun z z0 z1 => by rw [show z = p by omega]; exact lp) m0 m1 m3)
  by_cases s0 : x % 256 = 59
  · have ex : x = 59 := by omega
    have ek : tkk ((gs_f cst h0) p) = 59 := by
      rw [fx, s0]
      rfl
    rw [ex] at kx
    exact znS0 c hM hD hy n p n0 n1 (by omega) (by omega) (by omega) kn kx l0 l1 (fun h2 u1 u2 u3 kn2 k3 k4 k6 k7 => ⟨rfl, rfl, rfl, u1, ly_fr_tr fr u2, Or.inr ⟨p, p + 1, 59, 0, tk_one q1 p1 hb ek (by unfold tk_r; omega) (by omega), k3, k4, ⟨k6, fun z => by omega, fun _ => k7⟩, fun z => by omega, fun z => by omega⟩⟩)
  by_cases s1 : x % 256 = 61
  · have ex : x = 61 := by omega
    have ek : tkk ((gs_f cst h0) p) = 61 := by
      rw [fx, s1]
      rfl
    rw [ex] at kx
    exact znS1 c hM hD hy n p n0 n1 (by omega) (by omega) (by omega) kn kx l0 l1 (fun h2 u1 u2 u3 kn2 k3 k4 k6 k7 => ⟨rfl, rfl, rfl, u1, ly_fr_tr fr u2, Or.inr ⟨p, p + 1, 61, 0, tk_one q1 p1 hb ek (by unfold tk_r; omega) (by omega), k3, k4, ⟨k6, fun z => by omega, fun _ => k7⟩, fun z => by omega, fun z => by omega⟩⟩)
  by_cases s2 : x % 256 = 40
  · have ex : x = 40 := by omega
    have ek : tkk ((gs_f cst h0) p) = 40 := by
      rw [fx, s2]
      rfl
    rw [ex] at kx
    exact znS2 c hM hD hy n p n0 n1 (by omega) (by omega) (by omega) kn kx l0 l1 (fun h2 u1 u2 u3 kn2 k3 k4 k6 k7 => ⟨rfl, rfl, rfl, u1, ly_fr_tr fr u2, Or.inr ⟨p, p + 1, 40, 0, tk_one q1 p1 hb ek (by unfold tk_r; omega) (by omega), k3, k4, ⟨k6, fun z => by omega, fun _ => k7⟩, fun z => by omega, fun z => by omega⟩⟩)
  by_cases s3 : x % 256 = 41
  · have ex : x = 41 := by omega
    have ek : tkk ((gs_f cst h0) p) = 41 := by
      rw [fx, s3]
      rfl
    rw [ex] at kx
    exact znS3 c hM hD hy n p n0 n1 (by omega) (by omega) (by omega) kn kx l0 l1 (fun h2 u1 u2 u3 kn2 k3 k4 k6 k7 => ⟨rfl, rfl, rfl, u1, ly_fr_tr fr u2, Or.inr ⟨p, p + 1, 41, 0, tk_one q1 p1 hb ek (by unfold tk_r; omega) (by omega), k3, k4, ⟨k6, fun z => by omega, fun _ => k7⟩, fun z => by omega, fun z => by omega⟩⟩)
  by_cases s4 : x % 256 = 43
  · have ex : x = 43 := by omega
    have ek : tkk ((gs_f cst h0) p) = 43 := by
      rw [fx, s4]
      rfl
    rw [ex] at kx
    exact znS4 c hM hD hy n p n0 n1 (by omega) (by omega) (by omega) kn kx l0 l1 (fun h2 u1 u2 u3 kn2 k3 k4 k6 k7 => ⟨rfl, rfl, rfl, u1, ly_fr_tr fr u2, Or.inr ⟨p, p + 1, 43, 0, tk_one q1 p1 hb ek (by unfold tk_r; omega) (by omega), k3, k4, ⟨k6, fun z => by omega, fun _ => k7⟩, fun z => by omega, fun z => by omega⟩⟩)
  have ek : tkk ((gs_f cst h0) p) = 3 := by
    rw [fx]
    exact tkk_w q q2 (by omega) (by omega)
  by_cases z0 : x % 256 ≤ 9
  · exact znT0 c hM hD hy n p x (x % 256) n0 n1 (by omega) (by omega) x0 x1 (by omega) (by omega) (by omega) kn kx (hp_m8 x) l0 l1 (fun h2 u1 u2 u3 kn2 k3 k4 k6 k7 => ⟨rfl, rfl, rfl, u1, ly_fr_tr fr u2, Or.inr ⟨p, p + 1, 3, 0, tk_one q1 p1 hb ek (by unfold tk_r; omega) (by omega), k3, k4, ⟨k6, fun z => by omega, fun _ => k7⟩, fun z => by omega, fun z => by omega⟩⟩)
  by_cases z1 : x % 256 ≤ 31
  · exact znT1 c hM hD hy n p x (x % 256) n0 n1 (by omega) (by omega) x0 x1 (by omega) (by omega) (by omega) kn kx (hp_m8 x) l0 l1 (fun h2 u1 u2 u3 kn2 k3 k4 k6 k7 => ⟨rfl, rfl, rfl, u1, ly_fr_tr fr u2, Or.inr ⟨p, p + 1, 3, 0, tk_one q1 p1 hb ek (by unfold tk_r; omega) (by omega), k3, k4, ⟨k6, fun z => by omega, fun _ => k7⟩, fun z => by omega, fun z => by omega⟩⟩)
  by_cases z2 : x % 256 ≤ 39
  · exact znT2 c hM hD hy n p x (x % 256) n0 n1 (by omega) (by omega) x0 x1 (by omega) (by omega) (by omega) kn kx (hp_m8 x) l0 l1 (fun h2 u1 u2 u3 kn2 k3 k4 k6 k7 => ⟨rfl, rfl, rfl, u1, ly_fr_tr fr u2, Or.inr ⟨p, p + 1, 3, 0, tk_one q1 p1 hb ek (by unfold tk_r; omega) (by omega), k3, k4, ⟨k6, fun z => by omega, fun _ => k7⟩, fun z => by omega, fun z => by omega⟩⟩)
  by_cases z3 : x % 256 = 42
  · exact znT3 c hM hD hy n p x (x % 256) n0 n1 (by omega) (by omega) x0 x1 (by omega) (by omega) (by omega) kn kx (hp_m8 x) l0 l1 (fun h2 u1 u2 u3 kn2 k3 k4 k6 k7 => ⟨rfl, rfl, rfl, u1, ly_fr_tr fr u2, Or.inr ⟨p, p + 1, 3, 0, tk_one q1 p1 hb ek (by unfold tk_r; omega) (by omega), k3, k4, ⟨k6, fun z => by omega, fun _ => k7⟩, fun z => by omega, fun z => by omega⟩⟩)
  by_cases z4 : x % 256 ≤ 47
  · exact znT4 c hM hD hy n p x (x % 256) n0 n1 (by omega) (by omega) x0 x1 (by omega) (by omega) (by omega) kn kx (hp_m8 x) l0 l1 (fun h2 u1 u2 u3 kn2 k3 k4 k6 k7 => ⟨rfl, rfl, rfl, u1, ly_fr_tr fr u2, Or.inr ⟨p, p + 1, 3, 0, tk_one q1 p1 hb ek (by unfold tk_r; omega) (by omega), k3, k4, ⟨k6, fun z => by omega, fun _ => k7⟩, fun z => by omega, fun z => by omega⟩⟩)
  by_cases z5 : x % 256 = 58
  · exact znT5 c hM hD hy n p x (x % 256) n0 n1 (by omega) (by omega) x0 x1 (by omega) (by omega) (by omega) kn kx (hp_m8 x) l0 l1 (fun h2 u1 u2 u3 kn2 k3 k4 k6 k7 => ⟨rfl, rfl, rfl, u1, ly_fr_tr fr u2, Or.inr ⟨p, p + 1, 3, 0, tk_one q1 p1 hb ek (by unfold tk_r; omega) (by omega), k3, k4, ⟨k6, fun z => by omega, fun _ => k7⟩, fun z => by omega, fun z => by omega⟩⟩)
  by_cases z6 : x % 256 = 60
  · exact znT6 c hM hD hy n p x (x % 256) n0 n1 (by omega) (by omega) x0 x1 (by omega) (by omega) (by omega) kn kx (hp_m8 x) l0 l1 (fun h2 u1 u2 u3 kn2 k3 k4 k6 k7 => ⟨rfl, rfl, rfl, u1, ly_fr_tr fr u2, Or.inr ⟨p, p + 1, 3, 0, tk_one q1 p1 hb ek (by unfold tk_r; omega) (by omega), k3, k4, ⟨k6, fun z => by omega, fun _ => k7⟩, fun z => by omega, fun z => by omega⟩⟩)
  by_cases z7 : x % 256 ≤ 96
  · exact znT7 c hM hD hy n p x (x % 256) n0 n1 (by omega) (by omega) x0 x1 (by omega) (by omega) (by omega) kn kx (hp_m8 x) l0 l1 (fun h2 u1 u2 u3 kn2 k3 k4 k6 k7 => ⟨rfl, rfl, rfl, u1, ly_fr_tr fr u2, Or.inr ⟨p, p + 1, 3, 0, tk_one q1 p1 hb ek (by unfold tk_r; omega) (by omega), k3, k4, ⟨k6, fun z => by omega, fun _ => k7⟩, fun z => by omega, fun z => by omega⟩⟩)
  exact znT8 c hM hD hy n p x (x % 256) n0 n1 (by omega) (by omega) x0 x1 (by omega) (by omega) (by omega) kn kx (hp_m8 x) l0 l1 (fun h2 u1 u2 u3 kn2 k3 k4 k6 k7 => ⟨rfl, rfl, rfl, u1, ly_fr_tr fr u2, Or.inr ⟨p, p + 1, 3, 0, tk_one q1 p1 hb ek (by unfold tk_r; omega) (by omega), k3, k4, ⟨k6, fun z => by omega, fun _ => k7⟩, fun z => by omega, fun z => by omega⟩⟩)
theorem zn_skip {cst : am_K} {strs : List Nat} {D : Nat} {M : am_M} {h0 : am_H} (c : hp_C cst strs D) (hM : m_P[299]? = some M) (hD : (8 : Int) ≤ (D : Int) + 1) {n e0 : Int} (n0 : 0 ≤ n) (n1 : n ≤ 1200) (q0 : 0 ≤ e0) (hy0 : ly_hy m_tt ly_TH h0) : ∀ (N : Nat) (h : am_H) (l : am_L) (p : Int), (n - p).toNat < N → e0 ≤ p → p ≤ n → ly_hy m_tt ly_TH h → ly_fr cst [19971, 19972, 19973, 19974, 19975, 19976] h0 h → ly_hv cst h 19970 0 = some n → (∀ x, e0 ≤ x → x < p → tkk ((gs_f cst h0) x) = 4) → hp_a l 0 94 → hp_i l 1 p → hp_F cst strs (gs_Φ (gs_f cst h0) cst h0 e0 n) D M 5 l [] h := by
  intro N
  induction N with
  | zero => intro h l p hN; omega
  | succ N ih =>
    intro h l p hN q1 p2 hy fr kn hb l0 l1
    by_cases hp : p = n
    · rw [hp] at l1 hb
      exact znD c hM hD hy n n0 n1 kn l0 l1 (fun l2 h2 u1 u2 u3 kn2 m0 m1 => znE c hM hD u1 n n0 n1 kn2 m0 m1 (fun h3 w1 w2 w3 kn3 k3 k4 k5 k7 => ⟨rfl, rfl, rfl, w1, ly_fr_tr fr (ly_fr_tr u2 w2), Or.inl ⟨hb, k3, k4, k5, k7⟩⟩))
    · obtain ⟨x, kx, x0, x1⟩ := hp_rowb (cst := cst) (i := p) hy th_BT (by omega) (by omega)
      have kx' : ly_hv cst h0 20224 p = some x := by
        rw [← hp_sameb th_BT rfl hy0 hy fr]
        exact kx
      have fx := gs_fs kx'
      have more : tkk ((gs_f cst h0) p) = 4 → ∀ z, e0 ≤ z → z < p + 1 → tkk ((gs_f cst h0) z) = 4 := fun e z z0 z1 => if w : z = p then by rw [w]; exact e else hb z z0 (by omega)
      by_cases z1 : x = 32
      · subst z1
        exact znA c hM hD hy n p n0 n1 (by omega) (by omega) (by omega) kn kx l0 l1 (fun l2 h2 u1 u2 u3 kn2 m0 m1 => ih h2 l2 (p + 1) (by omega) (by omega) (by omega) u1 (ly_fr_tr fr u2) kn2 (more (by rw [fx]; rfl)) m0 m1)
      by_cases z2 : x = 10
      · subst z2
        exact znB c hM hD hy n p n0 n1 (by omega) (by omega) (by omega) kn kx l0 l1 (fun l2 h2 u1 u2 u3 kn2 m0 m1 => ih h2 l2 (p + 1) (by omega) (by omega) (by omega) u1 (ly_fr_tr fr u2) kn2 (more (by rw [fx]; rfl)) m0 m1)
      have nb : tkk ((gs_f cst h0) p) ≠ 4 := fun z => by
        rw [fx] at z
        have := tkk_4 z
        omega
      have at31 : ∀ (l2 : am_L) (h2 : am_H), ly_hy m_tt ly_TH h2 → ly_fr cst [19971, 19972, 19973, 19974, 19975, 19976] h h2 → h.length ≤ h2.length → ly_hv cst h2 19970 0 = some n → hp_a l2 0 94 → hp_i l2 1 p → hp_F cst strs (gs_Φ (gs_f cst h0) cst h0 e0 n) D M 31 l2 [] h2 := fun l2 h2 u1 u2 u3 kn2 m0 m1 => zn_at c hM hD n0 n1 q0 q1 (by omega) hy0 hb h2 l2 u1 (ly_fr_tr fr u2) kn2 nb m0 m1
      by_cases z3 : x % 256 ≤ 9
      · exact znC0 c hM hD hy n p x (x % 256) n0 n1 (by omega) (by omega) x0 x1 (by omega) z3 (by omega) kn kx (hp_m8 x) l0 l1 at31
      by_cases z4 : x % 256 ≤ 31
      · exact znC1 c hM hD hy n p x (x % 256) n0 n1 (by omega) (by omega) x0 x1 (by omega) z4 (by omega) kn kx (hp_m8 x) l0 l1 at31
      exact znC2 c hM hD hy n p x (x % 256) n0 n1 (by omega) (by omega) x0 x1 (by omega) (by omega) (by omega) kn kx (hp_m8 x) l0 l1 at31
/-- scan: the next token -/
theorem zc_run {cst : am_K} {strs : List Nat} {D : Nat} {h : am_H} (c : hp_C cst strs D) (hD : (8 : Int) ≤ (D : Int) + 1) (hy : ly_hy m_tt ly_TH h) {n e0 : Int} (n0 : 0 ≤ n) (n1 : n ≤ 1200) (q0 : 0 ≤ e0) (q1 : e0 ≤ n) (kn : ly_hv cst h 19970 0 = some n) (ke : ly_hv cst h 19974 0 = some e0) :
    ∃ r, am_Run cst m_cl m_tt m_P strs sx_bi (D + 1) 299 [.ref 94] h r ∧ gs_Φ (gs_f cst h) cst h e0 n r := by
  obtain ⟨M, hM, hl⟩ := hp_M (mi := 299) (k := 1) (by decide +kernel)
  obtain ⟨n', r, hgo, r1, r2, r3, r4⟩ := zn0 (Φ := gs_Φ (gs_f cst h) cst h e0 n) (l := lv_args 0 [.ref 94]) c hM hD hy n e0 n0 n1 q0 (by omega) kn ke rfl (fun l1 h1 u1 u2 u3 k1 m0 m1 => zn_skip (h0 := h) c hM hD n0 n1 q0 hy ((n - e0).toNat + 1) h1 l1 e0 (Nat.lt_succ_self _) (Int.le_refl _) q1 u1 u2 k1 (fun z z0 z1 => by omega) m0 m1)
  simp only [Nat.zero_add] at r2 r3
  exact ⟨r, Or.inr ⟨M, n', hM, hl, hgo⟩, r1, r2, r3, r4⟩
theorem gs_same {cst : am_K} {h h' : am_H} {ms : List Nat} (hy : ly_hy m_tt ly_TH h) (hy' : ly_hy m_tt ly_TH h') (fr : ly_fr cst ms h h') (q : ly_has 20224 ms = false) : gs_f cst h' = gs_f cst h := by
  funext k
  unfold gs_f
  rw [show ly_hv cst h' 20224 = ly_hv cst h 20224 from hp_sameb th_BT q hy hy' fr]
/-- take: the first token -/
def zo_Φ (f : Int → Int) (cst : am_K) (h0 : am_H) (n : Int) (r : am_Q) : Prop := r.1 = none ∧ r.2.2.1 = 0 ∧ r.2.2.2 = 0 ∧ ly_hy m_tt ly_TH r.2.1 ∧ ly_fr cst [19969, 19970, 19971, 19972, 19973, 19974, 19975, 19976] h0 r.2.1 ∧ ly_hv cst r.2.1 19969 0 = some 0 ∧ ly_hv cst r.2.1 19970 0 = some n ∧ gs_E f cst r.2.1 0 n
theorem zo_take {cst : am_K} {strs : List Nat} {D : Nat} {h : am_H} (c1 : hp_C cst strs D) (c : hp_C cst strs (D + 1)) (hD : (8 : Int) ≤ (D : Int) + 1) (hy : ly_hy m_tt ly_TH h) {n : Int} (n0 : 0 ≤ n) (n1 : n ≤ 1200) (kn : ly_hv cst h 19969 0 = some n) :
    ∃ r, am_Run cst m_cl m_tt m_P strs sx_bi (D + 1 + 1) 298 [.ref 94] h r ∧ zo_Φ (gs_f cst h) cst h n r := by
  obtain ⟨M, hM, hl⟩ := hp_M (mi := 298) (k := 1) (by decide +kernel)
  have go : hp_F cst strs (zo_Φ (gs_f cst h) cst h n) (D + 1) M 0 (lv_args 0 [.ref 94]) [] h := by
    refine zo0 c hM (by omega) hy n n0 n1 kn rfl (fun l1 h1 u1 u2 u3 k1 k2 k3 g0 => ?_)
    obtain ⟨r, hrun, r1, r2, r3, rhy, rfr, rE⟩ := zc_run c1 hD u1 n0 n1 (Int.le_refl 0) n0 k2 k3
    refine hp_call (mi := 298) (pc := 19) (tg := 299) (na := 1) (c := 78) (ci := 12) (st0 := [.ref 94]) (st := []) (av := []) hM (by decide +kernel) u1 rfl rfl rfl (by decide) hrun r2 r3 ?_
    rw [r1]
    rw [gs_same hy u1 u2 rfl] at rE
    exact zo1 c hM (by omega) rhy n n0 n1 (rfr _ _ _ rfl k2) g0 (fun h3 v1 v2 v3 k4 => ⟨rfl, rfl, rfl, v1, ly_fr_tr (hp_sub2 rfl u2) (ly_fr_tr (hp_sub2 rfl rfr) (hp_sub2 rfl v2)), v2 _ _ _ rfl (rfr _ _ _ rfl k1), k4, gs_mv rE v2⟩)
  obtain ⟨n', r, hgo, r1, r2, r3, r4⟩ := go
  simp only [Nat.zero_add] at r2 r3
  exact ⟨r, Or.inr ⟨M, n', hM, hl, hgo⟩, r1, r2, r3, r4⟩
/-- one text in both -/
theorem gs_even {cst : am_K} {h1 h2 : am_H} (T : tp_H cst h1 h2) (hy2 : ly_hy m_tt ly_TH h2) {k : Int} (k0 : 0 ≤ k) (k1 : k < 1200) : gs_f cst h2 k = gt_g cst h1 512 k := by
  obtain ⟨x, hx, -, -⟩ := hp_rowb (cst := cst) (i := k) hy2 th_BT k0 (by omega)
  rw [gs_fs hx, gt_gs (T k x hx)]
