/-! PRINTED by wip/p2/hp_scan.py: scan, take, oneWord of the reference, exactly as to one WORD alone -/
theorem sn0_k : hp_chk 299 0 2 [(0, 0, 1200), (1, 0, 1200)] [] [(0, .inr (.inr (.inl (some 94))))] [] [(19970, (0, []), (0, [(0, 1)])), (19974, (0, []), (0, [(1, 1)]))] [19971, 19972, 19973, 19974, 19975, 19976] 6 [(5, ([], 2, [(0, 0, 1200), (1, 0, 1200)], [], [(0, .inr (.inr (.inl (some 94)))), (1, .inl (0, [(1, 1)]))], [], [(19970, (0, []), (0, [(0, 1)]))]))] [] = true := by decide +kernel
theorem sn0 {cst : am_K} {strs : List Nat} {Φ : am_Q → Prop} {D : Nat} {M : am_M} {h : am_H} {l : am_L} (c : hp_C cst strs D) (hM : m_P[299]? = some M) (hD : (6 : Int) ≤ (D : Int) + 1) (hy : ly_hy m_tt ly_TH h) (n p : Int) (b0 : 0 ≤ n) (t0 : n ≤ 1200) (b1 : 0 ≤ p) (t1 : p ≤ 1200) (k0 : ly_hv cst h 19970 0 = some (n)) (k1 : ly_hv cst h 19974 0 = some (p)) (l0 : hp_a l 0 94) (e0 : ∀ (l' : am_L) (h' : am_H), ly_hy m_tt ly_TH h' → ly_fr cst [19971, 19972, 19973, 19974, 19975, 19976] h h' → h.length ≤ h'.length → ly_hv cst h' 19970 0 = some (n) → hp_a l' 0 94 → hp_i l' 1 (p) → hp_F cst strs Φ D M 5 l' [] h') : hp_F cst strs Φ D M 0 l [] h := by
  refine hp_arc c hM sn0_k hD [n, p] rfl hy (hp_Bc (z := n) rfl b0 t0 (hp_Bc (z := p) rfl b1 t1 hp_Bn)) hp_Fn (hp_Kc (zi := (0 + 0)) (zv := (0 + (1 * n + 0))) k0 rfl rfl (by omega) (by omega) (hp_Kc (zi := (0 + 0)) (zv := (0 + (1 * p + 0))) k1 rfl rfl (by omega) (by omega) hp_Kn)) (hp_La l0 hp_Ln) trivial ?_ ?_
  · intro p hp ys l' st' h' hys a1 a2 a3 gZ gL gS
    rcases List.mem_cons.mp hp with rfl | hp
    · obtain rfl := hp_y0 hys
      cases hp_gSn gS
      exact e0 l' h' a1 a2 a3 (hp_gK (zi := (0 + 0)) (zv := (0 + (1 * n + 0))) gZ.2.2.2 (List.mem_of_getElem? (i := 0) rfl) rfl rfl (by omega) (by omega)) (hp_gLa gL (List.mem_of_getElem? (i := 0) rfl) (by decide)) (hp_gLi (z := (0 + (1 * p + 0))) gL (List.mem_of_getElem? (i := 1) rfl) rfl (by omega))
    cases hp
  · intro p hp ys v h' hys a1 a2 a3 gZ gS
    cases hp
theorem snA_k : hp_chk 299 5 2 [(0, 0, 1200), (1, 0, 1199)] [((-1), [(0, 1), (1, (-1))])] [(0, .inr (.inr (.inl (some 94)))), (1, .inl (0, [(1, 1)]))] [] [(19970, (0, []), (0, [(0, 1)])), (20224, (0, [(1, 1)]), (32, []))] [19971, 19972, 19973, 19974, 19975, 19976] 6 [(5, ([], 2, [(0, 0, 1200), (1, 0, 1199)], [], [(0, .inr (.inr (.inl (some 94)))), (1, .inl (1, [(1, 1)]))], [], [(19970, (0, []), (0, [(0, 1)]))]))] [] = true := by decide +kernel
theorem snA {cst : am_K} {strs : List Nat} {Φ : am_Q → Prop} {D : Nat} {M : am_M} {h : am_H} {l : am_L} (c : hp_C cst strs D) (hM : m_P[299]? = some M) (hD : (6 : Int) ≤ (D : Int) + 1) (hy : ly_hy m_tt ly_TH h) (n p : Int) (b0 : 0 ≤ n) (t0 : n ≤ 1200) (b1 : 0 ≤ p) (t1 : p ≤ 1199) (f0 : 0 ≤ (n - p - 1)) (k0 : ly_hv cst h 19970 0 = some (n)) (k1 : ly_hv cst h 20224 (p) = some 32) (l0 : hp_a l 0 94) (l1 : hp_i l 1 (p)) (e0 : ∀ (l' : am_L) (h' : am_H), ly_hy m_tt ly_TH h' → ly_fr cst [19971, 19972, 19973, 19974, 19975, 19976] h h' → h.length ≤ h'.length → ly_hv cst h' 19970 0 = some (n) → hp_a l' 0 94 → hp_i l' 1 (p + 1) → hp_F cst strs Φ D M 5 l' [] h') : hp_F cst strs Φ D M 5 l [] h := by
  refine hp_arc c hM snA_k hD [n, p] rfl hy (hp_Bc (z := n) rfl b0 t0 (hp_Bc (z := p) rfl b1 t1 hp_Bn)) (hp_Fc (z := ((-1) + (1 * n + ((-1) * p + 0)))) rfl (by omega) hp_Fn) (hp_Kc (zi := (0 + 0)) (zv := (0 + (1 * n + 0))) k0 rfl rfl (by omega) (by omega) (hp_Kc (zi := (0 + (1 * p + 0))) (zv := (32 + 0)) k1 rfl rfl (by omega) (by omega) hp_Kn)) (hp_La l0 (hp_Li (z := (0 + (1 * p + 0))) l1 rfl (by omega) hp_Ln)) trivial ?_ ?_
  · intro p hp ys l' st' h' hys a1 a2 a3 gZ gL gS
    rcases List.mem_cons.mp hp with rfl | hp
    · obtain rfl := hp_y0 hys
      cases hp_gSn gS
      exact e0 l' h' a1 a2 a3 (hp_gK (zi := (0 + 0)) (zv := (0 + (1 * n + 0))) gZ.2.2.2 (List.mem_of_getElem? (i := 0) rfl) rfl rfl (by omega) (by omega)) (hp_gLa gL (List.mem_of_getElem? (i := 0) rfl) (by decide)) (hp_gLi (z := (1 + (1 * p + 0))) gL (List.mem_of_getElem? (i := 1) rfl) rfl (by omega))
    cases hp
  · intro p hp ys v h' hys a1 a2 a3 gZ gS
    cases hp
theorem snB_k : hp_chk 299 5 2 [(0, 0, 1200), (1, 0, 1199)] [((-1), [(0, 1), (1, (-1))])] [(0, .inr (.inr (.inl (some 94)))), (1, .inl (0, [(1, 1)]))] [] [(19970, (0, []), (0, [(0, 1)])), (20224, (0, [(1, 1)]), (10, []))] [19971, 19972, 19973, 19974, 19975, 19976] 6 [(5, ([], 2, [(0, 0, 1200), (1, 0, 1199)], [], [(0, .inr (.inr (.inl (some 94)))), (1, .inl (1, [(1, 1)]))], [], [(19970, (0, []), (0, [(0, 1)]))]))] [] = true := by decide +kernel
theorem snB {cst : am_K} {strs : List Nat} {Φ : am_Q → Prop} {D : Nat} {M : am_M} {h : am_H} {l : am_L} (c : hp_C cst strs D) (hM : m_P[299]? = some M) (hD : (6 : Int) ≤ (D : Int) + 1) (hy : ly_hy m_tt ly_TH h) (n p : Int) (b0 : 0 ≤ n) (t0 : n ≤ 1200) (b1 : 0 ≤ p) (t1 : p ≤ 1199) (f0 : 0 ≤ (n - p - 1)) (k0 : ly_hv cst h 19970 0 = some (n)) (k1 : ly_hv cst h 20224 (p) = some 10) (l0 : hp_a l 0 94) (l1 : hp_i l 1 (p)) (e0 : ∀ (l' : am_L) (h' : am_H), ly_hy m_tt ly_TH h' → ly_fr cst [19971, 19972, 19973, 19974, 19975, 19976] h h' → h.length ≤ h'.length → ly_hv cst h' 19970 0 = some (n) → hp_a l' 0 94 → hp_i l' 1 (p + 1) → hp_F cst strs Φ D M 5 l' [] h') : hp_F cst strs Φ D M 5 l [] h := by
  refine hp_arc c hM snB_k hD [n, p] rfl hy (hp_Bc (z := n) rfl b0 t0 (hp_Bc (z := p) rfl b1 t1 hp_Bn)) (hp_Fc (z := ((-1) + (1 * n + ((-1) * p + 0)))) rfl (by omega) hp_Fn) (hp_Kc (zi := (0 + 0)) (zv := (0 + (1 * n + 0))) k0 rfl rfl (by omega) (by omega) (hp_Kc (zi := (0 + (1 * p + 0))) (zv := (10 + 0)) k1 rfl rfl (by omega) (by omega) hp_Kn)) (hp_La l0 (hp_Li (z := (0 + (1 * p + 0))) l1 rfl (by omega) hp_Ln)) trivial ?_ ?_
  · intro p hp ys l' st' h' hys a1 a2 a3 gZ gL gS
    rcases List.mem_cons.mp hp with rfl | hp
    · obtain rfl := hp_y0 hys
      cases hp_gSn gS
      exact e0 l' h' a1 a2 a3 (hp_gK (zi := (0 + 0)) (zv := (0 + (1 * n + 0))) gZ.2.2.2 (List.mem_of_getElem? (i := 0) rfl) rfl rfl (by omega) (by omega)) (hp_gLa gL (List.mem_of_getElem? (i := 0) rfl) (by decide)) (hp_gLi (z := (1 + (1 * p + 0))) gL (List.mem_of_getElem? (i := 1) rfl) rfl (by omega))
    cases hp
  · intro p hp ys v h' hys a1 a2 a3 gZ gS
    cases hp
theorem snC0_k : hp_chk 299 5 4 [(0, 0, 1200), (1, 0, 1199), (2, (-128), 127), (3, 0, 9)] [((-1), [(0, 1), (1, (-1))])] [(0, .inr (.inr (.inl (some 94)))), (1, .inl (0, [(1, 1)]))] [] [(19970, (0, []), (0, [(0, 1)])), (20224, (0, [(1, 1)]), (0, [(2, 1)])), (63008, (0, [(2, 1)]), (0, [(3, 1)]))] [19971, 19972, 19973, 19974, 19975, 19976] 6 [(31, ([], 4, [(0, 0, 1200), (1, 0, 1199), (2, (-128), 127), (3, 0, 9)], [], [(0, .inr (.inr (.inl (some 94)))), (1, .inl (0, [(1, 1)]))], [], [(19970, (0, []), (0, [(0, 1)]))]))] [] = true := by decide +kernel
theorem snC0 {cst : am_K} {strs : List Nat} {Φ : am_Q → Prop} {D : Nat} {M : am_M} {h : am_H} {l : am_L} (c : hp_C cst strs D) (hM : m_P[299]? = some M) (hD : (6 : Int) ≤ (D : Int) + 1) (hy : ly_hy m_tt ly_TH h) (n p x b : Int) (b0 : 0 ≤ n) (t0 : n ≤ 1200) (b1 : 0 ≤ p) (t1 : p ≤ 1199) (b2 : (-128) ≤ x) (t2 : x ≤ 127) (b3 : 0 ≤ b) (t3 : b ≤ 9) (f0 : 0 ≤ (n - p - 1)) (k0 : ly_hv cst h 19970 0 = some (n)) (k1 : ly_hv cst h 20224 (p) = some (x)) (k2 : ly_hv cst h 63008 (x) = some (b)) (l0 : hp_a l 0 94) (l1 : hp_i l 1 (p)) (e0 : ∀ (l' : am_L) (h' : am_H), ly_hy m_tt ly_TH h' → ly_fr cst [19971, 19972, 19973, 19974, 19975, 19976] h h' → h.length ≤ h'.length → ly_hv cst h' 19970 0 = some (n) → hp_a l' 0 94 → hp_i l' 1 (p) → hp_F cst strs Φ D M 31 l' [] h') : hp_F cst strs Φ D M 5 l [] h := by
  refine hp_arc c hM snC0_k hD [n, p, x, b] rfl hy (hp_Bc (z := n) rfl b0 t0 (hp_Bc (z := p) rfl b1 t1 (hp_Bc (z := x) rfl b2 t2 (hp_Bc (z := b) rfl b3 t3 hp_Bn)))) (hp_Fc (z := ((-1) + (1 * n + ((-1) * p + 0)))) rfl (by omega) hp_Fn) (hp_Kc (zi := (0 + 0)) (zv := (0 + (1 * n + 0))) k0 rfl rfl (by omega) (by omega) (hp_Kc (zi := (0 + (1 * p + 0))) (zv := (0 + (1 * x + 0))) k1 rfl rfl (by omega) (by omega) (hp_Kc (zi := (0 + (1 * x + 0))) (zv := (0 + (1 * b + 0))) k2 rfl rfl (by omega) (by omega) hp_Kn))) (hp_La l0 (hp_Li (z := (0 + (1 * p + 0))) l1 rfl (by omega) hp_Ln)) trivial ?_ ?_
  · intro p hp ys l' st' h' hys a1 a2 a3 gZ gL gS
    rcases List.mem_cons.mp hp with rfl | hp
    · obtain rfl := hp_y0 hys
      cases hp_gSn gS
      exact e0 l' h' a1 a2 a3 (hp_gK (zi := (0 + 0)) (zv := (0 + (1 * n + 0))) gZ.2.2.2 (List.mem_of_getElem? (i := 0) rfl) rfl rfl (by omega) (by omega)) (hp_gLa gL (List.mem_of_getElem? (i := 0) rfl) (by decide)) (hp_gLi (z := (0 + (1 * p + 0))) gL (List.mem_of_getElem? (i := 1) rfl) rfl (by omega))
    cases hp
  · intro p hp ys v h' hys a1 a2 a3 gZ gS
    cases hp
theorem snC1_k : hp_chk 299 5 4 [(0, 0, 1200), (1, 0, 1199), (2, (-128), 127), (3, 11, 31)] [((-1), [(0, 1), (1, (-1))])] [(0, .inr (.inr (.inl (some 94)))), (1, .inl (0, [(1, 1)]))] [] [(19970, (0, []), (0, [(0, 1)])), (20224, (0, [(1, 1)]), (0, [(2, 1)])), (63008, (0, [(2, 1)]), (0, [(3, 1)]))] [19971, 19972, 19973, 19974, 19975, 19976] 6 [(31, ([], 4, [(0, 0, 1200), (1, 0, 1199), (2, (-128), 127), (3, 11, 31)], [], [(0, .inr (.inr (.inl (some 94)))), (1, .inl (0, [(1, 1)]))], [], [(19970, (0, []), (0, [(0, 1)]))]))] [] = true := by decide +kernel
theorem snC1 {cst : am_K} {strs : List Nat} {Φ : am_Q → Prop} {D : Nat} {M : am_M} {h : am_H} {l : am_L} (c : hp_C cst strs D) (hM : m_P[299]? = some M) (hD : (6 : Int) ≤ (D : Int) + 1) (hy : ly_hy m_tt ly_TH h) (n p x b : Int) (b0 : 0 ≤ n) (t0 : n ≤ 1200) (b1 : 0 ≤ p) (t1 : p ≤ 1199) (b2 : (-128) ≤ x) (t2 : x ≤ 127) (b3 : 11 ≤ b) (t3 : b ≤ 31) (f0 : 0 ≤ (n - p - 1)) (k0 : ly_hv cst h 19970 0 = some (n)) (k1 : ly_hv cst h 20224 (p) = some (x)) (k2 : ly_hv cst h 63008 (x) = some (b)) (l0 : hp_a l 0 94) (l1 : hp_i l 1 (p)) (e0 : ∀ (l' : am_L) (h' : am_H), ly_hy m_tt ly_TH h' → ly_fr cst [19971, 19972, 19973, 19974, 19975, 19976] h h' → h.length ≤ h'.length → ly_hv cst h' 19970 0 = some (n) → hp_a l' 0 94 → hp_i l' 1 (p) → hp_F cst strs Φ D M 31 l' [] h') : hp_F cst strs Φ D M 5 l [] h := by
  refine hp_arc c hM snC1_k hD [n, p, x, b] rfl hy (hp_Bc (z := n) rfl b0 t0 (hp_Bc (z := p) rfl b1 t1 (hp_Bc (z := x) rfl b2 t2 (hp_Bc (z := b) rfl b3 t3 hp_Bn)))) (hp_Fc (z := ((-1) + (1 * n + ((-1) * p + 0)))) rfl (by omega) hp_Fn) (hp_Kc (zi := (0 + 0)) (zv := (0 + (1 * n + 0))) k0 rfl rfl (by omega) (by omega) (hp_Kc (zi := (0 + (1 * p + 0))) (zv := (0 + (1 * x + 0))) k1 rfl rfl (by omega) (by omega) (hp_Kc (zi := (0 + (1 * x + 0))) (zv := (0 + (1 * b + 0))) k2 rfl rfl (by omega) (by omega) hp_Kn))) (hp_La l0 (hp_Li (z := (0 + (1 * p + 0))) l1 rfl (by omega) hp_Ln)) trivial ?_ ?_
  · intro p hp ys l' st' h' hys a1 a2 a3 gZ gL gS
    rcases List.mem_cons.mp hp with rfl | hp
    · obtain rfl := hp_y0 hys
      cases hp_gSn gS
      exact e0 l' h' a1 a2 a3 (hp_gK (zi := (0 + 0)) (zv := (0 + (1 * n + 0))) gZ.2.2.2 (List.mem_of_getElem? (i := 0) rfl) rfl rfl (by omega) (by omega)) (hp_gLa gL (List.mem_of_getElem? (i := 0) rfl) (by decide)) (hp_gLi (z := (0 + (1 * p + 0))) gL (List.mem_of_getElem? (i := 1) rfl) rfl (by omega))
    cases hp
  · intro p hp ys v h' hys a1 a2 a3 gZ gS
    cases hp
theorem snC2_k : hp_chk 299 5 4 [(0, 0, 1200), (1, 0, 1199), (2, (-128), 127), (3, 33, 255)] [((-1), [(0, 1), (1, (-1))])] [(0, .inr (.inr (.inl (some 94)))), (1, .inl (0, [(1, 1)]))] [] [(19970, (0, []), (0, [(0, 1)])), (20224, (0, [(1, 1)]), (0, [(2, 1)])), (63008, (0, [(2, 1)]), (0, [(3, 1)]))] [19971, 19972, 19973, 19974, 19975, 19976] 6 [(31, ([], 4, [(0, 0, 1200), (1, 0, 1199), (2, (-128), 127), (3, 33, 255)], [], [(0, .inr (.inr (.inl (some 94)))), (1, .inl (0, [(1, 1)]))], [], [(19970, (0, []), (0, [(0, 1)]))]))] [] = true := by decide +kernel
theorem snC2 {cst : am_K} {strs : List Nat} {Φ : am_Q → Prop} {D : Nat} {M : am_M} {h : am_H} {l : am_L} (c : hp_C cst strs D) (hM : m_P[299]? = some M) (hD : (6 : Int) ≤ (D : Int) + 1) (hy : ly_hy m_tt ly_TH h) (n p x b : Int) (b0 : 0 ≤ n) (t0 : n ≤ 1200) (b1 : 0 ≤ p) (t1 : p ≤ 1199) (b2 : (-128) ≤ x) (t2 : x ≤ 127) (b3 : 33 ≤ b) (t3 : b ≤ 255) (f0 : 0 ≤ (n - p - 1)) (k0 : ly_hv cst h 19970 0 = some (n)) (k1 : ly_hv cst h 20224 (p) = some (x)) (k2 : ly_hv cst h 63008 (x) = some (b)) (l0 : hp_a l 0 94) (l1 : hp_i l 1 (p)) (e0 : ∀ (l' : am_L) (h' : am_H), ly_hy m_tt ly_TH h' → ly_fr cst [19971, 19972, 19973, 19974, 19975, 19976] h h' → h.length ≤ h'.length → ly_hv cst h' 19970 0 = some (n) → hp_a l' 0 94 → hp_i l' 1 (p) → hp_F cst strs Φ D M 31 l' [] h') : hp_F cst strs Φ D M 5 l [] h := by
  refine hp_arc c hM snC2_k hD [n, p, x, b] rfl hy (hp_Bc (z := n) rfl b0 t0 (hp_Bc (z := p) rfl b1 t1 (hp_Bc (z := x) rfl b2 t2 (hp_Bc (z := b) rfl b3 t3 hp_Bn)))) (hp_Fc (z := ((-1) + (1 * n + ((-1) * p + 0)))) rfl (by omega) hp_Fn) (hp_Kc (zi := (0 + 0)) (zv := (0 + (1 * n + 0))) k0 rfl rfl (by omega) (by omega) (hp_Kc (zi := (0 + (1 * p + 0))) (zv := (0 + (1 * x + 0))) k1 rfl rfl (by omega) (by omega) (hp_Kc (zi := (0 + (1 * x + 0))) (zv := (0 + (1 * b + 0))) k2 rfl rfl (by omega) (by omega) hp_Kn))) (hp_La l0 (hp_Li (z := (0 + (1 * p + 0))) l1 rfl (by omega) hp_Ln)) trivial ?_ ?_
  · intro p hp ys l' st' h' hys a1 a2 a3 gZ gL gS
    rcases List.mem_cons.mp hp with rfl | hp
    · obtain rfl := hp_y0 hys
      cases hp_gSn gS
      exact e0 l' h' a1 a2 a3 (hp_gK (zi := (0 + 0)) (zv := (0 + (1 * n + 0))) gZ.2.2.2 (List.mem_of_getElem? (i := 0) rfl) rfl rfl (by omega) (by omega)) (hp_gLa gL (List.mem_of_getElem? (i := 0) rfl) (by decide)) (hp_gLi (z := (0 + (1 * p + 0))) gL (List.mem_of_getElem? (i := 1) rfl) rfl (by omega))
    cases hp
  · intro p hp ys v h' hys a1 a2 a3 gZ gS
    cases hp
theorem snD_k : hp_chk 299 5 1 [(0, 0, 1200)] [] [(0, .inr (.inr (.inl (some 94)))), (1, .inl (0, [(0, 1)]))] [] [(19970, (0, []), (0, [(0, 1)]))] [19971, 19972, 19973, 19974, 19975, 19976] 6 [(31, ([], 1, [(0, 0, 1200)], [], [(0, .inr (.inr (.inl (some 94)))), (1, .inl (0, [(0, 1)]))], [], [(19970, (0, []), (0, [(0, 1)]))]))] [] = true := by decide +kernel
theorem snD {cst : am_K} {strs : List Nat} {Φ : am_Q → Prop} {D : Nat} {M : am_M} {h : am_H} {l : am_L} (c : hp_C cst strs D) (hM : m_P[299]? = some M) (hD : (6 : Int) ≤ (D : Int) + 1) (hy : ly_hy m_tt ly_TH h) (n : Int) (b0 : 0 ≤ n) (t0 : n ≤ 1200) (k0 : ly_hv cst h 19970 0 = some (n)) (l0 : hp_a l 0 94) (l1 : hp_i l 1 (n)) (e0 : ∀ (l' : am_L) (h' : am_H), ly_hy m_tt ly_TH h' → ly_fr cst [19971, 19972, 19973, 19974, 19975, 19976] h h' → h.length ≤ h'.length → ly_hv cst h' 19970 0 = some (n) → hp_a l' 0 94 → hp_i l' 1 (n) → hp_F cst strs Φ D M 31 l' [] h') : hp_F cst strs Φ D M 5 l [] h := by
  refine hp_arc c hM snD_k hD [n] rfl hy (hp_Bc (z := n) rfl b0 t0 hp_Bn) hp_Fn (hp_Kc (zi := (0 + 0)) (zv := (0 + (1 * n + 0))) k0 rfl rfl (by omega) (by omega) hp_Kn) (hp_La l0 (hp_Li (z := (0 + (1 * n + 0))) l1 rfl (by omega) hp_Ln)) trivial ?_ ?_
  · intro p hp ys l' st' h' hys a1 a2 a3 gZ gL gS
    rcases List.mem_cons.mp hp with rfl | hp
    · obtain rfl := hp_y0 hys
      cases hp_gSn gS
      exact e0 l' h' a1 a2 a3 (hp_gK (zi := (0 + 0)) (zv := (0 + (1 * n + 0))) gZ.2.2.2 (List.mem_of_getElem? (i := 0) rfl) rfl rfl (by omega) (by omega)) (hp_gLa gL (List.mem_of_getElem? (i := 0) rfl) (by decide)) (hp_gLi (z := (0 + (1 * n + 0))) gL (List.mem_of_getElem? (i := 1) rfl) rfl (by omega))
    cases hp
  · intro p hp ys v h' hys a1 a2 a3 gZ gS
    cases hp
theorem snE_k : hp_chk 299 31 1 [(0, 0, 1200)] [] [(0, .inr (.inr (.inl (some 94)))), (1, .inl (0, [(0, 1)]))] [] [(19970, (0, []), (0, [(0, 1)]))] [19971, 19972, 19973, 19974, 19975, 19976] 6 [] [([], 1, [(0, 0, 1200)], [], [], [], [(19970, (0, []), (0, [(0, 1)])), (19971, (0, []), (8, [])), (19974, (0, []), (0, [(0, 1)]))])] = true := by decide +kernel
theorem snE {cst : am_K} {strs : List Nat} {Φ : am_Q → Prop} {D : Nat} {M : am_M} {h : am_H} {l : am_L} (c : hp_C cst strs D) (hM : m_P[299]? = some M) (hD : (6 : Int) ≤ (D : Int) + 1) (hy : ly_hy m_tt ly_TH h) (n : Int) (b0 : 0 ≤ n) (t0 : n ≤ 1200) (k0 : ly_hv cst h 19970 0 = some (n)) (l0 : hp_a l 0 94) (l1 : hp_i l 1 (n)) (r0 : ∀ (h' : am_H), ly_hy m_tt ly_TH h' → ly_fr cst [19971, 19972, 19973, 19974, 19975, 19976] h h' → h.length ≤ h'.length → ly_hv cst h' 19970 0 = some (n) → ly_hv cst h' 19971 0 = some 8 → ly_hv cst h' 19974 0 = some (n) → Φ (none, h', 0, 0)) : hp_F cst strs Φ D M 31 l [] h := by
  refine hp_arc c hM snE_k hD [n] rfl hy (hp_Bc (z := n) rfl b0 t0 hp_Bn) hp_Fn (hp_Kc (zi := (0 + 0)) (zv := (0 + (1 * n + 0))) k0 rfl rfl (by omega) (by omega) hp_Kn) (hp_La l0 (hp_Li (z := (0 + (1 * n + 0))) l1 rfl (by omega) hp_Ln)) trivial ?_ ?_
  · intro p hp ys l' st' h' hys a1 a2 a3 gZ gL gS
    cases hp
  · intro p hp ys v h' hys a1 a2 a3 gZ gS
    rcases List.mem_cons.mp hp with rfl | hp
    · obtain rfl := hp_y0 hys
      have sv := hp_gSn gS
      cases v with
      | some w => cases sv
      | none =>
        exact r0 h' a1 a2 a3 (hp_gK (zi := (0 + 0)) (zv := (0 + (1 * n + 0))) gZ.2.2.2 (List.mem_of_getElem? (i := 0) rfl) rfl rfl (by omega) (by omega)) (hp_gK (zi := (0 + 0)) (zv := (8 + 0)) gZ.2.2.2 (List.mem_of_getElem? (i := 1) rfl) rfl rfl (by omega) (by omega)) (hp_gK (zi := (0 + 0)) (zv := (0 + (1 * n + 0))) gZ.2.2.2 (List.mem_of_getElem? (i := 2) rfl) rfl rfl (by omega) (by omega))
    cases hp
theorem snF_k : hp_chk 299 31 4 [(0, 0, 1200), (1, 0, 1199), (2, (-128), 127), (3, 97, 122)] [((-1), [(0, 1), (1, (-1))])] [(0, .inr (.inr (.inl (some 94)))), (1, .inl (0, [(1, 1)]))] [] [(19970, (0, []), (0, [(0, 1)])), (20224, (0, [(1, 1)]), (0, [(2, 1)])), (63008, (0, [(2, 1)]), (0, [(3, 1)]))] [19971, 19972, 19973, 19974, 19975, 19976] 6 [(81, ([], 4, [(0, 0, 1200), (1, 0, 1199), (2, (-128), 127), (3, 97, 122)], [], [(0, .inr (.inr (.inl (some 94)))), (1, .inl (0, [(1, 1)])), (3, .inl (0, [(1, 1)]))], [], [(19970, (0, []), (0, [(0, 1)])), (19976, (0, []), (0, []))]))] [] = true := by decide +kernel
theorem snF {cst : am_K} {strs : List Nat} {Φ : am_Q → Prop} {D : Nat} {M : am_M} {h : am_H} {l : am_L} (c : hp_C cst strs D) (hM : m_P[299]? = some M) (hD : (6 : Int) ≤ (D : Int) + 1) (hy : ly_hy m_tt ly_TH h) (n p x b : Int) (b0 : 0 ≤ n) (t0 : n ≤ 1200) (b1 : 0 ≤ p) (t1 : p ≤ 1199) (b2 : (-128) ≤ x) (t2 : x ≤ 127) (b3 : 97 ≤ b) (t3 : b ≤ 122) (f0 : 0 ≤ (n - p - 1)) (k0 : ly_hv cst h 19970 0 = some (n)) (k1 : ly_hv cst h 20224 (p) = some (x)) (k2 : ly_hv cst h 63008 (x) = some (b)) (l0 : hp_a l 0 94) (l1 : hp_i l 1 (p)) (e0 : ∀ (l' : am_L) (h' : am_H), ly_hy m_tt ly_TH h' → ly_fr cst [19971, 19972, 19973, 19974, 19975, 19976] h h' → h.length ≤ h'.length → ly_hv cst h' 19970 0 = some (n) → ly_hv cst h' 19976 0 = some 0 → hp_a l' 0 94 → hp_i l' 1 (p) → hp_i l' 3 (p) → hp_F cst strs Φ D M 81 l' [] h') : hp_F cst strs Φ D M 31 l [] h := by
  refine hp_arc c hM snF_k hD [n, p, x, b] rfl hy (hp_Bc (z := n) rfl b0 t0 (hp_Bc (z := p) rfl b1 t1 (hp_Bc (z := x) rfl b2 t2 (hp_Bc (z := b) rfl b3 t3 hp_Bn)))) (hp_Fc (z := ((-1) + (1 * n + ((-1) * p + 0)))) rfl (by omega) hp_Fn) (hp_Kc (zi := (0 + 0)) (zv := (0 + (1 * n + 0))) k0 rfl rfl (by omega) (by omega) (hp_Kc (zi := (0 + (1 * p + 0))) (zv := (0 + (1 * x + 0))) k1 rfl rfl (by omega) (by omega) (hp_Kc (zi := (0 + (1 * x + 0))) (zv := (0 + (1 * b + 0))) k2 rfl rfl (by omega) (by omega) hp_Kn))) (hp_La l0 (hp_Li (z := (0 + (1 * p + 0))) l1 rfl (by omega) hp_Ln)) trivial ?_ ?_
  · intro p hp ys l' st' h' hys a1 a2 a3 gZ gL gS
    rcases List.mem_cons.mp hp with rfl | hp
    · obtain rfl := hp_y0 hys
      cases hp_gSn gS
      exact e0 l' h' a1 a2 a3 (hp_gK (zi := (0 + 0)) (zv := (0 + (1 * n + 0))) gZ.2.2.2 (List.mem_of_getElem? (i := 0) rfl) rfl rfl (by omega) (by omega)) (hp_gK (zi := (0 + 0)) (zv := (0 + 0)) gZ.2.2.2 (List.mem_of_getElem? (i := 1) rfl) rfl rfl (by omega) (by omega)) (hp_gLa gL (List.mem_of_getElem? (i := 0) rfl) (by decide)) (hp_gLi (z := (0 + (1 * p + 0))) gL (List.mem_of_getElem? (i := 1) rfl) rfl (by omega)) (hp_gLi (z := (0 + (1 * p + 0))) gL (List.mem_of_getElem? (i := 2) rfl) rfl (by omega))
    cases hp
  · intro p hp ys v h' hys a1 a2 a3 gZ gS
    cases hp
theorem snG_k : hp_chk 299 81 6 [(0, 0, 1200), (1, 0, 1199), (2, 0, 1199), (3, (-128), 127), (4, 97, 122), (5, 0, 36028797018963968)] [((-1), [(0, 1), (2, (-1))]), (0, [(1, (-1)), (2, 1)]), (11, [(1, 1), (2, (-1))])] [(0, .inr (.inr (.inl (some 94)))), (1, .inl (0, [(1, 1)])), (3, .inl (0, [(2, 1)]))] [] [(19970, (0, []), (0, [(0, 1)])), (20224, (0, [(2, 1)]), (0, [(3, 1)])), (63008, (0, [(3, 1)]), (0, [(4, 1)])), (19976, (0, []), (0, [(5, 1)]))] [19971, 19972, 19973, 19974, 19975, 19976] 6 [(81, ([], 6, [(0, 0, 1200), (1, 0, 1199), (2, 0, 1199), (3, (-128), 127), (4, 97, 122), (5, 0, 36028797018963968)], [], [(0, .inr (.inr (.inl (some 94)))), (1, .inl (0, [(1, 1)])), (3, .inl (1, [(2, 1)]))], [], [(19970, (0, []), (0, [(0, 1)])), (19976, (0, []), ((-96), [(4, 1), (5, 32)]))]))] [] = true := by decide +kernel
theorem snG {cst : am_K} {strs : List Nat} {Φ : am_Q → Prop} {D : Nat} {M : am_M} {h : am_H} {l : am_L} (c : hp_C cst strs D) (hM : m_P[299]? = some M) (hD : (6 : Int) ≤ (D : Int) + 1) (hy : ly_hy m_tt ly_TH h) (n p e x b vv : Int) (b0 : 0 ≤ n) (t0 : n ≤ 1200) (b1 : 0 ≤ p) (t1 : p ≤ 1199) (b2 : 0 ≤ e) (t2 : e ≤ 1199) (b3 : (-128) ≤ x) (t3 : x ≤ 127) (b4 : 97 ≤ b) (t4 : b ≤ 122) (b5 : 0 ≤ vv) (t5 : vv ≤ 36028797018963968) (f0 : 0 ≤ (n - e - 1)) (f1 : 0 ≤ (e - p)) (f2 : 0 ≤ (p - e + 11)) (k0 : ly_hv cst h 19970 0 = some (n)) (k1 : ly_hv cst h 20224 (e) = some (x)) (k2 : ly_hv cst h 63008 (x) = some (b)) (k3 : ly_hv cst h 19976 0 = some (vv)) (l0 : hp_a l 0 94) (l1 : hp_i l 1 (p)) (l3 : hp_i l 3 (e)) (e0 : ∀ (l' : am_L) (h' : am_H), ly_hy m_tt ly_TH h' → ly_fr cst [19971, 19972, 19973, 19974, 19975, 19976] h h' → h.length ≤ h'.length → ly_hv cst h' 19970 0 = some (n) → ly_hv cst h' 19976 0 = some (32 * vv + b - 96) → hp_a l' 0 94 → hp_i l' 1 (p) → hp_i l' 3 (e + 1) → hp_F cst strs Φ D M 81 l' [] h') : hp_F cst strs Φ D M 81 l [] h := by
  refine hp_arc c hM snG_k hD [n, p, e, x, b, vv] rfl hy (hp_Bc (z := n) rfl b0 t0 (hp_Bc (z := p) rfl b1 t1 (hp_Bc (z := e) rfl b2 t2 (hp_Bc (z := x) rfl b3 t3 (hp_Bc (z := b) rfl b4 t4 (hp_Bc (z := vv) rfl b5 t5 hp_Bn)))))) (hp_Fc (z := ((-1) + (1 * n + ((-1) * e + 0)))) rfl (by omega) (hp_Fc (z := (0 + ((-1) * p + (1 * e + 0)))) rfl (by omega) (hp_Fc (z := (11 + (1 * p + ((-1) * e + 0)))) rfl (by omega) hp_Fn))) (hp_Kc (zi := (0 + 0)) (zv := (0 + (1 * n + 0))) k0 rfl rfl (by omega) (by omega) (hp_Kc (zi := (0 + (1 * e + 0))) (zv := (0 + (1 * x + 0))) k1 rfl rfl (by omega) (by omega) (hp_Kc (zi := (0 + (1 * x + 0))) (zv := (0 + (1 * b + 0))) k2 rfl rfl (by omega) (by omega) (hp_Kc (zi := (0 + 0)) (zv := (0 + (1 * vv + 0))) k3 rfl rfl (by omega) (by omega) hp_Kn)))) (hp_La l0 (hp_Li (z := (0 + (1 * p + 0))) l1 rfl (by omega) (hp_Li (z := (0 + (1 * e + 0))) l3 rfl (by omega) hp_Ln))) trivial ?_ ?_
  · intro p hp ys l' st' h' hys a1 a2 a3 gZ gL gS
    rcases List.mem_cons.mp hp with rfl | hp
    · obtain rfl := hp_y0 hys
      cases hp_gSn gS
      exact e0 l' h' a1 a2 a3 (hp_gK (zi := (0 + 0)) (zv := (0 + (1 * n + 0))) gZ.2.2.2 (List.mem_of_getElem? (i := 0) rfl) rfl rfl (by omega) (by omega)) (hp_gK (zi := (0 + 0)) (zv := ((-96) + (1 * b + (32 * vv + 0)))) gZ.2.2.2 (List.mem_of_getElem? (i := 1) rfl) rfl rfl (by omega) (by omega)) (hp_gLa gL (List.mem_of_getElem? (i := 0) rfl) (by decide)) (hp_gLi (z := (0 + (1 * p + 0))) gL (List.mem_of_getElem? (i := 1) rfl) rfl (by omega)) (hp_gLi (z := (1 + (1 * e + 0))) gL (List.mem_of_getElem? (i := 2) rfl) rfl (by omega))
    cases hp
  · intro p hp ys v h' hys a1 a2 a3 gZ gS
    cases hp
theorem snH_k : hp_chk 299 81 6 [(0, 0, 1200), (1, 0, 1199), (2, 0, 1199), (3, (-128), 127), (4, 97, 122), (5, 0, 1152921504606846976)] [((-1), [(0, 1), (2, (-1))]), ((-12), [(1, (-1)), (2, 1)])] [(0, .inr (.inr (.inl (some 94)))), (1, .inl (0, [(1, 1)])), (3, .inl (0, [(2, 1)]))] [] [(19970, (0, []), (0, [(0, 1)])), (20224, (0, [(2, 1)]), (0, [(3, 1)])), (63008, (0, [(3, 1)]), (0, [(4, 1)])), (19976, (0, []), (0, [(5, 1)]))] [19971, 19972, 19973, 19974, 19975, 19976] 6 [(81, ([], 6, [(0, 0, 1200), (1, 0, 1199), (2, 0, 1199), (3, (-128), 127), (4, 97, 122), (5, 0, 1152921504606846976)], [], [(0, .inr (.inr (.inl (some 94)))), (1, .inl (0, [(1, 1)])), (3, .inl (1, [(2, 1)]))], [], [(19970, (0, []), (0, [(0, 1)])), (19976, (0, []), (0, [(5, 1)]))]))] [] = true := by decide +kernel
theorem snH {cst : am_K} {strs : List Nat} {Φ : am_Q → Prop} {D : Nat} {M : am_M} {h : am_H} {l : am_L} (c : hp_C cst strs D) (hM : m_P[299]? = some M) (hD : (6 : Int) ≤ (D : Int) + 1) (hy : ly_hy m_tt ly_TH h) (n p e x b vv : Int) (b0 : 0 ≤ n) (t0 : n ≤ 1200) (b1 : 0 ≤ p) (t1 : p ≤ 1199) (b2 : 0 ≤ e) (t2 : e ≤ 1199) (b3 : (-128) ≤ x) (t3 : x ≤ 127) (b4 : 97 ≤ b) (t4 : b ≤ 122) (b5 : 0 ≤ vv) (t5 : vv ≤ 1152921504606846976) (f0 : 0 ≤ (n - e - 1)) (f1 : 0 ≤ (e - p - 12)) (k0 : ly_hv cst h 19970 0 = some (n)) (k1 : ly_hv cst h 20224 (e) = some (x)) (k2 : ly_hv cst h 63008 (x) = some (b)) (k3 : ly_hv cst h 19976 0 = some (vv)) (l0 : hp_a l 0 94) (l1 : hp_i l 1 (p)) (l3 : hp_i l 3 (e)) (e0 : ∀ (l' : am_L) (h' : am_H), ly_hy m_tt ly_TH h' → ly_fr cst [19971, 19972, 19973, 19974, 19975, 19976] h h' → h.length ≤ h'.length → ly_hv cst h' 19970 0 = some (n) → ly_hv cst h' 19976 0 = some (vv) → hp_a l' 0 94 → hp_i l' 1 (p) → hp_i l' 3 (e + 1) → hp_F cst strs Φ D M 81 l' [] h') : hp_F cst strs Φ D M 81 l [] h := by
  refine hp_arc c hM snH_k hD [n, p, e, x, b, vv] rfl hy (hp_Bc (z := n) rfl b0 t0 (hp_Bc (z := p) rfl b1 t1 (hp_Bc (z := e) rfl b2 t2 (hp_Bc (z := x) rfl b3 t3 (hp_Bc (z := b) rfl b4 t4 (hp_Bc (z := vv) rfl b5 t5 hp_Bn)))))) (hp_Fc (z := ((-1) + (1 * n + ((-1) * e + 0)))) rfl (by omega) (hp_Fc (z := ((-12) + ((-1) * p + (1 * e + 0)))) rfl (by omega) hp_Fn)) (hp_Kc (zi := (0 + 0)) (zv := (0 + (1 * n + 0))) k0 rfl rfl (by omega) (by omega) (hp_Kc (zi := (0 + (1 * e + 0))) (zv := (0 + (1 * x + 0))) k1 rfl rfl (by omega) (by omega) (hp_Kc (zi := (0 + (1 * x + 0))) (zv := (0 + (1 * b + 0))) k2 rfl rfl (by omega) (by omega) (hp_Kc (zi := (0 + 0)) (zv := (0 + (1 * vv + 0))) k3 rfl rfl (by omega) (by omega) hp_Kn)))) (hp_La l0 (hp_Li (z := (0 + (1 * p + 0))) l1 rfl (by omega) (hp_Li (z := (0 + (1 * e + 0))) l3 rfl (by omega) hp_Ln))) trivial ?_ ?_
  · intro p hp ys l' st' h' hys a1 a2 a3 gZ gL gS
    rcases List.mem_cons.mp hp with rfl | hp
    · obtain rfl := hp_y0 hys
      cases hp_gSn gS
      exact e0 l' h' a1 a2 a3 (hp_gK (zi := (0 + 0)) (zv := (0 + (1 * n + 0))) gZ.2.2.2 (List.mem_of_getElem? (i := 0) rfl) rfl rfl (by omega) (by omega)) (hp_gK (zi := (0 + 0)) (zv := (0 + (1 * vv + 0))) gZ.2.2.2 (List.mem_of_getElem? (i := 1) rfl) rfl rfl (by omega) (by omega)) (hp_gLa gL (List.mem_of_getElem? (i := 0) rfl) (by decide)) (hp_gLi (z := (0 + (1 * p + 0))) gL (List.mem_of_getElem? (i := 1) rfl) rfl (by omega)) (hp_gLi (z := (1 + (1 * e + 0))) gL (List.mem_of_getElem? (i := 2) rfl) rfl (by omega))
    cases hp
  · intro p hp ys v h' hys a1 a2 a3 gZ gS
    cases hp
theorem snI_k : hp_chk 299 81 3 [(0, 0, 1200), (1, 0, 1199), (2, 0, 1152921504606846976)] [((-1), [(0, 1), (1, (-1))]), (12, [(0, (-1)), (1, 1)])] [(0, .inr (.inr (.inl (some 94)))), (1, .inl (0, [(1, 1)])), (3, .inl (0, [(0, 1)]))] [] [(19970, (0, []), (0, [(0, 1)])), (19976, (0, []), (0, [(2, 1)]))] [19971, 19972, 19973, 19974, 19975, 19976] 6 [] [([], 3, [(0, 0, 1200), (1, 0, 1199), (2, 0, 1152921504606846976)], [], [], [], [(19970, (0, []), (0, [(0, 1)])), (19971, (0, []), (1, [])), (19974, (0, []), (0, [(0, 1)])), (19976, (0, []), (0, [(2, 1)]))])] = true := by decide +kernel
theorem snI {cst : am_K} {strs : List Nat} {Φ : am_Q → Prop} {D : Nat} {M : am_M} {h : am_H} {l : am_L} (c : hp_C cst strs D) (hM : m_P[299]? = some M) (hD : (6 : Int) ≤ (D : Int) + 1) (hy : ly_hy m_tt ly_TH h) (n p vv : Int) (b0 : 0 ≤ n) (t0 : n ≤ 1200) (b1 : 0 ≤ p) (t1 : p ≤ 1199) (b2 : 0 ≤ vv) (t2 : vv ≤ 1152921504606846976) (f0 : 0 ≤ (n - p - 1)) (f1 : 0 ≤ (p - n + 12)) (k0 : ly_hv cst h 19970 0 = some (n)) (k1 : ly_hv cst h 19976 0 = some (vv)) (l0 : hp_a l 0 94) (l1 : hp_i l 1 (p)) (l3 : hp_i l 3 (n)) (r0 : ∀ (h' : am_H), ly_hy m_tt ly_TH h' → ly_fr cst [19971, 19972, 19973, 19974, 19975, 19976] h h' → h.length ≤ h'.length → ly_hv cst h' 19970 0 = some (n) → ly_hv cst h' 19971 0 = some 1 → ly_hv cst h' 19974 0 = some (n) → ly_hv cst h' 19976 0 = some (vv) → Φ (none, h', 0, 0)) : hp_F cst strs Φ D M 81 l [] h := by
  refine hp_arc c hM snI_k hD [n, p, vv] rfl hy (hp_Bc (z := n) rfl b0 t0 (hp_Bc (z := p) rfl b1 t1 (hp_Bc (z := vv) rfl b2 t2 hp_Bn))) (hp_Fc (z := ((-1) + (1 * n + ((-1) * p + 0)))) rfl (by omega) (hp_Fc (z := (12 + ((-1) * n + (1 * p + 0)))) rfl (by omega) hp_Fn)) (hp_Kc (zi := (0 + 0)) (zv := (0 + (1 * n + 0))) k0 rfl rfl (by omega) (by omega) (hp_Kc (zi := (0 + 0)) (zv := (0 + (1 * vv + 0))) k1 rfl rfl (by omega) (by omega) hp_Kn)) (hp_La l0 (hp_Li (z := (0 + (1 * p + 0))) l1 rfl (by omega) (hp_Li (z := (0 + (1 * n + 0))) l3 rfl (by omega) hp_Ln))) trivial ?_ ?_
  · intro p hp ys l' st' h' hys a1 a2 a3 gZ gL gS
    cases hp
  · intro p hp ys v h' hys a1 a2 a3 gZ gS
    rcases List.mem_cons.mp hp with rfl | hp
    · obtain rfl := hp_y0 hys
      have sv := hp_gSn gS
      cases v with
      | some w => cases sv
      | none =>
        exact r0 h' a1 a2 a3 (hp_gK (zi := (0 + 0)) (zv := (0 + (1 * n + 0))) gZ.2.2.2 (List.mem_of_getElem? (i := 0) rfl) rfl rfl (by omega) (by omega)) (hp_gK (zi := (0 + 0)) (zv := (1 + 0)) gZ.2.2.2 (List.mem_of_getElem? (i := 1) rfl) rfl rfl (by omega) (by omega)) (hp_gK (zi := (0 + 0)) (zv := (0 + (1 * n + 0))) gZ.2.2.2 (List.mem_of_getElem? (i := 2) rfl) rfl rfl (by omega) (by omega)) (hp_gK (zi := (0 + 0)) (zv := (0 + (1 * vv + 0))) gZ.2.2.2 (List.mem_of_getElem? (i := 3) rfl) rfl rfl (by omega) (by omega))
    cases hp
theorem snJ_k : hp_chk 299 81 2 [(0, 0, 1200), (1, 0, 1199)] [((-13), [(0, 1), (1, (-1))])] [(0, .inr (.inr (.inl (some 94)))), (1, .inl (0, [(1, 1)])), (3, .inl (0, [(0, 1)]))] [] [(19970, (0, []), (0, [(0, 1)]))] [19971, 19972, 19973, 19974, 19975, 19976] 6 [] [([], 2, [(0, 0, 1200), (1, 0, 1199)], [], [], [], [(19970, (0, []), (0, [(0, 1)])), (19971, (0, []), (0, []))])] = true := by decide +kernel
theorem snJ {cst : am_K} {strs : List Nat} {Φ : am_Q → Prop} {D : Nat} {M : am_M} {h : am_H} {l : am_L} (c : hp_C cst strs D) (hM : m_P[299]? = some M) (hD : (6 : Int) ≤ (D : Int) + 1) (hy : ly_hy m_tt ly_TH h) (n p : Int) (b0 : 0 ≤ n) (t0 : n ≤ 1200) (b1 : 0 ≤ p) (t1 : p ≤ 1199) (f0 : 0 ≤ (n - p - 13)) (k0 : ly_hv cst h 19970 0 = some (n)) (l0 : hp_a l 0 94) (l1 : hp_i l 1 (p)) (l3 : hp_i l 3 (n)) (r0 : ∀ (h' : am_H), ly_hy m_tt ly_TH h' → ly_fr cst [19971, 19972, 19973, 19974, 19975, 19976] h h' → h.length ≤ h'.length → ly_hv cst h' 19970 0 = some (n) → ly_hv cst h' 19971 0 = some 0 → Φ (none, h', 0, 0)) : hp_F cst strs Φ D M 81 l [] h := by
  refine hp_arc c hM snJ_k hD [n, p] rfl hy (hp_Bc (z := n) rfl b0 t0 (hp_Bc (z := p) rfl b1 t1 hp_Bn)) (hp_Fc (z := ((-13) + (1 * n + ((-1) * p + 0)))) rfl (by omega) hp_Fn) (hp_Kc (zi := (0 + 0)) (zv := (0 + (1 * n + 0))) k0 rfl rfl (by omega) (by omega) hp_Kn) (hp_La l0 (hp_Li (z := (0 + (1 * p + 0))) l1 rfl (by omega) (hp_Li (z := (0 + (1 * n + 0))) l3 rfl (by omega) hp_Ln))) trivial ?_ ?_
  · intro p hp ys l' st' h' hys a1 a2 a3 gZ gL gS
    cases hp
  · intro p hp ys v h' hys a1 a2 a3 gZ gS
    rcases List.mem_cons.mp hp with rfl | hp
    · obtain rfl := hp_y0 hys
      have sv := hp_gSn gS
      cases v with
      | some w => cases sv
      | none =>
        exact r0 h' a1 a2 a3 (hp_gK (zi := (0 + 0)) (zv := (0 + (1 * n + 0))) gZ.2.2.2 (List.mem_of_getElem? (i := 0) rfl) rfl rfl (by omega) (by omega)) (hp_gK (zi := (0 + 0)) (zv := (0 + 0)) gZ.2.2.2 (List.mem_of_getElem? (i := 1) rfl) rfl rfl (by omega) (by omega))
    cases hp
theorem snK0_k : hp_chk 299 81 6 [(0, 0, 1200), (1, 0, 1199), (2, 0, 1199), (3, (-128), 127), (4, 0, 96), (5, 0, 1152921504606846976)] [((-1), [(0, 1), (2, (-1))]), ((-1), [(1, (-1)), (2, 1)]), (12, [(1, 1), (2, (-1))])] [(0, .inr (.inr (.inl (some 94)))), (1, .inl (0, [(1, 1)])), (3, .inl (0, [(2, 1)]))] [] [(19970, (0, []), (0, [(0, 1)])), (20224, (0, [(2, 1)]), (0, [(3, 1)])), (63008, (0, [(3, 1)]), (0, [(4, 1)])), (19976, (0, []), (0, [(5, 1)]))] [19971, 19972, 19973, 19974, 19975, 19976] 6 [] [([], 6, [(0, 0, 1200), (1, 0, 1199), (2, 0, 1199), (3, (-128), 127), (4, 0, 96), (5, 0, 1152921504606846976)], [], [], [], [(19970, (0, []), (0, [(0, 1)])), (19971, (0, []), (1, [])), (19974, (0, []), (0, [(2, 1)])), (19976, (0, []), (0, [(5, 1)]))])] = true := by decide +kernel
theorem snK0 {cst : am_K} {strs : List Nat} {Φ : am_Q → Prop} {D : Nat} {M : am_M} {h : am_H} {l : am_L} (c : hp_C cst strs D) (hM : m_P[299]? = some M) (hD : (6 : Int) ≤ (D : Int) + 1) (hy : ly_hy m_tt ly_TH h) (n p e x b vv : Int) (b0 : 0 ≤ n) (t0 : n ≤ 1200) (b1 : 0 ≤ p) (t1 : p ≤ 1199) (b2 : 0 ≤ e) (t2 : e ≤ 1199) (b3 : (-128) ≤ x) (t3 : x ≤ 127) (b4 : 0 ≤ b) (t4 : b ≤ 96) (b5 : 0 ≤ vv) (t5 : vv ≤ 1152921504606846976) (f0 : 0 ≤ (n - e - 1)) (f1 : 0 ≤ (e - p - 1)) (f2 : 0 ≤ (p - e + 12)) (k0 : ly_hv cst h 19970 0 = some (n)) (k1 : ly_hv cst h 20224 (e) = some (x)) (k2 : ly_hv cst h 63008 (x) = some (b)) (k3 : ly_hv cst h 19976 0 = some (vv)) (l0 : hp_a l 0 94) (l1 : hp_i l 1 (p)) (l3 : hp_i l 3 (e)) (r0 : ∀ (h' : am_H), ly_hy m_tt ly_TH h' → ly_fr cst [19971, 19972, 19973, 19974, 19975, 19976] h h' → h.length ≤ h'.length → ly_hv cst h' 19970 0 = some (n) → ly_hv cst h' 19971 0 = some 1 → ly_hv cst h' 19974 0 = some (e) → ly_hv cst h' 19976 0 = some (vv) → Φ (none, h', 0, 0)) : hp_F cst strs Φ D M 81 l [] h := by
  refine hp_arc c hM snK0_k hD [n, p, e, x, b, vv] rfl hy (hp_Bc (z := n) rfl b0 t0 (hp_Bc (z := p) rfl b1 t1 (hp_Bc (z := e) rfl b2 t2 (hp_Bc (z := x) rfl b3 t3 (hp_Bc (z := b) rfl b4 t4 (hp_Bc (z := vv) rfl b5 t5 hp_Bn)))))) (hp_Fc (z := ((-1) + (1 * n + ((-1) * e + 0)))) rfl (by omega) (hp_Fc (z := ((-1) + ((-1) * p + (1 * e + 0)))) rfl (by omega) (hp_Fc (z := (12 + (1 * p + ((-1) * e + 0)))) rfl (by omega) hp_Fn))) (hp_Kc (zi := (0 + 0)) (zv := (0 + (1 * n + 0))) k0 rfl rfl (by omega) (by omega) (hp_Kc (zi := (0 + (1 * e + 0))) (zv := (0 + (1 * x + 0))) k1 rfl rfl (by omega) (by omega) (hp_Kc (zi := (0 + (1 * x + 0))) (zv := (0 + (1 * b + 0))) k2 rfl rfl (by omega) (by omega) (hp_Kc (zi := (0 + 0)) (zv := (0 + (1 * vv + 0))) k3 rfl rfl (by omega) (by omega) hp_Kn)))) (hp_La l0 (hp_Li (z := (0 + (1 * p + 0))) l1 rfl (by omega) (hp_Li (z := (0 + (1 * e + 0))) l3 rfl (by omega) hp_Ln))) trivial ?_ ?_
  · intro p hp ys l' st' h' hys a1 a2 a3 gZ gL gS
    cases hp
  · intro p hp ys v h' hys a1 a2 a3 gZ gS
    rcases List.mem_cons.mp hp with rfl | hp
    · obtain rfl := hp_y0 hys
      have sv := hp_gSn gS
      cases v with
      | some w => cases sv
      | none =>
        exact r0 h' a1 a2 a3 (hp_gK (zi := (0 + 0)) (zv := (0 + (1 * n + 0))) gZ.2.2.2 (List.mem_of_getElem? (i := 0) rfl) rfl rfl (by omega) (by omega)) (hp_gK (zi := (0 + 0)) (zv := (1 + 0)) gZ.2.2.2 (List.mem_of_getElem? (i := 1) rfl) rfl rfl (by omega) (by omega)) (hp_gK (zi := (0 + 0)) (zv := (0 + (1 * e + 0))) gZ.2.2.2 (List.mem_of_getElem? (i := 2) rfl) rfl rfl (by omega) (by omega)) (hp_gK (zi := (0 + 0)) (zv := (0 + (1 * vv + 0))) gZ.2.2.2 (List.mem_of_getElem? (i := 3) rfl) rfl rfl (by omega) (by omega))
    cases hp
theorem snL0_k : hp_chk 299 81 5 [(0, 0, 1200), (1, 0, 1199), (2, 0, 1199), (3, (-128), 127), (4, 0, 96)] [((-1), [(0, 1), (2, (-1))]), ((-13), [(1, (-1)), (2, 1)])] [(0, .inr (.inr (.inl (some 94)))), (1, .inl (0, [(1, 1)])), (3, .inl (0, [(2, 1)]))] [] [(19970, (0, []), (0, [(0, 1)])), (20224, (0, [(2, 1)]), (0, [(3, 1)])), (63008, (0, [(3, 1)]), (0, [(4, 1)]))] [19971, 19972, 19973, 19974, 19975, 19976] 6 [] [([], 5, [(0, 0, 1200), (1, 0, 1199), (2, 0, 1199), (3, (-128), 127), (4, 0, 96)], [], [], [], [(19970, (0, []), (0, [(0, 1)])), (19971, (0, []), (0, []))])] = true := by decide +kernel
theorem snL0 {cst : am_K} {strs : List Nat} {Φ : am_Q → Prop} {D : Nat} {M : am_M} {h : am_H} {l : am_L} (c : hp_C cst strs D) (hM : m_P[299]? = some M) (hD : (6 : Int) ≤ (D : Int) + 1) (hy : ly_hy m_tt ly_TH h) (n p e x b : Int) (b0 : 0 ≤ n) (t0 : n ≤ 1200) (b1 : 0 ≤ p) (t1 : p ≤ 1199) (b2 : 0 ≤ e) (t2 : e ≤ 1199) (b3 : (-128) ≤ x) (t3 : x ≤ 127) (b4 : 0 ≤ b) (t4 : b ≤ 96) (f0 : 0 ≤ (n - e - 1)) (f1 : 0 ≤ (e - p - 13)) (k0 : ly_hv cst h 19970 0 = some (n)) (k1 : ly_hv cst h 20224 (e) = some (x)) (k2 : ly_hv cst h 63008 (x) = some (b)) (l0 : hp_a l 0 94) (l1 : hp_i l 1 (p)) (l3 : hp_i l 3 (e)) (r0 : ∀ (h' : am_H), ly_hy m_tt ly_TH h' → ly_fr cst [19971, 19972, 19973, 19974, 19975, 19976] h h' → h.length ≤ h'.length → ly_hv cst h' 19970 0 = some (n) → ly_hv cst h' 19971 0 = some 0 → Φ (none, h', 0, 0)) : hp_F cst strs Φ D M 81 l [] h := by
  refine hp_arc c hM snL0_k hD [n, p, e, x, b] rfl hy (hp_Bc (z := n) rfl b0 t0 (hp_Bc (z := p) rfl b1 t1 (hp_Bc (z := e) rfl b2 t2 (hp_Bc (z := x) rfl b3 t3 (hp_Bc (z := b) rfl b4 t4 hp_Bn))))) (hp_Fc (z := ((-1) + (1 * n + ((-1) * e + 0)))) rfl (by omega) (hp_Fc (z := ((-13) + ((-1) * p + (1 * e + 0)))) rfl (by omega) hp_Fn)) (hp_Kc (zi := (0 + 0)) (zv := (0 + (1 * n + 0))) k0 rfl rfl (by omega) (by omega) (hp_Kc (zi := (0 + (1 * e + 0))) (zv := (0 + (1 * x + 0))) k1 rfl rfl (by omega) (by omega) (hp_Kc (zi := (0 + (1 * x + 0))) (zv := (0 + (1 * b + 0))) k2 rfl rfl (by omega) (by omega) hp_Kn))) (hp_La l0 (hp_Li (z := (0 + (1 * p + 0))) l1 rfl (by omega) (hp_Li (z := (0 + (1 * e + 0))) l3 rfl (by omega) hp_Ln))) trivial ?_ ?_
  · intro p hp ys l' st' h' hys a1 a2 a3 gZ gL gS
    cases hp
  · intro p hp ys v h' hys a1 a2 a3 gZ gS
    rcases List.mem_cons.mp hp with rfl | hp
    · obtain rfl := hp_y0 hys
      have sv := hp_gSn gS
      cases v with
      | some w => cases sv
      | none =>
        exact r0 h' a1 a2 a3 (hp_gK (zi := (0 + 0)) (zv := (0 + (1 * n + 0))) gZ.2.2.2 (List.mem_of_getElem? (i := 0) rfl) rfl rfl (by omega) (by omega)) (hp_gK (zi := (0 + 0)) (zv := (0 + 0)) gZ.2.2.2 (List.mem_of_getElem? (i := 1) rfl) rfl rfl (by omega) (by omega))
    cases hp
theorem snK1_k : hp_chk 299 81 6 [(0, 0, 1200), (1, 0, 1199), (2, 0, 1199), (3, (-128), 127), (4, 123, 255), (5, 0, 1152921504606846976)] [((-1), [(0, 1), (2, (-1))]), ((-1), [(1, (-1)), (2, 1)]), (12, [(1, 1), (2, (-1))])] [(0, .inr (.inr (.inl (some 94)))), (1, .inl (0, [(1, 1)])), (3, .inl (0, [(2, 1)]))] [] [(19970, (0, []), (0, [(0, 1)])), (20224, (0, [(2, 1)]), (0, [(3, 1)])), (63008, (0, [(3, 1)]), (0, [(4, 1)])), (19976, (0, []), (0, [(5, 1)]))] [19971, 19972, 19973, 19974, 19975, 19976] 6 [] [([], 6, [(0, 0, 1200), (1, 0, 1199), (2, 0, 1199), (3, (-128), 127), (4, 123, 255), (5, 0, 1152921504606846976)], [], [], [], [(19970, (0, []), (0, [(0, 1)])), (19971, (0, []), (1, [])), (19974, (0, []), (0, [(2, 1)])), (19976, (0, []), (0, [(5, 1)]))])] = true := by decide +kernel
theorem snK1 {cst : am_K} {strs : List Nat} {Φ : am_Q → Prop} {D : Nat} {M : am_M} {h : am_H} {l : am_L} (c : hp_C cst strs D) (hM : m_P[299]? = some M) (hD : (6 : Int) ≤ (D : Int) + 1) (hy : ly_hy m_tt ly_TH h) (n p e x b vv : Int) (b0 : 0 ≤ n) (t0 : n ≤ 1200) (b1 : 0 ≤ p) (t1 : p ≤ 1199) (b2 : 0 ≤ e) (t2 : e ≤ 1199) (b3 : (-128) ≤ x) (t3 : x ≤ 127) (b4 : 123 ≤ b) (t4 : b ≤ 255) (b5 : 0 ≤ vv) (t5 : vv ≤ 1152921504606846976) (f0 : 0 ≤ (n - e - 1)) (f1 : 0 ≤ (e - p - 1)) (f2 : 0 ≤ (p - e + 12)) (k0 : ly_hv cst h 19970 0 = some (n)) (k1 : ly_hv cst h 20224 (e) = some (x)) (k2 : ly_hv cst h 63008 (x) = some (b)) (k3 : ly_hv cst h 19976 0 = some (vv)) (l0 : hp_a l 0 94) (l1 : hp_i l 1 (p)) (l3 : hp_i l 3 (e)) (r0 : ∀ (h' : am_H), ly_hy m_tt ly_TH h' → ly_fr cst [19971, 19972, 19973, 19974, 19975, 19976] h h' → h.length ≤ h'.length → ly_hv cst h' 19970 0 = some (n) → ly_hv cst h' 19971 0 = some 1 → ly_hv cst h' 19974 0 = some (e) → ly_hv cst h' 19976 0 = some (vv) → Φ (none, h', 0, 0)) : hp_F cst strs Φ D M 81 l [] h := by
  refine hp_arc c hM snK1_k hD [n, p, e, x, b, vv] rfl hy (hp_Bc (z := n) rfl b0 t0 (hp_Bc (z := p) rfl b1 t1 (hp_Bc (z := e) rfl b2 t2 (hp_Bc (z := x) rfl b3 t3 (hp_Bc (z := b) rfl b4 t4 (hp_Bc (z := vv) rfl b5 t5 hp_Bn)))))) (hp_Fc (z := ((-1) + (1 * n + ((-1) * e + 0)))) rfl (by omega) (hp_Fc (z := ((-1) + ((-1) * p + (1 * e + 0)))) rfl (by omega) (hp_Fc (z := (12 + (1 * p + ((-1) * e + 0)))) rfl (by omega) hp_Fn))) (hp_Kc (zi := (0 + 0)) (zv := (0 + (1 * n + 0))) k0 rfl rfl (by omega) (by omega) (hp_Kc (zi := (0 + (1 * e + 0))) (zv := (0 + (1 * x + 0))) k1 rfl rfl (by omega) (by omega) (hp_Kc (zi := (0 + (1 * x + 0))) (zv := (0 + (1 * b + 0))) k2 rfl rfl (by omega) (by omega) (hp_Kc (zi := (0 + 0)) (zv := (0 + (1 * vv + 0))) k3 rfl rfl (by omega) (by omega) hp_Kn)))) (hp_La l0 (hp_Li (z := (0 + (1 * p + 0))) l1 rfl (by omega) (hp_Li (z := (0 + (1 * e + 0))) l3 rfl (by omega) hp_Ln))) trivial ?_ ?_
  · intro p hp ys l' st' h' hys a1 a2 a3 gZ gL gS
    cases hp
  · intro p hp ys v h' hys a1 a2 a3 gZ gS
    rcases List.mem_cons.mp hp with rfl | hp
    · obtain rfl := hp_y0 hys
      have sv := hp_gSn gS
      cases v with
      | some w => cases sv
      | none =>
        exact r0 h' a1 a2 a3 (hp_gK (zi := (0 + 0)) (zv := (0 + (1 * n + 0))) gZ.2.2.2 (List.mem_of_getElem? (i := 0) rfl) rfl rfl (by omega) (by omega)) (hp_gK (zi := (0 + 0)) (zv := (1 + 0)) gZ.2.2.2 (List.mem_of_getElem? (i := 1) rfl) rfl rfl (by omega) (by omega)) (hp_gK (zi := (0 + 0)) (zv := (0 + (1 * e + 0))) gZ.2.2.2 (List.mem_of_getElem? (i := 2) rfl) rfl rfl (by omega) (by omega)) (hp_gK (zi := (0 + 0)) (zv := (0 + (1 * vv + 0))) gZ.2.2.2 (List.mem_of_getElem? (i := 3) rfl) rfl rfl (by omega) (by omega))
    cases hp
theorem snL1_k : hp_chk 299 81 5 [(0, 0, 1200), (1, 0, 1199), (2, 0, 1199), (3, (-128), 127), (4, 123, 255)] [((-1), [(0, 1), (2, (-1))]), ((-13), [(1, (-1)), (2, 1)])] [(0, .inr (.inr (.inl (some 94)))), (1, .inl (0, [(1, 1)])), (3, .inl (0, [(2, 1)]))] [] [(19970, (0, []), (0, [(0, 1)])), (20224, (0, [(2, 1)]), (0, [(3, 1)])), (63008, (0, [(3, 1)]), (0, [(4, 1)]))] [19971, 19972, 19973, 19974, 19975, 19976] 6 [] [([], 5, [(0, 0, 1200), (1, 0, 1199), (2, 0, 1199), (3, (-128), 127), (4, 123, 255)], [], [], [], [(19970, (0, []), (0, [(0, 1)])), (19971, (0, []), (0, []))])] = true := by decide +kernel
theorem snL1 {cst : am_K} {strs : List Nat} {Φ : am_Q → Prop} {D : Nat} {M : am_M} {h : am_H} {l : am_L} (c : hp_C cst strs D) (hM : m_P[299]? = some M) (hD : (6 : Int) ≤ (D : Int) + 1) (hy : ly_hy m_tt ly_TH h) (n p e x b : Int) (b0 : 0 ≤ n) (t0 : n ≤ 1200) (b1 : 0 ≤ p) (t1 : p ≤ 1199) (b2 : 0 ≤ e) (t2 : e ≤ 1199) (b3 : (-128) ≤ x) (t3 : x ≤ 127) (b4 : 123 ≤ b) (t4 : b ≤ 255) (f0 : 0 ≤ (n - e - 1)) (f1 : 0 ≤ (e - p - 13)) (k0 : ly_hv cst h 19970 0 = some (n)) (k1 : ly_hv cst h 20224 (e) = some (x)) (k2 : ly_hv cst h 63008 (x) = some (b)) (l0 : hp_a l 0 94) (l1 : hp_i l 1 (p)) (l3 : hp_i l 3 (e)) (r0 : ∀ (h' : am_H), ly_hy m_tt ly_TH h' → ly_fr cst [19971, 19972, 19973, 19974, 19975, 19976] h h' → h.length ≤ h'.length → ly_hv cst h' 19970 0 = some (n) → ly_hv cst h' 19971 0 = some 0 → Φ (none, h', 0, 0)) : hp_F cst strs Φ D M 81 l [] h := by
  refine hp_arc c hM snL1_k hD [n, p, e, x, b] rfl hy (hp_Bc (z := n) rfl b0 t0 (hp_Bc (z := p) rfl b1 t1 (hp_Bc (z := e) rfl b2 t2 (hp_Bc (z := x) rfl b3 t3 (hp_Bc (z := b) rfl b4 t4 hp_Bn))))) (hp_Fc (z := ((-1) + (1 * n + ((-1) * e + 0)))) rfl (by omega) (hp_Fc (z := ((-13) + ((-1) * p + (1 * e + 0)))) rfl (by omega) hp_Fn)) (hp_Kc (zi := (0 + 0)) (zv := (0 + (1 * n + 0))) k0 rfl rfl (by omega) (by omega) (hp_Kc (zi := (0 + (1 * e + 0))) (zv := (0 + (1 * x + 0))) k1 rfl rfl (by omega) (by omega) (hp_Kc (zi := (0 + (1 * x + 0))) (zv := (0 + (1 * b + 0))) k2 rfl rfl (by omega) (by omega) hp_Kn))) (hp_La l0 (hp_Li (z := (0 + (1 * p + 0))) l1 rfl (by omega) (hp_Li (z := (0 + (1 * e + 0))) l3 rfl (by omega) hp_Ln))) trivial ?_ ?_
  · intro p hp ys l' st' h' hys a1 a2 a3 gZ gL gS
    cases hp
  · intro p hp ys v h' hys a1 a2 a3 gZ gS
    rcases List.mem_cons.mp hp with rfl | hp
    · obtain rfl := hp_y0 hys
      have sv := hp_gSn gS
      cases v with
      | some w => cases sv
      | none =>
        exact r0 h' a1 a2 a3 (hp_gK (zi := (0 + 0)) (zv := (0 + (1 * n + 0))) gZ.2.2.2 (List.mem_of_getElem? (i := 0) rfl) rfl rfl (by omega) (by omega)) (hp_gK (zi := (0 + 0)) (zv := (0 + 0)) gZ.2.2.2 (List.mem_of_getElem? (i := 1) rfl) rfl rfl (by omega) (by omega))
    cases hp
theorem snM_k : hp_chk 299 31 4 [(0, 0, 1200), (1, 0, 1199), (2, (-128), 127), (3, 48, 57)] [((-1), [(0, 1), (1, (-1))])] [(0, .inr (.inr (.inl (some 94)))), (1, .inl (0, [(1, 1)]))] [] [(19970, (0, []), (0, [(0, 1)])), (20224, (0, [(1, 1)]), (0, [(2, 1)])), (63008, (0, [(2, 1)]), (0, [(3, 1)]))] [19971, 19972, 19973, 19974, 19975, 19976] 6 [(186, ([], 4, [(0, 0, 1200), (1, 0, 1199), (2, (-128), 127), (3, 48, 57)], [], [(0, .inr (.inr (.inl (some 94)))), (1, .inl (0, [(1, 1)])), (3, .inl (1, [(1, 1)]))], [], [(19970, (0, []), (0, [(0, 1)]))]))] [] = true := by decide +kernel
theorem snM {cst : am_K} {strs : List Nat} {Φ : am_Q → Prop} {D : Nat} {M : am_M} {h : am_H} {l : am_L} (c : hp_C cst strs D) (hM : m_P[299]? = some M) (hD : (6 : Int) ≤ (D : Int) + 1) (hy : ly_hy m_tt ly_TH h) (n p x b : Int) (b0 : 0 ≤ n) (t0 : n ≤ 1200) (b1 : 0 ≤ p) (t1 : p ≤ 1199) (b2 : (-128) ≤ x) (t2 : x ≤ 127) (b3 : 48 ≤ b) (t3 : b ≤ 57) (f0 : 0 ≤ (n - p - 1)) (k0 : ly_hv cst h 19970 0 = some (n)) (k1 : ly_hv cst h 20224 (p) = some (x)) (k2 : ly_hv cst h 63008 (x) = some (b)) (l0 : hp_a l 0 94) (l1 : hp_i l 1 (p)) (e0 : ∀ (l' : am_L) (h' : am_H), ly_hy m_tt ly_TH h' → ly_fr cst [19971, 19972, 19973, 19974, 19975, 19976] h h' → h.length ≤ h'.length → ly_hv cst h' 19970 0 = some (n) → hp_a l' 0 94 → hp_i l' 1 (p) → hp_i l' 3 (p + 1) → hp_F cst strs Φ D M 186 l' [] h') : hp_F cst strs Φ D M 31 l [] h := by
  refine hp_arc c hM snM_k hD [n, p, x, b] rfl hy (hp_Bc (z := n) rfl b0 t0 (hp_Bc (z := p) rfl b1 t1 (hp_Bc (z := x) rfl b2 t2 (hp_Bc (z := b) rfl b3 t3 hp_Bn)))) (hp_Fc (z := ((-1) + (1 * n + ((-1) * p + 0)))) rfl (by omega) hp_Fn) (hp_Kc (zi := (0 + 0)) (zv := (0 + (1 * n + 0))) k0 rfl rfl (by omega) (by omega) (hp_Kc (zi := (0 + (1 * p + 0))) (zv := (0 + (1 * x + 0))) k1 rfl rfl (by omega) (by omega) (hp_Kc (zi := (0 + (1 * x + 0))) (zv := (0 + (1 * b + 0))) k2 rfl rfl (by omega) (by omega) hp_Kn))) (hp_La l0 (hp_Li (z := (0 + (1 * p + 0))) l1 rfl (by omega) hp_Ln)) trivial ?_ ?_
  · intro p hp ys l' st' h' hys a1 a2 a3 gZ gL gS
    rcases List.mem_cons.mp hp with rfl | hp
    · obtain rfl := hp_y0 hys
      cases hp_gSn gS
      exact e0 l' h' a1 a2 a3 (hp_gK (zi := (0 + 0)) (zv := (0 + (1 * n + 0))) gZ.2.2.2 (List.mem_of_getElem? (i := 0) rfl) rfl rfl (by omega) (by omega)) (hp_gLa gL (List.mem_of_getElem? (i := 0) rfl) (by decide)) (hp_gLi (z := (0 + (1 * p + 0))) gL (List.mem_of_getElem? (i := 1) rfl) rfl (by omega)) (hp_gLi (z := (1 + (1 * p + 0))) gL (List.mem_of_getElem? (i := 2) rfl) rfl (by omega))
    cases hp
  · intro p hp ys v h' hys a1 a2 a3 gZ gS
    cases hp
theorem snN_k : hp_chk 299 186 5 [(0, 0, 1200), (1, 0, 1199), (2, 0, 1199), (3, (-128), 127), (4, 48, 57)] [((-1), [(0, 1), (2, (-1))]), ((-1), [(1, (-1)), (2, 1)])] [(0, .inr (.inr (.inl (some 94)))), (1, .inl (0, [(1, 1)])), (3, .inl (0, [(2, 1)]))] [] [(19970, (0, []), (0, [(0, 1)])), (20224, (0, [(2, 1)]), (0, [(3, 1)])), (63008, (0, [(3, 1)]), (0, [(4, 1)]))] [19971, 19972, 19973, 19974, 19975, 19976] 6 [(186, ([], 5, [(0, 0, 1200), (1, 0, 1199), (2, 0, 1199), (3, (-128), 127), (4, 48, 57)], [], [(0, .inr (.inr (.inl (some 94)))), (1, .inl (0, [(1, 1)])), (3, .inl (1, [(2, 1)]))], [], [(19970, (0, []), (0, [(0, 1)]))]))] [] = true := by decide +kernel
theorem snN {cst : am_K} {strs : List Nat} {Φ : am_Q → Prop} {D : Nat} {M : am_M} {h : am_H} {l : am_L} (c : hp_C cst strs D) (hM : m_P[299]? = some M) (hD : (6 : Int) ≤ (D : Int) + 1) (hy : ly_hy m_tt ly_TH h) (n p e x b : Int) (b0 : 0 ≤ n) (t0 : n ≤ 1200) (b1 : 0 ≤ p) (t1 : p ≤ 1199) (b2 : 0 ≤ e) (t2 : e ≤ 1199) (b3 : (-128) ≤ x) (t3 : x ≤ 127) (b4 : 48 ≤ b) (t4 : b ≤ 57) (f0 : 0 ≤ (n - e - 1)) (f1 : 0 ≤ (e - p - 1)) (k0 : ly_hv cst h 19970 0 = some (n)) (k1 : ly_hv cst h 20224 (e) = some (x)) (k2 : ly_hv cst h 63008 (x) = some (b)) (l0 : hp_a l 0 94) (l1 : hp_i l 1 (p)) (l3 : hp_i l 3 (e)) (e0 : ∀ (l' : am_L) (h' : am_H), ly_hy m_tt ly_TH h' → ly_fr cst [19971, 19972, 19973, 19974, 19975, 19976] h h' → h.length ≤ h'.length → ly_hv cst h' 19970 0 = some (n) → hp_a l' 0 94 → hp_i l' 1 (p) → hp_i l' 3 (e + 1) → hp_F cst strs Φ D M 186 l' [] h') : hp_F cst strs Φ D M 186 l [] h := by
  refine hp_arc c hM snN_k hD [n, p, e, x, b] rfl hy (hp_Bc (z := n) rfl b0 t0 (hp_Bc (z := p) rfl b1 t1 (hp_Bc (z := e) rfl b2 t2 (hp_Bc (z := x) rfl b3 t3 (hp_Bc (z := b) rfl b4 t4 hp_Bn))))) (hp_Fc (z := ((-1) + (1 * n + ((-1) * e + 0)))) rfl (by omega) (hp_Fc (z := ((-1) + ((-1) * p + (1 * e + 0)))) rfl (by omega) hp_Fn)) (hp_Kc (zi := (0 + 0)) (zv := (0 + (1 * n + 0))) k0 rfl rfl (by omega) (by omega) (hp_Kc (zi := (0 + (1 * e + 0))) (zv := (0 + (1 * x + 0))) k1 rfl rfl (by omega) (by omega) (hp_Kc (zi := (0 + (1 * x + 0))) (zv := (0 + (1 * b + 0))) k2 rfl rfl (by omega) (by omega) hp_Kn))) (hp_La l0 (hp_Li (z := (0 + (1 * p + 0))) l1 rfl (by omega) (hp_Li (z := (0 + (1 * e + 0))) l3 rfl (by omega) hp_Ln))) trivial ?_ ?_
  · intro p hp ys l' st' h' hys a1 a2 a3 gZ gL gS
    rcases List.mem_cons.mp hp with rfl | hp
    · obtain rfl := hp_y0 hys
      cases hp_gSn gS
      exact e0 l' h' a1 a2 a3 (hp_gK (zi := (0 + 0)) (zv := (0 + (1 * n + 0))) gZ.2.2.2 (List.mem_of_getElem? (i := 0) rfl) rfl rfl (by omega) (by omega)) (hp_gLa gL (List.mem_of_getElem? (i := 0) rfl) (by decide)) (hp_gLi (z := (0 + (1 * p + 0))) gL (List.mem_of_getElem? (i := 1) rfl) rfl (by omega)) (hp_gLi (z := (1 + (1 * e + 0))) gL (List.mem_of_getElem? (i := 2) rfl) rfl (by omega))
    cases hp
  · intro p hp ys v h' hys a1 a2 a3 gZ gS
    cases hp
theorem snO_k : hp_chk 299 186 2 [(0, 0, 1200), (1, 0, 1199)] [((-1), [(0, 1), (1, (-1))])] [(0, .inr (.inr (.inl (some 94)))), (1, .inl (0, [(1, 1)])), (3, .inl (0, [(0, 1)]))] [] [(19970, (0, []), (0, [(0, 1)]))] [19971, 19972, 19973, 19974, 19975, 19976] 6 [] [([], 2, [(0, 0, 1200), (1, 0, 1199)], [], [], [], [(19970, (0, []), (0, [(0, 1)])), (19971, (0, []), (0, []))]), ([], 2, [(0, 0, 1200), (1, 0, 1199)], [], [], [], [(19970, (0, []), (0, [(0, 1)])), (19971, (0, []), (2, []))])] = true := by decide +kernel
theorem snO {cst : am_K} {strs : List Nat} {Φ : am_Q → Prop} {D : Nat} {M : am_M} {h : am_H} {l : am_L} (c : hp_C cst strs D) (hM : m_P[299]? = some M) (hD : (6 : Int) ≤ (D : Int) + 1) (hy : ly_hy m_tt ly_TH h) (n p : Int) (b0 : 0 ≤ n) (t0 : n ≤ 1200) (b1 : 0 ≤ p) (t1 : p ≤ 1199) (f0 : 0 ≤ (n - p - 1)) (k0 : ly_hv cst h 19970 0 = some (n)) (l0 : hp_a l 0 94) (l1 : hp_i l 1 (p)) (l3 : hp_i l 3 (n)) (r0 : ∀ (h' : am_H), ly_hy m_tt ly_TH h' → ly_fr cst [19971, 19972, 19973, 19974, 19975, 19976] h h' → h.length ≤ h'.length → ly_hv cst h' 19970 0 = some (n) → ly_hv cst h' 19971 0 = some 0 → Φ (none, h', 0, 0)) (r1 : ∀ (h' : am_H), ly_hy m_tt ly_TH h' → ly_fr cst [19971, 19972, 19973, 19974, 19975, 19976] h h' → h.length ≤ h'.length → ly_hv cst h' 19970 0 = some (n) → ly_hv cst h' 19971 0 = some 2 → Φ (none, h', 0, 0)) : hp_F cst strs Φ D M 186 l [] h := by
  refine hp_arc c hM snO_k hD [n, p] rfl hy (hp_Bc (z := n) rfl b0 t0 (hp_Bc (z := p) rfl b1 t1 hp_Bn)) (hp_Fc (z := ((-1) + (1 * n + ((-1) * p + 0)))) rfl (by omega) hp_Fn) (hp_Kc (zi := (0 + 0)) (zv := (0 + (1 * n + 0))) k0 rfl rfl (by omega) (by omega) hp_Kn) (hp_La l0 (hp_Li (z := (0 + (1 * p + 0))) l1 rfl (by omega) (hp_Li (z := (0 + (1 * n + 0))) l3 rfl (by omega) hp_Ln))) trivial ?_ ?_
  · intro p hp ys l' st' h' hys a1 a2 a3 gZ gL gS
    cases hp
  · intro p hp ys v h' hys a1 a2 a3 gZ gS
    rcases List.mem_cons.mp hp with rfl | hp
    · obtain rfl := hp_y0 hys
      have sv := hp_gSn gS
      cases v with
      | some w => cases sv
      | none =>
        exact r0 h' a1 a2 a3 (hp_gK (zi := (0 + 0)) (zv := (0 + (1 * n + 0))) gZ.2.2.2 (List.mem_of_getElem? (i := 0) rfl) rfl rfl (by omega) (by omega)) (hp_gK (zi := (0 + 0)) (zv := (0 + 0)) gZ.2.2.2 (List.mem_of_getElem? (i := 1) rfl) rfl rfl (by omega) (by omega))
    rcases List.mem_cons.mp hp with rfl | hp
    · obtain rfl := hp_y0 hys
      have sv := hp_gSn gS
      cases v with
      | some w => cases sv
      | none =>
        exact r1 h' a1 a2 a3 (hp_gK (zi := (0 + 0)) (zv := (0 + (1 * n + 0))) gZ.2.2.2 (List.mem_of_getElem? (i := 0) rfl) rfl rfl (by omega) (by omega)) (hp_gK (zi := (0 + 0)) (zv := (2 + 0)) gZ.2.2.2 (List.mem_of_getElem? (i := 1) rfl) rfl rfl (by omega) (by omega))
    cases hp
theorem snP0_k : hp_chk 299 186 5 [(0, 0, 1200), (1, 0, 1199), (2, 0, 1199), (3, (-128), 127), (4, 0, 47)] [((-1), [(0, 1), (2, (-1))]), ((-1), [(1, (-1)), (2, 1)])] [(0, .inr (.inr (.inl (some 94)))), (1, .inl (0, [(1, 1)])), (3, .inl (0, [(2, 1)]))] [] [(19970, (0, []), (0, [(0, 1)])), (20224, (0, [(2, 1)]), (0, [(3, 1)])), (63008, (0, [(3, 1)]), (0, [(4, 1)]))] [19971, 19972, 19973, 19974, 19975, 19976] 6 [] [([], 5, [(0, 0, 1200), (1, 0, 1199), (2, 0, 1199), (3, (-128), 127), (4, 0, 47)], [], [], [], [(19970, (0, []), (0, [(0, 1)])), (19971, (0, []), (0, []))]), ([], 5, [(0, 0, 1200), (1, 0, 1199), (2, 0, 1199), (3, (-128), 127), (4, 0, 47)], [], [], [], [(19970, (0, []), (0, [(0, 1)])), (19971, (0, []), (2, []))])] = true := by decide +kernel
theorem snP0 {cst : am_K} {strs : List Nat} {Φ : am_Q → Prop} {D : Nat} {M : am_M} {h : am_H} {l : am_L} (c : hp_C cst strs D) (hM : m_P[299]? = some M) (hD : (6 : Int) ≤ (D : Int) + 1) (hy : ly_hy m_tt ly_TH h) (n p e x b : Int) (b0 : 0 ≤ n) (t0 : n ≤ 1200) (b1 : 0 ≤ p) (t1 : p ≤ 1199) (b2 : 0 ≤ e) (t2 : e ≤ 1199) (b3 : (-128) ≤ x) (t3 : x ≤ 127) (b4 : 0 ≤ b) (t4 : b ≤ 47) (f0 : 0 ≤ (n - e - 1)) (f1 : 0 ≤ (e - p - 1)) (k0 : ly_hv cst h 19970 0 = some (n)) (k1 : ly_hv cst h 20224 (e) = some (x)) (k2 : ly_hv cst h 63008 (x) = some (b)) (l0 : hp_a l 0 94) (l1 : hp_i l 1 (p)) (l3 : hp_i l 3 (e)) (r0 : ∀ (h' : am_H), ly_hy m_tt ly_TH h' → ly_fr cst [19971, 19972, 19973, 19974, 19975, 19976] h h' → h.length ≤ h'.length → ly_hv cst h' 19970 0 = some (n) → ly_hv cst h' 19971 0 = some 0 → Φ (none, h', 0, 0)) (r1 : ∀ (h' : am_H), ly_hy m_tt ly_TH h' → ly_fr cst [19971, 19972, 19973, 19974, 19975, 19976] h h' → h.length ≤ h'.length → ly_hv cst h' 19970 0 = some (n) → ly_hv cst h' 19971 0 = some 2 → Φ (none, h', 0, 0)) : hp_F cst strs Φ D M 186 l [] h := by
  refine hp_arc c hM snP0_k hD [n, p, e, x, b] rfl hy (hp_Bc (z := n) rfl b0 t0 (hp_Bc (z := p) rfl b1 t1 (hp_Bc (z := e) rfl b2 t2 (hp_Bc (z := x) rfl b3 t3 (hp_Bc (z := b) rfl b4 t4 hp_Bn))))) (hp_Fc (z := ((-1) + (1 * n + ((-1) * e + 0)))) rfl (by omega) (hp_Fc (z := ((-1) + ((-1) * p + (1 * e + 0)))) rfl (by omega) hp_Fn)) (hp_Kc (zi := (0 + 0)) (zv := (0 + (1 * n + 0))) k0 rfl rfl (by omega) (by omega) (hp_Kc (zi := (0 + (1 * e + 0))) (zv := (0 + (1 * x + 0))) k1 rfl rfl (by omega) (by omega) (hp_Kc (zi := (0 + (1 * x + 0))) (zv := (0 + (1 * b + 0))) k2 rfl rfl (by omega) (by omega) hp_Kn))) (hp_La l0 (hp_Li (z := (0 + (1 * p + 0))) l1 rfl (by omega) (hp_Li (z := (0 + (1 * e + 0))) l3 rfl (by omega) hp_Ln))) trivial ?_ ?_
  · intro p hp ys l' st' h' hys a1 a2 a3 gZ gL gS
    cases hp
  · intro p hp ys v h' hys a1 a2 a3 gZ gS
    rcases List.mem_cons.mp hp with rfl | hp
    · obtain rfl := hp_y0 hys
      have sv := hp_gSn gS
      cases v with
      | some w => cases sv
      | none =>
        exact r0 h' a1 a2 a3 (hp_gK (zi := (0 + 0)) (zv := (0 + (1 * n + 0))) gZ.2.2.2 (List.mem_of_getElem? (i := 0) rfl) rfl rfl (by omega) (by omega)) (hp_gK (zi := (0 + 0)) (zv := (0 + 0)) gZ.2.2.2 (List.mem_of_getElem? (i := 1) rfl) rfl rfl (by omega) (by omega))
    rcases List.mem_cons.mp hp with rfl | hp
    · obtain rfl := hp_y0 hys
      have sv := hp_gSn gS
      cases v with
      | some w => cases sv
      | none =>
        exact r1 h' a1 a2 a3 (hp_gK (zi := (0 + 0)) (zv := (0 + (1 * n + 0))) gZ.2.2.2 (List.mem_of_getElem? (i := 0) rfl) rfl rfl (by omega) (by omega)) (hp_gK (zi := (0 + 0)) (zv := (2 + 0)) gZ.2.2.2 (List.mem_of_getElem? (i := 1) rfl) rfl rfl (by omega) (by omega))
    cases hp
theorem snP1_k : hp_chk 299 186 5 [(0, 0, 1200), (1, 0, 1199), (2, 0, 1199), (3, (-128), 127), (4, 58, 255)] [((-1), [(0, 1), (2, (-1))]), ((-1), [(1, (-1)), (2, 1)])] [(0, .inr (.inr (.inl (some 94)))), (1, .inl (0, [(1, 1)])), (3, .inl (0, [(2, 1)]))] [] [(19970, (0, []), (0, [(0, 1)])), (20224, (0, [(2, 1)]), (0, [(3, 1)])), (63008, (0, [(3, 1)]), (0, [(4, 1)]))] [19971, 19972, 19973, 19974, 19975, 19976] 6 [] [([], 5, [(0, 0, 1200), (1, 0, 1199), (2, 0, 1199), (3, (-128), 127), (4, 58, 255)], [], [], [], [(19970, (0, []), (0, [(0, 1)])), (19971, (0, []), (0, []))]), ([], 5, [(0, 0, 1200), (1, 0, 1199), (2, 0, 1199), (3, (-128), 127), (4, 58, 255)], [], [], [], [(19970, (0, []), (0, [(0, 1)])), (19971, (0, []), (2, []))])] = true := by decide +kernel
theorem snP1 {cst : am_K} {strs : List Nat} {Φ : am_Q → Prop} {D : Nat} {M : am_M} {h : am_H} {l : am_L} (c : hp_C cst strs D) (hM : m_P[299]? = some M) (hD : (6 : Int) ≤ (D : Int) + 1) (hy : ly_hy m_tt ly_TH h) (n p e x b : Int) (b0 : 0 ≤ n) (t0 : n ≤ 1200) (b1 : 0 ≤ p) (t1 : p ≤ 1199) (b2 : 0 ≤ e) (t2 : e ≤ 1199) (b3 : (-128) ≤ x) (t3 : x ≤ 127) (b4 : 58 ≤ b) (t4 : b ≤ 255) (f0 : 0 ≤ (n - e - 1)) (f1 : 0 ≤ (e - p - 1)) (k0 : ly_hv cst h 19970 0 = some (n)) (k1 : ly_hv cst h 20224 (e) = some (x)) (k2 : ly_hv cst h 63008 (x) = some (b)) (l0 : hp_a l 0 94) (l1 : hp_i l 1 (p)) (l3 : hp_i l 3 (e)) (r0 : ∀ (h' : am_H), ly_hy m_tt ly_TH h' → ly_fr cst [19971, 19972, 19973, 19974, 19975, 19976] h h' → h.length ≤ h'.length → ly_hv cst h' 19970 0 = some (n) → ly_hv cst h' 19971 0 = some 0 → Φ (none, h', 0, 0)) (r1 : ∀ (h' : am_H), ly_hy m_tt ly_TH h' → ly_fr cst [19971, 19972, 19973, 19974, 19975, 19976] h h' → h.length ≤ h'.length → ly_hv cst h' 19970 0 = some (n) → ly_hv cst h' 19971 0 = some 2 → Φ (none, h', 0, 0)) : hp_F cst strs Φ D M 186 l [] h := by
  refine hp_arc c hM snP1_k hD [n, p, e, x, b] rfl hy (hp_Bc (z := n) rfl b0 t0 (hp_Bc (z := p) rfl b1 t1 (hp_Bc (z := e) rfl b2 t2 (hp_Bc (z := x) rfl b3 t3 (hp_Bc (z := b) rfl b4 t4 hp_Bn))))) (hp_Fc (z := ((-1) + (1 * n + ((-1) * e + 0)))) rfl (by omega) (hp_Fc (z := ((-1) + ((-1) * p + (1 * e + 0)))) rfl (by omega) hp_Fn)) (hp_Kc (zi := (0 + 0)) (zv := (0 + (1 * n + 0))) k0 rfl rfl (by omega) (by omega) (hp_Kc (zi := (0 + (1 * e + 0))) (zv := (0 + (1 * x + 0))) k1 rfl rfl (by omega) (by omega) (hp_Kc (zi := (0 + (1 * x + 0))) (zv := (0 + (1 * b + 0))) k2 rfl rfl (by omega) (by omega) hp_Kn))) (hp_La l0 (hp_Li (z := (0 + (1 * p + 0))) l1 rfl (by omega) (hp_Li (z := (0 + (1 * e + 0))) l3 rfl (by omega) hp_Ln))) trivial ?_ ?_
  · intro p hp ys l' st' h' hys a1 a2 a3 gZ gL gS
    cases hp
  · intro p hp ys v h' hys a1 a2 a3 gZ gS
    rcases List.mem_cons.mp hp with rfl | hp
    · obtain rfl := hp_y0 hys
      have sv := hp_gSn gS
      cases v with
      | some w => cases sv
      | none =>
        exact r0 h' a1 a2 a3 (hp_gK (zi := (0 + 0)) (zv := (0 + (1 * n + 0))) gZ.2.2.2 (List.mem_of_getElem? (i := 0) rfl) rfl rfl (by omega) (by omega)) (hp_gK (zi := (0 + 0)) (zv := (0 + 0)) gZ.2.2.2 (List.mem_of_getElem? (i := 1) rfl) rfl rfl (by omega) (by omega))
    rcases List.mem_cons.mp hp with rfl | hp
    · obtain rfl := hp_y0 hys
      have sv := hp_gSn gS
      cases v with
      | some w => cases sv
      | none =>
        exact r1 h' a1 a2 a3 (hp_gK (zi := (0 + 0)) (zv := (0 + (1 * n + 0))) gZ.2.2.2 (List.mem_of_getElem? (i := 0) rfl) rfl rfl (by omega) (by omega)) (hp_gK (zi := (0 + 0)) (zv := (2 + 0)) gZ.2.2.2 (List.mem_of_getElem? (i := 1) rfl) rfl rfl (by omega) (by omega))
    cases hp
theorem snQ0_k : hp_chk 299 31 4 [(0, 0, 1200), (1, 0, 1199), (2, (-128), 127), (3, 0, 9)] [((-1), [(0, 1), (1, (-1))])] [(0, .inr (.inr (.inl (some 94)))), (1, .inl (0, [(1, 1)]))] [] [(19970, (0, []), (0, [(0, 1)])), (20224, (0, [(1, 1)]), (0, [(2, 1)])), (63008, (0, [(2, 1)]), (0, [(3, 1)]))] [19971, 19972, 19973, 19974, 19975, 19976] 6 [] [([], 4, [(0, 0, 1200), (1, 0, 1199), (2, (-128), 127), (3, 0, 9)], [], [], [], [(19970, (0, []), (0, [(0, 1)])), (19971, (0, []), (0, []))]), ([], 4, [(0, 0, 1200), (1, 0, 1199), (2, (-128), 127), (3, 0, 9)], [], [], [], [(19970, (0, []), (0, [(0, 1)])), (19971, (0, []), (3, []))]), ([], 4, [(0, 0, 1200), (1, 0, 1199), (2, (-128), 127), (3, 0, 9)], [], [], [], [(19970, (0, []), (0, [(0, 1)])), (19971, (0, []), (4, []))]), ([], 4, [(0, 0, 1200), (1, 0, 1199), (2, (-128), 127), (3, 0, 9)], [], [], [], [(19970, (0, []), (0, [(0, 1)])), (19971, (0, []), (5, []))]), ([], 4, [(0, 0, 1200), (1, 0, 1199), (2, (-128), 127), (3, 0, 9)], [], [], [], [(19970, (0, []), (0, [(0, 1)])), (19971, (0, []), (6, []))]), ([], 4, [(0, 0, 1200), (1, 0, 1199), (2, (-128), 127), (3, 0, 9)], [], [], [], [(19970, (0, []), (0, [(0, 1)])), (19971, (0, []), (7, []))])] = true := by decide +kernel
theorem snQ0 {cst : am_K} {strs : List Nat} {Φ : am_Q → Prop} {D : Nat} {M : am_M} {h : am_H} {l : am_L} (c : hp_C cst strs D) (hM : m_P[299]? = some M) (hD : (6 : Int) ≤ (D : Int) + 1) (hy : ly_hy m_tt ly_TH h) (n p x b : Int) (b0 : 0 ≤ n) (t0 : n ≤ 1200) (b1 : 0 ≤ p) (t1 : p ≤ 1199) (b2 : (-128) ≤ x) (t2 : x ≤ 127) (b3 : 0 ≤ b) (t3 : b ≤ 9) (f0 : 0 ≤ (n - p - 1)) (k0 : ly_hv cst h 19970 0 = some (n)) (k1 : ly_hv cst h 20224 (p) = some (x)) (k2 : ly_hv cst h 63008 (x) = some (b)) (l0 : hp_a l 0 94) (l1 : hp_i l 1 (p)) (r0 : ∀ (h' : am_H), ly_hy m_tt ly_TH h' → ly_fr cst [19971, 19972, 19973, 19974, 19975, 19976] h h' → h.length ≤ h'.length → ly_hv cst h' 19970 0 = some (n) → ly_hv cst h' 19971 0 = some 0 → Φ (none, h', 0, 0)) (r1 : ∀ (h' : am_H), ly_hy m_tt ly_TH h' → ly_fr cst [19971, 19972, 19973, 19974, 19975, 19976] h h' → h.length ≤ h'.length → ly_hv cst h' 19970 0 = some (n) → ly_hv cst h' 19971 0 = some 3 → Φ (none, h', 0, 0)) (r2 : ∀ (h' : am_H), ly_hy m_tt ly_TH h' → ly_fr cst [19971, 19972, 19973, 19974, 19975, 19976] h h' → h.length ≤ h'.length → ly_hv cst h' 19970 0 = some (n) → ly_hv cst h' 19971 0 = some 4 → Φ (none, h', 0, 0)) (r3 : ∀ (h' : am_H), ly_hy m_tt ly_TH h' → ly_fr cst [19971, 19972, 19973, 19974, 19975, 19976] h h' → h.length ≤ h'.length → ly_hv cst h' 19970 0 = some (n) → ly_hv cst h' 19971 0 = some 5 → Φ (none, h', 0, 0)) (r4 : ∀ (h' : am_H), ly_hy m_tt ly_TH h' → ly_fr cst [19971, 19972, 19973, 19974, 19975, 19976] h h' → h.length ≤ h'.length → ly_hv cst h' 19970 0 = some (n) → ly_hv cst h' 19971 0 = some 6 → Φ (none, h', 0, 0)) (r5 : ∀ (h' : am_H), ly_hy m_tt ly_TH h' → ly_fr cst [19971, 19972, 19973, 19974, 19975, 19976] h h' → h.length ≤ h'.length → ly_hv cst h' 19970 0 = some (n) → ly_hv cst h' 19971 0 = some 7 → Φ (none, h', 0, 0)) : hp_F cst strs Φ D M 31 l [] h := by
  refine hp_arc c hM snQ0_k hD [n, p, x, b] rfl hy (hp_Bc (z := n) rfl b0 t0 (hp_Bc (z := p) rfl b1 t1 (hp_Bc (z := x) rfl b2 t2 (hp_Bc (z := b) rfl b3 t3 hp_Bn)))) (hp_Fc (z := ((-1) + (1 * n + ((-1) * p + 0)))) rfl (by omega) hp_Fn) (hp_Kc (zi := (0 + 0)) (zv := (0 + (1 * n + 0))) k0 rfl rfl (by omega) (by omega) (hp_Kc (zi := (0 + (1 * p + 0))) (zv := (0 + (1 * x + 0))) k1 rfl rfl (by omega) (by omega) (hp_Kc (zi := (0 + (1 * x + 0))) (zv := (0 + (1 * b + 0))) k2 rfl rfl (by omega) (by omega) hp_Kn))) (hp_La l0 (hp_Li (z := (0 + (1 * p + 0))) l1 rfl (by omega) hp_Ln)) trivial ?_ ?_
  · intro p hp ys l' st' h' hys a1 a2 a3 gZ gL gS
    cases hp
  · intro p hp ys v h' hys a1 a2 a3 gZ gS
    rcases List.mem_cons.mp hp with rfl | hp
    · obtain rfl := hp_y0 hys
      have sv := hp_gSn gS
      cases v with
      | some w => cases sv
      | none =>
        exact r0 h' a1 a2 a3 (hp_gK (zi := (0 + 0)) (zv := (0 + (1 * n + 0))) gZ.2.2.2 (List.mem_of_getElem? (i := 0) rfl) rfl rfl (by omega) (by omega)) (hp_gK (zi := (0 + 0)) (zv := (0 + 0)) gZ.2.2.2 (List.mem_of_getElem? (i := 1) rfl) rfl rfl (by omega) (by omega))
    rcases List.mem_cons.mp hp with rfl | hp
    · obtain rfl := hp_y0 hys
      have sv := hp_gSn gS
      cases v with
      | some w => cases sv
      | none =>
        exact r1 h' a1 a2 a3 (hp_gK (zi := (0 + 0)) (zv := (0 + (1 * n + 0))) gZ.2.2.2 (List.mem_of_getElem? (i := 0) rfl) rfl rfl (by omega) (by omega)) (hp_gK (zi := (0 + 0)) (zv := (3 + 0)) gZ.2.2.2 (List.mem_of_getElem? (i := 1) rfl) rfl rfl (by omega) (by omega))
    rcases List.mem_cons.mp hp with rfl | hp
    · obtain rfl := hp_y0 hys
      have sv := hp_gSn gS
      cases v with
      | some w => cases sv
      | none =>
        exact r2 h' a1 a2 a3 (hp_gK (zi := (0 + 0)) (zv := (0 + (1 * n + 0))) gZ.2.2.2 (List.mem_of_getElem? (i := 0) rfl) rfl rfl (by omega) (by omega)) (hp_gK (zi := (0 + 0)) (zv := (4 + 0)) gZ.2.2.2 (List.mem_of_getElem? (i := 1) rfl) rfl rfl (by omega) (by omega))
    rcases List.mem_cons.mp hp with rfl | hp
    · obtain rfl := hp_y0 hys
      have sv := hp_gSn gS
      cases v with
      | some w => cases sv
      | none =>
        exact r3 h' a1 a2 a3 (hp_gK (zi := (0 + 0)) (zv := (0 + (1 * n + 0))) gZ.2.2.2 (List.mem_of_getElem? (i := 0) rfl) rfl rfl (by omega) (by omega)) (hp_gK (zi := (0 + 0)) (zv := (5 + 0)) gZ.2.2.2 (List.mem_of_getElem? (i := 1) rfl) rfl rfl (by omega) (by omega))
    rcases List.mem_cons.mp hp with rfl | hp
    · obtain rfl := hp_y0 hys
      have sv := hp_gSn gS
      cases v with
      | some w => cases sv
      | none =>
        exact r4 h' a1 a2 a3 (hp_gK (zi := (0 + 0)) (zv := (0 + (1 * n + 0))) gZ.2.2.2 (List.mem_of_getElem? (i := 0) rfl) rfl rfl (by omega) (by omega)) (hp_gK (zi := (0 + 0)) (zv := (6 + 0)) gZ.2.2.2 (List.mem_of_getElem? (i := 1) rfl) rfl rfl (by omega) (by omega))
    rcases List.mem_cons.mp hp with rfl | hp
    · obtain rfl := hp_y0 hys
      have sv := hp_gSn gS
      cases v with
      | some w => cases sv
      | none =>
        exact r5 h' a1 a2 a3 (hp_gK (zi := (0 + 0)) (zv := (0 + (1 * n + 0))) gZ.2.2.2 (List.mem_of_getElem? (i := 0) rfl) rfl rfl (by omega) (by omega)) (hp_gK (zi := (0 + 0)) (zv := (7 + 0)) gZ.2.2.2 (List.mem_of_getElem? (i := 1) rfl) rfl rfl (by omega) (by omega))
    cases hp
theorem snQ1_k : hp_chk 299 31 4 [(0, 0, 1200), (1, 0, 1199), (2, (-128), 127), (3, 11, 31)] [((-1), [(0, 1), (1, (-1))])] [(0, .inr (.inr (.inl (some 94)))), (1, .inl (0, [(1, 1)]))] [] [(19970, (0, []), (0, [(0, 1)])), (20224, (0, [(1, 1)]), (0, [(2, 1)])), (63008, (0, [(2, 1)]), (0, [(3, 1)]))] [19971, 19972, 19973, 19974, 19975, 19976] 6 [] [([], 4, [(0, 0, 1200), (1, 0, 1199), (2, (-128), 127), (3, 11, 31)], [], [], [], [(19970, (0, []), (0, [(0, 1)])), (19971, (0, []), (0, []))]), ([], 4, [(0, 0, 1200), (1, 0, 1199), (2, (-128), 127), (3, 11, 31)], [], [], [], [(19970, (0, []), (0, [(0, 1)])), (19971, (0, []), (3, []))]), ([], 4, [(0, 0, 1200), (1, 0, 1199), (2, (-128), 127), (3, 11, 31)], [], [], [], [(19970, (0, []), (0, [(0, 1)])), (19971, (0, []), (4, []))]), ([], 4, [(0, 0, 1200), (1, 0, 1199), (2, (-128), 127), (3, 11, 31)], [], [], [], [(19970, (0, []), (0, [(0, 1)])), (19971, (0, []), (5, []))]), ([], 4, [(0, 0, 1200), (1, 0, 1199), (2, (-128), 127), (3, 11, 31)], [], [], [], [(19970, (0, []), (0, [(0, 1)])), (19971, (0, []), (6, []))]), ([], 4, [(0, 0, 1200), (1, 0, 1199), (2, (-128), 127), (3, 11, 31)], [], [], [], [(19970, (0, []), (0, [(0, 1)])), (19971, (0, []), (7, []))])] = true := by decide +kernel
theorem snQ1 {cst : am_K} {strs : List Nat} {Φ : am_Q → Prop} {D : Nat} {M : am_M} {h : am_H} {l : am_L} (c : hp_C cst strs D) (hM : m_P[299]? = some M) (hD : (6 : Int) ≤ (D : Int) + 1) (hy : ly_hy m_tt ly_TH h) (n p x b : Int) (b0 : 0 ≤ n) (t0 : n ≤ 1200) (b1 : 0 ≤ p) (t1 : p ≤ 1199) (b2 : (-128) ≤ x) (t2 : x ≤ 127) (b3 : 11 ≤ b) (t3 : b ≤ 31) (f0 : 0 ≤ (n - p - 1)) (k0 : ly_hv cst h 19970 0 = some (n)) (k1 : ly_hv cst h 20224 (p) = some (x)) (k2 : ly_hv cst h 63008 (x) = some (b)) (l0 : hp_a l 0 94) (l1 : hp_i l 1 (p)) (r0 : ∀ (h' : am_H), ly_hy m_tt ly_TH h' → ly_fr cst [19971, 19972, 19973, 19974, 19975, 19976] h h' → h.length ≤ h'.length → ly_hv cst h' 19970 0 = some (n) → ly_hv cst h' 19971 0 = some 0 → Φ (none, h', 0, 0)) (r1 : ∀ (h' : am_H), ly_hy m_tt ly_TH h' → ly_fr cst [19971, 19972, 19973, 19974, 19975, 19976] h h' → h.length ≤ h'.length → ly_hv cst h' 19970 0 = some (n) → ly_hv cst h' 19971 0 = some 3 → Φ (none, h', 0, 0)) (r2 : ∀ (h' : am_H), ly_hy m_tt ly_TH h' → ly_fr cst [19971, 19972, 19973, 19974, 19975, 19976] h h' → h.length ≤ h'.length → ly_hv cst h' 19970 0 = some (n) → ly_hv cst h' 19971 0 = some 4 → Φ (none, h', 0, 0)) (r3 : ∀ (h' : am_H), ly_hy m_tt ly_TH h' → ly_fr cst [19971, 19972, 19973, 19974, 19975, 19976] h h' → h.length ≤ h'.length → ly_hv cst h' 19970 0 = some (n) → ly_hv cst h' 19971 0 = some 5 → Φ (none, h', 0, 0)) (r4 : ∀ (h' : am_H), ly_hy m_tt ly_TH h' → ly_fr cst [19971, 19972, 19973, 19974, 19975, 19976] h h' → h.length ≤ h'.length → ly_hv cst h' 19970 0 = some (n) → ly_hv cst h' 19971 0 = some 6 → Φ (none, h', 0, 0)) (r5 : ∀ (h' : am_H), ly_hy m_tt ly_TH h' → ly_fr cst [19971, 19972, 19973, 19974, 19975, 19976] h h' → h.length ≤ h'.length → ly_hv cst h' 19970 0 = some (n) → ly_hv cst h' 19971 0 = some 7 → Φ (none, h', 0, 0)) : hp_F cst strs Φ D M 31 l [] h := by
  refine hp_arc c hM snQ1_k hD [n, p, x, b] rfl hy (hp_Bc (z := n) rfl b0 t0 (hp_Bc (z := p) rfl b1 t1 (hp_Bc (z := x) rfl b2 t2 (hp_Bc (z := b) rfl b3 t3 hp_Bn)))) (hp_Fc (z := ((-1) + (1 * n + ((-1) * p + 0)))) rfl (by omega) hp_Fn) (hp_Kc (zi := (0 + 0)) (zv := (0 + (1 * n + 0))) k0 rfl rfl (by omega) (by omega) (hp_Kc (zi := (0 + (1 * p + 0))) (zv := (0 + (1 * x + 0))) k1 rfl rfl (by omega) (by omega) (hp_Kc (zi := (0 + (1 * x + 0))) (zv := (0 + (1 * b + 0))) k2 rfl rfl (by omega) (by omega) hp_Kn))) (hp_La l0 (hp_Li (z := (0 + (1 * p + 0))) l1 rfl (by omega) hp_Ln)) trivial ?_ ?_
  · intro p hp ys l' st' h' hys a1 a2 a3 gZ gL gS
    cases hp
  · intro p hp ys v h' hys a1 a2 a3 gZ gS
    rcases List.mem_cons.mp hp with rfl | hp
    · obtain rfl := hp_y0 hys
      have sv := hp_gSn gS
      cases v with
      | some w => cases sv
      | none =>
        exact r0 h' a1 a2 a3 (hp_gK (zi := (0 + 0)) (zv := (0 + (1 * n + 0))) gZ.2.2.2 (List.mem_of_getElem? (i := 0) rfl) rfl rfl (by omega) (by omega)) (hp_gK (zi := (0 + 0)) (zv := (0 + 0)) gZ.2.2.2 (List.mem_of_getElem? (i := 1) rfl) rfl rfl (by omega) (by omega))
    rcases List.mem_cons.mp hp with rfl | hp
    · obtain rfl := hp_y0 hys
      have sv := hp_gSn gS
      cases v with
      | some w => cases sv
      | none =>
        exact r1 h' a1 a2 a3 (hp_gK (zi := (0 + 0)) (zv := (0 + (1 * n + 0))) gZ.2.2.2 (List.mem_of_getElem? (i := 0) rfl) rfl rfl (by omega) (by omega)) (hp_gK (zi := (0 + 0)) (zv := (3 + 0)) gZ.2.2.2 (List.mem_of_getElem? (i := 1) rfl) rfl rfl (by omega) (by omega))
    rcases List.mem_cons.mp hp with rfl | hp
    · obtain rfl := hp_y0 hys
      have sv := hp_gSn gS
      cases v with
      | some w => cases sv
      | none =>
        exact r2 h' a1 a2 a3 (hp_gK (zi := (0 + 0)) (zv := (0 + (1 * n + 0))) gZ.2.2.2 (List.mem_of_getElem? (i := 0) rfl) rfl rfl (by omega) (by omega)) (hp_gK (zi := (0 + 0)) (zv := (4 + 0)) gZ.2.2.2 (List.mem_of_getElem? (i := 1) rfl) rfl rfl (by omega) (by omega))
    rcases List.mem_cons.mp hp with rfl | hp
    · obtain rfl := hp_y0 hys
      have sv := hp_gSn gS
      cases v with
      | some w => cases sv
      | none =>
        exact r3 h' a1 a2 a3 (hp_gK (zi := (0 + 0)) (zv := (0 + (1 * n + 0))) gZ.2.2.2 (List.mem_of_getElem? (i := 0) rfl) rfl rfl (by omega) (by omega)) (hp_gK (zi := (0 + 0)) (zv := (5 + 0)) gZ.2.2.2 (List.mem_of_getElem? (i := 1) rfl) rfl rfl (by omega) (by omega))
    rcases List.mem_cons.mp hp with rfl | hp
    · obtain rfl := hp_y0 hys
      have sv := hp_gSn gS
      cases v with
      | some w => cases sv
      | none =>
        exact r4 h' a1 a2 a3 (hp_gK (zi := (0 + 0)) (zv := (0 + (1 * n + 0))) gZ.2.2.2 (List.mem_of_getElem? (i := 0) rfl) rfl rfl (by omega) (by omega)) (hp_gK (zi := (0 + 0)) (zv := (6 + 0)) gZ.2.2.2 (List.mem_of_getElem? (i := 1) rfl) rfl rfl (by omega) (by omega))
    rcases List.mem_cons.mp hp with rfl | hp
    · obtain rfl := hp_y0 hys
      have sv := hp_gSn gS
      cases v with
      | some w => cases sv
      | none =>
        exact r5 h' a1 a2 a3 (hp_gK (zi := (0 + 0)) (zv := (0 + (1 * n + 0))) gZ.2.2.2 (List.mem_of_getElem? (i := 0) rfl) rfl rfl (by omega) (by omega)) (hp_gK (zi := (0 + 0)) (zv := (7 + 0)) gZ.2.2.2 (List.mem_of_getElem? (i := 1) rfl) rfl rfl (by omega) (by omega))
    cases hp
theorem snQ2_k : hp_chk 299 31 4 [(0, 0, 1200), (1, 0, 1199), (2, (-128), 127), (3, 33, 47)] [((-1), [(0, 1), (1, (-1))])] [(0, .inr (.inr (.inl (some 94)))), (1, .inl (0, [(1, 1)]))] [] [(19970, (0, []), (0, [(0, 1)])), (20224, (0, [(1, 1)]), (0, [(2, 1)])), (63008, (0, [(2, 1)]), (0, [(3, 1)]))] [19971, 19972, 19973, 19974, 19975, 19976] 6 [] [([], 4, [(0, 0, 1200), (1, 0, 1199), (2, (-128), 127), (3, 33, 47)], [], [], [], [(19970, (0, []), (0, [(0, 1)])), (19971, (0, []), (0, []))]), ([], 4, [(0, 0, 1200), (1, 0, 1199), (2, (-128), 127), (3, 33, 47)], [], [], [], [(19970, (0, []), (0, [(0, 1)])), (19971, (0, []), (3, []))]), ([], 4, [(0, 0, 1200), (1, 0, 1199), (2, (-128), 127), (3, 33, 47)], [], [], [], [(19970, (0, []), (0, [(0, 1)])), (19971, (0, []), (4, []))]), ([], 4, [(0, 0, 1200), (1, 0, 1199), (2, (-128), 127), (3, 33, 47)], [], [], [], [(19970, (0, []), (0, [(0, 1)])), (19971, (0, []), (5, []))]), ([], 4, [(0, 0, 1200), (1, 0, 1199), (2, (-128), 127), (3, 33, 47)], [], [], [], [(19970, (0, []), (0, [(0, 1)])), (19971, (0, []), (6, []))]), ([], 4, [(0, 0, 1200), (1, 0, 1199), (2, (-128), 127), (3, 33, 47)], [], [], [], [(19970, (0, []), (0, [(0, 1)])), (19971, (0, []), (7, []))])] = true := by decide +kernel
theorem snQ2 {cst : am_K} {strs : List Nat} {Φ : am_Q → Prop} {D : Nat} {M : am_M} {h : am_H} {l : am_L} (c : hp_C cst strs D) (hM : m_P[299]? = some M) (hD : (6 : Int) ≤ (D : Int) + 1) (hy : ly_hy m_tt ly_TH h) (n p x b : Int) (b0 : 0 ≤ n) (t0 : n ≤ 1200) (b1 : 0 ≤ p) (t1 : p ≤ 1199) (b2 : (-128) ≤ x) (t2 : x ≤ 127) (b3 : 33 ≤ b) (t3 : b ≤ 47) (f0 : 0 ≤ (n - p - 1)) (k0 : ly_hv cst h 19970 0 = some (n)) (k1 : ly_hv cst h 20224 (p) = some (x)) (k2 : ly_hv cst h 63008 (x) = some (b)) (l0 : hp_a l 0 94) (l1 : hp_i l 1 (p)) (r0 : ∀ (h' : am_H), ly_hy m_tt ly_TH h' → ly_fr cst [19971, 19972, 19973, 19974, 19975, 19976] h h' → h.length ≤ h'.length → ly_hv cst h' 19970 0 = some (n) → ly_hv cst h' 19971 0 = some 0 → Φ (none, h', 0, 0)) (r1 : ∀ (h' : am_H), ly_hy m_tt ly_TH h' → ly_fr cst [19971, 19972, 19973, 19974, 19975, 19976] h h' → h.length ≤ h'.length → ly_hv cst h' 19970 0 = some (n) → ly_hv cst h' 19971 0 = some 3 → Φ (none, h', 0, 0)) (r2 : ∀ (h' : am_H), ly_hy m_tt ly_TH h' → ly_fr cst [19971, 19972, 19973, 19974, 19975, 19976] h h' → h.length ≤ h'.length → ly_hv cst h' 19970 0 = some (n) → ly_hv cst h' 19971 0 = some 4 → Φ (none, h', 0, 0)) (r3 : ∀ (h' : am_H), ly_hy m_tt ly_TH h' → ly_fr cst [19971, 19972, 19973, 19974, 19975, 19976] h h' → h.length ≤ h'.length → ly_hv cst h' 19970 0 = some (n) → ly_hv cst h' 19971 0 = some 5 → Φ (none, h', 0, 0)) (r4 : ∀ (h' : am_H), ly_hy m_tt ly_TH h' → ly_fr cst [19971, 19972, 19973, 19974, 19975, 19976] h h' → h.length ≤ h'.length → ly_hv cst h' 19970 0 = some (n) → ly_hv cst h' 19971 0 = some 6 → Φ (none, h', 0, 0)) (r5 : ∀ (h' : am_H), ly_hy m_tt ly_TH h' → ly_fr cst [19971, 19972, 19973, 19974, 19975, 19976] h h' → h.length ≤ h'.length → ly_hv cst h' 19970 0 = some (n) → ly_hv cst h' 19971 0 = some 7 → Φ (none, h', 0, 0)) : hp_F cst strs Φ D M 31 l [] h := by
  refine hp_arc c hM snQ2_k hD [n, p, x, b] rfl hy (hp_Bc (z := n) rfl b0 t0 (hp_Bc (z := p) rfl b1 t1 (hp_Bc (z := x) rfl b2 t2 (hp_Bc (z := b) rfl b3 t3 hp_Bn)))) (hp_Fc (z := ((-1) + (1 * n + ((-1) * p + 0)))) rfl (by omega) hp_Fn) (hp_Kc (zi := (0 + 0)) (zv := (0 + (1 * n + 0))) k0 rfl rfl (by omega) (by omega) (hp_Kc (zi := (0 + (1 * p + 0))) (zv := (0 + (1 * x + 0))) k1 rfl rfl (by omega) (by omega) (hp_Kc (zi := (0 + (1 * x + 0))) (zv := (0 + (1 * b + 0))) k2 rfl rfl (by omega) (by omega) hp_Kn))) (hp_La l0 (hp_Li (z := (0 + (1 * p + 0))) l1 rfl (by omega) hp_Ln)) trivial ?_ ?_
  · intro p hp ys l' st' h' hys a1 a2 a3 gZ gL gS
    cases hp
  · intro p hp ys v h' hys a1 a2 a3 gZ gS
    rcases List.mem_cons.mp hp with rfl | hp
    · obtain rfl := hp_y0 hys
      have sv := hp_gSn gS
      cases v with
      | some w => cases sv
      | none =>
        exact r0 h' a1 a2 a3 (hp_gK (zi := (0 + 0)) (zv := (0 + (1 * n + 0))) gZ.2.2.2 (List.mem_of_getElem? (i := 0) rfl) rfl rfl (by omega) (by omega)) (hp_gK (zi := (0 + 0)) (zv := (0 + 0)) gZ.2.2.2 (List.mem_of_getElem? (i := 1) rfl) rfl rfl (by omega) (by omega))
    rcases List.mem_cons.mp hp with rfl | hp
    · obtain rfl := hp_y0 hys
      have sv := hp_gSn gS
      cases v with
      | some w => cases sv
      | none =>
        exact r1 h' a1 a2 a3 (hp_gK (zi := (0 + 0)) (zv := (0 + (1 * n + 0))) gZ.2.2.2 (List.mem_of_getElem? (i := 0) rfl) rfl rfl (by omega) (by omega)) (hp_gK (zi := (0 + 0)) (zv := (3 + 0)) gZ.2.2.2 (List.mem_of_getElem? (i := 1) rfl) rfl rfl (by omega) (by omega))
    rcases List.mem_cons.mp hp with rfl | hp
    · obtain rfl := hp_y0 hys
      have sv := hp_gSn gS
      cases v with
      | some w => cases sv
      | none =>
        exact r2 h' a1 a2 a3 (hp_gK (zi := (0 + 0)) (zv := (0 + (1 * n + 0))) gZ.2.2.2 (List.mem_of_getElem? (i := 0) rfl) rfl rfl (by omega) (by omega)) (hp_gK (zi := (0 + 0)) (zv := (4 + 0)) gZ.2.2.2 (List.mem_of_getElem? (i := 1) rfl) rfl rfl (by omega) (by omega))
    rcases List.mem_cons.mp hp with rfl | hp
    · obtain rfl := hp_y0 hys
      have sv := hp_gSn gS
      cases v with
      | some w => cases sv
      | none =>
        exact r3 h' a1 a2 a3 (hp_gK (zi := (0 + 0)) (zv := (0 + (1 * n + 0))) gZ.2.2.2 (List.mem_of_getElem? (i := 0) rfl) rfl rfl (by omega) (by omega)) (hp_gK (zi := (0 + 0)) (zv := (5 + 0)) gZ.2.2.2 (List.mem_of_getElem? (i := 1) rfl) rfl rfl (by omega) (by omega))
    rcases List.mem_cons.mp hp with rfl | hp
    · obtain rfl := hp_y0 hys
      have sv := hp_gSn gS
      cases v with
      | some w => cases sv
      | none =>
        exact r4 h' a1 a2 a3 (hp_gK (zi := (0 + 0)) (zv := (0 + (1 * n + 0))) gZ.2.2.2 (List.mem_of_getElem? (i := 0) rfl) rfl rfl (by omega) (by omega)) (hp_gK (zi := (0 + 0)) (zv := (6 + 0)) gZ.2.2.2 (List.mem_of_getElem? (i := 1) rfl) rfl rfl (by omega) (by omega))
    rcases List.mem_cons.mp hp with rfl | hp
    · obtain rfl := hp_y0 hys
      have sv := hp_gSn gS
      cases v with
      | some w => cases sv
      | none =>
        exact r5 h' a1 a2 a3 (hp_gK (zi := (0 + 0)) (zv := (0 + (1 * n + 0))) gZ.2.2.2 (List.mem_of_getElem? (i := 0) rfl) rfl rfl (by omega) (by omega)) (hp_gK (zi := (0 + 0)) (zv := (7 + 0)) gZ.2.2.2 (List.mem_of_getElem? (i := 1) rfl) rfl rfl (by omega) (by omega))
    cases hp
theorem snQ3_k : hp_chk 299 31 4 [(0, 0, 1200), (1, 0, 1199), (2, (-128), 127), (3, 58, 96)] [((-1), [(0, 1), (1, (-1))])] [(0, .inr (.inr (.inl (some 94)))), (1, .inl (0, [(1, 1)]))] [] [(19970, (0, []), (0, [(0, 1)])), (20224, (0, [(1, 1)]), (0, [(2, 1)])), (63008, (0, [(2, 1)]), (0, [(3, 1)]))] [19971, 19972, 19973, 19974, 19975, 19976] 6 [] [([], 4, [(0, 0, 1200), (1, 0, 1199), (2, (-128), 127), (3, 58, 96)], [], [], [], [(19970, (0, []), (0, [(0, 1)])), (19971, (0, []), (0, []))]), ([], 4, [(0, 0, 1200), (1, 0, 1199), (2, (-128), 127), (3, 58, 96)], [], [], [], [(19970, (0, []), (0, [(0, 1)])), (19971, (0, []), (3, []))]), ([], 4, [(0, 0, 1200), (1, 0, 1199), (2, (-128), 127), (3, 58, 96)], [], [], [], [(19970, (0, []), (0, [(0, 1)])), (19971, (0, []), (4, []))]), ([], 4, [(0, 0, 1200), (1, 0, 1199), (2, (-128), 127), (3, 58, 96)], [], [], [], [(19970, (0, []), (0, [(0, 1)])), (19971, (0, []), (5, []))]), ([], 4, [(0, 0, 1200), (1, 0, 1199), (2, (-128), 127), (3, 58, 96)], [], [], [], [(19970, (0, []), (0, [(0, 1)])), (19971, (0, []), (6, []))]), ([], 4, [(0, 0, 1200), (1, 0, 1199), (2, (-128), 127), (3, 58, 96)], [], [], [], [(19970, (0, []), (0, [(0, 1)])), (19971, (0, []), (7, []))])] = true := by decide +kernel
theorem snQ3 {cst : am_K} {strs : List Nat} {Φ : am_Q → Prop} {D : Nat} {M : am_M} {h : am_H} {l : am_L} (c : hp_C cst strs D) (hM : m_P[299]? = some M) (hD : (6 : Int) ≤ (D : Int) + 1) (hy : ly_hy m_tt ly_TH h) (n p x b : Int) (b0 : 0 ≤ n) (t0 : n ≤ 1200) (b1 : 0 ≤ p) (t1 : p ≤ 1199) (b2 : (-128) ≤ x) (t2 : x ≤ 127) (b3 : 58 ≤ b) (t3 : b ≤ 96) (f0 : 0 ≤ (n - p - 1)) (k0 : ly_hv cst h 19970 0 = some (n)) (k1 : ly_hv cst h 20224 (p) = some (x)) (k2 : ly_hv cst h 63008 (x) = some (b)) (l0 : hp_a l 0 94) (l1 : hp_i l 1 (p)) (r0 : ∀ (h' : am_H), ly_hy m_tt ly_TH h' → ly_fr cst [19971, 19972, 19973, 19974, 19975, 19976] h h' → h.length ≤ h'.length → ly_hv cst h' 19970 0 = some (n) → ly_hv cst h' 19971 0 = some 0 → Φ (none, h', 0, 0)) (r1 : ∀ (h' : am_H), ly_hy m_tt ly_TH h' → ly_fr cst [19971, 19972, 19973, 19974, 19975, 19976] h h' → h.length ≤ h'.length → ly_hv cst h' 19970 0 = some (n) → ly_hv cst h' 19971 0 = some 3 → Φ (none, h', 0, 0)) (r2 : ∀ (h' : am_H), ly_hy m_tt ly_TH h' → ly_fr cst [19971, 19972, 19973, 19974, 19975, 19976] h h' → h.length ≤ h'.length → ly_hv cst h' 19970 0 = some (n) → ly_hv cst h' 19971 0 = some 4 → Φ (none, h', 0, 0)) (r3 : ∀ (h' : am_H), ly_hy m_tt ly_TH h' → ly_fr cst [19971, 19972, 19973, 19974, 19975, 19976] h h' → h.length ≤ h'.length → ly_hv cst h' 19970 0 = some (n) → ly_hv cst h' 19971 0 = some 5 → Φ (none, h', 0, 0)) (r4 : ∀ (h' : am_H), ly_hy m_tt ly_TH h' → ly_fr cst [19971, 19972, 19973, 19974, 19975, 19976] h h' → h.length ≤ h'.length → ly_hv cst h' 19970 0 = some (n) → ly_hv cst h' 19971 0 = some 6 → Φ (none, h', 0, 0)) (r5 : ∀ (h' : am_H), ly_hy m_tt ly_TH h' → ly_fr cst [19971, 19972, 19973, 19974, 19975, 19976] h h' → h.length ≤ h'.length → ly_hv cst h' 19970 0 = some (n) → ly_hv cst h' 19971 0 = some 7 → Φ (none, h', 0, 0)) : hp_F cst strs Φ D M 31 l [] h := by
  refine hp_arc c hM snQ3_k hD [n, p, x, b] rfl hy (hp_Bc (z := n) rfl b0 t0 (hp_Bc (z := p) rfl b1 t1 (hp_Bc (z := x) rfl b2 t2 (hp_Bc (z := b) rfl b3 t3 hp_Bn)))) (hp_Fc (z := ((-1) + (1 * n + ((-1) * p + 0)))) rfl (by omega) hp_Fn) (hp_Kc (zi := (0 + 0)) (zv := (0 + (1 * n + 0))) k0 rfl rfl (by omega) (by omega) (hp_Kc (zi := (0 + (1 * p + 0))) (zv := (0 + (1 * x + 0))) k1 rfl rfl (by omega) (by omega) (hp_Kc (zi := (0 + (1 * x + 0))) (zv := (0 + (1 * b + 0))) k2 rfl rfl (by omega) (by omega) hp_Kn))) (hp_La l0 (hp_Li (z := (0 + (1 * p + 0))) l1 rfl (by omega) hp_Ln)) trivial ?_ ?_
  · intro p hp ys l' st' h' hys a1 a2 a3 gZ gL gS
    cases hp
  · intro p hp ys v h' hys a1 a2 a3 gZ gS
    rcases List.mem_cons.mp hp with rfl | hp
    · obtain rfl := hp_y0 hys
      have sv := hp_gSn gS
      cases v with
      | some w => cases sv
      | none =>
        exact r0 h' a1 a2 a3 (hp_gK (zi := (0 + 0)) (zv := (0 + (1 * n + 0))) gZ.2.2.2 (List.mem_of_getElem? (i := 0) rfl) rfl rfl (by omega) (by omega)) (hp_gK (zi := (0 + 0)) (zv := (0 + 0)) gZ.2.2.2 (List.mem_of_getElem? (i := 1) rfl) rfl rfl (by omega) (by omega))
    rcases List.mem_cons.mp hp with rfl | hp
    · obtain rfl := hp_y0 hys
      have sv := hp_gSn gS
      cases v with
      | some w => cases sv
      | none =>
        exact r1 h' a1 a2 a3 (hp_gK (zi := (0 + 0)) (zv := (0 + (1 * n + 0))) gZ.2.2.2 (List.mem_of_getElem? (i := 0) rfl) rfl rfl (by omega) (by omega)) (hp_gK (zi := (0 + 0)) (zv := (3 + 0)) gZ.2.2.2 (List.mem_of_getElem? (i := 1) rfl) rfl rfl (by omega) (by omega))
    rcases List.mem_cons.mp hp with rfl | hp
    · obtain rfl := hp_y0 hys
      have sv := hp_gSn gS
      cases v with
      | some w => cases sv
      | none =>
        exact r2 h' a1 a2 a3 (hp_gK (zi := (0 + 0)) (zv := (0 + (1 * n + 0))) gZ.2.2.2 (List.mem_of_getElem? (i := 0) rfl) rfl rfl (by omega) (by omega)) (hp_gK (zi := (0 + 0)) (zv := (4 + 0)) gZ.2.2.2 (List.mem_of_getElem? (i := 1) rfl) rfl rfl (by omega) (by omega))
    rcases List.mem_cons.mp hp with rfl | hp
    · obtain rfl := hp_y0 hys
      have sv := hp_gSn gS
      cases v with
      | some w => cases sv
      | none =>
        exact r3 h' a1 a2 a3 (hp_gK (zi := (0 + 0)) (zv := (0 + (1 * n + 0))) gZ.2.2.2 (List.mem_of_getElem? (i := 0) rfl) rfl rfl (by omega) (by omega)) (hp_gK (zi := (0 + 0)) (zv := (5 + 0)) gZ.2.2.2 (List.mem_of_getElem? (i := 1) rfl) rfl rfl (by omega) (by omega))
    rcases List.mem_cons.mp hp with rfl | hp
    · obtain rfl := hp_y0 hys
      have sv := hp_gSn gS
      cases v with
      | some w => cases sv
      | none =>
        exact r4 h' a1 a2 a3 (hp_gK (zi := (0 + 0)) (zv := (0 + (1 * n + 0))) gZ.2.2.2 (List.mem_of_getElem? (i := 0) rfl) rfl rfl (by omega) (by omega)) (hp_gK (zi := (0 + 0)) (zv := (6 + 0)) gZ.2.2.2 (List.mem_of_getElem? (i := 1) rfl) rfl rfl (by omega) (by omega))
    rcases List.mem_cons.mp hp with rfl | hp
    · obtain rfl := hp_y0 hys
      have sv := hp_gSn gS
      cases v with
      | some w => cases sv
      | none =>
        exact r5 h' a1 a2 a3 (hp_gK (zi := (0 + 0)) (zv := (0 + (1 * n + 0))) gZ.2.2.2 (List.mem_of_getElem? (i := 0) rfl) rfl rfl (by omega) (by omega)) (hp_gK (zi := (0 + 0)) (zv := (7 + 0)) gZ.2.2.2 (List.mem_of_getElem? (i := 1) rfl) rfl rfl (by omega) (by omega))
    cases hp
theorem snQ4_k : hp_chk 299 31 4 [(0, 0, 1200), (1, 0, 1199), (2, (-128), 127), (3, 123, 255)] [((-1), [(0, 1), (1, (-1))])] [(0, .inr (.inr (.inl (some 94)))), (1, .inl (0, [(1, 1)]))] [] [(19970, (0, []), (0, [(0, 1)])), (20224, (0, [(1, 1)]), (0, [(2, 1)])), (63008, (0, [(2, 1)]), (0, [(3, 1)]))] [19971, 19972, 19973, 19974, 19975, 19976] 6 [] [([], 4, [(0, 0, 1200), (1, 0, 1199), (2, (-128), 127), (3, 123, 255)], [], [], [], [(19970, (0, []), (0, [(0, 1)])), (19971, (0, []), (0, []))]), ([], 4, [(0, 0, 1200), (1, 0, 1199), (2, (-128), 127), (3, 123, 255)], [], [], [], [(19970, (0, []), (0, [(0, 1)])), (19971, (0, []), (3, []))]), ([], 4, [(0, 0, 1200), (1, 0, 1199), (2, (-128), 127), (3, 123, 255)], [], [], [], [(19970, (0, []), (0, [(0, 1)])), (19971, (0, []), (4, []))]), ([], 4, [(0, 0, 1200), (1, 0, 1199), (2, (-128), 127), (3, 123, 255)], [], [], [], [(19970, (0, []), (0, [(0, 1)])), (19971, (0, []), (5, []))]), ([], 4, [(0, 0, 1200), (1, 0, 1199), (2, (-128), 127), (3, 123, 255)], [], [], [], [(19970, (0, []), (0, [(0, 1)])), (19971, (0, []), (6, []))]), ([], 4, [(0, 0, 1200), (1, 0, 1199), (2, (-128), 127), (3, 123, 255)], [], [], [], [(19970, (0, []), (0, [(0, 1)])), (19971, (0, []), (7, []))])] = true := by decide +kernel
theorem snQ4 {cst : am_K} {strs : List Nat} {Φ : am_Q → Prop} {D : Nat} {M : am_M} {h : am_H} {l : am_L} (c : hp_C cst strs D) (hM : m_P[299]? = some M) (hD : (6 : Int) ≤ (D : Int) + 1) (hy : ly_hy m_tt ly_TH h) (n p x b : Int) (b0 : 0 ≤ n) (t0 : n ≤ 1200) (b1 : 0 ≤ p) (t1 : p ≤ 1199) (b2 : (-128) ≤ x) (t2 : x ≤ 127) (b3 : 123 ≤ b) (t3 : b ≤ 255) (f0 : 0 ≤ (n - p - 1)) (k0 : ly_hv cst h 19970 0 = some (n)) (k1 : ly_hv cst h 20224 (p) = some (x)) (k2 : ly_hv cst h 63008 (x) = some (b)) (l0 : hp_a l 0 94) (l1 : hp_i l 1 (p)) (r0 : ∀ (h' : am_H), ly_hy m_tt ly_TH h' → ly_fr cst [19971, 19972, 19973, 19974, 19975, 19976] h h' → h.length ≤ h'.length → ly_hv cst h' 19970 0 = some (n) → ly_hv cst h' 19971 0 = some 0 → Φ (none, h', 0, 0)) (r1 : ∀ (h' : am_H), ly_hy m_tt ly_TH h' → ly_fr cst [19971, 19972, 19973, 19974, 19975, 19976] h h' → h.length ≤ h'.length → ly_hv cst h' 19970 0 = some (n) → ly_hv cst h' 19971 0 = some 3 → Φ (none, h', 0, 0)) (r2 : ∀ (h' : am_H), ly_hy m_tt ly_TH h' → ly_fr cst [19971, 19972, 19973, 19974, 19975, 19976] h h' → h.length ≤ h'.length → ly_hv cst h' 19970 0 = some (n) → ly_hv cst h' 19971 0 = some 4 → Φ (none, h', 0, 0)) (r3 : ∀ (h' : am_H), ly_hy m_tt ly_TH h' → ly_fr cst [19971, 19972, 19973, 19974, 19975, 19976] h h' → h.length ≤ h'.length → ly_hv cst h' 19970 0 = some (n) → ly_hv cst h' 19971 0 = some 5 → Φ (none, h', 0, 0)) (r4 : ∀ (h' : am_H), ly_hy m_tt ly_TH h' → ly_fr cst [19971, 19972, 19973, 19974, 19975, 19976] h h' → h.length ≤ h'.length → ly_hv cst h' 19970 0 = some (n) → ly_hv cst h' 19971 0 = some 6 → Φ (none, h', 0, 0)) (r5 : ∀ (h' : am_H), ly_hy m_tt ly_TH h' → ly_fr cst [19971, 19972, 19973, 19974, 19975, 19976] h h' → h.length ≤ h'.length → ly_hv cst h' 19970 0 = some (n) → ly_hv cst h' 19971 0 = some 7 → Φ (none, h', 0, 0)) : hp_F cst strs Φ D M 31 l [] h := by
  refine hp_arc c hM snQ4_k hD [n, p, x, b] rfl hy (hp_Bc (z := n) rfl b0 t0 (hp_Bc (z := p) rfl b1 t1 (hp_Bc (z := x) rfl b2 t2 (hp_Bc (z := b) rfl b3 t3 hp_Bn)))) (hp_Fc (z := ((-1) + (1 * n + ((-1) * p + 0)))) rfl (by omega) hp_Fn) (hp_Kc (zi := (0 + 0)) (zv := (0 + (1 * n + 0))) k0 rfl rfl (by omega) (by omega) (hp_Kc (zi := (0 + (1 * p + 0))) (zv := (0 + (1 * x + 0))) k1 rfl rfl (by omega) (by omega) (hp_Kc (zi := (0 + (1 * x + 0))) (zv := (0 + (1 * b + 0))) k2 rfl rfl (by omega) (by omega) hp_Kn))) (hp_La l0 (hp_Li (z := (0 + (1 * p + 0))) l1 rfl (by omega) hp_Ln)) trivial ?_ ?_
  · intro p hp ys l' st' h' hys a1 a2 a3 gZ gL gS
    cases hp
  · intro p hp ys v h' hys a1 a2 a3 gZ gS
    rcases List.mem_cons.mp hp with rfl | hp
    · obtain rfl := hp_y0 hys
      have sv := hp_gSn gS
      cases v with
      | some w => cases sv
      | none =>
        exact r0 h' a1 a2 a3 (hp_gK (zi := (0 + 0)) (zv := (0 + (1 * n + 0))) gZ.2.2.2 (List.mem_of_getElem? (i := 0) rfl) rfl rfl (by omega) (by omega)) (hp_gK (zi := (0 + 0)) (zv := (0 + 0)) gZ.2.2.2 (List.mem_of_getElem? (i := 1) rfl) rfl rfl (by omega) (by omega))
    rcases List.mem_cons.mp hp with rfl | hp
    · obtain rfl := hp_y0 hys
      have sv := hp_gSn gS
      cases v with
      | some w => cases sv
      | none =>
        exact r1 h' a1 a2 a3 (hp_gK (zi := (0 + 0)) (zv := (0 + (1 * n + 0))) gZ.2.2.2 (List.mem_of_getElem? (i := 0) rfl) rfl rfl (by omega) (by omega)) (hp_gK (zi := (0 + 0)) (zv := (3 + 0)) gZ.2.2.2 (List.mem_of_getElem? (i := 1) rfl) rfl rfl (by omega) (by omega))
    rcases List.mem_cons.mp hp with rfl | hp
    · obtain rfl := hp_y0 hys
      have sv := hp_gSn gS
      cases v with
      | some w => cases sv
      | none =>
        exact r2 h' a1 a2 a3 (hp_gK (zi := (0 + 0)) (zv := (0 + (1 * n + 0))) gZ.2.2.2 (List.mem_of_getElem? (i := 0) rfl) rfl rfl (by omega) (by omega)) (hp_gK (zi := (0 + 0)) (zv := (4 + 0)) gZ.2.2.2 (List.mem_of_getElem? (i := 1) rfl) rfl rfl (by omega) (by omega))
    rcases List.mem_cons.mp hp with rfl | hp
    · obtain rfl := hp_y0 hys
      have sv := hp_gSn gS
      cases v with
      | some w => cases sv
      | none =>
        exact r3 h' a1 a2 a3 (hp_gK (zi := (0 + 0)) (zv := (0 + (1 * n + 0))) gZ.2.2.2 (List.mem_of_getElem? (i := 0) rfl) rfl rfl (by omega) (by omega)) (hp_gK (zi := (0 + 0)) (zv := (5 + 0)) gZ.2.2.2 (List.mem_of_getElem? (i := 1) rfl) rfl rfl (by omega) (by omega))
    rcases List.mem_cons.mp hp with rfl | hp
    · obtain rfl := hp_y0 hys
      have sv := hp_gSn gS
      cases v with
      | some w => cases sv
      | none =>
        exact r4 h' a1 a2 a3 (hp_gK (zi := (0 + 0)) (zv := (0 + (1 * n + 0))) gZ.2.2.2 (List.mem_of_getElem? (i := 0) rfl) rfl rfl (by omega) (by omega)) (hp_gK (zi := (0 + 0)) (zv := (6 + 0)) gZ.2.2.2 (List.mem_of_getElem? (i := 1) rfl) rfl rfl (by omega) (by omega))
    rcases List.mem_cons.mp hp with rfl | hp
    · obtain rfl := hp_y0 hys
      have sv := hp_gSn gS
      cases v with
      | some w => cases sv
      | none =>
        exact r5 h' a1 a2 a3 (hp_gK (zi := (0 + 0)) (zv := (0 + (1 * n + 0))) gZ.2.2.2 (List.mem_of_getElem? (i := 0) rfl) rfl rfl (by omega) (by omega)) (hp_gK (zi := (0 + 0)) (zv := (7 + 0)) gZ.2.2.2 (List.mem_of_getElem? (i := 1) rfl) rfl rfl (by omega) (by omega))
    cases hp
theorem so0_k : hp_chk 298 0 1 [(0, 0, 1200)] [] [(0, .inr (.inr (.inl (some 94))))] [] [(19969, (0, []), (0, [(0, 1)]))] [19969, 19970, 19974] 2 [(19, ([], 1, [(0, 0, 1200)], [], [(0, .inr (.inr (.inl (some 94))))], [.inr (.inr (.inl (some 94)))], [(19969, (0, []), (0, [])), (19970, (0, []), (0, [(0, 1)])), (19974, (0, []), (0, []))]))] [] = true := by decide +kernel
theorem so0 {cst : am_K} {strs : List Nat} {Φ : am_Q → Prop} {D : Nat} {M : am_M} {h : am_H} {l : am_L} (c : hp_C cst strs D) (hM : m_P[298]? = some M) (hD : (2 : Int) ≤ (D : Int) + 1) (hy : ly_hy m_tt ly_TH h) (n : Int) (b0 : 0 ≤ n) (t0 : n ≤ 1200) (k0 : ly_hv cst h 19969 0 = some (n)) (l0 : hp_a l 0 94) (e0 : ∀ (l' : am_L) (h' : am_H), ly_hy m_tt ly_TH h' → ly_fr cst [19969, 19970, 19974] h h' → h.length ≤ h'.length → ly_hv cst h' 19969 0 = some 0 → ly_hv cst h' 19970 0 = some (n) → ly_hv cst h' 19974 0 = some 0 → hp_a l' 0 94 → hp_F cst strs Φ D M 19 l' [.ref 94] h') : hp_F cst strs Φ D M 0 l [] h := by
  refine hp_arc c hM so0_k hD [n] rfl hy (hp_Bc (z := n) rfl b0 t0 hp_Bn) hp_Fn (hp_Kc (zi := (0 + 0)) (zv := (0 + (1 * n + 0))) k0 rfl rfl (by omega) (by omega) hp_Kn) (hp_La l0 hp_Ln) trivial ?_ ?_
  · intro p hp ys l' st' h' hys a1 a2 a3 gZ gL gS
    rcases List.mem_cons.mp hp with rfl | hp
    · obtain rfl := hp_y0 hys
      obtain ⟨t0, rfl, g0⟩ := hp_gSa gS (by decide)
      cases hp_gSn g0
      exact e0 l' h' a1 a2 a3 (hp_gK (zi := (0 + 0)) (zv := (0 + 0)) gZ.2.2.2 (List.mem_of_getElem? (i := 0) rfl) rfl rfl (by omega) (by omega)) (hp_gK (zi := (0 + 0)) (zv := (0 + (1 * n + 0))) gZ.2.2.2 (List.mem_of_getElem? (i := 1) rfl) rfl rfl (by omega) (by omega)) (hp_gK (zi := (0 + 0)) (zv := (0 + 0)) gZ.2.2.2 (List.mem_of_getElem? (i := 2) rfl) rfl rfl (by omega) (by omega)) (hp_gLa gL (List.mem_of_getElem? (i := 0) rfl) (by decide))
    cases hp
  · intro p hp ys v h' hys a1 a2 a3 gZ gS
    cases hp
theorem so1_k : hp_chk 298 22 1 [(0, 0, 1200)] [] [(0, .inr (.inr (.inl (some 94))))] [] [(19970, (0, []), (0, [(0, 1)]))] [] 2 [] [([], 1, [(0, 0, 1200)], [], [], [], [(19970, (0, []), (0, [(0, 1)]))])] = true := by decide +kernel
theorem so1 {cst : am_K} {strs : List Nat} {Φ : am_Q → Prop} {D : Nat} {M : am_M} {h : am_H} {l : am_L} (c : hp_C cst strs D) (hM : m_P[298]? = some M) (hD : (2 : Int) ≤ (D : Int) + 1) (hy : ly_hy m_tt ly_TH h) (n : Int) (b0 : 0 ≤ n) (t0 : n ≤ 1200) (k0 : ly_hv cst h 19970 0 = some (n)) (l0 : hp_a l 0 94) (r0 : ∀ (h' : am_H), ly_hy m_tt ly_TH h' → ly_fr cst [] h h' → h.length ≤ h'.length → ly_hv cst h' 19970 0 = some (n) → Φ (none, h', 0, 0)) : hp_F cst strs Φ D M 22 l [] h := by
  refine hp_arc c hM so1_k hD [n] rfl hy (hp_Bc (z := n) rfl b0 t0 hp_Bn) hp_Fn (hp_Kc (zi := (0 + 0)) (zv := (0 + (1 * n + 0))) k0 rfl rfl (by omega) (by omega) hp_Kn) (hp_La l0 hp_Ln) trivial ?_ ?_
  · intro p hp ys l' st' h' hys a1 a2 a3 gZ gL gS
    cases hp
  · intro p hp ys v h' hys a1 a2 a3 gZ gS
    rcases List.mem_cons.mp hp with rfl | hp
    · obtain rfl := hp_y0 hys
      have sv := hp_gSn gS
      cases v with
      | some w => cases sv
      | none =>
        exact r0 h' a1 a2 a3 (hp_gK (zi := (0 + 0)) (zv := (0 + (1 * n + 0))) gZ.2.2.2 (List.mem_of_getElem? (i := 0) rfl) rfl rfl (by omega) (by omega))
    cases hp
theorem so2_k : hp_chk 323 0 0 [] [] [(0, .inr (.inr (.inl (some 94))))] [] [] [] 2 [(1, ([], 0, [], [], [(0, .inr (.inr (.inl (some 94))))], [.inr (.inr (.inl (some 94)))], []))] [] = true := by decide +kernel
theorem so2 {cst : am_K} {strs : List Nat} {Φ : am_Q → Prop} {D : Nat} {M : am_M} {h : am_H} {l : am_L} (c : hp_C cst strs D) (hM : m_P[323]? = some M) (hD : (2 : Int) ≤ (D : Int) + 1) (hy : ly_hy m_tt ly_TH h) (l0 : hp_a l 0 94) (e0 : ∀ (l' : am_L) (h' : am_H), ly_hy m_tt ly_TH h' → ly_fr cst [] h h' → h.length ≤ h'.length → hp_a l' 0 94 → hp_F cst strs Φ D M 1 l' [.ref 94] h') : hp_F cst strs Φ D M 0 l [] h := by
  refine hp_arc c hM so2_k hD [] rfl hy hp_Bn hp_Fn hp_Kn (hp_La l0 hp_Ln) trivial ?_ ?_
  · intro p hp ys l' st' h' hys a1 a2 a3 gZ gL gS
    rcases List.mem_cons.mp hp with rfl | hp
    · obtain rfl := hp_y0 hys
      obtain ⟨t0, rfl, g0⟩ := hp_gSa gS (by decide)
      cases hp_gSn g0
      exact e0 l' h' a1 a2 a3 (hp_gLa gL (List.mem_of_getElem? (i := 0) rfl) (by decide))
    cases hp
  · intro p hp ys v h' hys a1 a2 a3 gZ gS
    cases hp
theorem so3_k : hp_chk 323 4 1 [(0, 0, 8)] [] [(0, .inr (.inr (.inl (some 94))))] [] [(19971, (0, []), (0, [(0, 1)])), (61000, ((-1), [(0, 1)]), (1, []))] [] 2 [] [([], 1, [(0, 0, 8)], [], [], [.inr (.inl (0, []))], [])] = true := by decide +kernel
theorem so3 {cst : am_K} {strs : List Nat} {Φ : am_Q → Prop} {D : Nat} {M : am_M} {h : am_H} {l : am_L} (c : hp_C cst strs D) (hM : m_P[323]? = some M) (hD : (2 : Int) ≤ (D : Int) + 1) (hy : ly_hy m_tt ly_TH h) (q : Int) (b0 : 0 ≤ q) (t0 : q ≤ 8) (k0 : ly_hv cst h 19971 0 = some (q)) (k1 : ly_hv cst h 61000 (q - 1) = some 1) (l0 : hp_a l 0 94) (r0 : ∀ (h' : am_H) (y0 : Int64), y0.toInt = 0 → ly_hy m_tt ly_TH h' → ly_fr cst [] h h' → h.length ≤ h'.length → Φ (some (.long y0), h', 0, 0)) : hp_F cst strs Φ D M 4 l [] h := by
  refine hp_arc c hM so3_k hD [q] rfl hy (hp_Bc (z := q) rfl b0 t0 hp_Bn) hp_Fn (hp_Kc (zi := (0 + 0)) (zv := (0 + (1 * q + 0))) k0 rfl rfl (by omega) (by omega) (hp_Kc (zi := ((-1) + (1 * q + 0))) (zv := (1 + 0)) k1 rfl rfl (by omega) (by omega) hp_Kn)) (hp_La l0 hp_Ln) trivial ?_ ?_
  · intro p hp ys l' st' h' hys a1 a2 a3 gZ gL gS
    cases hp
  · intro p hp ys v h' hys a1 a2 a3 gZ gS
    rcases List.mem_cons.mp hp with rfl | hp
    · obtain rfl := hp_y0 hys
      cases v with
      | none => cases gS
      | some w =>
        obtain ⟨y0, t0, s0, q0, -⟩ := hp_gSj (z := (0 + 0)) gS rfl
        cases s0
        exact r0 h' y0 (by omega) a1 a2 a3
    cases hp
theorem so4_k : hp_chk 323 4 1 [(0, 0, 1152921504606846976)] [] [(0, .inr (.inr (.inl (some 94))))] [] [(19971, (0, []), (1, [])), (19976, (0, []), (0, [(0, 1)]))] [] 2 [(20, ([], 1, [(0, 0, 1152921504606846976)], [], [(0, .inr (.inr (.inl (some 94)))), (1, .inr (.inl (0, [(0, 1)])))], [.inr (.inr (.inl (some 94)))], []))] [] = true := by decide +kernel
theorem so4 {cst : am_K} {strs : List Nat} {Φ : am_Q → Prop} {D : Nat} {M : am_M} {h : am_H} {l : am_L} (c : hp_C cst strs D) (hM : m_P[323]? = some M) (hD : (2 : Int) ≤ (D : Int) + 1) (hy : ly_hy m_tt ly_TH h) (vv : Int) (b0 : 0 ≤ vv) (t0 : vv ≤ 1152921504606846976) (k0 : ly_hv cst h 19971 0 = some 1) (k1 : ly_hv cst h 19976 0 = some (vv)) (l0 : hp_a l 0 94) (e0 : ∀ (l' : am_L) (h' : am_H), ly_hy m_tt ly_TH h' → ly_fr cst [] h h' → h.length ≤ h'.length → hp_a l' 0 94 → hp_j l' 1 (vv) → hp_F cst strs Φ D M 20 l' [.ref 94] h') : hp_F cst strs Φ D M 4 l [] h := by
  refine hp_arc c hM so4_k hD [vv] rfl hy (hp_Bc (z := vv) rfl b0 t0 hp_Bn) hp_Fn (hp_Kc (zi := (0 + 0)) (zv := (1 + 0)) k0 rfl rfl (by omega) (by omega) (hp_Kc (zi := (0 + 0)) (zv := (0 + (1 * vv + 0))) k1 rfl rfl (by omega) (by omega) hp_Kn)) (hp_La l0 hp_Ln) trivial ?_ ?_
  · intro p hp ys l' st' h' hys a1 a2 a3 gZ gL gS
    rcases List.mem_cons.mp hp with rfl | hp
    · obtain rfl := hp_y0 hys
      obtain ⟨t0, rfl, g0⟩ := hp_gSa gS (by decide)
      cases hp_gSn g0
      exact e0 l' h' a1 a2 a3 (hp_gLa gL (List.mem_of_getElem? (i := 0) rfl) (by decide)) (hp_gLj (z := (0 + (1 * vv + 0))) gL (List.mem_of_getElem? (i := 1) rfl) rfl (by omega))
    cases hp
  · intro p hp ys v h' hys a1 a2 a3 gZ gS
    cases hp
theorem so5_k : hp_chk 323 23 1 [(0, 0, 1152921504606846976)] [] [(0, .inr (.inr (.inl (some 94)))), (1, .inr (.inl (0, [(0, 1)])))] [] [(19971, (0, []), (8, []))] [] 2 [] [([], 1, [(0, 0, 1152921504606846976)], [], [], [.inr (.inl (0, [(0, 1)]))], [])] = true := by decide +kernel
theorem so5 {cst : am_K} {strs : List Nat} {Φ : am_Q → Prop} {D : Nat} {M : am_M} {h : am_H} {l : am_L} (c : hp_C cst strs D) (hM : m_P[323]? = some M) (hD : (2 : Int) ≤ (D : Int) + 1) (hy : ly_hy m_tt ly_TH h) (vv : Int) (b0 : 0 ≤ vv) (t0 : vv ≤ 1152921504606846976) (k0 : ly_hv cst h 19971 0 = some 8) (l0 : hp_a l 0 94) (l1 : hp_j l 1 (vv)) (r0 : ∀ (h' : am_H) (y0 : Int64), y0.toInt = (vv) → ly_hy m_tt ly_TH h' → ly_fr cst [] h h' → h.length ≤ h'.length → Φ (some (.long y0), h', 0, 0)) : hp_F cst strs Φ D M 23 l [] h := by
  refine hp_arc c hM so5_k hD [vv] rfl hy (hp_Bc (z := vv) rfl b0 t0 hp_Bn) hp_Fn (hp_Kc (zi := (0 + 0)) (zv := (8 + 0)) k0 rfl rfl (by omega) (by omega) hp_Kn) (hp_La l0 (hp_Lj (z := (0 + (1 * vv + 0))) l1 rfl (by omega) hp_Ln)) trivial ?_ ?_
  · intro p hp ys l' st' h' hys a1 a2 a3 gZ gL gS
    cases hp
  · intro p hp ys v h' hys a1 a2 a3 gZ gS
    rcases List.mem_cons.mp hp with rfl | hp
    · obtain rfl := hp_y0 hys
      cases v with
      | none => cases gS
      | some w =>
        obtain ⟨y0, t0, s0, q0, -⟩ := hp_gSj (z := (0 + (1 * vv + 0))) gS rfl
        cases s0
        exact r0 h' y0 (by omega) a1 a2 a3
    cases hp
theorem so6_k : hp_chk 323 23 2 [(0, 0, 1152921504606846976), (1, 0, 8)] [] [(0, .inr (.inr (.inl (some 94)))), (1, .inr (.inl (0, [(0, 1)])))] [] [(19971, (0, []), (0, [(1, 1)])), (61000, ((-8), [(1, 1)]), (1, []))] [] 2 [] [([], 2, [(0, 0, 1152921504606846976), (1, 0, 8)], [], [], [.inr (.inl (0, []))], [])] = true := by decide +kernel
theorem so6 {cst : am_K} {strs : List Nat} {Φ : am_Q → Prop} {D : Nat} {M : am_M} {h : am_H} {l : am_L} (c : hp_C cst strs D) (hM : m_P[323]? = some M) (hD : (2 : Int) ≤ (D : Int) + 1) (hy : ly_hy m_tt ly_TH h) (vv q : Int) (b0 : 0 ≤ vv) (t0 : vv ≤ 1152921504606846976) (b1 : 0 ≤ q) (t1 : q ≤ 8) (k0 : ly_hv cst h 19971 0 = some (q)) (k1 : ly_hv cst h 61000 (q - 8) = some 1) (l0 : hp_a l 0 94) (l1 : hp_j l 1 (vv)) (r0 : ∀ (h' : am_H) (y0 : Int64), y0.toInt = 0 → ly_hy m_tt ly_TH h' → ly_fr cst [] h h' → h.length ≤ h'.length → Φ (some (.long y0), h', 0, 0)) : hp_F cst strs Φ D M 23 l [] h := by
  refine hp_arc c hM so6_k hD [vv, q] rfl hy (hp_Bc (z := vv) rfl b0 t0 (hp_Bc (z := q) rfl b1 t1 hp_Bn)) hp_Fn (hp_Kc (zi := (0 + 0)) (zv := (0 + (1 * q + 0))) k0 rfl rfl (by omega) (by omega) (hp_Kc (zi := ((-8) + (1 * q + 0))) (zv := (1 + 0)) k1 rfl rfl (by omega) (by omega) hp_Kn)) (hp_La l0 (hp_Lj (z := (0 + (1 * vv + 0))) l1 rfl (by omega) hp_Ln)) trivial ?_ ?_
  · intro p hp ys l' st' h' hys a1 a2 a3 gZ gL gS
    cases hp
  · intro p hp ys v h' hys a1 a2 a3 gZ gS
    rcases List.mem_cons.mp hp with rfl | hp
    · obtain rfl := hp_y0 hys
      cases v with
      | none => cases gS
      | some w =>
        obtain ⟨y0, t0, s0, q0, -⟩ := hp_gSj (z := (0 + 0)) gS rfl
        cases s0
        exact r0 h' y0 (by omega) a1 a2 a3
    cases hp
/-- the reference's bytes, as the class has them -/
def ow_g (f : Int → Option Int) : Int → Option Int := fun k => (f k).map (· % 256)
theorem ow_gs {f : Int → Option Int} {k x : Int} (h : f k = some x) : ow_g f k = some (x % 256) := by
  unfold ow_g
  rw [h]
  rfl
def sc_E (g : Int → Option Int) (cst : am_K) (h : am_H) (e0 n : Int) : Prop := ∃ p, e0 ≤ p ∧ p ≤ n ∧ (∀ k, e0 ≤ k → k < p → ow_b g k) ∧
  ((p = n ∧ ly_hv cst h 19971 0 = some 8) ∨
   (p < n ∧ ∃ e, p < e ∧ e ≤ n ∧ (∀ k, p ≤ k → k < e → ow_l g k) ∧ (e < n → ¬ ow_l g e) ∧ ((e - p ≤ 12 ∧ ly_hv cst h 19971 0 = some 1 ∧ ly_hv cst h 19974 0 = some e ∧ ∃ v, 1 ≤ v ∧ v ≤ 1152921504606846976 ∧ ly_hv cst h 19976 0 = some v) ∨ (12 < e - p ∧ ly_hv cst h 19971 0 = some 0))) ∨
   (p < n ∧ ¬ ow_l g p ∧ ¬ ow_b g p ∧ ∃ q, 0 ≤ q ∧ q ≤ 7 ∧ q ≠ 1 ∧ ly_hv cst h 19971 0 = some q))
def sc_Φ (g : Int → Option Int) (cst : am_K) (h0 : am_H) (e0 n : Int) (r : am_Q) : Prop := r.1 = none ∧ r.2.2.1 = 0 ∧ r.2.2.2 = 0 ∧ ly_hy m_tt ly_TH r.2.1 ∧ ly_fr cst [19971, 19972, 19973, 19974, 19975, 19976] h0 r.2.1 ∧ sc_E g cst r.2.1 e0 n
theorem sn_word {cst : am_K} {strs : List Nat} {D : Nat} {M : am_M} {h0 : am_H} (c : hp_C cst strs D) (hM : m_P[299]? = some M) (hD : (6 : Int) ≤ (D : Int) + 1) {n e0 p : Int} (n0 : 0 ≤ n) (n1 : n ≤ 1200) (q0 : 0 ≤ e0) (q1 : e0 ≤ p) (p1 : p < n) (hy0 : ly_hy m_tt ly_TH h0) (hb : ∀ k, e0 ≤ k → k < p → ow_b (ow_g (ly_hv cst h0 20224)) k) (lp : ow_l (ow_g (ly_hv cst h0 20224)) p) : ∀ (N : Nat) (h : am_H) (l : am_L) (e v : Int), (n - e).toNat < N → p ≤ e → e ≤ n → ly_hy m_tt ly_TH h → ly_fr cst [19971, 19972, 19973, 19974, 19975, 19976] h0 h → ly_hv cst h 19970 0 = some n → ly_hv cst h 19976 0 = some v → 0 ≤ v → (e - p ≤ 12 → v < 32 ^ (e - p).toNat) → (p < e → 1 ≤ v) → v ≤ 1152921504606846976 → (∀ k, p ≤ k → k < e → ow_l (ow_g (ly_hv cst h0 20224)) k) → hp_a l 0 94 → hp_i l 1 p → hp_i l 3 e → hp_F cst strs (sc_Φ (ow_g (ly_hv cst h0 20224)) cst h0 e0 n) D M 81 l [] h := by
  intro N
  induction N with
  | zero => intro h l e v hN; omega
  | succ N ih =>
    intro h l e v hN e1 e2 hy fr kn kv v0 vb v1 v2 hl l0 l1 l3
    by_cases he : e = n
    · subst he
      by_cases q : e - p ≤ 12
      · exact snI c hM hD hy e p v n0 n1 (by omega) (by omega) v0 v2 (by omega) (by omega) kn kv l0 l1 l3 (fun h2 u1 u2 u3 kn2 k3 k4 k5 => ⟨rfl, rfl, rfl, u1, ly_fr_tr fr u2, p, q1, by omega, hb, Or.inr (Or.inl ⟨p1, e, p1, Int.le_refl _, hl, fun z => by omega, Or.inl ⟨q, k3, k4, v, v1 p1, v2, k5⟩⟩)⟩)
      · exact snJ c hM hD hy e p n0 n1 (by omega) (by omega) (by omega) kn l0 l1 l3 (fun h2 u1 u2 u3 kn2 k3 => ⟨rfl, rfl, rfl, u1, ly_fr_tr fr u2, p, q1, by omega, hb, Or.inr (Or.inl ⟨p1, e, p1, Int.le_refl _, hl, fun z => by omega, Or.inr ⟨by omega, k3⟩⟩)⟩)
    · obtain ⟨x, kx, x0, x1⟩ := hp_rowb (cst := cst) (i := e) hy th_BT (by omega) (by omega)
      have kx' : ly_hv cst h0 20224 e = some x := by
        rw [← hp_sameb th_BT rfl hy0 hy fr]
        exact kx
      have kg := ow_gs kx'
      by_cases q1' : 97 ≤ x % 256 ∧ x % 256 ≤ 122
      · have hl2 : ∀ k, p ≤ k → k < e + 1 → ow_l (ow_g (ly_hv cst h0 20224)) k := fun k k0 k1 => if z : k = e then by rw [z]; exact ⟨x % 256, kg, q1'.1, q1'.2⟩ else hl k k0 (by omega)
        by_cases q2 : e - p ≤ 11
        · have pw := tk_q (m := (e - p).toNat) (by omega)
          have vb' := vb (by omega)
          have pe : (32 : Int) ^ (e + 1 - p).toNat = 32 ^ (e - p).toNat * 32 := by
            rw [show (e + 1 - p).toNat = (e - p).toNat + 1 by omega]
            exact Int.pow_succ 32 _
          have pw2 := tk_p (m := (e + 1 - p).toNat) (by omega)
          exact snG c hM hD hy n p e x (x % 256) v n0 n1 (by omega) (by omega) (by omega) (by omega) x0 x1 q1'.1 q1'.2 v0 (by omega) (by omega) (by omega) (by omega) kn kx (hp_m8 x) kv l0 l1 l3 (fun l2 h2 u1 u2 u3 kn2 k3 m0 m1 m3 => ih h2 l2 (e + 1) (32 * v + x % 256 - 96) (by omega) (by omega) (by omega) u1 (ly_fr_tr fr u2) kn2 k3 (by omega) (fun _ => by rw [pe]; omega) (fun _ => by omega) (by omega) hl2 m0 m1 m3)
        · exact snH c hM hD hy n p e x (x % 256) v n0 n1 (by omega) (by omega) (by omega) (by omega) x0 x1 q1'.1 q1'.2 v0 v2 (by omega) (by omega) kn kx (hp_m8 x) kv l0 l1 l3 (fun l2 h2 u1 u2 u3 kn2 k3 m0 m1 m3 => ih h2 l2 (e + 1) v (by omega) (by omega) (by omega) u1 (ly_fr_tr fr u2) kn2 k3 v0 (fun z => by omega) (fun _ => v1 (by omega)) v2 hl2 m0 m1 m3)
      · have nl : ¬ ow_l (ow_g (ly_hv cst h0 20224)) e := by
          rintro ⟨y, hy1, y0, y1⟩
          rw [kg] at hy1
          cases hy1
          exact q1' ⟨y0, y1⟩
        have pe : p < e := by
          by_cases z : p = e
          · rw [← z] at nl
            exact absurd lp nl
          · omega
        by_cases q2 : e - p ≤ 12
        · by_cases q3 : x % 256 ≤ 96
          · exact snK0 c hM hD hy n p e x (x % 256) v n0 n1 (by omega) (by omega) (by omega) (by omega) x0 x1 (by omega) q3 v0 v2 (by omega) (by omega) (by omega) kn kx (hp_m8 x) kv l0 l1 l3 (fun h2 u1 u2 u3 kn2 k3 k4 k5 => ⟨rfl, rfl, rfl, u1, ly_fr_tr fr u2, p, q1, by omega, hb, Or.inr (Or.inl ⟨p1, e, pe, by omega, hl, fun _ => nl, Or.inl ⟨q2, k3, k4, v, v1 pe, v2, k5⟩⟩)⟩)
          · exact snK1 c hM hD hy n p e x (x % 256) v n0 n1 (by omega) (by omega) (by omega) (by omega) x0 x1 (by omega) (by omega) v0 v2 (by omega) (by omega) (by omega) kn kx (hp_m8 x) kv l0 l1 l3 (fun h2 u1 u2 u3 kn2 k3 k4 k5 => ⟨rfl, rfl, rfl, u1, ly_fr_tr fr u2, p, q1, by omega, hb, Or.inr (Or.inl ⟨p1, e, pe, by omega, hl, fun _ => nl, Or.inl ⟨q2, k3, k4, v, v1 pe, v2, k5⟩⟩)⟩)
        · by_cases q3 : x % 256 ≤ 96
          · exact snL0 c hM hD hy n p e x (x % 256) n0 n1 (by omega) (by omega) (by omega) (by omega) x0 x1 (by omega) q3 (by omega) (by omega) kn kx (hp_m8 x) l0 l1 l3 (fun h2 u1 u2 u3 kn2 k3 => ⟨rfl, rfl, rfl, u1, ly_fr_tr fr u2, p, q1, by omega, hb, Or.inr (Or.inl ⟨p1, e, pe, by omega, hl, fun _ => nl, Or.inr ⟨by omega, k3⟩⟩)⟩)
          · exact snL1 c hM hD hy n p e x (x % 256) n0 n1 (by omega) (by omega) (by omega) (by omega) x0 x1 (by omega) (by omega) (by omega) (by omega) kn kx (hp_m8 x) l0 l1 l3 (fun h2 u1 u2 u3 kn2 k3 => ⟨rfl, rfl, rfl, u1, ly_fr_tr fr u2, p, q1, by omega, hb, Or.inr (Or.inl ⟨p1, e, pe, by omega, hl, fun _ => nl, Or.inr ⟨by omega, k3⟩⟩)⟩)
theorem sn_num {cst : am_K} {strs : List Nat} {D : Nat} {M : am_M} {h0 : am_H} (c : hp_C cst strs D) (hM : m_P[299]? = some M) (hD : (6 : Int) ≤ (D : Int) + 1) {n e0 p : Int} (n0 : 0 ≤ n) (n1 : n ≤ 1200) (q0 : 0 ≤ e0) (q1 : e0 ≤ p) (p1 : p < n) (hy0 : ly_hy m_tt ly_TH h0) (hb : ∀ k, e0 ≤ k → k < p → ow_b (ow_g (ly_hv cst h0 20224)) k) (np : ¬ ow_l (ow_g (ly_hv cst h0 20224)) p) (nb : ¬ ow_b (ow_g (ly_hv cst h0 20224)) p) : ∀ (N : Nat) (h : am_H) (l : am_L) (e : Int), (n - e).toNat < N → p < e → e ≤ n → ly_hy m_tt ly_TH h → ly_fr cst [19971, 19972, 19973, 19974, 19975, 19976] h0 h → ly_hv cst h 19970 0 = some n → hp_a l 0 94 → hp_i l 1 p → hp_i l 3 e → hp_F cst strs (sc_Φ (ow_g (ly_hv cst h0 20224)) cst h0 e0 n) D M 186 l [] h := by
  intro N
  induction N with
  | zero => intro h l e hN; omega
  | succ N ih =>
    intro h l e hN e1 e2 hy fr kn l0 l1 l3
    by_cases he : e = n
    · rw [he] at l3
      exact snO c hM hD hy n p n0 n1 (by omega) (by omega) (by omega) kn l0 l1 l3 (fun h2 u1 u2 u3 kn2 k3 => ⟨rfl, rfl, rfl, u1, ly_fr_tr fr u2, p, q1, by omega, hb, Or.inr (Or.inr ⟨p1, np, nb, 0, by omega, by omega, by omega, k3⟩)⟩) (fun h2 u1 u2 u3 kn2 k3 => ⟨rfl, rfl, rfl, u1, ly_fr_tr fr u2, p, q1, by omega, hb, Or.inr (Or.inr ⟨p1, np, nb, 2, by omega, by omega, by omega, k3⟩)⟩)
    · obtain ⟨x, kx, x0, x1⟩ := hp_rowb (cst := cst) (i := e) hy th_BT (by omega) (by omega)
      by_cases q2 : x % 256 ≤ 47
      · exact snP0 c hM hD hy n p e x (x % 256) n0 n1 (by omega) (by omega) (by omega) (by omega) x0 x1 (by omega) q2 (by omega) (by omega) kn kx (hp_m8 x) l0 l1 l3 (fun h2 u1 u2 u3 kn2 k3 => ⟨rfl, rfl, rfl, u1, ly_fr_tr fr u2, p, q1, by omega, hb, Or.inr (Or.inr ⟨p1, np, nb, 0, by omega, by omega, by omega, k3⟩)⟩) (fun h2 u1 u2 u3 kn2 k3 => ⟨rfl, rfl, rfl, u1, ly_fr_tr fr u2, p, q1, by omega, hb, Or.inr (Or.inr ⟨p1, np, nb, 2, by omega, by omega, by omega, k3⟩)⟩)
      by_cases q3 : 58 ≤ x % 256
      · exact snP1 c hM hD hy n p e x (x % 256) n0 n1 (by omega) (by omega) (by omega) (by omega) x0 x1 q3 (by omega) (by omega) (by omega) kn kx (hp_m8 x) l0 l1 l3 (fun h2 u1 u2 u3 kn2 k3 => ⟨rfl, rfl, rfl, u1, ly_fr_tr fr u2, p, q1, by omega, hb, Or.inr (Or.inr ⟨p1, np, nb, 0, by omega, by omega, by omega, k3⟩)⟩) (fun h2 u1 u2 u3 kn2 k3 => ⟨rfl, rfl, rfl, u1, ly_fr_tr fr u2, p, q1, by omega, hb, Or.inr (Or.inr ⟨p1, np, nb, 2, by omega, by omega, by omega, k3⟩)⟩)
      exact snN c hM hD hy n p e x (x % 256) n0 n1 (by omega) (by omega) (by omega) (by omega) x0 x1 (by omega) (by omega) (by omega) (by omega) kn kx (hp_m8 x) l0 l1 l3 (fun l2 h2 u1 u2 u3 kn2 m0 m1 m3 => ih h2 l2 (e + 1) (by omega) (by omega) (by omega) u1 (ly_fr_tr fr u2) kn2 m0 m1 m3)
/-- behind the blanks -/
theorem sn_at {cst : am_K} {strs : List Nat} {D : Nat} {M : am_M} {h0 : am_H} (c : hp_C cst strs D) (hM : m_P[299]? = some M) (hD : (6 : Int) ≤ (D : Int) + 1) {n e0 p : Int} (n0 : 0 ≤ n) (n1 : n ≤ 1200) (q0 : 0 ≤ e0) (q1 : e0 ≤ p) (p1 : p < n) (hy0 : ly_hy m_tt ly_TH h0) (hb : ∀ k, e0 ≤ k → k < p → ow_b (ow_g (ly_hv cst h0 20224)) k) : ∀ (h : am_H) (l : am_L), ly_hy m_tt ly_TH h → ly_fr cst [19971, 19972, 19973, 19974, 19975, 19976] h0 h → ly_hv cst h 19970 0 = some n → ¬ ow_b (ow_g (ly_hv cst h0 20224)) p → hp_a l 0 94 → hp_i l 1 p → hp_F cst strs (sc_Φ (ow_g (ly_hv cst h0 20224)) cst h0 e0 n) D M 31 l [] h := by
  intro h l hy fr kn nb l0 l1
  obtain ⟨x, kx, x0, x1⟩ := hp_rowb (cst := cst) (i := p) hy th_BT (by omega) (by omega)
  have kx' : ly_hv cst h0 20224 p = some x := by
    rw [← hp_sameb th_BT rfl hy0 hy fr]
    exact kx
  have kg := ow_gs kx'
  have n32 : x % 256 ≠ 32 := fun z => nb ⟨x % 256, kg, Or.inl z⟩
  have n10 : x % 256 ≠ 10 := fun z => nb ⟨x % 256, kg, Or.inr z⟩
  by_cases q : 97 ≤ x % 256 ∧ x % 256 ≤ 122
  · exact snF c hM hD hy n p x (x % 256) n0 n1 (by omega) (by omega) x0 x1 q.1 q.2 (by omega) kn kx (hp_m8 x) l0 l1 (fun l2 h2 u1 u2 u3 kn2 k3 m0 m1 m3 => sn_word c hM hD n0 n1 q0 q1 p1 hy0 hb ⟨x % 256, kg, q.1, q.2⟩ ((n - p).toNat + 1) h2 l2 p 0 (Nat.lt_succ_self _) (Int.le_refl _) (by omega) u1 (ly_fr_tr fr u2) kn2 k3 (by omega) (fun _ => by rw [show (p - p).toNat = 0 by omega]; decide) (fun z => by omega) (by omega) (fun k k0 k1 => by omega) m0 m1 m3)
  have np : ¬ ow_l (ow_g (ly_hv cst h0 20224)) p := by
    rintro ⟨y, hy1, y0, y1⟩
    rw [kg] at hy1
    cases hy1
    exact q ⟨y0, y1⟩
  by_cases q2 : 48 ≤ x % 256 ∧ x % 256 ≤ 57
  · exact snM c hM hD hy n p x (x % 256) n0 n1 (by omega) (by omega) x0 x1 q2.1 q2.2 (by omega) kn kx (hp_m8 x) l0 l1 (fun l2 h2 u1 u2 u3 kn2 m0 m1 m3 => sn_num c hM hD n0 n1 q0 q1 p1 hy0 hb np nb ((n - (p + 1)).toNat + 1) h2 l2 (p + 1) (Nat.lt_succ_self _) (by omega) (by omega) u1 (ly_fr_tr fr u2) kn2 m0 m1 m3)
  by_cases z0 : x % 256 ≤ 9
  · exact snQ0 c hM hD hy n p x (x % 256) n0 n1 (by omega) (by omega) x0 x1 (by omega) (by omega) (by omega) kn kx (hp_m8 x) l0 l1 (fun h2 u1 u2 u3 kn2 k3 => ⟨rfl, rfl, rfl, u1, ly_fr_tr fr u2, p, q1, by omega, hb, Or.inr (Or.inr ⟨p1, np, nb, 0, by omega, by omega, by omega, k3⟩)⟩) (fun h2 u1 u2 u3 kn2 k3 => ⟨rfl, rfl, rfl, u1, ly_fr_tr fr u2, p, q1, by omega, hb, Or.inr (Or.inr ⟨p1, np, nb, 3, by omega, by omega, by omega, k3⟩)⟩) (fun h2 u1 u2 u3 kn2 k3 => ⟨rfl, rfl, rfl, u1, ly_fr_tr fr u2, p, q1, by omega, hb, Or.inr (Or.inr ⟨p1, np, nb, 4, by omega, by omega, by omega, k3⟩)⟩) (fun h2 u1 u2 u3 kn2 k3 => ⟨rfl, rfl, rfl, u1, ly_fr_tr fr u2, p, q1, by omega, hb, Or.inr (Or.inr ⟨p1, np, nb, 5, by omega, by omega, by omega, k3⟩)⟩) (fun h2 u1 u2 u3 kn2 k3 => ⟨rfl, rfl, rfl, u1, ly_fr_tr fr u2, p, q1, by omega, hb, Or.inr (Or.inr ⟨p1, np, nb, 6, by omega, by omega, by omega, k3⟩)⟩) (fun h2 u1 u2 u3 kn2 k3 => ⟨rfl, rfl, rfl, u1, ly_fr_tr fr u2, p, q1, by omega, hb, Or.inr (Or.inr ⟨p1, np, nb, 7, by omega, by omega, by omega, k3⟩)⟩)
  by_cases z1 : x % 256 ≤ 31
  · exact snQ1 c hM hD hy n p x (x % 256) n0 n1 (by omega) (by omega) x0 x1 (by omega) (by omega) (by omega) kn kx (hp_m8 x) l0 l1 (fun h2 u1 u2 u3 kn2 k3 => ⟨rfl, rfl, rfl, u1, ly_fr_tr fr u2, p, q1, by omega, hb, Or.inr (Or.inr ⟨p1, np, nb, 0, by omega, by omega, by omega, k3⟩)⟩) (fun h2 u1 u2 u3 kn2 k3 => ⟨rfl, rfl, rfl, u1, ly_fr_tr fr u2, p, q1, by omega, hb, Or.inr (Or.inr ⟨p1, np, nb, 3, by omega, by omega, by omega, k3⟩)⟩) (fun h2 u1 u2 u3 kn2 k3 => ⟨rfl, rfl, rfl, u1, ly_fr_tr fr u2, p, q1, by omega, hb, Or.inr (Or.inr ⟨p1, np, nb, 4, by omega, by omega, by omega, k3⟩)⟩) (fun h2 u1 u2 u3 kn2 k3 => ⟨rfl, rfl, rfl, u1, ly_fr_tr fr u2, p, q1, by omega, hb, Or.inr (Or.inr ⟨p1, np, nb, 5, by omega, by omega, by omega, k3⟩)⟩) (fun h2 u1 u2 u3 kn2 k3 => ⟨rfl, rfl, rfl, u1, ly_fr_tr fr u2, p, q1, by omega, hb, Or.inr (Or.inr ⟨p1, np, nb, 6, by omega, by omega, by omega, k3⟩)⟩) (fun h2 u1 u2 u3 kn2 k3 => ⟨rfl, rfl, rfl, u1, ly_fr_tr fr u2, p, q1, by omega, hb, Or.inr (Or.inr ⟨p1, np, nb, 7, by omega, by omega, by omega, k3⟩)⟩)
  by_cases z2 : x % 256 ≤ 47
  · exact snQ2 c hM hD hy n p x (x % 256) n0 n1 (by omega) (by omega) x0 x1 (by omega) (by omega) (by omega) kn kx (hp_m8 x) l0 l1 (fun h2 u1 u2 u3 kn2 k3 => ⟨rfl, rfl, rfl, u1, ly_fr_tr fr u2, p, q1, by omega, hb, Or.inr (Or.inr ⟨p1, np, nb, 0, by omega, by omega, by omega, k3⟩)⟩) (fun h2 u1 u2 u3 kn2 k3 => ⟨rfl, rfl, rfl, u1, ly_fr_tr fr u2, p, q1, by omega, hb, Or.inr (Or.inr ⟨p1, np, nb, 3, by omega, by omega, by omega, k3⟩)⟩) (fun h2 u1 u2 u3 kn2 k3 => ⟨rfl, rfl, rfl, u1, ly_fr_tr fr u2, p, q1, by omega, hb, Or.inr (Or.inr ⟨p1, np, nb, 4, by omega, by omega, by omega, k3⟩)⟩) (fun h2 u1 u2 u3 kn2 k3 => ⟨rfl, rfl, rfl, u1, ly_fr_tr fr u2, p, q1, by omega, hb, Or.inr (Or.inr ⟨p1, np, nb, 5, by omega, by omega, by omega, k3⟩)⟩) (fun h2 u1 u2 u3 kn2 k3 => ⟨rfl, rfl, rfl, u1, ly_fr_tr fr u2, p, q1, by omega, hb, Or.inr (Or.inr ⟨p1, np, nb, 6, by omega, by omega, by omega, k3⟩)⟩) (fun h2 u1 u2 u3 kn2 k3 => ⟨rfl, rfl, rfl, u1, ly_fr_tr fr u2, p, q1, by omega, hb, Or.inr (Or.inr ⟨p1, np, nb, 7, by omega, by omega, by omega, k3⟩)⟩)
  by_cases z3 : x % 256 ≤ 96
  · exact snQ3 c hM hD hy n p x (x % 256) n0 n1 (by omega) (by omega) x0 x1 (by omega) (by omega) (by omega) kn kx (hp_m8 x) l0 l1 (fun h2 u1 u2 u3 kn2 k3 => ⟨rfl, rfl, rfl, u1, ly_fr_tr fr u2, p, q1, by omega, hb, Or.inr (Or.inr ⟨p1, np, nb, 0, by omega, by omega, by omega, k3⟩)⟩) (fun h2 u1 u2 u3 kn2 k3 => ⟨rfl, rfl, rfl, u1, ly_fr_tr fr u2, p, q1, by omega, hb, Or.inr (Or.inr ⟨p1, np, nb, 3, by omega, by omega, by omega, k3⟩)⟩) (fun h2 u1 u2 u3 kn2 k3 => ⟨rfl, rfl, rfl, u1, ly_fr_tr fr u2, p, q1, by omega, hb, Or.inr (Or.inr ⟨p1, np, nb, 4, by omega, by omega, by omega, k3⟩)⟩) (fun h2 u1 u2 u3 kn2 k3 => ⟨rfl, rfl, rfl, u1, ly_fr_tr fr u2, p, q1, by omega, hb, Or.inr (Or.inr ⟨p1, np, nb, 5, by omega, by omega, by omega, k3⟩)⟩) (fun h2 u1 u2 u3 kn2 k3 => ⟨rfl, rfl, rfl, u1, ly_fr_tr fr u2, p, q1, by omega, hb, Or.inr (Or.inr ⟨p1, np, nb, 6, by omega, by omega, by omega, k3⟩)⟩) (fun h2 u1 u2 u3 kn2 k3 => ⟨rfl, rfl, rfl, u1, ly_fr_tr fr u2, p, q1, by omega, hb, Or.inr (Or.inr ⟨p1, np, nb, 7, by omega, by omega, by omega, k3⟩)⟩)
  exact snQ4 c hM hD hy n p x (x % 256) n0 n1 (by omega) (by omega) x0 x1 (by omega) (by omega) (by omega) kn kx (hp_m8 x) l0 l1 (fun h2 u1 u2 u3 kn2 k3 => ⟨rfl, rfl, rfl, u1, ly_fr_tr fr u2, p, q1, by omega, hb, Or.inr (Or.inr ⟨p1, np, nb, 0, by omega, by omega, by omega, k3⟩)⟩) (fun h2 u1 u2 u3 kn2 k3 => ⟨rfl, rfl, rfl, u1, ly_fr_tr fr u2, p, q1, by omega, hb, Or.inr (Or.inr ⟨p1, np, nb, 3, by omega, by omega, by omega, k3⟩)⟩) (fun h2 u1 u2 u3 kn2 k3 => ⟨rfl, rfl, rfl, u1, ly_fr_tr fr u2, p, q1, by omega, hb, Or.inr (Or.inr ⟨p1, np, nb, 4, by omega, by omega, by omega, k3⟩)⟩) (fun h2 u1 u2 u3 kn2 k3 => ⟨rfl, rfl, rfl, u1, ly_fr_tr fr u2, p, q1, by omega, hb, Or.inr (Or.inr ⟨p1, np, nb, 5, by omega, by omega, by omega, k3⟩)⟩) (fun h2 u1 u2 u3 kn2 k3 => ⟨rfl, rfl, rfl, u1, ly_fr_tr fr u2, p, q1, by omega, hb, Or.inr (Or.inr ⟨p1, np, nb, 6, by omega, by omega, by omega, k3⟩)⟩) (fun h2 u1 u2 u3 kn2 k3 => ⟨rfl, rfl, rfl, u1, ly_fr_tr fr u2, p, q1, by omega, hb, Or.inr (Or.inr ⟨p1, np, nb, 7, by omega, by omega, by omega, k3⟩)⟩)
theorem sn_skip {cst : am_K} {strs : List Nat} {D : Nat} {M : am_M} {h0 : am_H} (c : hp_C cst strs D) (hM : m_P[299]? = some M) (hD : (6 : Int) ≤ (D : Int) + 1) {n e0 : Int} (n0 : 0 ≤ n) (n1 : n ≤ 1200) (q0 : 0 ≤ e0) (hy0 : ly_hy m_tt ly_TH h0) : ∀ (N : Nat) (h : am_H) (l : am_L) (p : Int), (n - p).toNat < N → e0 ≤ p → p ≤ n → ly_hy m_tt ly_TH h → ly_fr cst [19971, 19972, 19973, 19974, 19975, 19976] h0 h → ly_hv cst h 19970 0 = some n → (∀ k, e0 ≤ k → k < p → ow_b (ow_g (ly_hv cst h0 20224)) k) → hp_a l 0 94 → hp_i l 1 p → hp_F cst strs (sc_Φ (ow_g (ly_hv cst h0 20224)) cst h0 e0 n) D M 5 l [] h := by
  intro N
  induction N with
  | zero => intro h l p hN; omega
  | succ N ih =>
    intro h l p hN q1 p2 hy fr kn hb l0 l1
    by_cases hp : p = n
    · rw [hp] at l1 hb
      exact snD c hM hD hy n n0 n1 kn l0 l1 (fun l2 h2 u1 u2 u3 kn2 m0 m1 => snE c hM hD u1 n n0 n1 kn2 m0 m1 (fun h3 w1 w2 w3 kn3 k3 k4 => ⟨rfl, rfl, rfl, w1, ly_fr_tr fr (ly_fr_tr u2 w2), n, by omega, Int.le_refl _, hb, Or.inl ⟨rfl, k3⟩⟩))
    · obtain ⟨x, kx, x0, x1⟩ := hp_rowb (cst := cst) (i := p) hy th_BT (by omega) (by omega)
      have kx' : ly_hv cst h0 20224 p = some x := by
        rw [← hp_sameb th_BT rfl hy0 hy fr]
        exact kx
      have kg := ow_gs kx'
      by_cases z1 : x = 32
      · subst z1
        exact snA c hM hD hy n p n0 n1 (by omega) (by omega) (by omega) kn kx l0 l1 (fun l2 h2 u1 u2 u3 kn2 m0 m1 => ih h2 l2 (p + 1) (by omega) (by omega) (by omega) u1 (ly_fr_tr fr u2) kn2 (fun k k0 k1 => if z : k = p then by rw [z]; exact ⟨_, kg, Or.inl rfl⟩ else hb k k0 (by omega)) m0 m1)
      by_cases z2 : x = 10
      · subst z2
        exact snB c hM hD hy n p n0 n1 (by omega) (by omega) (by omega) kn kx l0 l1 (fun l2 h2 u1 u2 u3 kn2 m0 m1 => ih h2 l2 (p + 1) (by omega) (by omega) (by omega) u1 (ly_fr_tr fr u2) kn2 (fun k k0 k1 => if z : k = p then by rw [z]; exact ⟨_, kg, Or.inr rfl⟩ else hb k k0 (by omega)) m0 m1)
      have nb : ¬ ow_b (ow_g (ly_hv cst h0 20224)) p := by
        rintro ⟨y, hy1, y1⟩
        rw [kg] at hy1
        cases hy1
        omega
      have at31 : ∀ (l2 : am_L) (h2 : am_H), ly_hy m_tt ly_TH h2 → ly_fr cst [19971, 19972, 19973, 19974, 19975, 19976] h h2 → h.length ≤ h2.length → ly_hv cst h2 19970 0 = some n → hp_a l2 0 94 → hp_i l2 1 p → hp_F cst strs (sc_Φ (ow_g (ly_hv cst h0 20224)) cst h0 e0 n) D M 31 l2 [] h2 := fun l2 h2 u1 u2 u3 kn2 m0 m1 => sn_at c hM hD n0 n1 q0 q1 (by omega) hy0 hb h2 l2 u1 (ly_fr_tr fr u2) kn2 nb m0 m1
      by_cases z3 : x % 256 ≤ 9
      · exact snC0 c hM hD hy n p x (x % 256) n0 n1 (by omega) (by omega) x0 x1 (by omega) z3 (by omega) kn kx (hp_m8 x) l0 l1 at31
      by_cases z4 : x % 256 ≤ 31
      · exact snC1 c hM hD hy n p x (x % 256) n0 n1 (by omega) (by omega) x0 x1 (by omega) z4 (by omega) kn kx (hp_m8 x) l0 l1 at31
      exact snC2 c hM hD hy n p x (x % 256) n0 n1 (by omega) (by omega) x0 x1 (by omega) (by omega) (by omega) kn kx (hp_m8 x) l0 l1 at31
theorem sc_run {cst : am_K} {strs : List Nat} {D : Nat} {h : am_H} (c : hp_C cst strs D) (hD : (6 : Int) ≤ (D : Int) + 1) (hy : ly_hy m_tt ly_TH h) {n e0 : Int} (n0 : 0 ≤ n) (n1 : n ≤ 1200) (q0 : 0 ≤ e0) (q1 : e0 ≤ n) (kn : ly_hv cst h 19970 0 = some n) (ke : ly_hv cst h 19974 0 = some e0) :
    ∃ r, am_Run cst m_cl m_tt m_P strs sx_bi (D + 1) 299 [.ref 94] h r ∧ sc_Φ (ow_g (ly_hv cst h 20224)) cst h e0 n r := by
  obtain ⟨M, hM, hl⟩ := hp_M (mi := 299) (k := 1) (by decide +kernel)
  obtain ⟨n', r, hgo, r1, r2, r3, r4⟩ := sn0 (Φ := sc_Φ (ow_g (ly_hv cst h 20224)) cst h e0 n) (l := lv_args 0 [.ref 94]) c hM hD hy n e0 n0 n1 q0 (by omega) kn ke rfl (fun l1 h1 u1 u2 u3 k1 m0 m1 => sn_skip (h0 := h) c hM hD n0 n1 q0 hy ((n - e0).toNat + 1) h1 l1 e0 (Nat.lt_succ_self _) (Int.le_refl _) q1 u1 u2 k1 (fun k k0 k1 => by omega) m0 m1)
  simp only [Nat.zero_add] at r2 r3
  exact ⟨r, Or.inr ⟨M, n', hM, hl, hgo⟩, r1, r2, r3, r4⟩
def so_Φ (g : Int → Option Int) (cst : am_K) (h0 : am_H) (n : Int) (r : am_Q) : Prop := r.1 = none ∧ r.2.2.1 = 0 ∧ r.2.2.2 = 0 ∧ ly_hy m_tt ly_TH r.2.1 ∧ ly_fr cst [19969, 19970, 19971, 19972, 19973, 19974, 19975, 19976] h0 r.2.1 ∧ ly_hv cst r.2.1 19969 0 = some 0 ∧ ly_hv cst r.2.1 19970 0 = some n ∧ sc_E g cst r.2.1 0 n
theorem so_take {cst : am_K} {strs : List Nat} {D : Nat} {h : am_H} (c1 : hp_C cst strs D) (c : hp_C cst strs (D + 1)) (hD : (6 : Int) ≤ (D : Int) + 1) (hy : ly_hy m_tt ly_TH h) {n : Int} (n0 : 0 ≤ n) (n1 : n ≤ 1200) (kn : ly_hv cst h 19969 0 = some n) :
    ∃ r, am_Run cst m_cl m_tt m_P strs sx_bi (D + 1 + 1) 298 [.ref 94] h r ∧ so_Φ (ow_g (ly_hv cst h 20224)) cst h n r := by
  obtain ⟨M, hM, hl⟩ := hp_M (mi := 298) (k := 1) (by decide +kernel)
  have go : hp_F cst strs (so_Φ (ow_g (ly_hv cst h 20224)) cst h n) (D + 1) M 0 (lv_args 0 [.ref 94]) [] h := by
    refine so0 c hM (by omega) hy n n0 n1 kn rfl (fun l1 h1 u1 u2 u3 k1 k2 k3 g0 => ?_)
    obtain ⟨r, hrun, r1, r2, r3, rhy, rfr, rE⟩ := sc_run c1 hD u1 n0 n1 (Int.le_refl 0) n0 k2 k3
    refine hp_call (mi := 298) (pc := 19) (tg := 299) (na := 1) (c := 78) (ci := 12) (st0 := [.ref 94]) (st := []) (av := []) hM (by decide +kernel) u1 rfl rfl rfl (by decide) hrun r2 r3 ?_
    rw [r1]
    rw [hp_sameb th_BT rfl hy u1 u2] at rE
    refine so1 c hM (by omega) rhy n n0 n1 (rfr _ _ _ rfl k2) g0 (fun h3 v1 v2 v3 k4 => ⟨rfl, rfl, rfl, v1, ly_fr_tr (hp_sub2 rfl u2) (ly_fr_tr (hp_sub2 rfl rfr) (fun r i x _ e => v2 r i x rfl e)), v2 _ _ _ rfl (rfr _ _ _ rfl k1), k4, ?_⟩)
    obtain ⟨p, p0, p1, pb, pc⟩ := rE
    refine ⟨p, p0, p1, pb, ?_⟩
    rcases pc with ⟨a1, a2⟩ | ⟨a1, e, a2, a3, a4, a5, a6⟩ | ⟨a1, a2, a3, q, a4, a5, a6, a7⟩
    · exact Or.inl ⟨a1, v2 _ _ _ rfl a2⟩
    · refine Or.inr (Or.inl ⟨a1, e, a2, a3, a4, a5, ?_⟩)
      rcases a6 with ⟨b1, b2, b3, v, b4, b5, b6⟩ | ⟨b1, b2⟩
      · exact Or.inl ⟨b1, v2 _ _ _ rfl b2, v2 _ _ _ rfl b3, v, b4, b5, v2 _ _ _ rfl b6⟩
      · exact Or.inr ⟨b1, v2 _ _ _ rfl b2⟩
    · exact Or.inr (Or.inr ⟨a1, a2, a3, q, a4, a5, a6, v2 _ _ _ rfl a7⟩)
  obtain ⟨n', r, hgo, r1, r2, r3, r4⟩ := go
  simp only [Nat.zero_add] at r2 r3
  exact ⟨r, Or.inr ⟨M, n', hM, hl, hgo⟩, r1, r2, r3, r4⟩
/-- what oneWord answers -/
def so_W (g : Int → Option Int) (n : Int) (x : Int64) : Prop := (ow g n → 1 ≤ x.toInt ∧ x.toInt ≤ 1152921504606846976) ∧ (¬ ow g n → x.toInt = 0)
theorem so_run {cst : am_K} {strs : List Nat} {D : Nat} {h : am_H} (c1 : hp_C cst strs D) (c2 : hp_C cst strs (D + 1)) (c : hp_C cst strs (D + 1 + 1)) (hD : (6 : Int) ≤ (D : Int) + 1) (hy : ly_hy m_tt ly_TH h) {n : Int} (n0 : 0 ≤ n) (n1 : n ≤ 1200) (kn : ly_hv cst h 19969 0 = some n) :
    ∃ r, am_Run cst m_cl m_tt m_P strs sx_bi (D + 1 + 1 + 1) 323 [.ref 94] h r ∧ (∃ x : Int64, r.1 = some (.long x) ∧ so_W (ow_g (ly_hv cst h 20224)) n x) ∧ r.2.2.1 = 0 ∧ r.2.2.2 = 0 ∧ ly_hy m_tt ly_TH r.2.1 ∧ ly_fr cst [19969, 19970, 19971, 19972, 19973, 19974, 19975, 19976] h r.2.1 ∧ ly_hv cst r.2.1 19969 0 = some 0 := by
  obtain ⟨M, hM, hl⟩ := hp_M (mi := 323) (k := 1) (by decide +kernel)
  have go : hp_F cst strs (fun r => (∃ x : Int64, r.1 = some (.long x) ∧ so_W (ow_g (ly_hv cst h 20224)) n x) ∧ r.2.2.1 = 0 ∧ r.2.2.2 = 0 ∧ ly_hy m_tt ly_TH r.2.1 ∧ ly_fr cst [19969, 19970, 19971, 19972, 19973, 19974, 19975, 19976] h r.2.1 ∧ ly_hv cst r.2.1 19969 0 = some 0) (D + 1 + 1) M 0 (lv_args 0 [.ref 94]) [] h := by
    have ml : ∀ {a b : am_H}, ly_fr cst [] a b → ly_fr cst [19969, 19970, 19971, 19972, 19973, 19974, 19975, 19976] a b := fun f r i v _ e => f r i v rfl e
    refine so2 c hM (by omega) hy rfl (fun l1 h1 u1 u2 u3 g0 => ?_)
    obtain ⟨r, hrun, r1, r2, r3, rhy, rfr, rk, rn, rE⟩ := so_take c1 c2 hD u1 n0 n1 (u2 _ _ _ rfl kn)
    refine hp_call (mi := 323) (pc := 1) (tg := 298) (na := 1) (c := 78) (ci := 12) (st0 := [.ref 94]) (st := []) (av := []) hM (by decide +kernel) u1 rfl rfl rfl (by decide) hrun r2 r3 ?_
    rw [r1]
    rw [hp_sameb th_BT rfl hy u1 u2] at rE
    have frA : ly_fr cst [19969, 19970, 19971, 19972, 19973, 19974, 19975, 19976] h r.2.1 := ly_fr_tr (ml u2) rfr
    obtain ⟨p, p0, p1, pb, pc⟩ := rE
    rcases pc with ⟨a1, a2⟩ | ⟨a1, e, a2, a3, a4, a5, ⟨b1, b2, b3, v, b4, b5, b6⟩ | ⟨b1, b2⟩⟩ | ⟨a1, a2, a3, q, a4, a5, a6, a7⟩
    · exact so3 c hM (by omega) rhy 8 (by omega) (by omega) a2 (hp_ne (by omega)) g0 (fun h3 x hx v1 v2 v3 => ⟨⟨x, rfl, fun ⟨s, e, s0, se, en, e12, h1, h2, h3⟩ => (ow_x (pb s s0 (by omega)) (h2 s (Int.le_refl _) se)).elim, fun _ => hx⟩, rfl, rfl, v1, ly_fr_tr frA (ml v2), v2 _ _ _ rfl rk⟩)
    · refine so4 c hM (by omega) rhy v (by omega) b5 b2 b6 g0 (fun l3 h3 v1 v2 v3 j0 j1 => ?_)
      obtain ⟨r', hrun', s1, s2, s3, shy, sfr, sE⟩ := sc_run c2 (by omega) v1 n0 n1 (e0 := e) (by omega) a3 (v2 _ _ _ rfl rn) (v2 _ _ _ rfl b3)
      refine hp_call (mi := 323) (pc := 20) (tg := 299) (na := 1) (c := 78) (ci := 12) (st0 := [.ref 94]) (st := []) (av := []) hM (by decide +kernel) v1 rfl rfl rfl (by decide) hrun' s2 s3 ?_
      rw [s1]
      rw [hp_sameb th_BT rfl rhy v1 v2, hp_sameb th_BT rfl u1 rhy rfr, hp_sameb th_BT rfl hy u1 u2] at sE
      have frB : ly_fr cst [19969, 19970, 19971, 19972, 19973, 19974, 19975, 19976] h r'.2.1 := ly_fr_tr frA (ly_fr_tr (ml v2) (hp_sub2 rfl sfr))
      have rk' : ly_hv cst r'.2.1 19969 0 = some 0 := sfr _ _ _ rfl (v2 _ _ _ rfl rk)
      obtain ⟨p', p0', p1', pb', pc'⟩ := sE
      have two : ∀ q, 0 ≤ q → q ≤ 7 → ly_hv cst r'.2.1 19971 0 = some q → ¬ ow (ow_g (ly_hv cst h 20224)) n → hp_F cst strs (fun r => (∃ x : Int64, r.1 = some (.long x) ∧ so_W (ow_g (ly_hv cst h 20224)) n x) ∧ r.2.2.1 = 0 ∧ r.2.2.2 = 0 ∧ ly_hy m_tt ly_TH r.2.1 ∧ ly_fr cst [19969, 19970, 19971, 19972, 19973, 19974, 19975, 19976] h r.2.1 ∧ ly_hv cst r.2.1 19969 0 = some 0) (D + 1 + 1) M 23 l3 [] r'.2.1 := fun q y0 y1 kq nw => so6 c hM (by omega) shy v q (by omega) b5 y0 (by omega) kq (hp_ne (by omega)) j0 j1 (fun h5 x hx w1 w2 w3 => ⟨⟨x, rfl, fun ok => absurd ok nw, fun _ => hx⟩, rfl, rfl, w1, ly_fr_tr frB (ml w2), w2 _ _ _ rfl rk'⟩)
      have lp := a4 p (Int.le_refl _) a2
      rcases pc' with ⟨d1, d2⟩ | ⟨d1, e', d2, d3, d4, d5, d6⟩ | ⟨d1, d2, d3, q, d4, d5, d6, d7⟩
      · exact so5 c hM (by omega) shy v (by omega) b5 d2 j0 j1 (fun h5 x hx w1 w2 w3 => ⟨⟨x, rfl, fun _ => by rw [hx]; exact ⟨b4, b5⟩, fun nw => absurd ⟨p, e, p0, a2, a3, b1, pb, a4, fun k k0 k1 => pb' k k0 (by omega)⟩ nw⟩, rfl, rfl, w1, ly_fr_tr frB (ml w2), w2 _ _ _ rfl rk'⟩)
      · have nw : ¬ ow (ow_g (ly_hv cst h 20224)) n := by
          have lq := d4 p' (Int.le_refl _) d2
          by_cases z : p' = e
          · rw [z] at lq
            exact absurd lq (a5 (by omega))
          · exact ow_bad3 (a := p) (b := e) (d := p') p0 a2 (by omega) d1 lp (pb' e (Int.le_refl _) (by omega)) lq
        rcases d6 with ⟨f1, f2, -⟩ | ⟨f1, f2⟩
        · exact two 1 (by omega) (by omega) f2 nw
        · exact two 0 (by omega) (by omega) f2 nw
      · refine two q d4 d5 d7 ?_
        rintro ⟨s, e9, s0, se, en, e12, h1, h2, h3⟩
        by_cases y1 : p' < s
        · exact d3 (h1 p' (by omega) y1)
        · by_cases y2 : p' < e9
          · exact d2 (h2 p' (by omega) y2)
          · exact d3 (h3 p' (by omega) d1)
    · refine so3 c hM (by omega) rhy 0 (by omega) (by omega) b2 (hp_ne (by omega)) g0 (fun h3 x hx v1 v2 v3 => ⟨⟨x, rfl, fun ok => absurd ok ?_, fun _ => hx⟩, rfl, rfl, v1, ly_fr_tr frA (ml v2), v2 _ _ _ rfl rk⟩)
      exact ow_bad2 (a := p) (b := p + 12) p0 (by omega) (by omega) (a4 p (Int.le_refl _) a2) (a4 (p + 12) (by omega) (by omega))
    · refine so3 c hM (by omega) rhy q a4 (by omega) a7 (hp_ne (by omega)) g0 (fun h3 x hx v1 v2 v3 => ⟨⟨x, rfl, fun ok => ?_, fun _ => hx⟩, rfl, rfl, v1, ly_fr_tr frA (ml v2), v2 _ _ _ rfl rk⟩)
      exfalso
      obtain ⟨s, e9, s0, se, en, e12, h1, h2, h3⟩ := ok
      by_cases y1 : p < s
      · exact a3 (h1 p (by omega) y1)
      · by_cases y2 : p < e9
        · exact a2 (h2 p (by omega) y2)
        · exact a3 (h3 p (by omega) a1)
  obtain ⟨n', r, hgo, r1, r2, r3, r4⟩ := go
  simp only [Nat.zero_add] at r2 r3
  exact ⟨r, Or.inr ⟨M, n', hM, hl, hgo⟩, r1, r2, r3, r4⟩
/-- both tapes: one WORD alone in the one as in the other -/
theorem ow_even {cst : am_K} {h1 h2 : am_H} (T : tp_H cst h1 h2) (hy2 : ly_hy m_tt ly_TH h2) {n : Int} (n1 : n ≤ 1200) : ow (ly_hv cst h1 512) n ↔ ow (ow_g (ly_hv cst h2 20224)) n := by
  have e : ∀ k, 0 ≤ k → k < n → ly_hv cst h1 512 k = ow_g (ly_hv cst h2 20224) k := fun k k0 k1 => by
    obtain ⟨x, hx, -, -⟩ := hp_rowb (cst := cst) (i := k) hy2 th_BT k0 (by omega)
    rw [T k x hx, ow_gs hx]
  have bb : ∀ k, 0 ≤ k → k < n → (ow_b (ly_hv cst h1 512) k ↔ ow_b (ow_g (ly_hv cst h2 20224)) k) := fun k k0 k1 => by unfold ow_b; rw [e k k0 k1]
  have ll : ∀ k, 0 ≤ k → k < n → (ow_l (ly_hv cst h1 512) k ↔ ow_l (ow_g (ly_hv cst h2 20224)) k) := fun k k0 k1 => by unfold ow_l; rw [e k k0 k1]
  constructor
  · rintro ⟨s, e9, s0, se, en, e12, h1, h2, h3⟩
    exact ⟨s, e9, s0, se, en, e12, fun k k0 k1 => (bb k k0 (by omega)).mp (h1 k k0 k1), fun k k0 k1 => (ll k (by omega) (by omega)).mp (h2 k k0 k1), fun k k0 k1 => (bb k (by omega) k1).mp (h3 k k0 k1)⟩
  · rintro ⟨s, e9, s0, se, en, e12, h1, h2, h3⟩
    exact ⟨s, e9, s0, se, en, e12, fun k k0 k1 => (bb k k0 (by omega)).mpr (h1 k k0 k1), fun k k0 k1 => (ll k (by omega) (by omega)).mpr (h2 k k0 k1), fun k k0 k1 => (bb k (by omega) k1).mpr (h3 k k0 k1)⟩
