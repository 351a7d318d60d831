/-! PRINTED by wip/p2/hp_bound.py: bound and order of class and reference, exactly -/
theorem pb_s_k : hp_chk 222 0 1 [(0, 1, 10)] [] [(0, .inr (.inr (.inl (some 71)))), (1, .inl (0, [(0, 1)])), (2, .inr (.inr (.inl (some 44))))] [] [] [14087, 15360] 4 [(16, ([], 1, [(0, 1, 10)], [], [(0, .inr (.inr (.inl (some 71)))), (1, .inl (0, [(0, 1)])), (2, .inr (.inr (.inl (some 44)))), (3, .inl (0, []))], [], []))] [] = true := by decide +kernel
theorem pb_s {cst : am_K} {strs : List Nat} {Φ : am_Q → Prop} {D : Nat} {M : am_M} {h : am_H} {l : am_L} (c : hp_C cst strs D) (hM : m_P[222]? = some M) (hD : (4 : Int) ≤ (D : Int) + 1) (hy : ly_hy m_tt ly_TH h) (hr : Int) (b0 : 1 ≤ hr) (t0 : hr ≤ 10) (l0 : hp_a l 0 71) (l1 : hp_i l 1 (hr)) (l2 : hp_a l 2 44) (e0 : ∀ (l' : am_L) (h' : am_H), ly_hy m_tt ly_TH h' → ly_fr cst [14087, 15360] h h' → h.length ≤ h'.length → hp_a l' 0 71 → hp_i l' 1 (hr) → hp_a l' 2 44 → hp_i l' 3 0 → hp_F cst strs Φ D M 16 l' [] h') : hp_F cst strs Φ D M 0 l [] h := by
  refine hp_arc c hM pb_s_k hD [hr] rfl hy (hp_Bc (z := hr) rfl b0 t0 hp_Bn) hp_Fn hp_Kn (hp_La l0 (hp_Li (z := (0 + (1 * hr + 0))) l1 rfl (by omega) (hp_La l2 hp_Ln))) trivial ?_ ?_
  · intro p hp ys l' st' h' hys a1 a2 a3 gZ gL gS
    rcases List.mem_cons.mp hp with rfl | hp
    · obtain rfl := hp_y0 hys
      cases hp_gSn gS
      exact e0 l' h' a1 a2 a3 (hp_gLa gL (List.mem_of_getElem? (i := 0) rfl) (by decide)) (hp_gLi (z := (0 + (1 * hr + 0))) gL (List.mem_of_getElem? (i := 1) rfl) rfl (by omega)) (hp_gLa gL (List.mem_of_getElem? (i := 2) rfl) (by decide)) (hp_gLi (z := (0 + 0)) gL (List.mem_of_getElem? (i := 3) rfl) rfl (by omega))
    cases hp
  · intro p hp ys v h' hys a1 a2 a3 gZ gS
    cases hp
theorem pb_0_k : hp_chk 222 16 5 [(0, 1, 10), (1, 1, 5), (2, 0, 100), (3, 0, 99), (4, 1, 4)] [((-1), [(2, 1), (3, (-1))])] [(0, .inr (.inr (.inl (some 71)))), (1, .inl (0, [(0, 1)])), (2, .inr (.inr (.inl (some 44)))), (3, .inl (0, []))] [] [(14080, (0, []), (0, [(1, 1)])), (7170, (0, []), (0, [(2, 1)])), (14336, (0, []), (0, [(3, 1)])), (7424, (0, [(3, 1)]), (1, [])), (45322, (0, [(3, 1)]), (0, [(4, 1)]))] [14848, 15104] 6 [(16, ([], 5, [(0, 1, 10), (1, 1, 5), (2, 0, 100), (3, 0, 99), (4, 1, 4)], [], [(0, .inr (.inr (.inl (some 71)))), (1, .inl (0, [(0, 1)])), (2, .inr (.inr (.inl (some 44)))), (3, .inl (1, []))], [], [(14848, (0, []), (0, [(4, 1)]))]))] [] = true := by decide +kernel
theorem pb_0 {cst : am_K} {strs : List Nat} {Φ : am_Q → Prop} {D : Nat} {M : am_M} {h : am_H} {l : am_L} (c : hp_C cst strs D) (hM : m_P[222]? = some M) (hD : (6 : Int) ≤ (D : Int) + 1) (hy : ly_hy m_tt ly_TH h) (hr z s n0 v0 : Int) (b0 : 1 ≤ hr) (t0 : hr ≤ 10) (b1 : 1 ≤ z) (t1 : z ≤ 5) (b2 : 0 ≤ s) (t2 : s ≤ 100) (b3 : 0 ≤ n0) (t3 : n0 ≤ 99) (b4 : 1 ≤ v0) (t4 : v0 ≤ 4) (f0 : 0 ≤ (s - n0 - 1)) (k0 : ly_hv cst h 14080 0 = some (z)) (k1 : ly_hv cst h 7170 0 = some (s)) (k2 : ly_hv cst h 14336 0 = some (n0)) (k3 : ly_hv cst h 7424 (n0) = some 1) (k4 : ly_hv cst h 45322 (n0) = some (v0)) (l0 : hp_a l 0 71) (l1 : hp_i l 1 (hr)) (l2 : hp_a l 2 44) (l3 : hp_i l 3 0) (e0 : ∀ (l' : am_L) (h' : am_H), ly_hy m_tt ly_TH h' → ly_fr cst [14848, 15104] h h' → h.length ≤ h'.length → ly_hv cst h' 14848 0 = some (v0) → hp_a l' 0 71 → hp_i l' 1 (hr) → hp_a l' 2 44 → hp_i l' 3 1 → hp_F cst strs Φ D M 16 l' [] h') : hp_F cst strs Φ D M 16 l [] h := by
  refine hp_arc c hM pb_0_k hD [hr, z, s, n0, v0] rfl hy (hp_Bc (z := hr) rfl b0 t0 (hp_Bc (z := z) rfl b1 t1 (hp_Bc (z := s) rfl b2 t2 (hp_Bc (z := n0) rfl b3 t3 (hp_Bc (z := v0) rfl b4 t4 hp_Bn))))) (hp_Fc (z := ((-1) + (1 * s + ((-1) * n0 + 0)))) rfl (by omega) hp_Fn) (hp_Kc (zi := (0 + 0)) (zv := (0 + (1 * z + 0))) k0 rfl rfl (by omega) (by omega) (hp_Kc (zi := (0 + 0)) (zv := (0 + (1 * s + 0))) k1 rfl rfl (by omega) (by omega) (hp_Kc (zi := (0 + 0)) (zv := (0 + (1 * n0 + 0))) k2 rfl rfl (by omega) (by omega) (hp_Kc (zi := (0 + (1 * n0 + 0))) (zv := (1 + 0)) k3 rfl rfl (by omega) (by omega) (hp_Kc (zi := (0 + (1 * n0 + 0))) (zv := (0 + (1 * v0 + 0))) k4 rfl rfl (by omega) (by omega) hp_Kn))))) (hp_La l0 (hp_Li (z := (0 + (1 * hr + 0))) l1 rfl (by omega) (hp_La l2 (hp_Li (z := (0 + 0)) l3 rfl (by omega) hp_Ln)))) trivial ?_ ?_
  · intro p hp ys l' st' h' hys a1 a2 a3 gZ gL gS
    rcases List.mem_cons.mp hp with rfl | hp
    · obtain rfl := hp_y0 hys
      cases hp_gSn gS
      exact e0 l' h' a1 a2 a3 (hp_gK (zi := (0 + 0)) (zv := (0 + (1 * v0 + 0))) gZ.2.2.2 (List.mem_of_getElem? (i := 0) rfl) rfl rfl (by omega) (by omega)) (hp_gLa gL (List.mem_of_getElem? (i := 0) rfl) (by decide)) (hp_gLi (z := (0 + (1 * hr + 0))) gL (List.mem_of_getElem? (i := 1) rfl) rfl (by omega)) (hp_gLa gL (List.mem_of_getElem? (i := 2) rfl) (by decide)) (hp_gLi (z := (1 + 0)) gL (List.mem_of_getElem? (i := 3) rfl) rfl (by omega))
    cases hp
  · intro p hp ys v h' hys a1 a2 a3 gZ gS
    cases hp
theorem pb_1_k : hp_chk 222 16 7 [(0, 1, 10), (1, 2, 5), (2, 0, 100), (3, 0, 99), (4, 0, 99), (5, 1, 4), (6, 1, 4)] [((-1), [(2, 1), (3, (-1))]), ((-1), [(2, 1), (4, (-1))])] [(0, .inr (.inr (.inl (some 71)))), (1, .inl (0, [(0, 1)])), (2, .inr (.inr (.inl (some 44)))), (3, .inl (1, []))] [] [(14080, (0, []), (0, [(1, 1)])), (7170, (0, []), (0, [(2, 1)])), (14336, (0, []), (0, [(3, 1)])), (14336, (1, []), (0, [(4, 1)])), (7424, (0, [(3, 1)]), (1, [])), (7424, (0, [(4, 1)]), (1, [])), (45322, (0, [(4, 1)]), (0, [(6, 1)])), (14848, (0, []), (0, [(5, 1)]))] [14848, 15104] 6 [(16, ([], 7, [(0, 1, 10), (1, 2, 5), (2, 0, 100), (3, 0, 99), (4, 0, 99), (5, 1, 4), (6, 1, 4)], [], [(0, .inr (.inr (.inl (some 71)))), (1, .inl (0, [(0, 1)])), (2, .inr (.inr (.inl (some 44)))), (3, .inl (2, []))], [], [(14848, (0, []), (0, [(5, 1)])), (14848, (1, []), (0, [(6, 1)]))]))] [] = true := by decide +kernel
theorem pb_1 {cst : am_K} {strs : List Nat} {Φ : am_Q → Prop} {D : Nat} {M : am_M} {h : am_H} {l : am_L} (c : hp_C cst strs D) (hM : m_P[222]? = some M) (hD : (6 : Int) ≤ (D : Int) + 1) (hy : ly_hy m_tt ly_TH h) (hr z s n0 n1 v0 v1 : Int) (b0 : 1 ≤ hr) (t0 : hr ≤ 10) (b1 : 2 ≤ z) (t1 : z ≤ 5) (b2 : 0 ≤ s) (t2 : s ≤ 100) (b3 : 0 ≤ n0) (t3 : n0 ≤ 99) (b4 : 0 ≤ n1) (t4 : n1 ≤ 99) (b5 : 1 ≤ v0) (t5 : v0 ≤ 4) (b6 : 1 ≤ v1) (t6 : v1 ≤ 4) (f0 : 0 ≤ (s - n0 - 1)) (f1 : 0 ≤ (s - n1 - 1)) (k0 : ly_hv cst h 14080 0 = some (z)) (k1 : ly_hv cst h 7170 0 = some (s)) (k2 : ly_hv cst h 14336 0 = some (n0)) (k3 : ly_hv cst h 14336 1 = some (n1)) (k4 : ly_hv cst h 7424 (n0) = some 1) (k5 : ly_hv cst h 7424 (n1) = some 1) (k6 : ly_hv cst h 45322 (n1) = some (v1)) (k7 : ly_hv cst h 14848 0 = some (v0)) (l0 : hp_a l 0 71) (l1 : hp_i l 1 (hr)) (l2 : hp_a l 2 44) (l3 : hp_i l 3 1) (e0 : ∀ (l' : am_L) (h' : am_H), ly_hy m_tt ly_TH h' → ly_fr cst [14848, 15104] h h' → h.length ≤ h'.length → ly_hv cst h' 14848 0 = some (v0) → ly_hv cst h' 14848 1 = some (v1) → hp_a l' 0 71 → hp_i l' 1 (hr) → hp_a l' 2 44 → hp_i l' 3 2 → hp_F cst strs Φ D M 16 l' [] h') : hp_F cst strs Φ D M 16 l [] h := by
  refine hp_arc c hM pb_1_k hD [hr, z, s, n0, n1, v0, v1] rfl hy (hp_Bc (z := hr) rfl b0 t0 (hp_Bc (z := z) rfl b1 t1 (hp_Bc (z := s) rfl b2 t2 (hp_Bc (z := n0) rfl b3 t3 (hp_Bc (z := n1) rfl b4 t4 (hp_Bc (z := v0) rfl b5 t5 (hp_Bc (z := v1) rfl b6 t6 hp_Bn))))))) (hp_Fc (z := ((-1) + (1 * s + ((-1) * n0 + 0)))) rfl (by omega) (hp_Fc (z := ((-1) + (1 * s + ((-1) * n1 + 0)))) rfl (by omega) hp_Fn)) (hp_Kc (zi := (0 + 0)) (zv := (0 + (1 * z + 0))) k0 rfl rfl (by omega) (by omega) (hp_Kc (zi := (0 + 0)) (zv := (0 + (1 * s + 0))) k1 rfl rfl (by omega) (by omega) (hp_Kc (zi := (0 + 0)) (zv := (0 + (1 * n0 + 0))) k2 rfl rfl (by omega) (by omega) (hp_Kc (zi := (1 + 0)) (zv := (0 + (1 * n1 + 0))) k3 rfl rfl (by omega) (by omega) (hp_Kc (zi := (0 + (1 * n0 + 0))) (zv := (1 + 0)) k4 rfl rfl (by omega) (by omega) (hp_Kc (zi := (0 + (1 * n1 + 0))) (zv := (1 + 0)) k5 rfl rfl (by omega) (by omega) (hp_Kc (zi := (0 + (1 * n1 + 0))) (zv := (0 + (1 * v1 + 0))) k6 rfl rfl (by omega) (by omega) (hp_Kc (zi := (0 + 0)) (zv := (0 + (1 * v0 + 0))) k7 rfl rfl (by omega) (by omega) hp_Kn)))))))) (hp_La l0 (hp_Li (z := (0 + (1 * hr + 0))) l1 rfl (by omega) (hp_La l2 (hp_Li (z := (1 + 0)) l3 rfl (by omega) hp_Ln)))) trivial ?_ ?_
  · intro p hp ys l' st' h' hys a1 a2 a3 gZ gL gS
    rcases List.mem_cons.mp hp with rfl | hp
    · obtain rfl := hp_y0 hys
      cases hp_gSn gS
      exact e0 l' h' a1 a2 a3 (hp_gK (zi := (0 + 0)) (zv := (0 + (1 * v0 + 0))) gZ.2.2.2 (List.mem_of_getElem? (i := 0) rfl) rfl rfl (by omega) (by omega)) (hp_gK (zi := (1 + 0)) (zv := (0 + (1 * v1 + 0))) gZ.2.2.2 (List.mem_of_getElem? (i := 1) rfl) rfl rfl (by omega) (by omega)) (hp_gLa gL (List.mem_of_getElem? (i := 0) rfl) (by decide)) (hp_gLi (z := (0 + (1 * hr + 0))) gL (List.mem_of_getElem? (i := 1) rfl) rfl (by omega)) (hp_gLa gL (List.mem_of_getElem? (i := 2) rfl) (by decide)) (hp_gLi (z := (2 + 0)) gL (List.mem_of_getElem? (i := 3) rfl) rfl (by omega))
    cases hp
  · intro p hp ys v h' hys a1 a2 a3 gZ gS
    cases hp
theorem pb_2_k : hp_chk 222 16 9 [(0, 1, 10), (1, 3, 5), (2, 0, 100), (3, 0, 99), (4, 0, 99), (5, 0, 99), (6, 1, 4), (7, 1, 4), (8, 1, 4)] [((-1), [(2, 1), (3, (-1))]), ((-1), [(2, 1), (4, (-1))]), ((-1), [(2, 1), (5, (-1))])] [(0, .inr (.inr (.inl (some 71)))), (1, .inl (0, [(0, 1)])), (2, .inr (.inr (.inl (some 44)))), (3, .inl (2, []))] [] [(14080, (0, []), (0, [(1, 1)])), (7170, (0, []), (0, [(2, 1)])), (14336, (0, []), (0, [(3, 1)])), (14336, (1, []), (0, [(4, 1)])), (14336, (2, []), (0, [(5, 1)])), (7424, (0, [(3, 1)]), (1, [])), (7424, (0, [(4, 1)]), (1, [])), (7424, (0, [(5, 1)]), (1, [])), (45322, (0, [(5, 1)]), (0, [(8, 1)])), (14848, (0, []), (0, [(6, 1)])), (14848, (1, []), (0, [(7, 1)]))] [14848, 15104] 6 [(16, ([], 9, [(0, 1, 10), (1, 3, 5), (2, 0, 100), (3, 0, 99), (4, 0, 99), (5, 0, 99), (6, 1, 4), (7, 1, 4), (8, 1, 4)], [], [(0, .inr (.inr (.inl (some 71)))), (1, .inl (0, [(0, 1)])), (2, .inr (.inr (.inl (some 44)))), (3, .inl (3, []))], [], [(14848, (0, []), (0, [(6, 1)])), (14848, (1, []), (0, [(7, 1)])), (14848, (2, []), (0, [(8, 1)]))]))] [] = true := by decide +kernel
theorem pb_2 {cst : am_K} {strs : List Nat} {Φ : am_Q → Prop} {D : Nat} {M : am_M} {h : am_H} {l : am_L} (c : hp_C cst strs D) (hM : m_P[222]? = some M) (hD : (6 : Int) ≤ (D : Int) + 1) (hy : ly_hy m_tt ly_TH h) (hr z s n0 n1 n2 v0 v1 v2 : Int) (b0 : 1 ≤ hr) (t0 : hr ≤ 10) (b1 : 3 ≤ z) (t1 : z ≤ 5) (b2 : 0 ≤ s) (t2 : s ≤ 100) (b3 : 0 ≤ n0) (t3 : n0 ≤ 99) (b4 : 0 ≤ n1) (t4 : n1 ≤ 99) (b5 : 0 ≤ n2) (t5 : n2 ≤ 99) (b6 : 1 ≤ v0) (t6 : v0 ≤ 4) (b7 : 1 ≤ v1) (t7 : v1 ≤ 4) (b8 : 1 ≤ v2) (t8 : v2 ≤ 4) (f0 : 0 ≤ (s - n0 - 1)) (f1 : 0 ≤ (s - n1 - 1)) (f2 : 0 ≤ (s - n2 - 1)) (k0 : ly_hv cst h 14080 0 = some (z)) (k1 : ly_hv cst h 7170 0 = some (s)) (k2 : ly_hv cst h 14336 0 = some (n0)) (k3 : ly_hv cst h 14336 1 = some (n1)) (k4 : ly_hv cst h 14336 2 = some (n2)) (k5 : ly_hv cst h 7424 (n0) = some 1) (k6 : ly_hv cst h 7424 (n1) = some 1) (k7 : ly_hv cst h 7424 (n2) = some 1) (k8 : ly_hv cst h 45322 (n2) = some (v2)) (k9 : ly_hv cst h 14848 0 = some (v0)) (k10 : ly_hv cst h 14848 1 = some (v1)) (l0 : hp_a l 0 71) (l1 : hp_i l 1 (hr)) (l2 : hp_a l 2 44) (l3 : hp_i l 3 2) (e0 : ∀ (l' : am_L) (h' : am_H), ly_hy m_tt ly_TH h' → ly_fr cst [14848, 15104] h h' → h.length ≤ h'.length → ly_hv cst h' 14848 0 = some (v0) → ly_hv cst h' 14848 1 = some (v1) → ly_hv cst h' 14848 2 = some (v2) → hp_a l' 0 71 → hp_i l' 1 (hr) → hp_a l' 2 44 → hp_i l' 3 3 → hp_F cst strs Φ D M 16 l' [] h') : hp_F cst strs Φ D M 16 l [] h := by
  refine hp_arc c hM pb_2_k hD [hr, z, s, n0, n1, n2, v0, v1, v2] rfl hy (hp_Bc (z := hr) rfl b0 t0 (hp_Bc (z := z) rfl b1 t1 (hp_Bc (z := s) rfl b2 t2 (hp_Bc (z := n0) rfl b3 t3 (hp_Bc (z := n1) rfl b4 t4 (hp_Bc (z := n2) rfl b5 t5 (hp_Bc (z := v0) rfl b6 t6 (hp_Bc (z := v1) rfl b7 t7 (hp_Bc (z := v2) rfl b8 t8 hp_Bn))))))))) (hp_Fc (z := ((-1) + (1 * s + ((-1) * n0 + 0)))) rfl (by omega) (hp_Fc (z := ((-1) + (1 * s + ((-1) * n1 + 0)))) rfl (by omega) (hp_Fc (z := ((-1) + (1 * s + ((-1) * n2 + 0)))) rfl (by omega) hp_Fn))) (hp_Kc (zi := (0 + 0)) (zv := (0 + (1 * z + 0))) k0 rfl rfl (by omega) (by omega) (hp_Kc (zi := (0 + 0)) (zv := (0 + (1 * s + 0))) k1 rfl rfl (by omega) (by omega) (hp_Kc (zi := (0 + 0)) (zv := (0 + (1 * n0 + 0))) k2 rfl rfl (by omega) (by omega) (hp_Kc (zi := (1 + 0)) (zv := (0 + (1 * n1 + 0))) k3 rfl rfl (by omega) (by omega) (hp_Kc (zi := (2 + 0)) (zv := (0 + (1 * n2 + 0))) k4 rfl rfl (by omega) (by omega) (hp_Kc (zi := (0 + (1 * n0 + 0))) (zv := (1 + 0)) k5 rfl rfl (by omega) (by omega) (hp_Kc (zi := (0 + (1 * n1 + 0))) (zv := (1 + 0)) k6 rfl rfl (by omega) (by omega) (hp_Kc (zi := (0 + (1 * n2 + 0))) (zv := (1 + 0)) k7 rfl rfl (by omega) (by omega) (hp_Kc (zi := (0 + (1 * n2 + 0))) (zv := (0 + (1 * v2 + 0))) k8 rfl rfl (by omega) (by omega) (hp_Kc (zi := (0 + 0)) (zv := (0 + (1 * v0 + 0))) k9 rfl rfl (by omega) (by omega) (hp_Kc (zi := (1 + 0)) (zv := (0 + (1 * v1 + 0))) k10 rfl rfl (by omega) (by omega) hp_Kn))))))))))) (hp_La l0 (hp_Li (z := (0 + (1 * hr + 0))) l1 rfl (by omega) (hp_La l2 (hp_Li (z := (2 + 0)) l3 rfl (by omega) hp_Ln)))) trivial ?_ ?_
  · intro p hp ys l' st' h' hys a1 a2 a3 gZ gL gS
    rcases List.mem_cons.mp hp with rfl | hp
    · obtain rfl := hp_y0 hys
      cases hp_gSn gS
      exact e0 l' h' a1 a2 a3 (hp_gK (zi := (0 + 0)) (zv := (0 + (1 * v0 + 0))) gZ.2.2.2 (List.mem_of_getElem? (i := 0) rfl) rfl rfl (by omega) (by omega)) (hp_gK (zi := (1 + 0)) (zv := (0 + (1 * v1 + 0))) gZ.2.2.2 (List.mem_of_getElem? (i := 1) rfl) rfl rfl (by omega) (by omega)) (hp_gK (zi := (2 + 0)) (zv := (0 + (1 * v2 + 0))) gZ.2.2.2 (List.mem_of_getElem? (i := 2) rfl) rfl rfl (by omega) (by omega)) (hp_gLa gL (List.mem_of_getElem? (i := 0) rfl) (by decide)) (hp_gLi (z := (0 + (1 * hr + 0))) gL (List.mem_of_getElem? (i := 1) rfl) rfl (by omega)) (hp_gLa gL (List.mem_of_getElem? (i := 2) rfl) (by decide)) (hp_gLi (z := (3 + 0)) gL (List.mem_of_getElem? (i := 3) rfl) rfl (by omega))
    cases hp
  · intro p hp ys v h' hys a1 a2 a3 gZ gS
    cases hp
theorem pb_3_k : hp_chk 222 16 11 [(0, 1, 10), (1, 4, 5), (2, 0, 100), (3, 0, 99), (4, 0, 99), (5, 0, 99), (6, 0, 99), (7, 1, 4), (8, 1, 4), (9, 1, 4), (10, 1, 4)] [((-1), [(2, 1), (3, (-1))]), ((-1), [(2, 1), (4, (-1))]), ((-1), [(2, 1), (5, (-1))]), ((-1), [(2, 1), (6, (-1))])] [(0, .inr (.inr (.inl (some 71)))), (1, .inl (0, [(0, 1)])), (2, .inr (.inr (.inl (some 44)))), (3, .inl (3, []))] [] [(14080, (0, []), (0, [(1, 1)])), (7170, (0, []), (0, [(2, 1)])), (14336, (0, []), (0, [(3, 1)])), (14336, (1, []), (0, [(4, 1)])), (14336, (2, []), (0, [(5, 1)])), (14336, (3, []), (0, [(6, 1)])), (7424, (0, [(3, 1)]), (1, [])), (7424, (0, [(4, 1)]), (1, [])), (7424, (0, [(5, 1)]), (1, [])), (7424, (0, [(6, 1)]), (1, [])), (45322, (0, [(6, 1)]), (0, [(10, 1)])), (14848, (0, []), (0, [(7, 1)])), (14848, (1, []), (0, [(8, 1)])), (14848, (2, []), (0, [(9, 1)]))] [14848, 15104] 6 [(16, ([], 11, [(0, 1, 10), (1, 4, 5), (2, 0, 100), (3, 0, 99), (4, 0, 99), (5, 0, 99), (6, 0, 99), (7, 1, 4), (8, 1, 4), (9, 1, 4), (10, 1, 4)], [], [(0, .inr (.inr (.inl (some 71)))), (1, .inl (0, [(0, 1)])), (2, .inr (.inr (.inl (some 44)))), (3, .inl (4, []))], [], [(14848, (0, []), (0, [(7, 1)])), (14848, (1, []), (0, [(8, 1)])), (14848, (2, []), (0, [(9, 1)])), (14848, (3, []), (0, [(10, 1)]))]))] [] = true := by decide +kernel
theorem pb_3 {cst : am_K} {strs : List Nat} {Φ : am_Q → Prop} {D : Nat} {M : am_M} {h : am_H} {l : am_L} (c : hp_C cst strs D) (hM : m_P[222]? = some M) (hD : (6 : Int) ≤ (D : Int) + 1) (hy : ly_hy m_tt ly_TH h) (hr z s n0 n1 n2 n3 v0 v1 v2 v3 : Int) (b0 : 1 ≤ hr) (t0 : hr ≤ 10) (b1 : 4 ≤ z) (t1 : z ≤ 5) (b2 : 0 ≤ s) (t2 : s ≤ 100) (b3 : 0 ≤ n0) (t3 : n0 ≤ 99) (b4 : 0 ≤ n1) (t4 : n1 ≤ 99) (b5 : 0 ≤ n2) (t5 : n2 ≤ 99) (b6 : 0 ≤ n3) (t6 : n3 ≤ 99) (b7 : 1 ≤ v0) (t7 : v0 ≤ 4) (b8 : 1 ≤ v1) (t8 : v1 ≤ 4) (b9 : 1 ≤ v2) (t9 : v2 ≤ 4) (b10 : 1 ≤ v3) (t10 : v3 ≤ 4) (f0 : 0 ≤ (s - n0 - 1)) (f1 : 0 ≤ (s - n1 - 1)) (f2 : 0 ≤ (s - n2 - 1)) (f3 : 0 ≤ (s - n3 - 1)) (k0 : ly_hv cst h 14080 0 = some (z)) (k1 : ly_hv cst h 7170 0 = some (s)) (k2 : ly_hv cst h 14336 0 = some (n0)) (k3 : ly_hv cst h 14336 1 = some (n1)) (k4 : ly_hv cst h 14336 2 = some (n2)) (k5 : ly_hv cst h 14336 3 = some (n3)) (k6 : ly_hv cst h 7424 (n0) = some 1) (k7 : ly_hv cst h 7424 (n1) = some 1) (k8 : ly_hv cst h 7424 (n2) = some 1) (k9 : ly_hv cst h 7424 (n3) = some 1) (k10 : ly_hv cst h 45322 (n3) = some (v3)) (k11 : ly_hv cst h 14848 0 = some (v0)) (k12 : ly_hv cst h 14848 1 = some (v1)) (k13 : ly_hv cst h 14848 2 = some (v2)) (l0 : hp_a l 0 71) (l1 : hp_i l 1 (hr)) (l2 : hp_a l 2 44) (l3 : hp_i l 3 3) (e0 : ∀ (l' : am_L) (h' : am_H), ly_hy m_tt ly_TH h' → ly_fr cst [14848, 15104] h h' → h.length ≤ h'.length → ly_hv cst h' 14848 0 = some (v0) → ly_hv cst h' 14848 1 = some (v1) → ly_hv cst h' 14848 2 = some (v2) → ly_hv cst h' 14848 3 = some (v3) → hp_a l' 0 71 → hp_i l' 1 (hr) → hp_a l' 2 44 → hp_i l' 3 4 → hp_F cst strs Φ D M 16 l' [] h') : hp_F cst strs Φ D M 16 l [] h := by
  refine hp_arc c hM pb_3_k hD [hr, z, s, n0, n1, n2, n3, v0, v1, v2, v3] rfl hy (hp_Bc (z := hr) rfl b0 t0 (hp_Bc (z := z) rfl b1 t1 (hp_Bc (z := s) rfl b2 t2 (hp_Bc (z := n0) rfl b3 t3 (hp_Bc (z := n1) rfl b4 t4 (hp_Bc (z := n2) rfl b5 t5 (hp_Bc (z := n3) rfl b6 t6 (hp_Bc (z := v0) rfl b7 t7 (hp_Bc (z := v1) rfl b8 t8 (hp_Bc (z := v2) rfl b9 t9 (hp_Bc (z := v3) rfl b10 t10 hp_Bn))))))))))) (hp_Fc (z := ((-1) + (1 * s + ((-1) * n0 + 0)))) rfl (by omega) (hp_Fc (z := ((-1) + (1 * s + ((-1) * n1 + 0)))) rfl (by omega) (hp_Fc (z := ((-1) + (1 * s + ((-1) * n2 + 0)))) rfl (by omega) (hp_Fc (z := ((-1) + (1 * s + ((-1) * n3 + 0)))) rfl (by omega) hp_Fn)))) (hp_Kc (zi := (0 + 0)) (zv := (0 + (1 * z + 0))) k0 rfl rfl (by omega) (by omega) (hp_Kc (zi := (0 + 0)) (zv := (0 + (1 * s + 0))) k1 rfl rfl (by omega) (by omega) (hp_Kc (zi := (0 + 0)) (zv := (0 + (1 * n0 + 0))) k2 rfl rfl (by omega) (by omega) (hp_Kc (zi := (1 + 0)) (zv := (0 + (1 * n1 + 0))) k3 rfl rfl (by omega) (by omega) (hp_Kc (zi := (2 + 0)) (zv := (0 + (1 * n2 + 0))) k4 rfl rfl (by omega) (by omega) (hp_Kc (zi := (3 + 0)) (zv := (0 + (1 * n3 + 0))) k5 rfl rfl (by omega) (by omega) (hp_Kc (zi := (0 + (1 * n0 + 0))) (zv := (1 + 0)) k6 rfl rfl (by omega) (by omega) (hp_Kc (zi := (0 + (1 * n1 + 0))) (zv := (1 + 0)) k7 rfl rfl (by omega) (by omega) (hp_Kc (zi := (0 + (1 * n2 + 0))) (zv := (1 + 0)) k8 rfl rfl (by omega) (by omega) (hp_Kc (zi := (0 + (1 * n3 + 0))) (zv := (1 + 0)) k9 rfl rfl (by omega) (by omega) (hp_Kc (zi := (0 + (1 * n3 + 0))) (zv := (0 + (1 * v3 + 0))) k10 rfl rfl (by omega) (by omega) (hp_Kc (zi := (0 + 0)) (zv := (0 + (1 * v0 + 0))) k11 rfl rfl (by omega) (by omega) (hp_Kc (zi := (1 + 0)) (zv := (0 + (1 * v1 + 0))) k12 rfl rfl (by omega) (by omega) (hp_Kc (zi := (2 + 0)) (zv := (0 + (1 * v2 + 0))) k13 rfl rfl (by omega) (by omega) hp_Kn)))))))))))))) (hp_La l0 (hp_Li (z := (0 + (1 * hr + 0))) l1 rfl (by omega) (hp_La l2 (hp_Li (z := (3 + 0)) l3 rfl (by omega) hp_Ln)))) trivial ?_ ?_
  · intro p hp ys l' st' h' hys a1 a2 a3 gZ gL gS
    rcases List.mem_cons.mp hp with rfl | hp
    · obtain rfl := hp_y0 hys
      cases hp_gSn gS
      exact e0 l' h' a1 a2 a3 (hp_gK (zi := (0 + 0)) (zv := (0 + (1 * v0 + 0))) gZ.2.2.2 (List.mem_of_getElem? (i := 0) rfl) rfl rfl (by omega) (by omega)) (hp_gK (zi := (1 + 0)) (zv := (0 + (1 * v1 + 0))) gZ.2.2.2 (List.mem_of_getElem? (i := 1) rfl) rfl rfl (by omega) (by omega)) (hp_gK (zi := (2 + 0)) (zv := (0 + (1 * v2 + 0))) gZ.2.2.2 (List.mem_of_getElem? (i := 2) rfl) rfl rfl (by omega) (by omega)) (hp_gK (zi := (3 + 0)) (zv := (0 + (1 * v3 + 0))) gZ.2.2.2 (List.mem_of_getElem? (i := 3) rfl) rfl rfl (by omega) (by omega)) (hp_gLa gL (List.mem_of_getElem? (i := 0) rfl) (by decide)) (hp_gLi (z := (0 + (1 * hr + 0))) gL (List.mem_of_getElem? (i := 1) rfl) rfl (by omega)) (hp_gLa gL (List.mem_of_getElem? (i := 2) rfl) (by decide)) (hp_gLi (z := (4 + 0)) gL (List.mem_of_getElem? (i := 3) rfl) rfl (by omega))
    cases hp
  · intro p hp ys v h' hys a1 a2 a3 gZ gS
    cases hp
theorem pb_4_k : hp_chk 222 16 13 [(0, 1, 10), (1, 5, 5), (2, 0, 100), (3, 0, 99), (4, 0, 99), (5, 0, 99), (6, 0, 99), (7, 0, 99), (8, 1, 4), (9, 1, 4), (10, 1, 4), (11, 1, 4), (12, 1, 4)] [((-1), [(2, 1), (3, (-1))]), ((-1), [(2, 1), (4, (-1))]), ((-1), [(2, 1), (5, (-1))]), ((-1), [(2, 1), (6, (-1))]), ((-1), [(2, 1), (7, (-1))])] [(0, .inr (.inr (.inl (some 71)))), (1, .inl (0, [(0, 1)])), (2, .inr (.inr (.inl (some 44)))), (3, .inl (4, []))] [] [(14080, (0, []), (0, [(1, 1)])), (7170, (0, []), (0, [(2, 1)])), (14336, (0, []), (0, [(3, 1)])), (14336, (1, []), (0, [(4, 1)])), (14336, (2, []), (0, [(5, 1)])), (14336, (3, []), (0, [(6, 1)])), (14336, (4, []), (0, [(7, 1)])), (7424, (0, [(3, 1)]), (1, [])), (7424, (0, [(4, 1)]), (1, [])), (7424, (0, [(5, 1)]), (1, [])), (7424, (0, [(6, 1)]), (1, [])), (7424, (0, [(7, 1)]), (1, [])), (45322, (0, [(7, 1)]), (0, [(12, 1)])), (14848, (0, []), (0, [(8, 1)])), (14848, (1, []), (0, [(9, 1)])), (14848, (2, []), (0, [(10, 1)])), (14848, (3, []), (0, [(11, 1)]))] [14848, 15104] 6 [(16, ([], 13, [(0, 1, 10), (1, 5, 5), (2, 0, 100), (3, 0, 99), (4, 0, 99), (5, 0, 99), (6, 0, 99), (7, 0, 99), (8, 1, 4), (9, 1, 4), (10, 1, 4), (11, 1, 4), (12, 1, 4)], [], [(0, .inr (.inr (.inl (some 71)))), (1, .inl (0, [(0, 1)])), (2, .inr (.inr (.inl (some 44)))), (3, .inl (5, []))], [], [(14848, (0, []), (0, [(8, 1)])), (14848, (1, []), (0, [(9, 1)])), (14848, (2, []), (0, [(10, 1)])), (14848, (3, []), (0, [(11, 1)])), (14848, (4, []), (0, [(12, 1)]))]))] [] = true := by decide +kernel
theorem pb_4 {cst : am_K} {strs : List Nat} {Φ : am_Q → Prop} {D : Nat} {M : am_M} {h : am_H} {l : am_L} (c : hp_C cst strs D) (hM : m_P[222]? = some M) (hD : (6 : Int) ≤ (D : Int) + 1) (hy : ly_hy m_tt ly_TH h) (hr z s n0 n1 n2 n3 n4 v0 v1 v2 v3 v4 : Int) (b0 : 1 ≤ hr) (t0 : hr ≤ 10) (b1 : 5 ≤ z) (t1 : z ≤ 5) (b2 : 0 ≤ s) (t2 : s ≤ 100) (b3 : 0 ≤ n0) (t3 : n0 ≤ 99) (b4 : 0 ≤ n1) (t4 : n1 ≤ 99) (b5 : 0 ≤ n2) (t5 : n2 ≤ 99) (b6 : 0 ≤ n3) (t6 : n3 ≤ 99) (b7 : 0 ≤ n4) (t7 : n4 ≤ 99) (b8 : 1 ≤ v0) (t8 : v0 ≤ 4) (b9 : 1 ≤ v1) (t9 : v1 ≤ 4) (b10 : 1 ≤ v2) (t10 : v2 ≤ 4) (b11 : 1 ≤ v3) (t11 : v3 ≤ 4) (b12 : 1 ≤ v4) (t12 : v4 ≤ 4) (f0 : 0 ≤ (s - n0 - 1)) (f1 : 0 ≤ (s - n1 - 1)) (f2 : 0 ≤ (s - n2 - 1)) (f3 : 0 ≤ (s - n3 - 1)) (f4 : 0 ≤ (s - n4 - 1)) (k0 : ly_hv cst h 14080 0 = some (z)) (k1 : ly_hv cst h 7170 0 = some (s)) (k2 : ly_hv cst h 14336 0 = some (n0)) (k3 : ly_hv cst h 14336 1 = some (n1)) (k4 : ly_hv cst h 14336 2 = some (n2)) (k5 : ly_hv cst h 14336 3 = some (n3)) (k6 : ly_hv cst h 14336 4 = some (n4)) (k7 : ly_hv cst h 7424 (n0) = some 1) (k8 : ly_hv cst h 7424 (n1) = some 1) (k9 : ly_hv cst h 7424 (n2) = some 1) (k10 : ly_hv cst h 7424 (n3) = some 1) (k11 : ly_hv cst h 7424 (n4) = some 1) (k12 : ly_hv cst h 45322 (n4) = some (v4)) (k13 : ly_hv cst h 14848 0 = some (v0)) (k14 : ly_hv cst h 14848 1 = some (v1)) (k15 : ly_hv cst h 14848 2 = some (v2)) (k16 : ly_hv cst h 14848 3 = some (v3)) (l0 : hp_a l 0 71) (l1 : hp_i l 1 (hr)) (l2 : hp_a l 2 44) (l3 : hp_i l 3 4) (e0 : ∀ (l' : am_L) (h' : am_H), ly_hy m_tt ly_TH h' → ly_fr cst [14848, 15104] h h' → h.length ≤ h'.length → ly_hv cst h' 14848 0 = some (v0) → ly_hv cst h' 14848 1 = some (v1) → ly_hv cst h' 14848 2 = some (v2) → ly_hv cst h' 14848 3 = some (v3) → ly_hv cst h' 14848 4 = some (v4) → hp_a l' 0 71 → hp_i l' 1 (hr) → hp_a l' 2 44 → hp_i l' 3 5 → hp_F cst strs Φ D M 16 l' [] h') : hp_F cst strs Φ D M 16 l [] h := by
  refine hp_arc c hM pb_4_k hD [hr, z, s, n0, n1, n2, n3, n4, v0, v1, v2, v3, v4] rfl hy (hp_Bc (z := hr) rfl b0 t0 (hp_Bc (z := z) rfl b1 t1 (hp_Bc (z := s) rfl b2 t2 (hp_Bc (z := n0) rfl b3 t3 (hp_Bc (z := n1) rfl b4 t4 (hp_Bc (z := n2) rfl b5 t5 (hp_Bc (z := n3) rfl b6 t6 (hp_Bc (z := n4) rfl b7 t7 (hp_Bc (z := v0) rfl b8 t8 (hp_Bc (z := v1) rfl b9 t9 (hp_Bc (z := v2) rfl b10 t10 (hp_Bc (z := v3) rfl b11 t11 (hp_Bc (z := v4) rfl b12 t12 hp_Bn))))))))))))) (hp_Fc (z := ((-1) + (1 * s + ((-1) * n0 + 0)))) rfl (by omega) (hp_Fc (z := ((-1) + (1 * s + ((-1) * n1 + 0)))) rfl (by omega) (hp_Fc (z := ((-1) + (1 * s + ((-1) * n2 + 0)))) rfl (by omega) (hp_Fc (z := ((-1) + (1 * s + ((-1) * n3 + 0)))) rfl (by omega) (hp_Fc (z := ((-1) + (1 * s + ((-1) * n4 + 0)))) rfl (by omega) hp_Fn))))) (hp_Kc (zi := (0 + 0)) (zv := (0 + (1 * z + 0))) k0 rfl rfl (by omega) (by omega) (hp_Kc (zi := (0 + 0)) (zv := (0 + (1 * s + 0))) k1 rfl rfl (by omega) (by omega) (hp_Kc (zi := (0 + 0)) (zv := (0 + (1 * n0 + 0))) k2 rfl rfl (by omega) (by omega) (hp_Kc (zi := (1 + 0)) (zv := (0 + (1 * n1 + 0))) k3 rfl rfl (by omega) (by omega) (hp_Kc (zi := (2 + 0)) (zv := (0 + (1 * n2 + 0))) k4 rfl rfl (by omega) (by omega) (hp_Kc (zi := (3 + 0)) (zv := (0 + (1 * n3 + 0))) k5 rfl rfl (by omega) (by omega) (hp_Kc (zi := (4 + 0)) (zv := (0 + (1 * n4 + 0))) k6 rfl rfl (by omega) (by omega) (hp_Kc (zi := (0 + (1 * n0 + 0))) (zv := (1 + 0)) k7 rfl rfl (by omega) (by omega) (hp_Kc (zi := (0 + (1 * n1 + 0))) (zv := (1 + 0)) k8 rfl rfl (by omega) (by omega) (hp_Kc (zi := (0 + (1 * n2 + 0))) (zv := (1 + 0)) k9 rfl rfl (by omega) (by omega) (hp_Kc (zi := (0 + (1 * n3 + 0))) (zv := (1 + 0)) k10 rfl rfl (by omega) (by omega) (hp_Kc (zi := (0 + (1 * n4 + 0))) (zv := (1 + 0)) k11 rfl rfl (by omega) (by omega) (hp_Kc (zi := (0 + (1 * n4 + 0))) (zv := (0 + (1 * v4 + 0))) k12 rfl rfl (by omega) (by omega) (hp_Kc (zi := (0 + 0)) (zv := (0 + (1 * v0 + 0))) k13 rfl rfl (by omega) (by omega) (hp_Kc (zi := (1 + 0)) (zv := (0 + (1 * v1 + 0))) k14 rfl rfl (by omega) (by omega) (hp_Kc (zi := (2 + 0)) (zv := (0 + (1 * v2 + 0))) k15 rfl rfl (by omega) (by omega) (hp_Kc (zi := (3 + 0)) (zv := (0 + (1 * v3 + 0))) k16 rfl rfl (by omega) (by omega) hp_Kn))))))))))))))))) (hp_La l0 (hp_Li (z := (0 + (1 * hr + 0))) l1 rfl (by omega) (hp_La l2 (hp_Li (z := (4 + 0)) l3 rfl (by omega) hp_Ln)))) trivial ?_ ?_
  · intro p hp ys l' st' h' hys a1 a2 a3 gZ gL gS
    rcases List.mem_cons.mp hp with rfl | hp
    · obtain rfl := hp_y0 hys
      cases hp_gSn gS
      exact e0 l' h' a1 a2 a3 (hp_gK (zi := (0 + 0)) (zv := (0 + (1 * v0 + 0))) gZ.2.2.2 (List.mem_of_getElem? (i := 0) rfl) rfl rfl (by omega) (by omega)) (hp_gK (zi := (1 + 0)) (zv := (0 + (1 * v1 + 0))) gZ.2.2.2 (List.mem_of_getElem? (i := 1) rfl) rfl rfl (by omega) (by omega)) (hp_gK (zi := (2 + 0)) (zv := (0 + (1 * v2 + 0))) gZ.2.2.2 (List.mem_of_getElem? (i := 2) rfl) rfl rfl (by omega) (by omega)) (hp_gK (zi := (3 + 0)) (zv := (0 + (1 * v3 + 0))) gZ.2.2.2 (List.mem_of_getElem? (i := 3) rfl) rfl rfl (by omega) (by omega)) (hp_gK (zi := (4 + 0)) (zv := (0 + (1 * v4 + 0))) gZ.2.2.2 (List.mem_of_getElem? (i := 4) rfl) rfl rfl (by omega) (by omega)) (hp_gLa gL (List.mem_of_getElem? (i := 0) rfl) (by decide)) (hp_gLi (z := (0 + (1 * hr + 0))) gL (List.mem_of_getElem? (i := 1) rfl) rfl (by omega)) (hp_gLa gL (List.mem_of_getElem? (i := 2) rfl) (by decide)) (hp_gLi (z := (5 + 0)) gL (List.mem_of_getElem? (i := 3) rfl) rfl (by omega))
    cases hp
  · intro p hp ys v h' hys a1 a2 a3 gZ gS
    cases hp
theorem pb_e_k : hp_chk 222 16 2 [(0, 1, 10), (1, 0, 5)] [] [(0, .inr (.inr (.inl (some 71)))), (1, .inl (0, [(0, 1)])), (2, .inr (.inr (.inl (some 44)))), (3, .inl (0, [(1, 1)]))] [] [(14080, (0, []), (0, [(1, 1)]))] [] 2 [] [([], 2, [(0, 1, 10), (1, 0, 5)], [], [], [], [])] = true := by decide +kernel
theorem pb_e {cst : am_K} {strs : List Nat} {Φ : am_Q → Prop} {D : Nat} {M : am_M} {h : am_H} {l : am_L} (c : hp_C cst strs D) (hM : m_P[222]? = some M) (hD : (2 : Int) ≤ (D : Int) + 1) (hy : ly_hy m_tt ly_TH h) (hr z : Int) (b0 : 1 ≤ hr) (t0 : hr ≤ 10) (b1 : 0 ≤ z) (t1 : z ≤ 5) (k0 : ly_hv cst h 14080 0 = some (z)) (l0 : hp_a l 0 71) (l1 : hp_i l 1 (hr)) (l2 : hp_a l 2 44) (l3 : hp_i l 3 (z)) (r0 : ∀ (h' : am_H), ly_hy m_tt ly_TH h' → ly_fr cst [] h h' → h.length ≤ h'.length → Φ (none, h', 0, 0)) : hp_F cst strs Φ D M 16 l [] h := by
  refine hp_arc c hM pb_e_k hD [hr, z] rfl hy (hp_Bc (z := hr) rfl b0 t0 (hp_Bc (z := z) rfl b1 t1 hp_Bn)) hp_Fn (hp_Kc (zi := (0 + 0)) (zv := (0 + (1 * z + 0))) k0 rfl rfl (by omega) (by omega) hp_Kn) (hp_La l0 (hp_Li (z := (0 + (1 * hr + 0))) l1 rfl (by omega) (hp_La l2 (hp_Li (z := (0 + (1 * z + 0))) l3 rfl (by omega) hp_Ln)))) trivial ?_ ?_
  · intro p hp ys l' st' h' hys a1 a2 a3 gZ gL gS
    cases hp
  · intro p hp ys v h' hys a1 a2 a3 gZ gS
    rcases List.mem_cons.mp hp with rfl | hp
    · obtain rfl := hp_y0 hys
      have sv := hp_gSn gS
      cases v with
      | some w => cases sv
      | none =>
        exact r0 h' a1 a2 a3
    cases hp
theorem pm_0_k : hp_chk 221 0 1 [(0, 1, 10)] [] [(0, .inr (.inr (.inl (some 71)))), (1, .inl (0, [(0, 1)])), (2, .inr (.inr (.inl (some 44))))] [] [] [] 2 [(3, ([], 1, [(0, 1, 10)], [], [(0, .inr (.inr (.inl (some 71)))), (1, .inl (0, [(0, 1)]))], [.inr (.inr (.inl (some 44))), .inl (0, [(0, 1)]), .inr (.inr (.inl (some 71)))], []))] [] = true := by decide +kernel
theorem pm_0 {cst : am_K} {strs : List Nat} {Φ : am_Q → Prop} {D : Nat} {M : am_M} {h : am_H} {l : am_L} (c : hp_C cst strs D) (hM : m_P[221]? = some M) (hD : (2 : Int) ≤ (D : Int) + 1) (hy : ly_hy m_tt ly_TH h) (hr : Int) (b0 : 1 ≤ hr) (t0 : hr ≤ 10) (l0 : hp_a l 0 71) (l1 : hp_i l 1 (hr)) (l2 : hp_a l 2 44) (e0 : ∀ (l' : am_L) (h' : am_H) (y1 : Int32), y1.toInt = (hr) → ly_hy m_tt ly_TH h' → ly_fr cst [] h h' → h.length ≤ h'.length → hp_a l' 0 71 → hp_i l' 1 (hr) → hp_F cst strs Φ D M 3 l' [.ref 44, .int y1, .ref 71] h') : hp_F cst strs Φ D M 0 l [] h := by
  refine hp_arc c hM pm_0_k hD [hr] rfl hy (hp_Bc (z := hr) rfl b0 t0 hp_Bn) hp_Fn hp_Kn (hp_La l0 (hp_Li (z := (0 + (1 * hr + 0))) l1 rfl (by omega) (hp_La l2 hp_Ln))) trivial ?_ ?_
  · intro p hp ys l' st' h' hys a1 a2 a3 gZ gL gS
    rcases List.mem_cons.mp hp with rfl | hp
    · obtain rfl := hp_y0 hys
      obtain ⟨t0, rfl, g0⟩ := hp_gSa gS (by decide)
      obtain ⟨y1, t1, rfl, q1, g1⟩ := hp_gSi (z := (0 + (1 * hr + 0))) g0 rfl
      obtain ⟨t2, rfl, g2⟩ := hp_gSa g1 (by decide)
      cases hp_gSn g2
      exact e0 l' h' y1 (by omega) a1 a2 a3 (hp_gLa gL (List.mem_of_getElem? (i := 0) rfl) (by decide)) (hp_gLi (z := (0 + (1 * hr + 0))) gL (List.mem_of_getElem? (i := 1) rfl) rfl (by omega))
    cases hp
  · intro p hp ys v h' hys a1 a2 a3 gZ gS
    cases hp
theorem pm_1_k : hp_chk 221 6 1 [(0, 1, 10)] [] [(0, .inr (.inr (.inl (some 71)))), (1, .inl (0, [(0, 1)]))] [] [] [] 2 [(14, ([], 1, [(0, 1, 10)], [], [(0, .inr (.inr (.inl (some 71)))), (1, .inl (0, [(0, 1)])), (3, .inl (0, [])), (4, .inl (0, [])), (5, .inl (1, []))], [], []))] [] = true := by decide +kernel
theorem pm_1 {cst : am_K} {strs : List Nat} {Φ : am_Q → Prop} {D : Nat} {M : am_M} {h : am_H} {l : am_L} (c : hp_C cst strs D) (hM : m_P[221]? = some M) (hD : (2 : Int) ≤ (D : Int) + 1) (hy : ly_hy m_tt ly_TH h) (hr : Int) (b0 : 1 ≤ hr) (t0 : hr ≤ 10) (l0 : hp_a l 0 71) (l1 : hp_i l 1 (hr)) (e0 : ∀ (l' : am_L) (h' : am_H), ly_hy m_tt ly_TH h' → ly_fr cst [] h h' → h.length ≤ h'.length → hp_a l' 0 71 → hp_i l' 1 (hr) → hp_i l' 3 0 → hp_i l' 4 0 → hp_i l' 5 1 → hp_F cst strs Φ D M 14 l' [] h') : hp_F cst strs Φ D M 6 l [] h := by
  refine hp_arc c hM pm_1_k hD [hr] rfl hy (hp_Bc (z := hr) rfl b0 t0 hp_Bn) hp_Fn hp_Kn (hp_La l0 (hp_Li (z := (0 + (1 * hr + 0))) l1 rfl (by omega) hp_Ln)) trivial ?_ ?_
  · intro p hp ys l' st' h' hys a1 a2 a3 gZ gL gS
    rcases List.mem_cons.mp hp with rfl | hp
    · obtain rfl := hp_y0 hys
      cases hp_gSn gS
      exact e0 l' h' a1 a2 a3 (hp_gLa gL (List.mem_of_getElem? (i := 0) rfl) (by decide)) (hp_gLi (z := (0 + (1 * hr + 0))) gL (List.mem_of_getElem? (i := 1) rfl) rfl (by omega)) (hp_gLi (z := (0 + 0)) gL (List.mem_of_getElem? (i := 2) rfl) rfl (by omega)) (hp_gLi (z := (0 + 0)) gL (List.mem_of_getElem? (i := 3) rfl) rfl (by omega)) (hp_gLi (z := (1 + 0)) gL (List.mem_of_getElem? (i := 4) rfl) rfl (by omega))
    cases hp
  · intro p hp ys v h' hys a1 a2 a3 gZ gS
    cases hp
theorem pm_2_k : hp_chk 221 14 4 [(0, 1, 10), (1, 0, 20), (2, 0, 20), (3, 1, 4)] [] [(0, .inr (.inr (.inl (some 71)))), (1, .inl (0, [(0, 1)])), (3, .inl (0, [(1, 1)])), (4, .inl (0, [(2, 1)])), (5, .inl (0, [(3, 1)]))] [] [] [] 2 [(23, ([], 4, [(0, 1, 10), (1, 0, 20), (2, 0, 20), (3, 1, 4)], [], [(0, .inr (.inr (.inl (some 71)))), (1, .inl (0, [(0, 1)])), (3, .inl (0, [(1, 1)])), (4, .inl (0, [(2, 1)])), (5, .inl (0, [(3, 1)])), (6, .inl (0, []))], [], []))] [] = true := by decide +kernel
theorem pm_2 {cst : am_K} {strs : List Nat} {Φ : am_Q → Prop} {D : Nat} {M : am_M} {h : am_H} {l : am_L} (c : hp_C cst strs D) (hM : m_P[221]? = some M) (hD : (2 : Int) ≤ (D : Int) + 1) (hy : ly_hy m_tt ly_TH h) (hr n u d : Int) (b0 : 1 ≤ hr) (t0 : hr ≤ 10) (b1 : 0 ≤ n) (t1 : n ≤ 20) (b2 : 0 ≤ u) (t2 : u ≤ 20) (b3 : 1 ≤ d) (t3 : d ≤ 4) (l0 : hp_a l 0 71) (l1 : hp_i l 1 (hr)) (l3 : hp_i l 3 (n)) (l4 : hp_i l 4 (u)) (l5 : hp_i l 5 (d)) (e0 : ∀ (l' : am_L) (h' : am_H), ly_hy m_tt ly_TH h' → ly_fr cst [] h h' → h.length ≤ h'.length → hp_a l' 0 71 → hp_i l' 1 (hr) → hp_i l' 3 (n) → hp_i l' 4 (u) → hp_i l' 5 (d) → hp_i l' 6 0 → hp_F cst strs Φ D M 23 l' [] h') : hp_F cst strs Φ D M 14 l [] h := by
  refine hp_arc c hM pm_2_k hD [hr, n, u, d] rfl hy (hp_Bc (z := hr) rfl b0 t0 (hp_Bc (z := n) rfl b1 t1 (hp_Bc (z := u) rfl b2 t2 (hp_Bc (z := d) rfl b3 t3 hp_Bn)))) hp_Fn hp_Kn (hp_La l0 (hp_Li (z := (0 + (1 * hr + 0))) l1 rfl (by omega) (hp_Li (z := (0 + (1 * n + 0))) l3 rfl (by omega) (hp_Li (z := (0 + (1 * u + 0))) l4 rfl (by omega) (hp_Li (z := (0 + (1 * d + 0))) l5 rfl (by omega) hp_Ln))))) trivial ?_ ?_
  · intro p hp ys l' st' h' hys a1 a2 a3 gZ gL gS
    rcases List.mem_cons.mp hp with rfl | hp
    · obtain rfl := hp_y0 hys
      cases hp_gSn gS
      exact e0 l' h' a1 a2 a3 (hp_gLa gL (List.mem_of_getElem? (i := 0) rfl) (by decide)) (hp_gLi (z := (0 + (1 * hr + 0))) gL (List.mem_of_getElem? (i := 1) rfl) rfl (by omega)) (hp_gLi (z := (0 + (1 * n + 0))) gL (List.mem_of_getElem? (i := 2) rfl) rfl (by omega)) (hp_gLi (z := (0 + (1 * u + 0))) gL (List.mem_of_getElem? (i := 3) rfl) rfl (by omega)) (hp_gLi (z := (0 + (1 * d + 0))) gL (List.mem_of_getElem? (i := 4) rfl) rfl (by omega)) (hp_gLi (z := (0 + 0)) gL (List.mem_of_getElem? (i := 5) rfl) rfl (by omega))
    cases hp
  · intro p hp ys v h' hys a1 a2 a3 gZ gS
    cases hp
theorem pm_3_k : hp_chk 221 14 3 [(0, 1, 10), (1, 0, 20), (2, 0, 20)] [] [(0, .inr (.inr (.inl (some 71)))), (1, .inl (0, [(0, 1)])), (3, .inl (0, [(1, 1)])), (4, .inl (0, [(2, 1)])), (5, .inl (5, []))] [] [] [] 2 [] [([], 3, [(0, 1, 10), (1, 0, 20), (2, 0, 20)], [], [], [.inl (0, [(1, 1)])], [])] = true := by decide +kernel
theorem pm_3 {cst : am_K} {strs : List Nat} {Φ : am_Q → Prop} {D : Nat} {M : am_M} {h : am_H} {l : am_L} (c : hp_C cst strs D) (hM : m_P[221]? = some M) (hD : (2 : Int) ≤ (D : Int) + 1) (hy : ly_hy m_tt ly_TH h) (hr n u : Int) (b0 : 1 ≤ hr) (t0 : hr ≤ 10) (b1 : 0 ≤ n) (t1 : n ≤ 20) (b2 : 0 ≤ u) (t2 : u ≤ 20) (l0 : hp_a l 0 71) (l1 : hp_i l 1 (hr)) (l3 : hp_i l 3 (n)) (l4 : hp_i l 4 (u)) (l5 : hp_i l 5 5) (r0 : ∀ (h' : am_H) (y0 : Int32), y0.toInt = (n) → ly_hy m_tt ly_TH h' → ly_fr cst [] h h' → h.length ≤ h'.length → Φ (some (.int y0), h', 0, 0)) : hp_F cst strs Φ D M 14 l [] h := by
  refine hp_arc c hM pm_3_k hD [hr, n, u] rfl hy (hp_Bc (z := hr) rfl b0 t0 (hp_Bc (z := n) rfl b1 t1 (hp_Bc (z := u) rfl b2 t2 hp_Bn))) hp_Fn hp_Kn (hp_La l0 (hp_Li (z := (0 + (1 * hr + 0))) l1 rfl (by omega) (hp_Li (z := (0 + (1 * n + 0))) l3 rfl (by omega) (hp_Li (z := (0 + (1 * u + 0))) l4 rfl (by omega) (hp_Li (z := (5 + 0)) l5 rfl (by omega) hp_Ln))))) trivial ?_ ?_
  · intro p hp ys l' st' h' hys a1 a2 a3 gZ gL gS
    cases hp
  · intro p hp ys v h' hys a1 a2 a3 gZ gS
    rcases List.mem_cons.mp hp with rfl | hp
    · obtain rfl := hp_y0 hys
      cases v with
      | none => cases gS
      | some w =>
        obtain ⟨y0, t0, s0, q0, -⟩ := hp_gSi (z := (0 + (1 * n + 0))) gS rfl
        cases s0
        exact r0 h' y0 (by omega) a1 a2 a3
    cases hp
theorem pm_4_k : hp_chk 221 23 5 [(0, 1, 10), (1, 0, 20), (2, 0, 20), (3, 1, 4), (4, 0, 5)] [] [(0, .inr (.inr (.inl (some 71)))), (1, .inl (0, [(0, 1)])), (3, .inl (0, [(1, 1)])), (4, .inl (0, [(2, 1)])), (5, .inl (0, [(3, 1)])), (6, .inl (0, [(4, 1)]))] [] [(14080, (0, []), (0, [(4, 1)]))] [] 2 [(14, ([], 5, [(0, 1, 10), (1, 0, 20), (2, 0, 20), (3, 1, 4), (4, 0, 5)], [], [(0, .inr (.inr (.inl (some 71)))), (1, .inl (0, [(0, 1)])), (3, .inl (0, [(1, 1)])), (4, .inl (0, [(2, 1)])), (5, .inl (1, [(3, 1)]))], [], []))] [] = true := by decide +kernel
theorem pm_4 {cst : am_K} {strs : List Nat} {Φ : am_Q → Prop} {D : Nat} {M : am_M} {h : am_H} {l : am_L} (c : hp_C cst strs D) (hM : m_P[221]? = some M) (hD : (2 : Int) ≤ (D : Int) + 1) (hy : ly_hy m_tt ly_TH h) (hr n u d z : Int) (b0 : 1 ≤ hr) (t0 : hr ≤ 10) (b1 : 0 ≤ n) (t1 : n ≤ 20) (b2 : 0 ≤ u) (t2 : u ≤ 20) (b3 : 1 ≤ d) (t3 : d ≤ 4) (b4 : 0 ≤ z) (t4 : z ≤ 5) (k0 : ly_hv cst h 14080 0 = some (z)) (l0 : hp_a l 0 71) (l1 : hp_i l 1 (hr)) (l3 : hp_i l 3 (n)) (l4 : hp_i l 4 (u)) (l5 : hp_i l 5 (d)) (l6 : hp_i l 6 (z)) (e0 : ∀ (l' : am_L) (h' : am_H), ly_hy m_tt ly_TH h' → ly_fr cst [] h h' → h.length ≤ h'.length → hp_a l' 0 71 → hp_i l' 1 (hr) → hp_i l' 3 (n) → hp_i l' 4 (u) → hp_i l' 5 (d + 1) → hp_F cst strs Φ D M 14 l' [] h') : hp_F cst strs Φ D M 23 l [] h := by
  refine hp_arc c hM pm_4_k hD [hr, n, u, d, z] rfl hy (hp_Bc (z := hr) rfl b0 t0 (hp_Bc (z := n) rfl b1 t1 (hp_Bc (z := u) rfl b2 t2 (hp_Bc (z := d) rfl b3 t3 (hp_Bc (z := z) rfl b4 t4 hp_Bn))))) hp_Fn (hp_Kc (zi := (0 + 0)) (zv := (0 + (1 * z + 0))) k0 rfl rfl (by omega) (by omega) hp_Kn) (hp_La l0 (hp_Li (z := (0 + (1 * hr + 0))) l1 rfl (by omega) (hp_Li (z := (0 + (1 * n + 0))) l3 rfl (by omega) (hp_Li (z := (0 + (1 * u + 0))) l4 rfl (by omega) (hp_Li (z := (0 + (1 * d + 0))) l5 rfl (by omega) (hp_Li (z := (0 + (1 * z + 0))) l6 rfl (by omega) hp_Ln)))))) trivial ?_ ?_
  · intro p hp ys l' st' h' hys a1 a2 a3 gZ gL gS
    rcases List.mem_cons.mp hp with rfl | hp
    · obtain rfl := hp_y0 hys
      cases hp_gSn gS
      exact e0 l' h' a1 a2 a3 (hp_gLa gL (List.mem_of_getElem? (i := 0) rfl) (by decide)) (hp_gLi (z := (0 + (1 * hr + 0))) gL (List.mem_of_getElem? (i := 1) rfl) rfl (by omega)) (hp_gLi (z := (0 + (1 * n + 0))) gL (List.mem_of_getElem? (i := 2) rfl) rfl (by omega)) (hp_gLi (z := (0 + (1 * u + 0))) gL (List.mem_of_getElem? (i := 3) rfl) rfl (by omega)) (hp_gLi (z := (1 + (1 * d + 0))) gL (List.mem_of_getElem? (i := 4) rfl) rfl (by omega))
    cases hp
  · intro p hp ys v h' hys a1 a2 a3 gZ gS
    cases hp
theorem pm_5_k : hp_chk 221 23 7 [(0, 1, 10), (1, 0, 20), (2, 0, 20), (3, 1, 4), (4, 0, 5), (5, 0, 4), (6, 1, 4)] [((-1), [(4, 1), (5, (-1))])] [(0, .inr (.inr (.inl (some 71)))), (1, .inl (0, [(0, 1)])), (3, .inl (0, [(1, 1)])), (4, .inl (0, [(2, 1)])), (5, .inl (0, [(3, 1)])), (6, .inl (0, [(5, 1)]))] [] [(14080, (0, []), (0, [(4, 1)])), (14848, (0, [(5, 1)]), (0, [(6, 1)])), (61000, (0, [(3, (-1)), (6, 1)]), (1, []))] [] 2 [(23, ([], 7, [(0, 1, 10), (1, 0, 20), (2, 0, 20), (3, 1, 4), (4, 0, 5), (5, 0, 4), (6, 1, 4)], [], [(0, .inr (.inr (.inl (some 71)))), (1, .inl (0, [(0, 1)])), (3, .inl (0, [(1, 1)])), (4, .inl (0, [(2, 1)])), (5, .inl (0, [(3, 1)])), (6, .inl (1, [(5, 1)]))], [], []))] [] = true := by decide +kernel
theorem pm_5 {cst : am_K} {strs : List Nat} {Φ : am_Q → Prop} {D : Nat} {M : am_M} {h : am_H} {l : am_L} (c : hp_C cst strs D) (hM : m_P[221]? = some M) (hD : (2 : Int) ≤ (D : Int) + 1) (hy : ly_hy m_tt ly_TH h) (hr n u d z i v : Int) (b0 : 1 ≤ hr) (t0 : hr ≤ 10) (b1 : 0 ≤ n) (t1 : n ≤ 20) (b2 : 0 ≤ u) (t2 : u ≤ 20) (b3 : 1 ≤ d) (t3 : d ≤ 4) (b4 : 0 ≤ z) (t4 : z ≤ 5) (b5 : 0 ≤ i) (t5 : i ≤ 4) (b6 : 1 ≤ v) (t6 : v ≤ 4) (f0 : 0 ≤ (z - i - 1)) (k0 : ly_hv cst h 14080 0 = some (z)) (k1 : ly_hv cst h 14848 (i) = some (v)) (k2 : ly_hv cst h 61000 (v - d) = some 1) (l0 : hp_a l 0 71) (l1 : hp_i l 1 (hr)) (l3 : hp_i l 3 (n)) (l4 : hp_i l 4 (u)) (l5 : hp_i l 5 (d)) (l6 : hp_i l 6 (i)) (e0 : ∀ (l' : am_L) (h' : am_H), ly_hy m_tt ly_TH h' → ly_fr cst [] h h' → h.length ≤ h'.length → hp_a l' 0 71 → hp_i l' 1 (hr) → hp_i l' 3 (n) → hp_i l' 4 (u) → hp_i l' 5 (d) → hp_i l' 6 (i + 1) → hp_F cst strs Φ D M 23 l' [] h') : hp_F cst strs Φ D M 23 l [] h := by
  refine hp_arc c hM pm_5_k hD [hr, n, u, d, z, i, v] rfl hy (hp_Bc (z := hr) rfl b0 t0 (hp_Bc (z := n) rfl b1 t1 (hp_Bc (z := u) rfl b2 t2 (hp_Bc (z := d) rfl b3 t3 (hp_Bc (z := z) rfl b4 t4 (hp_Bc (z := i) rfl b5 t5 (hp_Bc (z := v) rfl b6 t6 hp_Bn))))))) (hp_Fc (z := ((-1) + (1 * z + ((-1) * i + 0)))) rfl (by omega) hp_Fn) (hp_Kc (zi := (0 + 0)) (zv := (0 + (1 * z + 0))) k0 rfl rfl (by omega) (by omega) (hp_Kc (zi := (0 + (1 * i + 0))) (zv := (0 + (1 * v + 0))) k1 rfl rfl (by omega) (by omega) (hp_Kc (zi := (0 + ((-1) * d + (1 * v + 0)))) (zv := (1 + 0)) k2 rfl rfl (by omega) (by omega) hp_Kn))) (hp_La l0 (hp_Li (z := (0 + (1 * hr + 0))) l1 rfl (by omega) (hp_Li (z := (0 + (1 * n + 0))) l3 rfl (by omega) (hp_Li (z := (0 + (1 * u + 0))) l4 rfl (by omega) (hp_Li (z := (0 + (1 * d + 0))) l5 rfl (by omega) (hp_Li (z := (0 + (1 * i + 0))) l6 rfl (by omega) hp_Ln)))))) trivial ?_ ?_
  · intro p hp ys l' st' h' hys a1 a2 a3 gZ gL gS
    rcases List.mem_cons.mp hp with rfl | hp
    · obtain rfl := hp_y0 hys
      cases hp_gSn gS
      exact e0 l' h' a1 a2 a3 (hp_gLa gL (List.mem_of_getElem? (i := 0) rfl) (by decide)) (hp_gLi (z := (0 + (1 * hr + 0))) gL (List.mem_of_getElem? (i := 1) rfl) rfl (by omega)) (hp_gLi (z := (0 + (1 * n + 0))) gL (List.mem_of_getElem? (i := 2) rfl) rfl (by omega)) (hp_gLi (z := (0 + (1 * u + 0))) gL (List.mem_of_getElem? (i := 3) rfl) rfl (by omega)) (hp_gLi (z := (0 + (1 * d + 0))) gL (List.mem_of_getElem? (i := 4) rfl) rfl (by omega)) (hp_gLi (z := (1 + (1 * i + 0))) gL (List.mem_of_getElem? (i := 5) rfl) rfl (by omega))
    cases hp
  · intro p hp ys v h' hys a1 a2 a3 gZ gS
    cases hp
theorem pm_6_k : hp_chk 221 23 6 [(0, 1, 10), (1, 0, 20), (2, 0, 20), (3, 1, 4), (4, 0, 5), (5, 0, 4)] [((-1), [(4, 1), (5, (-1))]), ((-1), [(0, (-2)), (2, 1), (3, 1)])] [(0, .inr (.inr (.inl (some 71)))), (1, .inl (0, [(0, 1)])), (3, .inl (0, [(1, 1)])), (4, .inl (0, [(2, 1)])), (5, .inl (0, [(3, 1)])), (6, .inl (0, [(5, 1)]))] [] [(14080, (0, []), (0, [(4, 1)])), (14848, (0, [(5, 1)]), (0, [(3, 1)]))] [] 2 [(23, ([], 6, [(0, 1, 10), (1, 0, 20), (2, 0, 20), (3, 1, 4), (4, 0, 5), (5, 0, 4)], [], [(0, .inr (.inr (.inl (some 71)))), (1, .inl (0, [(0, 1)])), (3, .inl (0, [(1, 1)])), (4, .inl (0, [(2, 1)])), (5, .inl (0, [(3, 1)])), (6, .inl (1, [(5, 1)]))], [], []))] [] = true := by decide +kernel
theorem pm_6 {cst : am_K} {strs : List Nat} {Φ : am_Q → Prop} {D : Nat} {M : am_M} {h : am_H} {l : am_L} (c : hp_C cst strs D) (hM : m_P[221]? = some M) (hD : (2 : Int) ≤ (D : Int) + 1) (hy : ly_hy m_tt ly_TH h) (hr n u d z i : Int) (b0 : 1 ≤ hr) (t0 : hr ≤ 10) (b1 : 0 ≤ n) (t1 : n ≤ 20) (b2 : 0 ≤ u) (t2 : u ≤ 20) (b3 : 1 ≤ d) (t3 : d ≤ 4) (b4 : 0 ≤ z) (t4 : z ≤ 5) (b5 : 0 ≤ i) (t5 : i ≤ 4) (f0 : 0 ≤ (z - i - 1)) (f1 : 0 ≤ (u + d - 2 * hr - 1)) (k0 : ly_hv cst h 14080 0 = some (z)) (k1 : ly_hv cst h 14848 (i) = some (d)) (l0 : hp_a l 0 71) (l1 : hp_i l 1 (hr)) (l3 : hp_i l 3 (n)) (l4 : hp_i l 4 (u)) (l5 : hp_i l 5 (d)) (l6 : hp_i l 6 (i)) (e0 : ∀ (l' : am_L) (h' : am_H), ly_hy m_tt ly_TH h' → ly_fr cst [] h h' → h.length ≤ h'.length → hp_a l' 0 71 → hp_i l' 1 (hr) → hp_i l' 3 (n) → hp_i l' 4 (u) → hp_i l' 5 (d) → hp_i l' 6 (i + 1) → hp_F cst strs Φ D M 23 l' [] h') : hp_F cst strs Φ D M 23 l [] h := by
  refine hp_arc c hM pm_6_k hD [hr, n, u, d, z, i] rfl hy (hp_Bc (z := hr) rfl b0 t0 (hp_Bc (z := n) rfl b1 t1 (hp_Bc (z := u) rfl b2 t2 (hp_Bc (z := d) rfl b3 t3 (hp_Bc (z := z) rfl b4 t4 (hp_Bc (z := i) rfl b5 t5 hp_Bn)))))) (hp_Fc (z := ((-1) + (1 * z + ((-1) * i + 0)))) rfl (by omega) (hp_Fc (z := ((-1) + ((-2) * hr + (1 * u + (1 * d + 0))))) rfl (by omega) hp_Fn)) (hp_Kc (zi := (0 + 0)) (zv := (0 + (1 * z + 0))) k0 rfl rfl (by omega) (by omega) (hp_Kc (zi := (0 + (1 * i + 0))) (zv := (0 + (1 * d + 0))) k1 rfl rfl (by omega) (by omega) hp_Kn)) (hp_La l0 (hp_Li (z := (0 + (1 * hr + 0))) l1 rfl (by omega) (hp_Li (z := (0 + (1 * n + 0))) l3 rfl (by omega) (hp_Li (z := (0 + (1 * u + 0))) l4 rfl (by omega) (hp_Li (z := (0 + (1 * d + 0))) l5 rfl (by omega) (hp_Li (z := (0 + (1 * i + 0))) l6 rfl (by omega) hp_Ln)))))) trivial ?_ ?_
  · intro p hp ys l' st' h' hys a1 a2 a3 gZ gL gS
    rcases List.mem_cons.mp hp with rfl | hp
    · obtain rfl := hp_y0 hys
      cases hp_gSn gS
      exact e0 l' h' a1 a2 a3 (hp_gLa gL (List.mem_of_getElem? (i := 0) rfl) (by decide)) (hp_gLi (z := (0 + (1 * hr + 0))) gL (List.mem_of_getElem? (i := 1) rfl) rfl (by omega)) (hp_gLi (z := (0 + (1 * n + 0))) gL (List.mem_of_getElem? (i := 2) rfl) rfl (by omega)) (hp_gLi (z := (0 + (1 * u + 0))) gL (List.mem_of_getElem? (i := 3) rfl) rfl (by omega)) (hp_gLi (z := (0 + (1 * d + 0))) gL (List.mem_of_getElem? (i := 4) rfl) rfl (by omega)) (hp_gLi (z := (1 + (1 * i + 0))) gL (List.mem_of_getElem? (i := 5) rfl) rfl (by omega))
    cases hp
  · intro p hp ys v h' hys a1 a2 a3 gZ gS
    cases hp
theorem pm_7_k : hp_chk 221 23 6 [(0, 1, 10), (1, 0, 20), (2, 0, 20), (3, 1, 4), (4, 0, 5), (5, 0, 4)] [((-1), [(4, 1), (5, (-1))]), (0, [(0, 2), (2, (-1)), (3, (-1))])] [(0, .inr (.inr (.inl (some 71)))), (1, .inl (0, [(0, 1)])), (3, .inl (0, [(1, 1)])), (4, .inl (0, [(2, 1)])), (5, .inl (0, [(3, 1)])), (6, .inl (0, [(5, 1)]))] [] [(14080, (0, []), (0, [(4, 1)])), (14848, (0, [(5, 1)]), (0, [(3, 1)]))] [] 2 [(23, ([], 6, [(0, 1, 10), (1, 0, 20), (2, 0, 20), (3, 1, 4), (4, 0, 5), (5, 0, 4)], [], [(0, .inr (.inr (.inl (some 71)))), (1, .inl (0, [(0, 1)])), (3, .inl (1, [(1, 1)])), (4, .inl (0, [(2, 1), (3, 1)])), (5, .inl (0, [(3, 1)])), (6, .inl (1, [(5, 1)]))], [], []))] [] = true := by decide +kernel
theorem pm_7 {cst : am_K} {strs : List Nat} {Φ : am_Q → Prop} {D : Nat} {M : am_M} {h : am_H} {l : am_L} (c : hp_C cst strs D) (hM : m_P[221]? = some M) (hD : (2 : Int) ≤ (D : Int) + 1) (hy : ly_hy m_tt ly_TH h) (hr n u d z i : Int) (b0 : 1 ≤ hr) (t0 : hr ≤ 10) (b1 : 0 ≤ n) (t1 : n ≤ 20) (b2 : 0 ≤ u) (t2 : u ≤ 20) (b3 : 1 ≤ d) (t3 : d ≤ 4) (b4 : 0 ≤ z) (t4 : z ≤ 5) (b5 : 0 ≤ i) (t5 : i ≤ 4) (f0 : 0 ≤ (z - i - 1)) (f1 : 0 ≤ (2 * hr - u - d)) (k0 : ly_hv cst h 14080 0 = some (z)) (k1 : ly_hv cst h 14848 (i) = some (d)) (l0 : hp_a l 0 71) (l1 : hp_i l 1 (hr)) (l3 : hp_i l 3 (n)) (l4 : hp_i l 4 (u)) (l5 : hp_i l 5 (d)) (l6 : hp_i l 6 (i)) (e0 : ∀ (l' : am_L) (h' : am_H), ly_hy m_tt ly_TH h' → ly_fr cst [] h h' → h.length ≤ h'.length → hp_a l' 0 71 → hp_i l' 1 (hr) → hp_i l' 3 (n + 1) → hp_i l' 4 (u + d) → hp_i l' 5 (d) → hp_i l' 6 (i + 1) → hp_F cst strs Φ D M 23 l' [] h') : hp_F cst strs Φ D M 23 l [] h := by
  refine hp_arc c hM pm_7_k hD [hr, n, u, d, z, i] rfl hy (hp_Bc (z := hr) rfl b0 t0 (hp_Bc (z := n) rfl b1 t1 (hp_Bc (z := u) rfl b2 t2 (hp_Bc (z := d) rfl b3 t3 (hp_Bc (z := z) rfl b4 t4 (hp_Bc (z := i) rfl b5 t5 hp_Bn)))))) (hp_Fc (z := ((-1) + (1 * z + ((-1) * i + 0)))) rfl (by omega) (hp_Fc (z := (0 + (2 * hr + ((-1) * u + ((-1) * d + 0))))) rfl (by omega) hp_Fn)) (hp_Kc (zi := (0 + 0)) (zv := (0 + (1 * z + 0))) k0 rfl rfl (by omega) (by omega) (hp_Kc (zi := (0 + (1 * i + 0))) (zv := (0 + (1 * d + 0))) k1 rfl rfl (by omega) (by omega) hp_Kn)) (hp_La l0 (hp_Li (z := (0 + (1 * hr + 0))) l1 rfl (by omega) (hp_Li (z := (0 + (1 * n + 0))) l3 rfl (by omega) (hp_Li (z := (0 + (1 * u + 0))) l4 rfl (by omega) (hp_Li (z := (0 + (1 * d + 0))) l5 rfl (by omega) (hp_Li (z := (0 + (1 * i + 0))) l6 rfl (by omega) hp_Ln)))))) trivial ?_ ?_
  · intro p hp ys l' st' h' hys a1 a2 a3 gZ gL gS
    rcases List.mem_cons.mp hp with rfl | hp
    · obtain rfl := hp_y0 hys
      cases hp_gSn gS
      exact e0 l' h' a1 a2 a3 (hp_gLa gL (List.mem_of_getElem? (i := 0) rfl) (by decide)) (hp_gLi (z := (0 + (1 * hr + 0))) gL (List.mem_of_getElem? (i := 1) rfl) rfl (by omega)) (hp_gLi (z := (1 + (1 * n + 0))) gL (List.mem_of_getElem? (i := 2) rfl) rfl (by omega)) (hp_gLi (z := (0 + (1 * u + (1 * d + 0)))) gL (List.mem_of_getElem? (i := 3) rfl) rfl (by omega)) (hp_gLi (z := (0 + (1 * d + 0))) gL (List.mem_of_getElem? (i := 4) rfl) rfl (by omega)) (hp_gLi (z := (1 + (1 * i + 0))) gL (List.mem_of_getElem? (i := 5) rfl) rfl (by omega))
    cases hp
  · intro p hp ys v h' hys a1 a2 a3 gZ gS
    cases hp
theorem pn_0_k : hp_chk 230 0 1 [(0, (-2147483648), 0)] [] [(0, .inr (.inr (.inl (some 16)))), (1, .inl (0, [(0, 1)]))] [] [] [] 4 [] [([], 1, [(0, (-2147483648), 0)], [], [], [.inl ((-2), [])], [])] = true := by decide +kernel
theorem pn_0 {cst : am_K} {strs : List Nat} {Φ : am_Q → Prop} {D : Nat} {M : am_M} {h : am_H} {l : am_L} (c : hp_C cst strs D) (hM : m_P[230]? = some M) (hD : (4 : Int) ≤ (D : Int) + 1) (hy : ly_hy m_tt ly_TH h) (hr : Int) (b0 : (-2147483648) ≤ hr) (t0 : hr ≤ 0) (l0 : hp_a l 0 16) (l1 : hp_i l 1 (hr)) (r0 : ∀ (h' : am_H) (y0 : Int32), y0.toInt = (-2) → ly_hy m_tt ly_TH h' → ly_fr cst [] h h' → h.length ≤ h'.length → Φ (some (.int y0), h', 0, 0)) : hp_F cst strs Φ D M 0 l [] h := by
  refine hp_arc c hM pn_0_k hD [hr] rfl hy (hp_Bc (z := hr) rfl b0 t0 hp_Bn) hp_Fn hp_Kn (hp_La l0 (hp_Li (z := (0 + (1 * hr + 0))) l1 rfl (by omega) hp_Ln)) trivial ?_ ?_
  · intro p hp ys l' st' h' hys a1 a2 a3 gZ gL gS
    cases hp
  · intro p hp ys v h' hys a1 a2 a3 gZ gS
    rcases List.mem_cons.mp hp with rfl | hp
    · obtain rfl := hp_y0 hys
      cases v with
      | none => cases gS
      | some w =>
        obtain ⟨y0, t0, s0, q0, -⟩ := hp_gSi (z := ((-2) + 0)) gS rfl
        cases s0
        exact r0 h' y0 (by omega) a1 a2 a3
    cases hp
theorem pn_1_k : hp_chk 230 0 1 [(0, 11, 2147483647)] [] [(0, .inr (.inr (.inl (some 16)))), (1, .inl (0, [(0, 1)]))] [] [] [] 4 [] [([], 1, [(0, 11, 2147483647)], [], [], [.inl ((-2), [])], [])] = true := by decide +kernel
theorem pn_1 {cst : am_K} {strs : List Nat} {Φ : am_Q → Prop} {D : Nat} {M : am_M} {h : am_H} {l : am_L} (c : hp_C cst strs D) (hM : m_P[230]? = some M) (hD : (4 : Int) ≤ (D : Int) + 1) (hy : ly_hy m_tt ly_TH h) (hr : Int) (b0 : 11 ≤ hr) (t0 : hr ≤ 2147483647) (l0 : hp_a l 0 16) (l1 : hp_i l 1 (hr)) (r0 : ∀ (h' : am_H) (y0 : Int32), y0.toInt = (-2) → ly_hy m_tt ly_TH h' → ly_fr cst [] h h' → h.length ≤ h'.length → Φ (some (.int y0), h', 0, 0)) : hp_F cst strs Φ D M 0 l [] h := by
  refine hp_arc c hM pn_1_k hD [hr] rfl hy (hp_Bc (z := hr) rfl b0 t0 hp_Bn) hp_Fn hp_Kn (hp_La l0 (hp_Li (z := (0 + (1 * hr + 0))) l1 rfl (by omega) hp_Ln)) trivial ?_ ?_
  · intro p hp ys l' st' h' hys a1 a2 a3 gZ gL gS
    cases hp
  · intro p hp ys v h' hys a1 a2 a3 gZ gS
    rcases List.mem_cons.mp hp with rfl | hp
    · obtain rfl := hp_y0 hys
      cases v with
      | none => cases gS
      | some w =>
        obtain ⟨y0, t0, s0, q0, -⟩ := hp_gSi (z := ((-2) + 0)) gS rfl
        cases s0
        exact r0 h' y0 (by omega) a1 a2 a3
    cases hp
theorem pn_2_k : hp_chk 230 0 1 [(0, 1, 10)] [] [(0, .inr (.inr (.inl (some 16)))), (1, .inl (0, [(0, 1)]))] [] [] [] 4 [(19, ([], 1, [(0, 1, 10)], [], [(0, .inr (.inr (.inl (some 16))))], [.inr (.inr (.inl (some 44))), .inl (0, [(0, 1)]), .inr (.inr (.inl (some 71)))], []))] [] = true := by decide +kernel
theorem pn_2 {cst : am_K} {strs : List Nat} {Φ : am_Q → Prop} {D : Nat} {M : am_M} {h : am_H} {l : am_L} (c : hp_C cst strs D) (hM : m_P[230]? = some M) (hD : (4 : Int) ≤ (D : Int) + 1) (hy : ly_hy m_tt ly_TH h) (hr : Int) (b0 : 1 ≤ hr) (t0 : hr ≤ 10) (l0 : hp_a l 0 16) (l1 : hp_i l 1 (hr)) (e0 : ∀ (l' : am_L) (h' : am_H) (y1 : Int32), y1.toInt = (hr) → ly_hy m_tt ly_TH h' → ly_fr cst [] h h' → h.length ≤ h'.length → hp_a l' 0 16 → hp_F cst strs Φ D M 19 l' [.ref 44, .int y1, .ref 71] h') : hp_F cst strs Φ D M 0 l [] h := by
  refine hp_arc c hM pn_2_k hD [hr] rfl hy (hp_Bc (z := hr) rfl b0 t0 hp_Bn) hp_Fn hp_Kn (hp_La l0 (hp_Li (z := (0 + (1 * hr + 0))) l1 rfl (by omega) hp_Ln)) trivial ?_ ?_
  · intro p hp ys l' st' h' hys a1 a2 a3 gZ gL gS
    rcases List.mem_cons.mp hp with rfl | hp
    · obtain rfl := hp_y0 hys
      obtain ⟨t0, rfl, g0⟩ := hp_gSa gS (by decide)
      obtain ⟨y1, t1, rfl, q1, g1⟩ := hp_gSi (z := (0 + (1 * hr + 0))) g0 rfl
      obtain ⟨t2, rfl, g2⟩ := hp_gSa g1 (by decide)
      cases hp_gSn g2
      exact e0 l' h' y1 (by omega) a1 a2 a3 (hp_gLa gL (List.mem_of_getElem? (i := 0) rfl) (by decide))
    cases hp
  · intro p hp ys v h' hys a1 a2 a3 gZ gS
    cases hp
theorem pn_3_k : hp_chk 230 22 1 [(0, (-2147483648), 2147483647)] [] [(0, .inr (.inr (.inl (some 16))))] [.inl (0, [(0, 1)])] [] [] 2 [] [([], 1, [(0, (-2147483648), 2147483647)], [], [], [.inl (0, [(0, 1)])], [])] = true := by decide +kernel
theorem pn_3 {cst : am_K} {strs : List Nat} {Φ : am_Q → Prop} {D : Nat} {M : am_M} {h : am_H} {l : am_L} (c : hp_C cst strs D) (hM : m_P[230]? = some M) (hD : (2 : Int) ≤ (D : Int) + 1) (hy : ly_hy m_tt ly_TH h) (a : Int) (x0 : Int32) (hx0 : x0.toInt = (a)) (b0 : (-2147483648) ≤ a) (t0 : a ≤ 2147483647) (l0 : hp_a l 0 16) (r0 : ∀ (h' : am_H) (y0 : Int32), y0.toInt = (a) → ly_hy m_tt ly_TH h' → ly_fr cst [] h h' → h.length ≤ h'.length → Φ (some (.int y0), h', 0, 0)) : hp_F cst strs Φ D M 22 l [.int x0] h := by
  refine hp_arc c hM pn_3_k hD [a] rfl hy (hp_Bc (z := a) rfl b0 t0 hp_Bn) hp_Fn hp_Kn (hp_La l0 hp_Ln) (hp_Si (z := (0 + (1 * a + 0))) rfl (by omega) trivial) ?_ ?_
  · intro p hp ys l' st' h' hys a1 a2 a3 gZ gL gS
    cases hp
  · intro p hp ys v h' hys a1 a2 a3 gZ gS
    rcases List.mem_cons.mp hp with rfl | hp
    · obtain rfl := hp_y0 hys
      cases v with
      | none => cases gS
      | some w =>
        obtain ⟨y0, t0, s0, q0, -⟩ := hp_gSi (z := (0 + (1 * a + 0))) gS rfl
        cases s0
        exact r0 h' y0 (by omega) a1 a2 a3
    cases hp
theorem po_0_k : hp_chk 401 0 1 [(0, (-2147483648), 0)] [] [(0, .inr (.inr (.inl (some 94)))), (1, .inl (0, [(0, 1)]))] [] [] [] 4 [] [([], 1, [(0, (-2147483648), 0)], [], [], [.inl ((-2), [])], [])] = true := by decide +kernel
theorem po_0 {cst : am_K} {strs : List Nat} {Φ : am_Q → Prop} {D : Nat} {M : am_M} {h : am_H} {l : am_L} (c : hp_C cst strs D) (hM : m_P[401]? = some M) (hD : (4 : Int) ≤ (D : Int) + 1) (hy : ly_hy m_tt ly_TH h) (hr : Int) (b0 : (-2147483648) ≤ hr) (t0 : hr ≤ 0) (l0 : hp_a l 0 94) (l1 : hp_i l 1 (hr)) (r0 : ∀ (h' : am_H) (y0 : Int32), y0.toInt = (-2) → ly_hy m_tt ly_TH h' → ly_fr cst [] h h' → h.length ≤ h'.length → Φ (some (.int y0), h', 0, 0)) : hp_F cst strs Φ D M 0 l [] h := by
  refine hp_arc c hM po_0_k hD [hr] rfl hy (hp_Bc (z := hr) rfl b0 t0 hp_Bn) hp_Fn hp_Kn (hp_La l0 (hp_Li (z := (0 + (1 * hr + 0))) l1 rfl (by omega) hp_Ln)) trivial ?_ ?_
  · intro p hp ys l' st' h' hys a1 a2 a3 gZ gL gS
    cases hp
  · intro p hp ys v h' hys a1 a2 a3 gZ gS
    rcases List.mem_cons.mp hp with rfl | hp
    · obtain rfl := hp_y0 hys
      cases v with
      | none => cases gS
      | some w =>
        obtain ⟨y0, t0, s0, q0, -⟩ := hp_gSi (z := ((-2) + 0)) gS rfl
        cases s0
        exact r0 h' y0 (by omega) a1 a2 a3
    cases hp
theorem po_1_k : hp_chk 401 0 1 [(0, 11, 2147483647)] [] [(0, .inr (.inr (.inl (some 94)))), (1, .inl (0, [(0, 1)]))] [] [] [] 4 [] [([], 1, [(0, 11, 2147483647)], [], [], [.inl ((-2), [])], [])] = true := by decide +kernel
theorem po_1 {cst : am_K} {strs : List Nat} {Φ : am_Q → Prop} {D : Nat} {M : am_M} {h : am_H} {l : am_L} (c : hp_C cst strs D) (hM : m_P[401]? = some M) (hD : (4 : Int) ≤ (D : Int) + 1) (hy : ly_hy m_tt ly_TH h) (hr : Int) (b0 : 11 ≤ hr) (t0 : hr ≤ 2147483647) (l0 : hp_a l 0 94) (l1 : hp_i l 1 (hr)) (r0 : ∀ (h' : am_H) (y0 : Int32), y0.toInt = (-2) → ly_hy m_tt ly_TH h' → ly_fr cst [] h h' → h.length ≤ h'.length → Φ (some (.int y0), h', 0, 0)) : hp_F cst strs Φ D M 0 l [] h := by
  refine hp_arc c hM po_1_k hD [hr] rfl hy (hp_Bc (z := hr) rfl b0 t0 hp_Bn) hp_Fn hp_Kn (hp_La l0 (hp_Li (z := (0 + (1 * hr + 0))) l1 rfl (by omega) hp_Ln)) trivial ?_ ?_
  · intro p hp ys l' st' h' hys a1 a2 a3 gZ gL gS
    cases hp
  · intro p hp ys v h' hys a1 a2 a3 gZ gS
    rcases List.mem_cons.mp hp with rfl | hp
    · obtain rfl := hp_y0 hys
      cases v with
      | none => cases gS
      | some w =>
        obtain ⟨y0, t0, s0, q0, -⟩ := hp_gSi (z := ((-2) + 0)) gS rfl
        cases s0
        exact r0 h' y0 (by omega) a1 a2 a3
    cases hp
theorem po_2_k : hp_chk 401 0 1 [(0, 1, 10)] [] [(0, .inr (.inr (.inl (some 94)))), (1, .inl (0, [(0, 1)]))] [] [] [] 4 [(20, ([], 1, [(0, 1, 10)], [], [(0, .inr (.inr (.inl (some 94)))), (1, .inl (0, [(0, 1)])), (2, .inl (0, [])), (3, .inl (0, [])), (4, .inl (1, []))], [], []))] [] = true := by decide +kernel
theorem po_2 {cst : am_K} {strs : List Nat} {Φ : am_Q → Prop} {D : Nat} {M : am_M} {h : am_H} {l : am_L} (c : hp_C cst strs D) (hM : m_P[401]? = some M) (hD : (4 : Int) ≤ (D : Int) + 1) (hy : ly_hy m_tt ly_TH h) (hr : Int) (b0 : 1 ≤ hr) (t0 : hr ≤ 10) (l0 : hp_a l 0 94) (l1 : hp_i l 1 (hr)) (e0 : ∀ (l' : am_L) (h' : am_H), ly_hy m_tt ly_TH h' → ly_fr cst [] h h' → h.length ≤ h'.length → hp_a l' 0 94 → hp_i l' 1 (hr) → hp_i l' 2 0 → hp_i l' 3 0 → hp_i l' 4 1 → hp_F cst strs Φ D M 20 l' [] h') : hp_F cst strs Φ D M 0 l [] h := by
  refine hp_arc c hM po_2_k hD [hr] rfl hy (hp_Bc (z := hr) rfl b0 t0 hp_Bn) hp_Fn hp_Kn (hp_La l0 (hp_Li (z := (0 + (1 * hr + 0))) l1 rfl (by omega) hp_Ln)) trivial ?_ ?_
  · intro p hp ys l' st' h' hys a1 a2 a3 gZ gL gS
    rcases List.mem_cons.mp hp with rfl | hp
    · obtain rfl := hp_y0 hys
      cases hp_gSn gS
      exact e0 l' h' a1 a2 a3 (hp_gLa gL (List.mem_of_getElem? (i := 0) rfl) (by decide)) (hp_gLi (z := (0 + (1 * hr + 0))) gL (List.mem_of_getElem? (i := 1) rfl) rfl (by omega)) (hp_gLi (z := (0 + 0)) gL (List.mem_of_getElem? (i := 2) rfl) rfl (by omega)) (hp_gLi (z := (0 + 0)) gL (List.mem_of_getElem? (i := 3) rfl) rfl (by omega)) (hp_gLi (z := (1 + 0)) gL (List.mem_of_getElem? (i := 4) rfl) rfl (by omega))
    cases hp
  · intro p hp ys v h' hys a1 a2 a3 gZ gS
    cases hp
theorem po_3_k : hp_chk 401 20 4 [(0, 1, 10), (1, 0, 20), (2, 0, 20), (3, 1, 4)] [] [(0, .inr (.inr (.inl (some 94)))), (1, .inl (0, [(0, 1)])), (2, .inl (0, [(1, 1)])), (3, .inl (0, [(2, 1)])), (4, .inl (0, [(3, 1)]))] [] [] [] 2 [(29, ([], 4, [(0, 1, 10), (1, 0, 20), (2, 0, 20), (3, 1, 4)], [], [(0, .inr (.inr (.inl (some 94)))), (1, .inl (0, [(0, 1)])), (2, .inl (0, [(1, 1)])), (3, .inl (0, [(2, 1)])), (4, .inl (0, [(3, 1)])), (5, .inl (0, []))], [], []))] [] = true := by decide +kernel
theorem po_3 {cst : am_K} {strs : List Nat} {Φ : am_Q → Prop} {D : Nat} {M : am_M} {h : am_H} {l : am_L} (c : hp_C cst strs D) (hM : m_P[401]? = some M) (hD : (2 : Int) ≤ (D : Int) + 1) (hy : ly_hy m_tt ly_TH h) (hr n u d : Int) (b0 : 1 ≤ hr) (t0 : hr ≤ 10) (b1 : 0 ≤ n) (t1 : n ≤ 20) (b2 : 0 ≤ u) (t2 : u ≤ 20) (b3 : 1 ≤ d) (t3 : d ≤ 4) (l0 : hp_a l 0 94) (l1 : hp_i l 1 (hr)) (l2 : hp_i l 2 (n)) (l3 : hp_i l 3 (u)) (l4 : hp_i l 4 (d)) (e0 : ∀ (l' : am_L) (h' : am_H), ly_hy m_tt ly_TH h' → ly_fr cst [] h h' → h.length ≤ h'.length → hp_a l' 0 94 → hp_i l' 1 (hr) → hp_i l' 2 (n) → hp_i l' 3 (u) → hp_i l' 4 (d) → hp_i l' 5 0 → hp_F cst strs Φ D M 29 l' [] h') : hp_F cst strs Φ D M 20 l [] h := by
  refine hp_arc c hM po_3_k hD [hr, n, u, d] rfl hy (hp_Bc (z := hr) rfl b0 t0 (hp_Bc (z := n) rfl b1 t1 (hp_Bc (z := u) rfl b2 t2 (hp_Bc (z := d) rfl b3 t3 hp_Bn)))) hp_Fn hp_Kn (hp_La l0 (hp_Li (z := (0 + (1 * hr + 0))) l1 rfl (by omega) (hp_Li (z := (0 + (1 * n + 0))) l2 rfl (by omega) (hp_Li (z := (0 + (1 * u + 0))) l3 rfl (by omega) (hp_Li (z := (0 + (1 * d + 0))) l4 rfl (by omega) hp_Ln))))) trivial ?_ ?_
  · intro p hp ys l' st' h' hys a1 a2 a3 gZ gL gS
    rcases List.mem_cons.mp hp with rfl | hp
    · obtain rfl := hp_y0 hys
      cases hp_gSn gS
      exact e0 l' h' a1 a2 a3 (hp_gLa gL (List.mem_of_getElem? (i := 0) rfl) (by decide)) (hp_gLi (z := (0 + (1 * hr + 0))) gL (List.mem_of_getElem? (i := 1) rfl) rfl (by omega)) (hp_gLi (z := (0 + (1 * n + 0))) gL (List.mem_of_getElem? (i := 2) rfl) rfl (by omega)) (hp_gLi (z := (0 + (1 * u + 0))) gL (List.mem_of_getElem? (i := 3) rfl) rfl (by omega)) (hp_gLi (z := (0 + (1 * d + 0))) gL (List.mem_of_getElem? (i := 4) rfl) rfl (by omega)) (hp_gLi (z := (0 + 0)) gL (List.mem_of_getElem? (i := 5) rfl) rfl (by omega))
    cases hp
  · intro p hp ys v h' hys a1 a2 a3 gZ gS
    cases hp
theorem po_4_k : hp_chk 401 20 3 [(0, 1, 10), (1, 0, 20), (2, 0, 20)] [] [(0, .inr (.inr (.inl (some 94)))), (1, .inl (0, [(0, 1)])), (2, .inl (0, [(1, 1)])), (3, .inl (0, [(2, 1)])), (4, .inl (5, []))] [] [] [] 2 [] [([], 3, [(0, 1, 10), (1, 0, 20), (2, 0, 20)], [], [], [.inl (0, [(1, 1)])], [])] = true := by decide +kernel
theorem po_4 {cst : am_K} {strs : List Nat} {Φ : am_Q → Prop} {D : Nat} {M : am_M} {h : am_H} {l : am_L} (c : hp_C cst strs D) (hM : m_P[401]? = some M) (hD : (2 : Int) ≤ (D : Int) + 1) (hy : ly_hy m_tt ly_TH h) (hr n u : Int) (b0 : 1 ≤ hr) (t0 : hr ≤ 10) (b1 : 0 ≤ n) (t1 : n ≤ 20) (b2 : 0 ≤ u) (t2 : u ≤ 20) (l0 : hp_a l 0 94) (l1 : hp_i l 1 (hr)) (l2 : hp_i l 2 (n)) (l3 : hp_i l 3 (u)) (l4 : hp_i l 4 5) (r0 : ∀ (h' : am_H) (y0 : Int32), y0.toInt = (n) → ly_hy m_tt ly_TH h' → ly_fr cst [] h h' → h.length ≤ h'.length → Φ (some (.int y0), h', 0, 0)) : hp_F cst strs Φ D M 20 l [] h := by
  refine hp_arc c hM po_4_k hD [hr, n, u] rfl hy (hp_Bc (z := hr) rfl b0 t0 (hp_Bc (z := n) rfl b1 t1 (hp_Bc (z := u) rfl b2 t2 hp_Bn))) hp_Fn hp_Kn (hp_La l0 (hp_Li (z := (0 + (1 * hr + 0))) l1 rfl (by omega) (hp_Li (z := (0 + (1 * n + 0))) l2 rfl (by omega) (hp_Li (z := (0 + (1 * u + 0))) l3 rfl (by omega) (hp_Li (z := (5 + 0)) l4 rfl (by omega) hp_Ln))))) trivial ?_ ?_
  · intro p hp ys l' st' h' hys a1 a2 a3 gZ gL gS
    cases hp
  · intro p hp ys v h' hys a1 a2 a3 gZ gS
    rcases List.mem_cons.mp hp with rfl | hp
    · obtain rfl := hp_y0 hys
      cases v with
      | none => cases gS
      | some w =>
        obtain ⟨y0, t0, s0, q0, -⟩ := hp_gSi (z := (0 + (1 * n + 0))) gS rfl
        cases s0
        exact r0 h' y0 (by omega) a1 a2 a3
    cases hp
theorem po_5_k : hp_chk 401 29 5 [(0, 1, 10), (1, 0, 20), (2, 0, 20), (3, 1, 4), (4, 0, 5)] [] [(0, .inr (.inr (.inl (some 94)))), (1, .inl (0, [(0, 1)])), (2, .inl (0, [(1, 1)])), (3, .inl (0, [(2, 1)])), (4, .inl (0, [(3, 1)])), (5, .inl (0, [(4, 1)]))] [] [(20080, (0, []), (0, [(4, 1)]))] [] 2 [(20, ([], 5, [(0, 1, 10), (1, 0, 20), (2, 0, 20), (3, 1, 4), (4, 0, 5)], [], [(0, .inr (.inr (.inl (some 94)))), (1, .inl (0, [(0, 1)])), (2, .inl (0, [(1, 1)])), (3, .inl (0, [(2, 1)])), (4, .inl (1, [(3, 1)]))], [], []))] [] = true := by decide +kernel
theorem po_5 {cst : am_K} {strs : List Nat} {Φ : am_Q → Prop} {D : Nat} {M : am_M} {h : am_H} {l : am_L} (c : hp_C cst strs D) (hM : m_P[401]? = some M) (hD : (2 : Int) ≤ (D : Int) + 1) (hy : ly_hy m_tt ly_TH h) (hr n u d z : Int) (b0 : 1 ≤ hr) (t0 : hr ≤ 10) (b1 : 0 ≤ n) (t1 : n ≤ 20) (b2 : 0 ≤ u) (t2 : u ≤ 20) (b3 : 1 ≤ d) (t3 : d ≤ 4) (b4 : 0 ≤ z) (t4 : z ≤ 5) (k0 : ly_hv cst h 20080 0 = some (z)) (l0 : hp_a l 0 94) (l1 : hp_i l 1 (hr)) (l2 : hp_i l 2 (n)) (l3 : hp_i l 3 (u)) (l4 : hp_i l 4 (d)) (l5 : hp_i l 5 (z)) (e0 : ∀ (l' : am_L) (h' : am_H), ly_hy m_tt ly_TH h' → ly_fr cst [] h h' → h.length ≤ h'.length → hp_a l' 0 94 → hp_i l' 1 (hr) → hp_i l' 2 (n) → hp_i l' 3 (u) → hp_i l' 4 (d + 1) → hp_F cst strs Φ D M 20 l' [] h') : hp_F cst strs Φ D M 29 l [] h := by
  refine hp_arc c hM po_5_k hD [hr, n, u, d, z] rfl hy (hp_Bc (z := hr) rfl b0 t0 (hp_Bc (z := n) rfl b1 t1 (hp_Bc (z := u) rfl b2 t2 (hp_Bc (z := d) rfl b3 t3 (hp_Bc (z := z) rfl b4 t4 hp_Bn))))) hp_Fn (hp_Kc (zi := (0 + 0)) (zv := (0 + (1 * z + 0))) k0 rfl rfl (by omega) (by omega) hp_Kn) (hp_La l0 (hp_Li (z := (0 + (1 * hr + 0))) l1 rfl (by omega) (hp_Li (z := (0 + (1 * n + 0))) l2 rfl (by omega) (hp_Li (z := (0 + (1 * u + 0))) l3 rfl (by omega) (hp_Li (z := (0 + (1 * d + 0))) l4 rfl (by omega) (hp_Li (z := (0 + (1 * z + 0))) l5 rfl (by omega) hp_Ln)))))) trivial ?_ ?_
  · intro p hp ys l' st' h' hys a1 a2 a3 gZ gL gS
    rcases List.mem_cons.mp hp with rfl | hp
    · obtain rfl := hp_y0 hys
      cases hp_gSn gS
      exact e0 l' h' a1 a2 a3 (hp_gLa gL (List.mem_of_getElem? (i := 0) rfl) (by decide)) (hp_gLi (z := (0 + (1 * hr + 0))) gL (List.mem_of_getElem? (i := 1) rfl) rfl (by omega)) (hp_gLi (z := (0 + (1 * n + 0))) gL (List.mem_of_getElem? (i := 2) rfl) rfl (by omega)) (hp_gLi (z := (0 + (1 * u + 0))) gL (List.mem_of_getElem? (i := 3) rfl) rfl (by omega)) (hp_gLi (z := (1 + (1 * d + 0))) gL (List.mem_of_getElem? (i := 4) rfl) rfl (by omega))
    cases hp
  · intro p hp ys v h' hys a1 a2 a3 gZ gS
    cases hp
theorem po_6_k : hp_chk 401 29 8 [(0, 1, 10), (1, 0, 20), (2, 0, 20), (3, 1, 4), (4, 0, 5), (5, 0, 4), (6, 0, 99), (7, 1, 4)] [((-1), [(4, 1), (5, (-1))])] [(0, .inr (.inr (.inl (some 94)))), (1, .inl (0, [(0, 1)])), (2, .inl (0, [(1, 1)])), (3, .inl (0, [(2, 1)])), (4, .inl (0, [(3, 1)])), (5, .inl (0, [(5, 1)]))] [] [(20080, (0, []), (0, [(4, 1)])), (40960, (0, [(5, 1)]), (0, [(6, 1)])), (32768, (0, [(6, 1)]), (0, [(7, 1)])), (61000, (0, [(3, (-1)), (7, 1)]), (1, []))] [] 2 [(29, ([], 8, [(0, 1, 10), (1, 0, 20), (2, 0, 20), (3, 1, 4), (4, 0, 5), (5, 0, 4), (6, 0, 99), (7, 1, 4)], [], [(0, .inr (.inr (.inl (some 94)))), (1, .inl (0, [(0, 1)])), (2, .inl (0, [(1, 1)])), (3, .inl (0, [(2, 1)])), (4, .inl (0, [(3, 1)])), (5, .inl (1, [(5, 1)]))], [], []))] [] = true := by decide +kernel
theorem po_6 {cst : am_K} {strs : List Nat} {Φ : am_Q → Prop} {D : Nat} {M : am_M} {h : am_H} {l : am_L} (c : hp_C cst strs D) (hM : m_P[401]? = some M) (hD : (2 : Int) ≤ (D : Int) + 1) (hy : ly_hy m_tt ly_TH h) (hr n u d z i m v : Int) (b0 : 1 ≤ hr) (t0 : hr ≤ 10) (b1 : 0 ≤ n) (t1 : n ≤ 20) (b2 : 0 ≤ u) (t2 : u ≤ 20) (b3 : 1 ≤ d) (t3 : d ≤ 4) (b4 : 0 ≤ z) (t4 : z ≤ 5) (b5 : 0 ≤ i) (t5 : i ≤ 4) (b6 : 0 ≤ m) (t6 : m ≤ 99) (b7 : 1 ≤ v) (t7 : v ≤ 4) (f0 : 0 ≤ (z - i - 1)) (k0 : ly_hv cst h 20080 0 = some (z)) (k1 : ly_hv cst h 40960 (i) = some (m)) (k2 : ly_hv cst h 32768 (m) = some (v)) (k3 : ly_hv cst h 61000 (v - d) = some 1) (l0 : hp_a l 0 94) (l1 : hp_i l 1 (hr)) (l2 : hp_i l 2 (n)) (l3 : hp_i l 3 (u)) (l4 : hp_i l 4 (d)) (l5 : hp_i l 5 (i)) (e0 : ∀ (l' : am_L) (h' : am_H), ly_hy m_tt ly_TH h' → ly_fr cst [] h h' → h.length ≤ h'.length → hp_a l' 0 94 → hp_i l' 1 (hr) → hp_i l' 2 (n) → hp_i l' 3 (u) → hp_i l' 4 (d) → hp_i l' 5 (i + 1) → hp_F cst strs Φ D M 29 l' [] h') : hp_F cst strs Φ D M 29 l [] h := by
  refine hp_arc c hM po_6_k hD [hr, n, u, d, z, i, m, v] rfl hy (hp_Bc (z := hr) rfl b0 t0 (hp_Bc (z := n) rfl b1 t1 (hp_Bc (z := u) rfl b2 t2 (hp_Bc (z := d) rfl b3 t3 (hp_Bc (z := z) rfl b4 t4 (hp_Bc (z := i) rfl b5 t5 (hp_Bc (z := m) rfl b6 t6 (hp_Bc (z := v) rfl b7 t7 hp_Bn)))))))) (hp_Fc (z := ((-1) + (1 * z + ((-1) * i + 0)))) rfl (by omega) hp_Fn) (hp_Kc (zi := (0 + 0)) (zv := (0 + (1 * z + 0))) k0 rfl rfl (by omega) (by omega) (hp_Kc (zi := (0 + (1 * i + 0))) (zv := (0 + (1 * m + 0))) k1 rfl rfl (by omega) (by omega) (hp_Kc (zi := (0 + (1 * m + 0))) (zv := (0 + (1 * v + 0))) k2 rfl rfl (by omega) (by omega) (hp_Kc (zi := (0 + ((-1) * d + (1 * v + 0)))) (zv := (1 + 0)) k3 rfl rfl (by omega) (by omega) hp_Kn)))) (hp_La l0 (hp_Li (z := (0 + (1 * hr + 0))) l1 rfl (by omega) (hp_Li (z := (0 + (1 * n + 0))) l2 rfl (by omega) (hp_Li (z := (0 + (1 * u + 0))) l3 rfl (by omega) (hp_Li (z := (0 + (1 * d + 0))) l4 rfl (by omega) (hp_Li (z := (0 + (1 * i + 0))) l5 rfl (by omega) hp_Ln)))))) trivial ?_ ?_
  · intro p hp ys l' st' h' hys a1 a2 a3 gZ gL gS
    rcases List.mem_cons.mp hp with rfl | hp
    · obtain rfl := hp_y0 hys
      cases hp_gSn gS
      exact e0 l' h' a1 a2 a3 (hp_gLa gL (List.mem_of_getElem? (i := 0) rfl) (by decide)) (hp_gLi (z := (0 + (1 * hr + 0))) gL (List.mem_of_getElem? (i := 1) rfl) rfl (by omega)) (hp_gLi (z := (0 + (1 * n + 0))) gL (List.mem_of_getElem? (i := 2) rfl) rfl (by omega)) (hp_gLi (z := (0 + (1 * u + 0))) gL (List.mem_of_getElem? (i := 3) rfl) rfl (by omega)) (hp_gLi (z := (0 + (1 * d + 0))) gL (List.mem_of_getElem? (i := 4) rfl) rfl (by omega)) (hp_gLi (z := (1 + (1 * i + 0))) gL (List.mem_of_getElem? (i := 5) rfl) rfl (by omega))
    cases hp
  · intro p hp ys v h' hys a1 a2 a3 gZ gS
    cases hp
theorem po_7_k : hp_chk 401 29 7 [(0, 1, 10), (1, 0, 20), (2, 0, 20), (3, 1, 4), (4, 0, 5), (5, 0, 4), (6, 0, 99)] [((-1), [(4, 1), (5, (-1))]), ((-1), [(0, (-2)), (2, 1), (3, 1)])] [(0, .inr (.inr (.inl (some 94)))), (1, .inl (0, [(0, 1)])), (2, .inl (0, [(1, 1)])), (3, .inl (0, [(2, 1)])), (4, .inl (0, [(3, 1)])), (5, .inl (0, [(5, 1)]))] [] [(20080, (0, []), (0, [(4, 1)])), (40960, (0, [(5, 1)]), (0, [(6, 1)])), (32768, (0, [(6, 1)]), (0, [(3, 1)]))] [] 2 [(29, ([], 7, [(0, 1, 10), (1, 0, 20), (2, 0, 20), (3, 1, 4), (4, 0, 5), (5, 0, 4), (6, 0, 99)], [], [(0, .inr (.inr (.inl (some 94)))), (1, .inl (0, [(0, 1)])), (2, .inl (0, [(1, 1)])), (3, .inl (0, [(2, 1)])), (4, .inl (0, [(3, 1)])), (5, .inl (1, [(5, 1)]))], [], []))] [] = true := by decide +kernel
theorem po_7 {cst : am_K} {strs : List Nat} {Φ : am_Q → Prop} {D : Nat} {M : am_M} {h : am_H} {l : am_L} (c : hp_C cst strs D) (hM : m_P[401]? = some M) (hD : (2 : Int) ≤ (D : Int) + 1) (hy : ly_hy m_tt ly_TH h) (hr n u d z i m : Int) (b0 : 1 ≤ hr) (t0 : hr ≤ 10) (b1 : 0 ≤ n) (t1 : n ≤ 20) (b2 : 0 ≤ u) (t2 : u ≤ 20) (b3 : 1 ≤ d) (t3 : d ≤ 4) (b4 : 0 ≤ z) (t4 : z ≤ 5) (b5 : 0 ≤ i) (t5 : i ≤ 4) (b6 : 0 ≤ m) (t6 : m ≤ 99) (f0 : 0 ≤ (z - i - 1)) (f1 : 0 ≤ (u + d - 2 * hr - 1)) (k0 : ly_hv cst h 20080 0 = some (z)) (k1 : ly_hv cst h 40960 (i) = some (m)) (k2 : ly_hv cst h 32768 (m) = some (d)) (l0 : hp_a l 0 94) (l1 : hp_i l 1 (hr)) (l2 : hp_i l 2 (n)) (l3 : hp_i l 3 (u)) (l4 : hp_i l 4 (d)) (l5 : hp_i l 5 (i)) (e0 : ∀ (l' : am_L) (h' : am_H), ly_hy m_tt ly_TH h' → ly_fr cst [] h h' → h.length ≤ h'.length → hp_a l' 0 94 → hp_i l' 1 (hr) → hp_i l' 2 (n) → hp_i l' 3 (u) → hp_i l' 4 (d) → hp_i l' 5 (i + 1) → hp_F cst strs Φ D M 29 l' [] h') : hp_F cst strs Φ D M 29 l [] h := by
  refine hp_arc c hM po_7_k hD [hr, n, u, d, z, i, m] rfl hy (hp_Bc (z := hr) rfl b0 t0 (hp_Bc (z := n) rfl b1 t1 (hp_Bc (z := u) rfl b2 t2 (hp_Bc (z := d) rfl b3 t3 (hp_Bc (z := z) rfl b4 t4 (hp_Bc (z := i) rfl b5 t5 (hp_Bc (z := m) rfl b6 t6 hp_Bn))))))) (hp_Fc (z := ((-1) + (1 * z + ((-1) * i + 0)))) rfl (by omega) (hp_Fc (z := ((-1) + ((-2) * hr + (1 * u + (1 * d + 0))))) rfl (by omega) hp_Fn)) (hp_Kc (zi := (0 + 0)) (zv := (0 + (1 * z + 0))) k0 rfl rfl (by omega) (by omega) (hp_Kc (zi := (0 + (1 * i + 0))) (zv := (0 + (1 * m + 0))) k1 rfl rfl (by omega) (by omega) (hp_Kc (zi := (0 + (1 * m + 0))) (zv := (0 + (1 * d + 0))) k2 rfl rfl (by omega) (by omega) hp_Kn))) (hp_La l0 (hp_Li (z := (0 + (1 * hr + 0))) l1 rfl (by omega) (hp_Li (z := (0 + (1 * n + 0))) l2 rfl (by omega) (hp_Li (z := (0 + (1 * u + 0))) l3 rfl (by omega) (hp_Li (z := (0 + (1 * d + 0))) l4 rfl (by omega) (hp_Li (z := (0 + (1 * i + 0))) l5 rfl (by omega) hp_Ln)))))) trivial ?_ ?_
  · intro p hp ys l' st' h' hys a1 a2 a3 gZ gL gS
    rcases List.mem_cons.mp hp with rfl | hp
    · obtain rfl := hp_y0 hys
      cases hp_gSn gS
      exact e0 l' h' a1 a2 a3 (hp_gLa gL (List.mem_of_getElem? (i := 0) rfl) (by decide)) (hp_gLi (z := (0 + (1 * hr + 0))) gL (List.mem_of_getElem? (i := 1) rfl) rfl (by omega)) (hp_gLi (z := (0 + (1 * n + 0))) gL (List.mem_of_getElem? (i := 2) rfl) rfl (by omega)) (hp_gLi (z := (0 + (1 * u + 0))) gL (List.mem_of_getElem? (i := 3) rfl) rfl (by omega)) (hp_gLi (z := (0 + (1 * d + 0))) gL (List.mem_of_getElem? (i := 4) rfl) rfl (by omega)) (hp_gLi (z := (1 + (1 * i + 0))) gL (List.mem_of_getElem? (i := 5) rfl) rfl (by omega))
    cases hp
  · intro p hp ys v h' hys a1 a2 a3 gZ gS
    cases hp
theorem po_8_k : hp_chk 401 29 7 [(0, 1, 10), (1, 0, 20), (2, 0, 20), (3, 1, 4), (4, 0, 5), (5, 0, 4), (6, 0, 99)] [((-1), [(4, 1), (5, (-1))]), (0, [(0, 2), (2, (-1)), (3, (-1))])] [(0, .inr (.inr (.inl (some 94)))), (1, .inl (0, [(0, 1)])), (2, .inl (0, [(1, 1)])), (3, .inl (0, [(2, 1)])), (4, .inl (0, [(3, 1)])), (5, .inl (0, [(5, 1)]))] [] [(20080, (0, []), (0, [(4, 1)])), (40960, (0, [(5, 1)]), (0, [(6, 1)])), (32768, (0, [(6, 1)]), (0, [(3, 1)]))] [] 2 [(29, ([], 7, [(0, 1, 10), (1, 0, 20), (2, 0, 20), (3, 1, 4), (4, 0, 5), (5, 0, 4), (6, 0, 99)], [], [(0, .inr (.inr (.inl (some 94)))), (1, .inl (0, [(0, 1)])), (2, .inl (1, [(1, 1)])), (3, .inl (0, [(2, 1), (3, 1)])), (4, .inl (0, [(3, 1)])), (5, .inl (1, [(5, 1)]))], [], []))] [] = true := by decide +kernel
theorem po_8 {cst : am_K} {strs : List Nat} {Φ : am_Q → Prop} {D : Nat} {M : am_M} {h : am_H} {l : am_L} (c : hp_C cst strs D) (hM : m_P[401]? = some M) (hD : (2 : Int) ≤ (D : Int) + 1) (hy : ly_hy m_tt ly_TH h) (hr n u d z i m : Int) (b0 : 1 ≤ hr) (t0 : hr ≤ 10) (b1 : 0 ≤ n) (t1 : n ≤ 20) (b2 : 0 ≤ u) (t2 : u ≤ 20) (b3 : 1 ≤ d) (t3 : d ≤ 4) (b4 : 0 ≤ z) (t4 : z ≤ 5) (b5 : 0 ≤ i) (t5 : i ≤ 4) (b6 : 0 ≤ m) (t6 : m ≤ 99) (f0 : 0 ≤ (z - i - 1)) (f1 : 0 ≤ (2 * hr - u - d)) (k0 : ly_hv cst h 20080 0 = some (z)) (k1 : ly_hv cst h 40960 (i) = some (m)) (k2 : ly_hv cst h 32768 (m) = some (d)) (l0 : hp_a l 0 94) (l1 : hp_i l 1 (hr)) (l2 : hp_i l 2 (n)) (l3 : hp_i l 3 (u)) (l4 : hp_i l 4 (d)) (l5 : hp_i l 5 (i)) (e0 : ∀ (l' : am_L) (h' : am_H), ly_hy m_tt ly_TH h' → ly_fr cst [] h h' → h.length ≤ h'.length → hp_a l' 0 94 → hp_i l' 1 (hr) → hp_i l' 2 (n + 1) → hp_i l' 3 (u + d) → hp_i l' 4 (d) → hp_i l' 5 (i + 1) → hp_F cst strs Φ D M 29 l' [] h') : hp_F cst strs Φ D M 29 l [] h := by
  refine hp_arc c hM po_8_k hD [hr, n, u, d, z, i, m] rfl hy (hp_Bc (z := hr) rfl b0 t0 (hp_Bc (z := n) rfl b1 t1 (hp_Bc (z := u) rfl b2 t2 (hp_Bc (z := d) rfl b3 t3 (hp_Bc (z := z) rfl b4 t4 (hp_Bc (z := i) rfl b5 t5 (hp_Bc (z := m) rfl b6 t6 hp_Bn))))))) (hp_Fc (z := ((-1) + (1 * z + ((-1) * i + 0)))) rfl (by omega) (hp_Fc (z := (0 + (2 * hr + ((-1) * u + ((-1) * d + 0))))) rfl (by omega) hp_Fn)) (hp_Kc (zi := (0 + 0)) (zv := (0 + (1 * z + 0))) k0 rfl rfl (by omega) (by omega) (hp_Kc (zi := (0 + (1 * i + 0))) (zv := (0 + (1 * m + 0))) k1 rfl rfl (by omega) (by omega) (hp_Kc (zi := (0 + (1 * m + 0))) (zv := (0 + (1 * d + 0))) k2 rfl rfl (by omega) (by omega) hp_Kn))) (hp_La l0 (hp_Li (z := (0 + (1 * hr + 0))) l1 rfl (by omega) (hp_Li (z := (0 + (1 * n + 0))) l2 rfl (by omega) (hp_Li (z := (0 + (1 * u + 0))) l3 rfl (by omega) (hp_Li (z := (0 + (1 * d + 0))) l4 rfl (by omega) (hp_Li (z := (0 + (1 * i + 0))) l5 rfl (by omega) hp_Ln)))))) trivial ?_ ?_
  · intro p hp ys l' st' h' hys a1 a2 a3 gZ gL gS
    rcases List.mem_cons.mp hp with rfl | hp
    · obtain rfl := hp_y0 hys
      cases hp_gSn gS
      exact e0 l' h' a1 a2 a3 (hp_gLa gL (List.mem_of_getElem? (i := 0) rfl) (by decide)) (hp_gLi (z := (0 + (1 * hr + 0))) gL (List.mem_of_getElem? (i := 1) rfl) rfl (by omega)) (hp_gLi (z := (1 + (1 * n + 0))) gL (List.mem_of_getElem? (i := 2) rfl) rfl (by omega)) (hp_gLi (z := (0 + (1 * u + (1 * d + 0)))) gL (List.mem_of_getElem? (i := 3) rfl) rfl (by omega)) (hp_gLi (z := (0 + (1 * d + 0))) gL (List.mem_of_getElem? (i := 4) rfl) rfl (by omega)) (hp_gLi (z := (1 + (1 * i + 0))) gL (List.mem_of_getElem? (i := 5) rfl) rfl (by omega))
    cases hp
  · intro p hp ys v h' hys a1 a2 a3 gZ gS
    cases hp
theorem pq_0_k : hp_chk 214 0 0 [] [] [(0, .inr (.inr (.inl (some 16))))] [] [] [14080, 14083] 4 [] [([], 0, [], [], [], [.inl (1, [])], [(14080, (0, []), (0, []))])] = true := by decide +kernel
theorem pq_0 {cst : am_K} {strs : List Nat} {Φ : am_Q → Prop} {D : Nat} {M : am_M} {h : am_H} {l : am_L} (c : hp_C cst strs D) (hM : m_P[214]? = some M) (hD : (4 : Int) ≤ (D : Int) + 1) (hy : ly_hy m_tt ly_TH h) (l0 : hp_a l 0 16) (r0 : ∀ (h' : am_H) (y0 : Int32), y0.toInt = 1 → ly_hy m_tt ly_TH h' → ly_fr cst [14080, 14083] h h' → h.length ≤ h'.length → ly_hv cst h' 14080 0 = some 0 → Φ (some (.int y0), h', 0, 0)) : hp_F cst strs Φ D M 0 l [] h := by
  refine hp_arc c hM pq_0_k hD [] rfl hy hp_Bn hp_Fn hp_Kn (hp_La l0 hp_Ln) trivial ?_ ?_
  · intro p hp ys l' st' h' hys a1 a2 a3 gZ gL gS
    cases hp
  · intro p hp ys v h' hys a1 a2 a3 gZ gS
    rcases List.mem_cons.mp hp with rfl | hp
    · obtain rfl := hp_y0 hys
      cases v with
      | none => cases gS
      | some w =>
        obtain ⟨y0, t0, s0, q0, -⟩ := hp_gSi (z := (1 + 0)) gS rfl
        cases s0
        exact r0 h' y0 (by omega) a1 a2 a3 (hp_gK (zi := (0 + 0)) (zv := (0 + 0)) gZ.2.2.2 (List.mem_of_getElem? (i := 0) rfl) rfl rfl (by omega) (by omega))
    cases hp
theorem pr_0_k : hp_chk 391 0 0 [] [] [(0, .inr (.inr (.inl (some 94))))] [] [] [20080, 41216] 4 [] [([], 0, [], [], [], [.inl (1, [])], [(20080, (0, []), (0, []))])] = true := by decide +kernel
theorem pr_0 {cst : am_K} {strs : List Nat} {Φ : am_Q → Prop} {D : Nat} {M : am_M} {h : am_H} {l : am_L} (c : hp_C cst strs D) (hM : m_P[391]? = some M) (hD : (4 : Int) ≤ (D : Int) + 1) (hy : ly_hy m_tt ly_TH h) (l0 : hp_a l 0 94) (r0 : ∀ (h' : am_H) (y0 : Int32), y0.toInt = 1 → ly_hy m_tt ly_TH h' → ly_fr cst [20080, 41216] h h' → h.length ≤ h'.length → ly_hv cst h' 20080 0 = some 0 → Φ (some (.int y0), h', 0, 0)) : hp_F cst strs Φ D M 0 l [] h := by
  refine hp_arc c hM pr_0_k hD [] rfl hy hp_Bn hp_Fn hp_Kn (hp_La l0 hp_Ln) trivial ?_ ?_
  · intro p hp ys l' st' h' hys a1 a2 a3 gZ gL gS
    cases hp
  · intro p hp ys v h' hys a1 a2 a3 gZ gS
    rcases List.mem_cons.mp hp with rfl | hp
    · obtain rfl := hp_y0 hys
      cases v with
      | none => cases gS
      | some w =>
        obtain ⟨y0, t0, s0, q0, -⟩ := hp_gSi (z := (1 + 0)) gS rfl
        cases s0
        exact r0 h' y0 (by omega) a1 a2 a3 (hp_gK (zi := (0 + 0)) (zv := (0 + 0)) gZ.2.2.2 (List.mem_of_getElem? (i := 0) rfl) rfl rfl (by omega) (by omega))
    cases hp
/-- as many as the hours allow, the short ones first: the recursion of both -/
def bb_s (f : Int → Int) (d hr i : Int) (q : Int × Int) : Int × Int := if f i = d ∧ q.2 + d ≤ 2 * hr then (q.1 + 1, q.2 + d) else q
def bb_i (f : Int → Int) (d hr : Int) (q : Int × Int) : Nat → Int × Int
  | 0 => q
  | k + 1 => bb_s f d hr (k : Int) (bb_i f d hr q k)
def bb_o (f : Int → Int) (hr : Int) (z : Nat) : Nat → Int × Int
  | 0 => (0, 0)
  | d + 1 => bb_i f ((d : Int) + 1) hr (bb_o f hr z d) z
def bb_ok (hr : Int) (q : Int × Int) : Prop := 0 ≤ q.1 ∧ q.1 ≤ q.2 ∧ q.2 ≤ 2 * hr
theorem bb_s_ok {f : Int → Int} {d hr i : Int} {q : Int × Int} (d1 : 1 ≤ d) (h : bb_ok hr q) : bb_ok hr (bb_s f d hr i q) := by
  unfold bb_s
  obtain ⟨h1, h2, h3⟩ := h
  by_cases e : f i = d ∧ q.2 + d ≤ 2 * hr
  · rw [if_pos e]
    have := e.2
    exact ⟨by show 0 ≤ q.1 + 1; omega, by show q.1 + 1 ≤ q.2 + d; omega, by show q.2 + d ≤ 2 * hr; omega⟩
  · rw [if_neg e]
    exact ⟨h1, h2, h3⟩
theorem bb_i_ok {f : Int → Int} {d hr : Int} {q : Int × Int} (d1 : 1 ≤ d) (h : bb_ok hr q) : ∀ k : Nat, bb_ok hr (bb_i f d hr q k)
  | 0 => h
  | k + 1 => bb_s_ok d1 (bb_i_ok d1 h k)
theorem bb_o_ok {f : Int → Int} {hr : Int} {z : Nat} (h0 : 0 ≤ hr) : ∀ d : Nat, bb_ok hr (bb_o f hr z d)
  | 0 => ⟨Int.le_refl _, Int.le_refl _, by show (0 : Int) ≤ 2 * hr; omega⟩
  | d + 1 => bb_i_ok (by omega) (bb_o_ok h0 d) z
theorem bb_same {f g : Int → Int} {hr : Int} {z : Nat} (e : ∀ j, 0 ≤ j → j < (z : Int) → f j = g j) : ∀ d : Nat, bb_o f hr z d = bb_o g hr z d
  | 0 => rfl
  | d + 1 => by
    have : ∀ (q : Int × Int) (k : Nat), (k : Int) ≤ (z : Int) → bb_i f ((d : Int) + 1) hr q k = bb_i g ((d : Int) + 1) hr q k := fun q k => by
      induction k with
      | zero => exact fun _ => rfl
      | succ k ih =>
        intro hk
        show bb_s f _ hr (k : Int) (bb_i f _ hr q k) = bb_s g _ hr (k : Int) (bb_i g _ hr q k)
        rw [ih (by omega)]
        unfold bb_s
        rw [e (k : Int) (by omega) (by omega)]
    show bb_i f _ hr (bb_o f hr z d) z = bb_i g _ hr (bb_o g hr z d) z
    rw [bb_same e d]
    exact this _ z (Int.le_refl _)
theorem pb_h5 {cst : am_K} {strs : List Nat} {D : Nat} {M : am_M} {h0 : am_H} {Φ : am_Q → Prop} (c : hp_C cst strs D) (hM : m_P[222]? = some M) (hD : (6 : Int) ≤ (D : Int) + 1) {hr z s : Int} {n f : Int → Int} (r0 : 1 ≤ hr) (r1 : hr ≤ 10) (z0 : 0 ≤ z) (z1 : z ≤ 5) (s0 : 0 ≤ s) (s1 : s ≤ 100) (kz : ly_hv cst h0 14080 0 = some z) (ks : ly_hv cst h0 7170 0 = some s) (kn : ∀ j, 0 ≤ j → j < z → ly_hv cst h0 14336 j = some (n j) ∧ 0 ≤ n j ∧ n j < s ∧ ly_hv cst h0 7424 (n j) = some 1 ∧ ly_hv cst h0 45322 (n j) = some (f j) ∧ 1 ≤ f j ∧ f j ≤ 4) (k : ∀ h' : am_H, ly_hy m_tt ly_TH h' → ly_fr cst [14848, 15104] h0 h' → (∀ j, 0 ≤ j → j < z → ly_hv cst h' 14848 j = some (f j)) → Φ (none, h', 0, 0)) (h : am_H) (l : am_L) (hy : ly_hy m_tt ly_TH h) (fr : ly_fr cst [14848, 15104] h0 h) (hz : 5 ≤ z) (H : ∀ j, 0 ≤ j → j < 5 → ly_hv cst h 14848 j = some (f j)) (l0 : hp_a l 0 71) (l1 : hp_i l 1 hr) (l2 : hp_a l 2 44) (l3 : hp_i l 3 5) : hp_F cst strs Φ D M 16 l [] h := by
  by_cases e : z = 5
  · have kz' := fr _ _ _ rfl kz
    exact pb_e c hM (by omega) hy hr z r0 r1 z0 z1 kz' l0 l1 l2 (by rw [e]; exact l3) (fun h' u1 u2 u3 => k h' u1 (ly_fr_tr fr (fun r i v _ e => u2 r i v rfl e)) (fun j j0 j1 => u2 _ _ _ rfl (H j j0 (by omega))))
  · omega
theorem pb_h4 {cst : am_K} {strs : List Nat} {D : Nat} {M : am_M} {h0 : am_H} {Φ : am_Q → Prop} (c : hp_C cst strs D) (hM : m_P[222]? = some M) (hD : (6 : Int) ≤ (D : Int) + 1) {hr z s : Int} {n f : Int → Int} (r0 : 1 ≤ hr) (r1 : hr ≤ 10) (z0 : 0 ≤ z) (z1 : z ≤ 5) (s0 : 0 ≤ s) (s1 : s ≤ 100) (kz : ly_hv cst h0 14080 0 = some z) (ks : ly_hv cst h0 7170 0 = some s) (kn : ∀ j, 0 ≤ j → j < z → ly_hv cst h0 14336 j = some (n j) ∧ 0 ≤ n j ∧ n j < s ∧ ly_hv cst h0 7424 (n j) = some 1 ∧ ly_hv cst h0 45322 (n j) = some (f j) ∧ 1 ≤ f j ∧ f j ≤ 4) (k : ∀ h' : am_H, ly_hy m_tt ly_TH h' → ly_fr cst [14848, 15104] h0 h' → (∀ j, 0 ≤ j → j < z → ly_hv cst h' 14848 j = some (f j)) → Φ (none, h', 0, 0)) (h : am_H) (l : am_L) (hy : ly_hy m_tt ly_TH h) (fr : ly_fr cst [14848, 15104] h0 h) (hz : 4 ≤ z) (H : ∀ j, 0 ≤ j → j < 4 → ly_hv cst h 14848 j = some (f j)) (l0 : hp_a l 0 71) (l1 : hp_i l 1 hr) (l2 : hp_a l 2 44) (l3 : hp_i l 3 4) : hp_F cst strs Φ D M 16 l [] h := by
  by_cases e : z = 4
  · have kz' := fr _ _ _ rfl kz
    exact pb_e c hM (by omega) hy hr z r0 r1 z0 z1 kz' l0 l1 l2 (by rw [e]; exact l3) (fun h' u1 u2 u3 => k h' u1 (ly_fr_tr fr (fun r i v _ e => u2 r i v rfl e)) (fun j j0 j1 => u2 _ _ _ rfl (H j j0 (by omega))))
  obtain ⟨a0, b0, c0, d0, e0, g0, i0⟩ := kn 0 (by omega) (by omega)
  obtain ⟨a1, b1, c1, d1, e1, g1, i1⟩ := kn 1 (by omega) (by omega)
  obtain ⟨a2, b2, c2, d2, e2, g2, i2⟩ := kn 2 (by omega) (by omega)
  obtain ⟨a3, b3, c3, d3, e3, g3, i3⟩ := kn 3 (by omega) (by omega)
  obtain ⟨a4, b4, c4, d4, e4, g4, i4⟩ := kn 4 (by omega) (by omega)
  exact pb_4 c hM hD hy hr z s (n 0) (n 1) (n 2) (n 3) (n 4) (f 0) (f 1) (f 2) (f 3) (f 4) r0 r1 (by omega) z1 s0 s1 b0 (by omega) b1 (by omega) b2 (by omega) b3 (by omega) b4 (by omega) g0 i0 g1 i1 g2 i2 g3 i3 g4 i4 (by omega) (by omega) (by omega) (by omega) (by omega) (fr _ _ _ rfl kz) (fr _ _ _ rfl ks) (fr _ _ _ rfl a0) (fr _ _ _ rfl a1) (fr _ _ _ rfl a2) (fr _ _ _ rfl a3) (fr _ _ _ rfl a4) (fr _ _ _ rfl d0) (fr _ _ _ rfl d1) (fr _ _ _ rfl d2) (fr _ _ _ rfl d3) (fr _ _ _ rfl d4) (fr _ _ _ rfl e4) (H 0 (by omega) (by omega)) (H 1 (by omega) (by omega)) (H 2 (by omega) (by omega)) (H 3 (by omega) (by omega)) l0 l1 l2 l3 (fun l' h' u1 u2 u3 k0 k1 k2 k3 k4 o0 o1 o2 o3 => pb_h5 c hM hD r0 r1 z0 z1 s0 s1 kz ks kn k h' l' u1 (ly_fr_tr fr u2) (by omega) (fun j j0 j1 => by
      by_cases q0 : j = 0
      · rw [q0]; exact k0
      by_cases q1 : j = 1
      · rw [q1]; exact k1
      by_cases q2 : j = 2
      · rw [q2]; exact k2
      by_cases q3 : j = 3
      · rw [q3]; exact k3
      by_cases q4 : j = 4
      · rw [q4]; exact k4
      omega) o0 o1 o2 o3)
theorem pb_h3 {cst : am_K} {strs : List Nat} {D : Nat} {M : am_M} {h0 : am_H} {Φ : am_Q → Prop} (c : hp_C cst strs D) (hM : m_P[222]? = some M) (hD : (6 : Int) ≤ (D : Int) + 1) {hr z s : Int} {n f : Int → Int} (r0 : 1 ≤ hr) (r1 : hr ≤ 10) (z0 : 0 ≤ z) (z1 : z ≤ 5) (s0 : 0 ≤ s) (s1 : s ≤ 100) (kz : ly_hv cst h0 14080 0 = some z) (ks : ly_hv cst h0 7170 0 = some s) (kn : ∀ j, 0 ≤ j → j < z → ly_hv cst h0 14336 j = some (n j) ∧ 0 ≤ n j ∧ n j < s ∧ ly_hv cst h0 7424 (n j) = some 1 ∧ ly_hv cst h0 45322 (n j) = some (f j) ∧ 1 ≤ f j ∧ f j ≤ 4) (k : ∀ h' : am_H, ly_hy m_tt ly_TH h' → ly_fr cst [14848, 15104] h0 h' → (∀ j, 0 ≤ j → j < z → ly_hv cst h' 14848 j = some (f j)) → Φ (none, h', 0, 0)) (h : am_H) (l : am_L) (hy : ly_hy m_tt ly_TH h) (fr : ly_fr cst [14848, 15104] h0 h) (hz : 3 ≤ z) (H : ∀ j, 0 ≤ j → j < 3 → ly_hv cst h 14848 j = some (f j)) (l0 : hp_a l 0 71) (l1 : hp_i l 1 hr) (l2 : hp_a l 2 44) (l3 : hp_i l 3 3) : hp_F cst strs Φ D M 16 l [] h := by
  by_cases e : z = 3
  · have kz' := fr _ _ _ rfl kz
    exact pb_e c hM (by omega) hy hr z r0 r1 z0 z1 kz' l0 l1 l2 (by rw [e]; exact l3) (fun h' u1 u2 u3 => k h' u1 (ly_fr_tr fr (fun r i v _ e => u2 r i v rfl e)) (fun j j0 j1 => u2 _ _ _ rfl (H j j0 (by omega))))
  obtain ⟨a0, b0, c0, d0, e0, g0, i0⟩ := kn 0 (by omega) (by omega)
  obtain ⟨a1, b1, c1, d1, e1, g1, i1⟩ := kn 1 (by omega) (by omega)
  obtain ⟨a2, b2, c2, d2, e2, g2, i2⟩ := kn 2 (by omega) (by omega)
  obtain ⟨a3, b3, c3, d3, e3, g3, i3⟩ := kn 3 (by omega) (by omega)
  exact pb_3 c hM hD hy hr z s (n 0) (n 1) (n 2) (n 3) (f 0) (f 1) (f 2) (f 3) r0 r1 (by omega) z1 s0 s1 b0 (by omega) b1 (by omega) b2 (by omega) b3 (by omega) g0 i0 g1 i1 g2 i2 g3 i3 (by omega) (by omega) (by omega) (by omega) (fr _ _ _ rfl kz) (fr _ _ _ rfl ks) (fr _ _ _ rfl a0) (fr _ _ _ rfl a1) (fr _ _ _ rfl a2) (fr _ _ _ rfl a3) (fr _ _ _ rfl d0) (fr _ _ _ rfl d1) (fr _ _ _ rfl d2) (fr _ _ _ rfl d3) (fr _ _ _ rfl e3) (H 0 (by omega) (by omega)) (H 1 (by omega) (by omega)) (H 2 (by omega) (by omega)) l0 l1 l2 l3 (fun l' h' u1 u2 u3 k0 k1 k2 k3 o0 o1 o2 o3 => pb_h4 c hM hD r0 r1 z0 z1 s0 s1 kz ks kn k h' l' u1 (ly_fr_tr fr u2) (by omega) (fun j j0 j1 => by
      by_cases q0 : j = 0
      · rw [q0]; exact k0
      by_cases q1 : j = 1
      · rw [q1]; exact k1
      by_cases q2 : j = 2
      · rw [q2]; exact k2
      by_cases q3 : j = 3
      · rw [q3]; exact k3
      omega) o0 o1 o2 o3)
theorem pb_h2 {cst : am_K} {strs : List Nat} {D : Nat} {M : am_M} {h0 : am_H} {Φ : am_Q → Prop} (c : hp_C cst strs D) (hM : m_P[222]? = some M) (hD : (6 : Int) ≤ (D : Int) + 1) {hr z s : Int} {n f : Int → Int} (r0 : 1 ≤ hr) (r1 : hr ≤ 10) (z0 : 0 ≤ z) (z1 : z ≤ 5) (s0 : 0 ≤ s) (s1 : s ≤ 100) (kz : ly_hv cst h0 14080 0 = some z) (ks : ly_hv cst h0 7170 0 = some s) (kn : ∀ j, 0 ≤ j → j < z → ly_hv cst h0 14336 j = some (n j) ∧ 0 ≤ n j ∧ n j < s ∧ ly_hv cst h0 7424 (n j) = some 1 ∧ ly_hv cst h0 45322 (n j) = some (f j) ∧ 1 ≤ f j ∧ f j ≤ 4) (k : ∀ h' : am_H, ly_hy m_tt ly_TH h' → ly_fr cst [14848, 15104] h0 h' → (∀ j, 0 ≤ j → j < z → ly_hv cst h' 14848 j = some (f j)) → Φ (none, h', 0, 0)) (h : am_H) (l : am_L) (hy : ly_hy m_tt ly_TH h) (fr : ly_fr cst [14848, 15104] h0 h) (hz : 2 ≤ z) (H : ∀ j, 0 ≤ j → j < 2 → ly_hv cst h 14848 j = some (f j)) (l0 : hp_a l 0 71) (l1 : hp_i l 1 hr) (l2 : hp_a l 2 44) (l3 : hp_i l 3 2) : hp_F cst strs Φ D M 16 l [] h := by
  by_cases e : z = 2
  · have kz' := fr _ _ _ rfl kz
    exact pb_e c hM (by omega) hy hr z r0 r1 z0 z1 kz' l0 l1 l2 (by rw [e]; exact l3) (fun h' u1 u2 u3 => k h' u1 (ly_fr_tr fr (fun r i v _ e => u2 r i v rfl e)) (fun j j0 j1 => u2 _ _ _ rfl (H j j0 (by omega))))
  obtain ⟨a0, b0, c0, d0, e0, g0, i0⟩ := kn 0 (by omega) (by omega)
  obtain ⟨a1, b1, c1, d1, e1, g1, i1⟩ := kn 1 (by omega) (by omega)
  obtain ⟨a2, b2, c2, d2, e2, g2, i2⟩ := kn 2 (by omega) (by omega)
  exact pb_2 c hM hD hy hr z s (n 0) (n 1) (n 2) (f 0) (f 1) (f 2) r0 r1 (by omega) z1 s0 s1 b0 (by omega) b1 (by omega) b2 (by omega) g0 i0 g1 i1 g2 i2 (by omega) (by omega) (by omega) (fr _ _ _ rfl kz) (fr _ _ _ rfl ks) (fr _ _ _ rfl a0) (fr _ _ _ rfl a1) (fr _ _ _ rfl a2) (fr _ _ _ rfl d0) (fr _ _ _ rfl d1) (fr _ _ _ rfl d2) (fr _ _ _ rfl e2) (H 0 (by omega) (by omega)) (H 1 (by omega) (by omega)) l0 l1 l2 l3 (fun l' h' u1 u2 u3 k0 k1 k2 o0 o1 o2 o3 => pb_h3 c hM hD r0 r1 z0 z1 s0 s1 kz ks kn k h' l' u1 (ly_fr_tr fr u2) (by omega) (fun j j0 j1 => by
      by_cases q0 : j = 0
      · rw [q0]; exact k0
      by_cases q1 : j = 1
      · rw [q1]; exact k1
      by_cases q2 : j = 2
      · rw [q2]; exact k2
      omega) o0 o1 o2 o3)
theorem pb_h1 {cst : am_K} {strs : List Nat} {D : Nat} {M : am_M} {h0 : am_H} {Φ : am_Q → Prop} (c : hp_C cst strs D) (hM : m_P[222]? = some M) (hD : (6 : Int) ≤ (D : Int) + 1) {hr z s : Int} {n f : Int → Int} (r0 : 1 ≤ hr) (r1 : hr ≤ 10) (z0 : 0 ≤ z) (z1 : z ≤ 5) (s0 : 0 ≤ s) (s1 : s ≤ 100) (kz : ly_hv cst h0 14080 0 = some z) (ks : ly_hv cst h0 7170 0 = some s) (kn : ∀ j, 0 ≤ j → j < z → ly_hv cst h0 14336 j = some (n j) ∧ 0 ≤ n j ∧ n j < s ∧ ly_hv cst h0 7424 (n j) = some 1 ∧ ly_hv cst h0 45322 (n j) = some (f j) ∧ 1 ≤ f j ∧ f j ≤ 4) (k : ∀ h' : am_H, ly_hy m_tt ly_TH h' → ly_fr cst [14848, 15104] h0 h' → (∀ j, 0 ≤ j → j < z → ly_hv cst h' 14848 j = some (f j)) → Φ (none, h', 0, 0)) (h : am_H) (l : am_L) (hy : ly_hy m_tt ly_TH h) (fr : ly_fr cst [14848, 15104] h0 h) (hz : 1 ≤ z) (H : ∀ j, 0 ≤ j → j < 1 → ly_hv cst h 14848 j = some (f j)) (l0 : hp_a l 0 71) (l1 : hp_i l 1 hr) (l2 : hp_a l 2 44) (l3 : hp_i l 3 1) : hp_F cst strs Φ D M 16 l [] h := by
  by_cases e : z = 1
  · have kz' := fr _ _ _ rfl kz
    exact pb_e c hM (by omega) hy hr z r0 r1 z0 z1 kz' l0 l1 l2 (by rw [e]; exact l3) (fun h' u1 u2 u3 => k h' u1 (ly_fr_tr fr (fun r i v _ e => u2 r i v rfl e)) (fun j j0 j1 => u2 _ _ _ rfl (H j j0 (by omega))))
  obtain ⟨a0, b0, c0, d0, e0, g0, i0⟩ := kn 0 (by omega) (by omega)
  obtain ⟨a1, b1, c1, d1, e1, g1, i1⟩ := kn 1 (by omega) (by omega)
  exact pb_1 c hM hD hy hr z s (n 0) (n 1) (f 0) (f 1) r0 r1 (by omega) z1 s0 s1 b0 (by omega) b1 (by omega) g0 i0 g1 i1 (by omega) (by omega) (fr _ _ _ rfl kz) (fr _ _ _ rfl ks) (fr _ _ _ rfl a0) (fr _ _ _ rfl a1) (fr _ _ _ rfl d0) (fr _ _ _ rfl d1) (fr _ _ _ rfl e1) (H 0 (by omega) (by omega)) l0 l1 l2 l3 (fun l' h' u1 u2 u3 k0 k1 o0 o1 o2 o3 => pb_h2 c hM hD r0 r1 z0 z1 s0 s1 kz ks kn k h' l' u1 (ly_fr_tr fr u2) (by omega) (fun j j0 j1 => by
      by_cases q0 : j = 0
      · rw [q0]; exact k0
      by_cases q1 : j = 1
      · rw [q1]; exact k1
      omega) o0 o1 o2 o3)
theorem pb_h0 {cst : am_K} {strs : List Nat} {D : Nat} {M : am_M} {h0 : am_H} {Φ : am_Q → Prop} (c : hp_C cst strs D) (hM : m_P[222]? = some M) (hD : (6 : Int) ≤ (D : Int) + 1) {hr z s : Int} {n f : Int → Int} (r0 : 1 ≤ hr) (r1 : hr ≤ 10) (z0 : 0 ≤ z) (z1 : z ≤ 5) (s0 : 0 ≤ s) (s1 : s ≤ 100) (kz : ly_hv cst h0 14080 0 = some z) (ks : ly_hv cst h0 7170 0 = some s) (kn : ∀ j, 0 ≤ j → j < z → ly_hv cst h0 14336 j = some (n j) ∧ 0 ≤ n j ∧ n j < s ∧ ly_hv cst h0 7424 (n j) = some 1 ∧ ly_hv cst h0 45322 (n j) = some (f j) ∧ 1 ≤ f j ∧ f j ≤ 4) (k : ∀ h' : am_H, ly_hy m_tt ly_TH h' → ly_fr cst [14848, 15104] h0 h' → (∀ j, 0 ≤ j → j < z → ly_hv cst h' 14848 j = some (f j)) → Φ (none, h', 0, 0)) (h : am_H) (l : am_L) (hy : ly_hy m_tt ly_TH h) (fr : ly_fr cst [14848, 15104] h0 h) (hz : 0 ≤ z) (H : ∀ j, 0 ≤ j → j < 0 → ly_hv cst h 14848 j = some (f j)) (l0 : hp_a l 0 71) (l1 : hp_i l 1 hr) (l2 : hp_a l 2 44) (l3 : hp_i l 3 0) : hp_F cst strs Φ D M 16 l [] h := by
  by_cases e : z = 0
  · have kz' := fr _ _ _ rfl kz
    exact pb_e c hM (by omega) hy hr z r0 r1 z0 z1 kz' l0 l1 l2 (by rw [e]; exact l3) (fun h' u1 u2 u3 => k h' u1 (ly_fr_tr fr (fun r i v _ e => u2 r i v rfl e)) (fun j j0 j1 => u2 _ _ _ rfl (H j j0 (by omega))))
  obtain ⟨a0, b0, c0, d0, e0, g0, i0⟩ := kn 0 (by omega) (by omega)
  exact pb_0 c hM hD hy hr z s (n 0) (f 0) r0 r1 (by omega) z1 s0 s1 b0 (by omega) g0 i0 (by omega) (fr _ _ _ rfl kz) (fr _ _ _ rfl ks) (fr _ _ _ rfl a0) (fr _ _ _ rfl d0) (fr _ _ _ rfl e0)  l0 l1 l2 l3 (fun l' h' u1 u2 u3 k0 o0 o1 o2 o3 => pb_h1 c hM hD r0 r1 z0 z1 s0 s1 kz ks kn k h' l' u1 (ly_fr_tr fr u2) (by omega) (fun j j0 j1 => by
      by_cases q0 : j = 0
      · rw [q0]; exact k0
      omega) o0 o1 o2 o3)
theorem pb_run {cst : am_K} {strs : List Nat} {D : Nat} {h : am_H} (c : hp_C cst strs D) (hD : (6 : Int) ≤ (D : Int) + 1) (hy : ly_hy m_tt ly_TH h) {xh : Int32} {hr z s : Int} {n f : Int → Int} (r0 : 1 ≤ hr) (r1 : hr ≤ 10) (z0 : 0 ≤ z) (z1 : z ≤ 5) (s0 : 0 ≤ s) (s1 : s ≤ 100) (kz : ly_hv cst h 14080 0 = some z) (ks : ly_hv cst h 7170 0 = some s) (kn : ∀ j, 0 ≤ j → j < z → ly_hv cst h 14336 j = some (n j) ∧ 0 ≤ n j ∧ n j < s ∧ ly_hv cst h 7424 (n j) = some 1 ∧ ly_hv cst h 45322 (n j) = some (f j) ∧ 1 ≤ f j ∧ f j ≤ 4) (eh : xh.toInt = hr) :
    ∃ r, am_Run cst m_cl m_tt m_P strs sx_bi (D + 1) 222 [.ref 71, .int xh, .ref 44] h r ∧ (fun r : am_Q => r.1 = none ∧ r.2.2.1 = 0 ∧ r.2.2.2 = 0 ∧ ly_hy m_tt ly_TH r.2.1 ∧ ly_fr cst [14087, 14848, 15104, 15360] h r.2.1 ∧ ∀ j, 0 ≤ j → j < z → ly_hv cst r.2.1 14848 j = some (f j)) r := by
  obtain ⟨M, hM, hl⟩ := hp_M (mi := 222) (k := 3) (by decide +kernel)
  obtain ⟨n', r, hgo, r1', r2, r3, r4⟩ := pb_s (Φ := (fun r : am_Q => r.1 = none ∧ r.2.2.1 = 0 ∧ r.2.2.2 = 0 ∧ ly_hy m_tt ly_TH r.2.1 ∧ ly_fr cst [14087, 14848, 15104, 15360] h r.2.1 ∧ ∀ j, 0 ≤ j → j < z → ly_hv cst r.2.1 14848 j = some (f j))) (l := lv_args 0 [.ref 71, .int xh, .ref 44]) c hM (by omega) hy hr r0 r1 rfl ⟨xh, rfl, eh⟩ rfl (fun l1 h1 u1 u2 u3 o0 o1 o2 o3 => pb_h0 (h0 := h1) c hM hD r0 r1 z0 z1 s0 s1 (u2 _ _ _ rfl kz) (u2 _ _ _ rfl ks) (fun j j0 j1 => by
    obtain ⟨k1, k2, k3, k4, k5, k6⟩ := kn j j0 j1
    exact ⟨u2 _ _ _ rfl k1, k2, k3, u2 _ _ _ rfl k4, u2 _ _ _ rfl k5, k6⟩) (fun h' w1 w2 w3 => ⟨rfl, rfl, rfl, w1, ly_fr_tr (hp_sub2 rfl u2) (hp_sub2 rfl w2), w3⟩) h1 l1 u1 (ly_fr_rf h1) z0 (fun j j0 j1 => by omega) o0 o1 o2 o3)
  simp only [Nat.zero_add] at r2 r3
  exact ⟨r, Or.inr ⟨M, n', hM, hl, hgo⟩, r1', r2, r3, r4⟩
theorem pm_in {cst : am_K} {strs : List Nat} {D : Nat} {M : am_M} {h0 : am_H} {Φ : am_Q → Prop} (c : hp_C cst strs D) (hM : m_P[221]? = some M) (hD : (4 : Int) ≤ (D : Int) + 1) {hr z d : Int} {f : Int → Int} (r0 : 1 ≤ hr) (r1 : hr ≤ 10) (z0 : 0 ≤ z) (z1 : z ≤ 5) (d0 : 1 ≤ d) (d1 : d ≤ 4) (kz : ly_hv cst h0 14080 0 = some z) (kf : ∀ j, 0 ≤ j → j < z → ly_hv cst h0 14848 j = some (f j) ∧ 1 ≤ f j ∧ f j ≤ 4) {q : Int × Int} (ok : bb_ok hr q)
    (k : ∀ (h : am_H) (l : am_L), ly_hy m_tt ly_TH h → ly_fr cst [] h0 h → hp_a l 0 71 → hp_i l 1 hr → hp_i l 3 (bb_i f d hr q z.toNat).1 → hp_i l 4 (bb_i f d hr q z.toNat).2 → hp_i l 5 (d + 1) → hp_F cst strs Φ D M 14 l [] h) :
    ∀ (N i : Nat) (h : am_H) (l : am_L), z.toNat - i < N → (i : Int) ≤ z → ly_hy m_tt ly_TH h → ly_fr cst [] h0 h → hp_a l 0 71 → hp_i l 1 hr → hp_i l 3 (bb_i f d hr q i).1 → hp_i l 4 (bb_i f d hr q i).2 → hp_i l 5 d → hp_i l 6 (i : Int) → hp_F cst strs Φ D M 23 l [] h := by
  intro N
  induction N with
  | zero => intro i h l hN; omega
  | succ N ih =>
    intro i h l hN hi hy fr l0 l1 ln lu ld li
    obtain ⟨o1, o2, o3⟩ := bb_i_ok (f := f) d0 ok i
    have kz' := fr _ _ _ rfl kz
    by_cases e : (i : Int) = z
    · have ei : z.toNat = i := by omega
      rw [e] at li
      rw [← ei] at ln lu o1 o2 o3
      exact pm_4 c hM (by omega) hy hr _ _ d z r0 r1 o1 (by omega) (by omega) (by omega) d0 d1 z0 z1 kz' l0 l1 ln lu ld li (fun l' h' u1 u2 u3 p0 p1 p2 p3 p4 => k h' l' u1 (ly_fr_tr fr u2) p0 p1 p2 p3 p4)
    · obtain ⟨kv0, w0, w1⟩ := kf (i : Int) (by omega) (by omega)
      have kv := fr _ _ _ rfl kv0
      have next : bb_i f d hr q (i + 1) = bb_s f d hr (i : Int) (bb_i f d hr q i) := rfl
      have ej : ((i + 1 : Nat) : Int) = (i : Int) + 1 := by omega
      by_cases q1 : f (i : Int) = d
      · by_cases q2 : (bb_i f d hr q i).2 + d ≤ 2 * hr
        · rw [bb_s, if_pos ⟨q1, q2⟩] at next
          rw [q1] at kv
          exact pm_7 c hM (by omega) hy hr (bb_i f d hr q i).1 (bb_i f d hr q i).2 d z (i : Int) r0 r1 o1 (by omega) (by omega) (by omega) d0 d1 z0 z1 (by omega) (by omega) (by omega) (by omega) kz' kv l0 l1 ln lu ld li (fun l' h' u1 u2 u3 p0 p1 p2 p3 p4 p5 => ih (i + 1) h' l' (by omega) (by omega) u1 (ly_fr_tr fr u2) p0 p1 (by rw [next]; exact p2) (by rw [next]; exact p3) p4 (by rw [ej]; exact p5))
        · rw [bb_s, if_neg (fun z => q2 z.2)] at next
          rw [q1] at kv
          exact pm_6 c hM (by omega) hy hr (bb_i f d hr q i).1 (bb_i f d hr q i).2 d z (i : Int) r0 r1 o1 (by omega) (by omega) (by omega) d0 d1 z0 z1 (by omega) (by omega) (by omega) (by omega) kz' kv l0 l1 ln lu ld li (fun l' h' u1 u2 u3 p0 p1 p2 p3 p4 p5 => ih (i + 1) h' l' (by omega) (by omega) u1 (ly_fr_tr fr u2) p0 p1 (by rw [next]; exact p2) (by rw [next]; exact p3) p4 (by rw [ej]; exact p5))
      · rw [bb_s, if_neg (fun z => q1 z.1)] at next
        exact pm_5 c hM (by omega) hy hr (bb_i f d hr q i).1 (bb_i f d hr q i).2 d z (i : Int) (f (i : Int)) r0 r1 o1 (by omega) (by omega) (by omega) d0 d1 z0 z1 (by omega) (by omega) w0 w1 (by omega) kz' kv (hp_ne (by omega)) l0 l1 ln lu ld li (fun l' h' u1 u2 u3 p0 p1 p2 p3 p4 p5 => ih (i + 1) h' l' (by omega) (by omega) u1 (ly_fr_tr fr u2) p0 p1 (by rw [next]; exact p2) (by rw [next]; exact p3) p4 (by rw [ej]; exact p5))
theorem pm_out {cst : am_K} {strs : List Nat} {D : Nat} {M : am_M} {h0 : am_H} {Φ : am_Q → Prop} (c : hp_C cst strs D) (hM : m_P[221]? = some M) (hD : (4 : Int) ≤ (D : Int) + 1) {hr z : Int} {f : Int → Int} (r0 : 1 ≤ hr) (r1 : hr ≤ 10) (z0 : 0 ≤ z) (z1 : z ≤ 5) (kz : ly_hv cst h0 14080 0 = some z) (kf : ∀ j, 0 ≤ j → j < z → ly_hv cst h0 14848 j = some (f j) ∧ 1 ≤ f j ∧ f j ≤ 4)
    (k : ∀ (h : am_H) (a : Int32), a.toInt = (bb_o f hr z.toNat 4).1 → ly_hy m_tt ly_TH h → ly_fr cst [] h0 h → Φ (some (.int a), h, 0, 0)) :
    ∀ (N d : Nat) (h : am_H) (l : am_L), 4 - d < N → d ≤ 4 → ly_hy m_tt ly_TH h → ly_fr cst [] h0 h → hp_a l 0 71 → hp_i l 1 hr → hp_i l 3 (bb_o f hr z.toNat d).1 → hp_i l 4 (bb_o f hr z.toNat d).2 → hp_i l 5 ((d : Int) + 1) → hp_F cst strs Φ D M 14 l [] h := by
  intro N
  induction N with
  | zero => intro d h l hN; omega
  | succ N ih =>
    intro d h l hN hd hy fr l0 l1 ln lu ld
    have ok := bb_o_ok (f := f) (z := z.toNat) (show 0 ≤ hr by omega) d
    obtain ⟨o1, o2, o3⟩ := ok
    by_cases e : d = 4
    · subst e
      exact pm_3 c hM (by omega) hy hr _ _ r0 r1 o1 (by omega) (by omega) (by omega) l0 l1 ln lu ld (fun h' a ha u1 u2 u3 => k h' a ha u1 (ly_fr_tr fr u2))
    · refine pm_2 c hM (by omega) hy hr _ _ ((d : Int) + 1) r0 r1 o1 (by omega) (by omega) (by omega) (by omega) (by omega) l0 l1 ln lu ld (fun l' h' u1 u2 u3 p0 p1 p2 p3 p4 p5 => ?_)
      have ej : (((d + 1 : Nat) : Int) + 1) = (d : Int) + 1 + 1 := by omega
      exact pm_in (h0 := h0) c hM hD (d := (d : Int) + 1) (q := bb_o f hr z.toNat d) r0 r1 z0 z1 (by omega) (by omega) kz kf ⟨o1, o2, o3⟩ (fun h2 l2 w1 w2 t0 t1 t2 t3 t4 => ih (d + 1) h2 l2 (by omega) (by omega) w1 w2 t0 t1 t2 t3 (by rw [ej]; exact t4)) (z.toNat + 1) 0 h' l' (by omega) (by omega) u1 (ly_fr_tr fr u2) p0 p1 p2 p3 p4 p5
theorem po_in {cst : am_K} {strs : List Nat} {D : Nat} {M : am_M} {h0 : am_H} {Φ : am_Q → Prop} (c : hp_C cst strs D) (hM : m_P[401]? = some M) (hD : (4 : Int) ≤ (D : Int) + 1) {hr z d : Int} {f : Int → Int} {n : Int → Int} (r0 : 1 ≤ hr) (r1 : hr ≤ 10) (z0 : 0 ≤ z) (z1 : z ≤ 5) (d0 : 1 ≤ d) (d1 : d ≤ 4) (kz : ly_hv cst h0 20080 0 = some z) (kf : ∀ j, 0 ≤ j → j < z → ly_hv cst h0 40960 j = some (n j) ∧ 0 ≤ n j ∧ n j ≤ 99 ∧ ly_hv cst h0 32768 (n j) = some (f j) ∧ 1 ≤ f j ∧ f j ≤ 4) {q : Int × Int} (ok : bb_ok hr q)
    (k : ∀ (h : am_H) (l : am_L), ly_hy m_tt ly_TH h → ly_fr cst [] h0 h → hp_a l 0 94 → hp_i l 1 hr → hp_i l 2 (bb_i f d hr q z.toNat).1 → hp_i l 3 (bb_i f d hr q z.toNat).2 → hp_i l 4 (d + 1) → hp_F cst strs Φ D M 20 l [] h) :
    ∀ (N i : Nat) (h : am_H) (l : am_L), z.toNat - i < N → (i : Int) ≤ z → ly_hy m_tt ly_TH h → ly_fr cst [] h0 h → hp_a l 0 94 → hp_i l 1 hr → hp_i l 2 (bb_i f d hr q i).1 → hp_i l 3 (bb_i f d hr q i).2 → hp_i l 4 d → hp_i l 5 (i : Int) → hp_F cst strs Φ D M 29 l [] h := by
  intro N
  induction N with
  | zero => intro i h l hN; omega
  | succ N ih =>
    intro i h l hN hi hy fr l0 l1 ln lu ld li
    obtain ⟨o1, o2, o3⟩ := bb_i_ok (f := f) d0 ok i
    have kz' := fr _ _ _ rfl kz
    by_cases e : (i : Int) = z
    · have ei : z.toNat = i := by omega
      rw [e] at li
      rw [← ei] at ln lu o1 o2 o3
      exact po_5 c hM (by omega) hy hr _ _ d z r0 r1 o1 (by omega) (by omega) (by omega) d0 d1 z0 z1 kz' l0 l1 ln lu ld li (fun l' h' u1 u2 u3 p0 p1 p2 p3 p4 => k h' l' u1 (ly_fr_tr fr u2) p0 p1 p2 p3 p4)
    · obtain ⟨km0, m0, m1, kv0, w0, w1⟩ := kf (i : Int) (by omega) (by omega)
      have km := fr _ _ _ rfl km0
      have kv := fr _ _ _ rfl kv0
      have next : bb_i f d hr q (i + 1) = bb_s f d hr (i : Int) (bb_i f d hr q i) := rfl
      have ej : ((i + 1 : Nat) : Int) = (i : Int) + 1 := by omega
      by_cases q1 : f (i : Int) = d
      · by_cases q2 : (bb_i f d hr q i).2 + d ≤ 2 * hr
        · rw [bb_s, if_pos ⟨q1, q2⟩] at next
          rw [q1] at kv
          exact po_8 c hM (by omega) hy hr (bb_i f d hr q i).1 (bb_i f d hr q i).2 d z (i : Int) (n (i : Int)) r0 r1 o1 (by omega) (by omega) (by omega) d0 d1 z0 z1 (by omega) (by omega) m0 m1 (by omega) (by omega) kz' km kv l0 l1 ln lu ld li (fun l' h' u1 u2 u3 p0 p1 p2 p3 p4 p5 => ih (i + 1) h' l' (by omega) (by omega) u1 (ly_fr_tr fr u2) p0 p1 (by rw [next]; exact p2) (by rw [next]; exact p3) p4 (by rw [ej]; exact p5))
        · rw [bb_s, if_neg (fun z => q2 z.2)] at next
          rw [q1] at kv
          exact po_7 c hM (by omega) hy hr (bb_i f d hr q i).1 (bb_i f d hr q i).2 d z (i : Int) (n (i : Int)) r0 r1 o1 (by omega) (by omega) (by omega) d0 d1 z0 z1 (by omega) (by omega) m0 m1 (by omega) (by omega) kz' km kv l0 l1 ln lu ld li (fun l' h' u1 u2 u3 p0 p1 p2 p3 p4 p5 => ih (i + 1) h' l' (by omega) (by omega) u1 (ly_fr_tr fr u2) p0 p1 (by rw [next]; exact p2) (by rw [next]; exact p3) p4 (by rw [ej]; exact p5))
      · rw [bb_s, if_neg (fun z => q1 z.1)] at next
        exact po_6 c hM (by omega) hy hr (bb_i f d hr q i).1 (bb_i f d hr q i).2 d z (i : Int) (n (i : Int)) (f (i : Int)) r0 r1 o1 (by omega) (by omega) (by omega) d0 d1 z0 z1 (by omega) (by omega) m0 m1 w0 w1 (by omega) kz' km kv (hp_ne (by omega)) l0 l1 ln lu ld li (fun l' h' u1 u2 u3 p0 p1 p2 p3 p4 p5 => ih (i + 1) h' l' (by omega) (by omega) u1 (ly_fr_tr fr u2) p0 p1 (by rw [next]; exact p2) (by rw [next]; exact p3) p4 (by rw [ej]; exact p5))
theorem po_out {cst : am_K} {strs : List Nat} {D : Nat} {M : am_M} {h0 : am_H} {Φ : am_Q → Prop} (c : hp_C cst strs D) (hM : m_P[401]? = some M) (hD : (4 : Int) ≤ (D : Int) + 1) {hr z : Int} {f : Int → Int} {n : Int → Int} (r0 : 1 ≤ hr) (r1 : hr ≤ 10) (z0 : 0 ≤ z) (z1 : z ≤ 5) (kz : ly_hv cst h0 20080 0 = some z) (kf : ∀ j, 0 ≤ j → j < z → ly_hv cst h0 40960 j = some (n j) ∧ 0 ≤ n j ∧ n j ≤ 99 ∧ ly_hv cst h0 32768 (n j) = some (f j) ∧ 1 ≤ f j ∧ f j ≤ 4)
    (k : ∀ (h : am_H) (a : Int32), a.toInt = (bb_o f hr z.toNat 4).1 → ly_hy m_tt ly_TH h → ly_fr cst [] h0 h → Φ (some (.int a), h, 0, 0)) :
    ∀ (N d : Nat) (h : am_H) (l : am_L), 4 - d < N → d ≤ 4 → ly_hy m_tt ly_TH h → ly_fr cst [] h0 h → hp_a l 0 94 → hp_i l 1 hr → hp_i l 2 (bb_o f hr z.toNat d).1 → hp_i l 3 (bb_o f hr z.toNat d).2 → hp_i l 4 ((d : Int) + 1) → hp_F cst strs Φ D M 20 l [] h := by
  intro N
  induction N with
  | zero => intro d h l hN; omega
  | succ N ih =>
    intro d h l hN hd hy fr l0 l1 ln lu ld
    have ok := bb_o_ok (f := f) (z := z.toNat) (show 0 ≤ hr by omega) d
    obtain ⟨o1, o2, o3⟩ := ok
    by_cases e : d = 4
    · subst e
      exact po_4 c hM (by omega) hy hr _ _ r0 r1 o1 (by omega) (by omega) (by omega) l0 l1 ln lu ld (fun h' a ha u1 u2 u3 => k h' a ha u1 (ly_fr_tr fr u2))
    · refine po_3 c hM (by omega) hy hr _ _ ((d : Int) + 1) r0 r1 o1 (by omega) (by omega) (by omega) (by omega) (by omega) l0 l1 ln lu ld (fun l' h' u1 u2 u3 p0 p1 p2 p3 p4 p5 => ?_)
      have ej : (((d + 1 : Nat) : Int) + 1) = (d : Int) + 1 + 1 := by omega
      exact po_in (h0 := h0) c hM hD (d := (d : Int) + 1) (q := bb_o f hr z.toNat d) r0 r1 z0 z1 (by omega) (by omega) kz kf ⟨o1, o2, o3⟩ (fun h2 l2 w1 w2 t0 t1 t2 t3 t4 => ih (d + 1) h2 l2 (by omega) (by omega) w1 w2 t0 t1 t2 t3 (by rw [ej]; exact t4)) (z.toNat + 1) 0 h' l' (by omega) (by omega) u1 (ly_fr_tr fr u2) p0 p1 p2 p3 p4 p5
def bn_A (ok : Prop) (v a : Int) : Prop := (¬ ok → a = -2) ∧ (ok → a = v)
theorem pm_run {cst : am_K} {strs : List Nat} {D : Nat} {h : am_H} (c1 : hp_C cst strs D) (c : hp_C cst strs (D + 1)) (hD : (6 : Int) ≤ (D : Int) + 1) (hy : ly_hy m_tt ly_TH h) {xh : Int32} {hr z s : Int} {n f : Int → Int} (r0 : 1 ≤ hr) (r1 : hr ≤ 10) (z0 : 0 ≤ z) (z1 : z ≤ 5) (s0 : 0 ≤ s) (s1 : s ≤ 100) (kz : ly_hv cst h 14080 0 = some z) (ks : ly_hv cst h 7170 0 = some s) (kn : ∀ j, 0 ≤ j → j < z → ly_hv cst h 14336 j = some (n j) ∧ 0 ≤ n j ∧ n j < s ∧ ly_hv cst h 7424 (n j) = some 1 ∧ ly_hv cst h 45322 (n j) = some (f j) ∧ 1 ≤ f j ∧ f j ≤ 4) (eh : xh.toInt = hr) :
    ∃ r, am_Run cst m_cl m_tt m_P strs sx_bi (D + 1 + 1) 221 [.ref 71, .int xh, .ref 44] h r ∧ ∃ a : Int32, r.1 = some (.int a) ∧ r.2.2.1 = 0 ∧ r.2.2.2 = 0 ∧ ly_hy m_tt ly_TH r.2.1 ∧ ly_fr cst [14087, 14848, 15104, 15360] h r.2.1 ∧ a.toInt = (bb_o f hr z.toNat 4).1 := by
  obtain ⟨M, hM, hl⟩ := hp_M (mi := 221) (k := 3) (by decide +kernel)
  have ml : ∀ {a b : am_H}, ly_fr cst [] a b → ly_fr cst [14087, 14848, 15104, 15360] a b := fun f r i v _ e => f r i v rfl e
  have go : hp_F cst strs (fun r : am_Q => ∃ a : Int32, r.1 = some (.int a) ∧ r.2.2.1 = 0 ∧ r.2.2.2 = 0 ∧ ly_hy m_tt ly_TH r.2.1 ∧ ly_fr cst [14087, 14848, 15104, 15360] h r.2.1 ∧ a.toInt = (bb_o f hr z.toNat 4).1) (D + 1) M 0 (lv_args 0 [.ref 71, .int xh, .ref 44]) [] h := by
    refine pm_0 c hM (by omega) hy hr r0 r1 rfl ⟨xh, rfl, eh⟩ rfl (fun l1 h1 y1 f1 u1 u2 u3 o0 o1 => ?_)
    obtain ⟨r, hrun, x1, x2, x3, x4, x5, x6⟩ := pb_run (xh := y1) (hr := hr) (z := z) (s := s) (n := n) (f := f) c1 hD u1 r0 r1 z0 z1 s0 s1 (u2 _ _ _ rfl kz) (u2 _ _ _ rfl ks) (fun j j0 j1 => by
      obtain ⟨k1, k2, k3, k4, k5, k6⟩ := kn j j0 j1
      exact ⟨u2 _ _ _ rfl k1, k2, k3, u2 _ _ _ rfl k4, u2 _ _ _ rfl k5, k6⟩) f1
    refine hp_call (mi := 221) (pc := 3) (tg := 222) (na := 3) (c := 55) (ci := 8) (st0 := [.ref 44, .int y1, .ref 71]) (st := []) (av := [.int y1, .ref 44]) hM (by decide +kernel) u1 rfl rfl rfl (by decide) hrun x2 x3 ?_
    rw [x1]
    refine pm_1 c hM (by omega) x4 hr r0 r1 o0 o1 (fun l3 h3 w1 w2 w3 p0 p1 p2 p3 p4 => ?_)
    have f3 : ly_fr cst [14087, 14848, 15104, 15360] h h3 := ly_fr_tr (ml u2) (ly_fr_tr x5 (ml w2))
    exact pm_out (h0 := h3) (z := z) (f := f) c hM (by omega) r0 r1 z0 z1 (f3 _ _ _ rfl kz) (fun j j0 j1 => ⟨w2 _ _ _ rfl (x6 j j0 j1), (kn j j0 j1).2.2.2.2.2⟩) (fun h4 a ha t1 t2 => ⟨a, rfl, rfl, rfl, t1, ly_fr_tr f3 (ml t2), ha⟩) 5 0 h3 l3 (by omega) (by omega) w1 (ly_fr_rf h3) p0 p1 p2 p3 p4
  obtain ⟨n', r, hgo, a, r1', r2, r3, r4⟩ := go
  simp only [Nat.zero_add] at r2 r3
  exact ⟨r, Or.inr ⟨M, n', hM, hl, hgo⟩, a, r1', r2, r3, r4⟩
theorem pn_run {cst : am_K} {strs : List Nat} {D : Nat} {h : am_H} (c0 : hp_C cst strs D) (c1 : hp_C cst strs (D + 1)) (c : hp_C cst strs (D + 1 + 1)) (hD : (6 : Int) ≤ (D : Int) + 1) (hy : ly_hy m_tt ly_TH h) {xh : Int32} {z s : Int} {n f : Int → Int} (z0 : 0 ≤ z) (z1 : z ≤ 5) (s0 : 0 ≤ s) (s1 : s ≤ 100) (kz : ly_hv cst h 14080 0 = some z) (ks : ly_hv cst h 7170 0 = some s) (kn : ∀ j, 0 ≤ j → j < z → ly_hv cst h 14336 j = some (n j) ∧ 0 ≤ n j ∧ n j < s ∧ ly_hv cst h 7424 (n j) = some 1 ∧ ly_hv cst h 45322 (n j) = some (f j) ∧ 1 ≤ f j ∧ f j ≤ 4) :
    ∃ r, am_Run cst m_cl m_tt m_P strs sx_bi (D + 1 + 1 + 1) 230 [.ref 16, .int xh] h r ∧ ∃ a : Int32, r.1 = some (.int a) ∧ r.2.2.1 = 0 ∧ r.2.2.2 = 0 ∧ ly_hy m_tt ly_TH r.2.1 ∧ ly_fr cst [14087, 14848, 15104, 15360] h r.2.1 ∧ bn_A (1 ≤ xh.toInt ∧ xh.toInt ≤ 10) (bb_o f xh.toInt z.toNat 4).1 a.toInt := by
  obtain ⟨M, hM, hl⟩ := hp_M (mi := 230) (k := 2) (by decide +kernel)
  have b0 : -2147483648 ≤ xh.toInt := xh.le_toInt
  have b1 : xh.toInt ≤ 2147483647 := xh.toInt_le
  have ml : ∀ {a b : am_H}, ly_fr cst [] a b → ly_fr cst [14087, 14848, 15104, 15360] a b := fun f r i v _ e => f r i v rfl e
  have go : hp_F cst strs (fun r : am_Q => ∃ a : Int32, r.1 = some (.int a) ∧ r.2.2.1 = 0 ∧ r.2.2.2 = 0 ∧ ly_hy m_tt ly_TH r.2.1 ∧ ly_fr cst [14087, 14848, 15104, 15360] h r.2.1 ∧ bn_A (1 ≤ xh.toInt ∧ xh.toInt ≤ 10) (bb_o f xh.toInt z.toNat 4).1 a.toInt) (D + 1 + 1) M 0 (lv_args 0 [.ref 16, .int xh]) [] h := by
    have no : ¬ (1 ≤ xh.toInt ∧ xh.toInt ≤ 10) → ∀ (h' : am_H) (w : Int32), w.toInt = -2 → ly_hy m_tt ly_TH h' → ly_fr cst [] h h' → h.length ≤ h'.length → (fun r : am_Q => ∃ a : Int32, r.1 = some (.int a) ∧ r.2.2.1 = 0 ∧ r.2.2.2 = 0 ∧ ly_hy m_tt ly_TH r.2.1 ∧ ly_fr cst [14087, 14848, 15104, 15360] h r.2.1 ∧ bn_A (1 ≤ xh.toInt ∧ xh.toInt ≤ 10) (bb_o f xh.toInt z.toNat 4).1 a.toInt) (some (.int w), h', 0, 0) := fun nk h' w hw w1 w2 w3 => ⟨w, rfl, rfl, rfl, w1, ml w2, fun _ => hw, fun ok => absurd ok nk⟩
    by_cases q1 : xh.toInt ≤ 0
    · exact pn_0 c hM (by omega) hy xh.toInt b0 q1 rfl ⟨xh, rfl, rfl⟩ (no (fun k => by have := k.1; omega))
    by_cases q2 : 11 ≤ xh.toInt
    · exact pn_1 c hM (by omega) hy xh.toInt q2 b1 rfl ⟨xh, rfl, rfl⟩ (no (fun k => by have := k.2; omega))
    refine pn_2 c hM (by omega) hy xh.toInt (by omega) (by omega) rfl ⟨xh, rfl, rfl⟩ (fun l1 h1 y1 f1 u1 u2 u3 o0 => ?_)
    obtain ⟨r, hrun, a, x1, x2, x3, x4, x5, x6⟩ := pm_run (xh := y1) (hr := xh.toInt) (z := z) (s := s) (n := n) (f := f) c0 c1 hD u1 (by omega) (by omega) z0 z1 s0 s1 (u2 _ _ _ rfl kz) (u2 _ _ _ rfl ks) (fun j j0 j1 => by
      obtain ⟨k1, k2, k3, k4, k5, k6⟩ := kn j j0 j1
      exact ⟨u2 _ _ _ rfl k1, k2, k3, u2 _ _ _ rfl k4, u2 _ _ _ rfl k5, k6⟩) f1
    refine hp_call (mi := 230) (pc := 19) (tg := 221) (na := 3) (c := 55) (ci := 8) (st0 := [.ref 44, .int y1, .ref 71]) (st := []) (av := [.int y1, .ref 44]) hM (by decide +kernel) u1 rfl rfl rfl (by decide) hrun x2 x3 ?_
    rw [x1]
    exact pn_3 c hM (by omega) x4 a.toInt a rfl a.le_toInt a.toInt_le o0 (fun h4 w hw t1 t2 t3 => ⟨w, rfl, rfl, rfl, t1, ly_fr_tr (ml u2) (ly_fr_tr x5 (ml t2)), fun nk => absurd ⟨by omega, by omega⟩ nk, fun _ => hw.trans x6⟩)
  obtain ⟨n', r, hgo, a, r1', r2, r3, r4⟩ := go
  simp only [Nat.zero_add] at r2 r3
  exact ⟨r, Or.inr ⟨M, n', hM, hl, hgo⟩, a, r1', r2, r3, r4⟩
theorem po_run {cst : am_K} {strs : List Nat} {D : Nat} {h : am_H} (c : hp_C cst strs D) (hD : (4 : Int) ≤ (D : Int) + 1) (hy : ly_hy m_tt ly_TH h) {xh : Int32} {z : Int} {n f : Int → Int} (z0 : 0 ≤ z) (z1 : z ≤ 5) (kz : ly_hv cst h 20080 0 = some z) (kf : ∀ j, 0 ≤ j → j < z → ly_hv cst h 40960 j = some (n j) ∧ 0 ≤ n j ∧ n j ≤ 99 ∧ ly_hv cst h 32768 (n j) = some (f j) ∧ 1 ≤ f j ∧ f j ≤ 4) :
    ∃ r, am_Run cst m_cl m_tt m_P strs sx_bi (D + 1) 401 [.ref 94, .int xh] h r ∧ ∃ a : Int32, r.1 = some (.int a) ∧ r.2.2.1 = 0 ∧ r.2.2.2 = 0 ∧ ly_hy m_tt ly_TH r.2.1 ∧ ly_fr cst [] h r.2.1 ∧ bn_A (1 ≤ xh.toInt ∧ xh.toInt ≤ 10) (bb_o f xh.toInt z.toNat 4).1 a.toInt := by
  obtain ⟨M, hM, hl⟩ := hp_M (mi := 401) (k := 2) (by decide +kernel)
  have b0 : -2147483648 ≤ xh.toInt := xh.le_toInt
  have b1 : xh.toInt ≤ 2147483647 := xh.toInt_le
  have go : hp_F cst strs (fun r : am_Q => ∃ a : Int32, r.1 = some (.int a) ∧ r.2.2.1 = 0 ∧ r.2.2.2 = 0 ∧ ly_hy m_tt ly_TH r.2.1 ∧ ly_fr cst [] h r.2.1 ∧ bn_A (1 ≤ xh.toInt ∧ xh.toInt ≤ 10) (bb_o f xh.toInt z.toNat 4).1 a.toInt) D M 0 (lv_args 0 [.ref 94, .int xh]) [] h := by
    have no : ¬ (1 ≤ xh.toInt ∧ xh.toInt ≤ 10) → ∀ (h' : am_H) (w : Int32), w.toInt = -2 → ly_hy m_tt ly_TH h' → ly_fr cst [] h h' → h.length ≤ h'.length → (fun r : am_Q => ∃ a : Int32, r.1 = some (.int a) ∧ r.2.2.1 = 0 ∧ r.2.2.2 = 0 ∧ ly_hy m_tt ly_TH r.2.1 ∧ ly_fr cst [] h r.2.1 ∧ bn_A (1 ≤ xh.toInt ∧ xh.toInt ≤ 10) (bb_o f xh.toInt z.toNat 4).1 a.toInt) (some (.int w), h', 0, 0) := fun nk h' w hw w1 w2 w3 => ⟨w, rfl, rfl, rfl, w1, w2, fun _ => hw, fun ok => absurd ok nk⟩
    by_cases q1 : xh.toInt ≤ 0
    · exact po_0 c hM (by omega) hy xh.toInt b0 q1 rfl ⟨xh, rfl, rfl⟩ (no (fun k => by have := k.1; omega))
    by_cases q2 : 11 ≤ xh.toInt
    · exact po_1 c hM (by omega) hy xh.toInt q2 b1 rfl ⟨xh, rfl, rfl⟩ (no (fun k => by have := k.2; omega))
    refine po_2 c hM (by omega) hy xh.toInt (by omega) (by omega) rfl ⟨xh, rfl, rfl⟩ (fun l1 h1 u1 u2 u3 o0 o1 o2 o3 o4 => ?_)
    exact po_out (h0 := h) (z := z) (f := f) (n := n) c hM (by omega) (by omega) (by omega) z0 z1 kz kf (fun h4 a ha t1 t2 => ⟨a, rfl, rfl, rfl, t1, t2, fun nk => absurd ⟨by omega, by omega⟩ nk, fun _ => ha⟩) 5 0 h1 l1 (by omega) (by omega) u1 u2 o0 o1 o2 o3 o4
  obtain ⟨n', r, hgo, a, r1', r2, r3, r4⟩ := go
  simp only [Nat.zero_add] at r2 r3
  exact ⟨r, Or.inr ⟨M, n', hM, hl, hgo⟩, a, r1', r2, r3, r4⟩
theorem pq_run {cst : am_K} {strs : List Nat} {D : Nat} {h : am_H} (c : hp_C cst strs D) (hD : (4 : Int) ≤ (D : Int) + 1) (hy : ly_hy m_tt ly_TH h) :
    ∃ r, am_Run cst m_cl m_tt m_P strs sx_bi (D + 1) 214 [.ref 16] h r ∧ (fun r : am_Q => ∃ a : Int32, r.1 = some (.int a) ∧ r.2.2.1 = 0 ∧ r.2.2.2 = 0 ∧ ly_hy m_tt ly_TH r.2.1 ∧ ly_fr cst [14080, 14083] h r.2.1 ∧ (a.toInt = 1 ∧ ly_hv cst r.2.1 14080 0 = some 0)) r := by
  obtain ⟨M, hM, hl⟩ := hp_M (mi := 214) (k := 1) (by decide +kernel)
  obtain ⟨n', r, hgo, a, r1, r2, r3, r4⟩ := pq_0 (Φ := (fun r : am_Q => ∃ a : Int32, r.1 = some (.int a) ∧ r.2.2.1 = 0 ∧ r.2.2.2 = 0 ∧ ly_hy m_tt ly_TH r.2.1 ∧ ly_fr cst [14080, 14083] h r.2.1 ∧ (a.toInt = 1 ∧ ly_hv cst r.2.1 14080 0 = some 0))) (l := lv_args 0 [.ref 16]) c hM hD hy rfl (fun h' a ha u1 u2 u3 k1 => ⟨a, rfl, rfl, rfl, u1, u2, ha, k1⟩)
  simp only [Nat.zero_add] at r2 r3
  exact ⟨r, Or.inr ⟨M, n', hM, hl, hgo⟩, a, r1, r2, r3, r4⟩
theorem pr_run {cst : am_K} {strs : List Nat} {D : Nat} {h : am_H} (c : hp_C cst strs D) (hD : (4 : Int) ≤ (D : Int) + 1) (hy : ly_hy m_tt ly_TH h) :
    ∃ r, am_Run cst m_cl m_tt m_P strs sx_bi (D + 1) 391 [.ref 94] h r ∧ (fun r : am_Q => ∃ a : Int32, r.1 = some (.int a) ∧ r.2.2.1 = 0 ∧ r.2.2.2 = 0 ∧ ly_hy m_tt ly_TH r.2.1 ∧ ly_fr cst [20080, 41216] h r.2.1 ∧ (a.toInt = 1 ∧ ly_hv cst r.2.1 20080 0 = some 0)) r := by
  obtain ⟨M, hM, hl⟩ := hp_M (mi := 391) (k := 1) (by decide +kernel)
  obtain ⟨n', r, hgo, a, r1, r2, r3, r4⟩ := pr_0 (Φ := (fun r : am_Q => ∃ a : Int32, r.1 = some (.int a) ∧ r.2.2.1 = 0 ∧ r.2.2.2 = 0 ∧ ly_hy m_tt ly_TH r.2.1 ∧ ly_fr cst [20080, 41216] h r.2.1 ∧ (a.toInt = 1 ∧ ly_hv cst r.2.1 20080 0 = some 0))) (l := lv_args 0 [.ref 94]) c hM hD hy rfl (fun h' a ha u1 u2 u3 k1 => ⟨a, rfl, rfl, rfl, u1, u2, ha, k1⟩)
  simp only [Nat.zero_add] at r2 r3
  exact ⟨r, Or.inr ⟨M, n', hM, hl, hgo⟩, a, r1, r2, r3, r4⟩
/-- the numbers put in are below the number of matters -/
def pt_H (cst : am_K) (h : am_H) : Prop := ∃ z s, ly_hv cst h 14080 0 = some z ∧ ly_hv cst h 7170 0 = some s ∧ ∀ j, 0 ≤ j → j < z → ∃ m, ly_hv cst h 14336 j = some m ∧ 0 ≤ m ∧ m < s
theorem pt_mv {cst : am_K} {ms : List Nat} {h h' : am_H} (I : pt_H cst h) (f : ly_fr cst ms h h') (q : [14080, 7170, 14336].all (fun x => !ly_has x ms) = true) : pt_H cst h' := by
  simp only [List.all_cons, List.all_nil, Bool.and_true, Bool.and_eq_true, Bool.not_eq_true'] at q
  obtain ⟨z, s, k1, k2, k3⟩ := I
  refine ⟨z, s, f _ _ _ q.1 k1, f _ _ _ q.2.1 k2, fun j j0 j1 => ?_⟩
  obtain ⟨m, e1, e2⟩ := k3 j j0 j1
  exact ⟨m, f _ _ _ q.2.2 e1, e2⟩
theorem pt_of {cst : am_K} {h : am_H} {z s : Int} (I : pt_H cst h) (kz : ly_hv cst h 14080 0 = some z) (ks : ly_hv cst h 7170 0 = some s) : ∀ j, 0 ≤ j → j < z → ∃ m, ly_hv cst h 14336 j = some m ∧ 0 ≤ m ∧ m < s := by
  obtain ⟨z', s', k1, k2, k3⟩ := I
  rw [kz] at k1
  rw [ks] at k2
  cases k1
  cases k2
  exact k3
theorem pu_q {m s : Int} {K : Nat} (m0 : 0 ≤ m) (m1 : m < s) : ∀ (k : Nat) (f : Int → Option Int), k ≤ K → (∀ j, 0 ≤ j → j ≤ (K : Int) → j ≠ (k : Int) → ∃ v, f j = some v ∧ 0 ≤ v ∧ v < s) → ∀ j, 0 ≤ j → j ≤ (K : Int) → ∃ v, pu_i m k f j = some v ∧ 0 ≤ v ∧ v < s
  | 0, f, hk, H, j, j0, j1 => by
    show ∃ v, hp_upd f 0 m j = some v ∧ 0 ≤ v ∧ v < s
    unfold hp_upd
    by_cases e : j = 0
    · rw [if_pos e]; exact ⟨m, rfl, m0, m1⟩
    · rw [if_neg e]; exact H j j0 j1 e
  | i + 1, f, hk, H, j, j0, j1 => by
    have fill : ∃ v, hp_upd f ((i + 1 : Nat) : Int) m j = some v ∧ 0 ≤ v ∧ v < s := by
      unfold hp_upd
      by_cases e : j = ((i + 1 : Nat) : Int)
      · rw [if_pos e]; exact ⟨m, rfl, m0, m1⟩
      · rw [if_neg e]; exact H j j0 j1 e
    show ∃ v, (match f (i : Int) with
      | some x => if m < x then pu_i m i (hp_upd f ((i + 1 : Nat) : Int) x) else hp_upd f ((i + 1 : Nat) : Int) m
      | none => hp_upd f ((i + 1 : Nat) : Int) m) j = some v ∧ 0 ≤ v ∧ v < s
    cases hx : f (i : Int) with
    | none => exact fill
    | some x =>
      show ∃ v, (if m < x then pu_i m i (hp_upd f ((i + 1 : Nat) : Int) x) else hp_upd f ((i + 1 : Nat) : Int) m) j = some v ∧ 0 ≤ v ∧ v < s
      by_cases q : m < x
      · rw [if_pos q]
        refine pu_q m0 m1 i _ (by omega) (fun t t0 t1 tn => ?_) j j0 j1
        unfold hp_upd
        by_cases e : t = ((i + 1 : Nat) : Int)
        · rw [if_pos e]
          obtain ⟨v, hv, v0, v1⟩ := H (i : Int) (by omega) (by omega) (by omega)
          rw [hx] at hv
          exact ⟨x, rfl, by rw [Option.some.inj hv]; exact v0, by rw [Option.some.inj hv]; exact v1⟩
        · rw [if_neg e]; exact H t t0 t1 e
      · rw [if_neg q]; exact fill
theorem pt_put {cst : am_K} {h1 q1 : am_H} {s z m : Int} (z0 : 0 ≤ z) (C : pu_E cst h1 q1 14080 14336 s z m) (I : ∀ j, 0 ≤ j → j < z → ∃ m, ly_hv cst h1 14336 j = some m ∧ 0 ≤ m ∧ m < s) (ks : ly_hv cst q1 7170 0 = some s) : pt_H cst q1 := by
  by_cases g : pu_G (ly_hv cst h1 14336) s z m
  · obtain ⟨c1, c2⟩ := C.1 g
    refine ⟨z + 1, s, c1, ks, fun j j0 j1 => ?_⟩
    rw [c2]
    exact pu_q (K := z.toNat) g.1.1 g.1.2 z.toNat _ (Nat.le_refl _) (fun t t0 t1 tn => I t t0 (by omega)) j j0 (by omega)
  · obtain ⟨c1, c2⟩ := C.2 g
    refine ⟨z, s, c1, ks, ?_⟩
    rw [c2]
    exact I
theorem pt_new {cst : am_K} {h q1 : am_H} {g : Prop} {s z : Int} (s0 : 0 ≤ s) (I : pt_H cst h) (kz : ly_hv cst h 14080 0 = some z) (ks : ly_hv cst h 7170 0 = some s) (f : ∀ r i v, ly_has r bg_mc = false → ly_hv cst h r i = some v → ly_hv cst q1 r i = some v) (C : bg_C cst q1 g s) : pt_H cst q1 := by
  have o := pt_of I kz ks
  by_cases y : g
  · refine ⟨z, s + 1, f _ _ _ rfl kz, (C.1 y).1, fun j j0 j1 => ?_⟩
    obtain ⟨m, e1, e2, e3⟩ := o j j0 j1
    exact ⟨m, f _ _ _ rfl e1, e2, by omega⟩
  · refine ⟨z, s, f _ _ _ rfl kz, (C.2 y).1, fun j j0 j1 => ?_⟩
    obtain ⟨m, e1, e2⟩ := o j j0 j1
    exact ⟨m, f _ _ _ rfl e1, e2⟩
/-- number and hours of what is put in -/
theorem pt_fn {cst : am_K} {h1 h2 : am_H} {z s : Int} (I : ∀ j, 0 ≤ j → j < z → ∃ m, ly_hv cst h1 14336 j = some m ∧ 0 ≤ m ∧ m < s) (o : ∀ j, 0 ≤ j → j < s → ∃ v, ly_hv cst h1 45322 j = some v ∧ ly_hv cst h2 32768 j = some v ∧ 1 ≤ v ∧ v ≤ 4) : ∃ n f : Int → Int, ∀ j, 0 ≤ j → j < z → ly_hv cst h1 14336 j = some (n j) ∧ 0 ≤ n j ∧ n j < s ∧ ly_hv cst h1 45322 (n j) = some (f j) ∧ ly_hv cst h2 32768 (n j) = some (f j) ∧ 1 ≤ f j ∧ f j ≤ 4 := by
  refine ⟨fun j => (ly_hv cst h1 14336 j).getD 0, fun j => (ly_hv cst h1 45322 ((ly_hv cst h1 14336 j).getD 0)).getD 0, fun j j0 j1 => ?_⟩
  obtain ⟨m, e1, e2, e3⟩ := I j j0 j1
  obtain ⟨v, k1, k2, k3, k4⟩ := o m e2 e3
  have en : (ly_hv cst h1 14336 j).getD 0 = m := by rw [e1]; rfl
  have ef : (ly_hv cst h1 45322 ((ly_hv cst h1 14336 j).getD 0)).getD 0 = v := by rw [en, k1]; rfl
  simp only [en] at ef ⊢
  rw [ef]
  exact ⟨e1, e2, e3, k1, k2, k3, k4⟩
