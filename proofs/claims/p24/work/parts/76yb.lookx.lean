/-! PRINTED by wip/p2/hp_look.py: look, fail, draftItem, draftClause, draftHas of the class, exactly -/
theorem lk0_k : hq_chk [79, 80, 81] 78 0 2 [(0, 0, 1200), (1, 0, 1200)] [(0, [(0, 1), (1, (-1))])] [(0, .inr (.inr (.inl (some 40)))), (1, .inl (0, [(0, 1)]))] [] [(261, (0, []), (0, [(1, 1)])), (6912, (0, []), (498, [])), (6912, (1, []), (1476, [])), (6912, (2, []), (14836, [])), (6912, (3, []), (719722099, [])), (6912, (4, []), (1130181, [])), (6912, (5, []), (2273783, [])), (6912, (6, []), (307, []))] [6154, 6155, 6156, 6157] 4 [] [([], 2, [(0, 0, 1200), (1, 0, 1200)], [], [], [], [(6154, (0, []), (0, [(0, 1)])), (6155, (0, []), (0, [])), (6156, (0, []), (0, [])), (6157, (0, []), ((-1), []))])] = true := by decide +kernel
theorem lk0 {cst : am_K} {strs : List Nat} {Φ : am_Q → Prop} {D : Nat} {M : am_M} {h : am_H} {l : am_L} (c : hp_C cst strs D) (hM : m_P[78]? = some M) (hD : (4 : Int) ≤ (D : Int) + 1) (hy : ly_hy m_tt ly_TH h) (b t : Int) (b0 : 0 ≤ b) (t0 : b ≤ 1200) (b1 : 0 ≤ t) (t1 : t ≤ 1200) (f0 : 0 ≤ (b - t)) (k0 : ly_hv cst h 261 0 = some (t)) (k1 : ly_hv cst h 6912 0 = some 498) (k2 : ly_hv cst h 6912 1 = some 1476) (k3 : ly_hv cst h 6912 2 = some 14836) (k4 : ly_hv cst h 6912 3 = some 719722099) (k5 : ly_hv cst h 6912 4 = some 1130181) (k6 : ly_hv cst h 6912 5 = some 2273783) (k7 : ly_hv cst h 6912 6 = some 307) (l0 : hp_a l 0 40) (l1 : hp_i l 1 (b)) (r0 : ∀ (h' : am_H), ly_hy m_tt ly_TH h' → ly_fr cst [6154, 6155, 6156, 6157] h h' → h.length ≤ h'.length → ly_hv cst h' 6154 0 = some (b) → ly_hv cst h' 6155 0 = some 0 → ly_hv cst h' 6156 0 = some 0 → ly_hv cst h' 6157 0 = some (-1) → Φ (none, h', 0, 0)) : hp_F cst strs Φ D M 0 l [] h := by
  refine hq_arc c hM lk0_k hD [b, t] rfl hy (hp_Bc (z := b) rfl b0 t0 (hp_Bc (z := t) rfl b1 t1 hp_Bn)) (hp_Fc (z := (0 + (1 * b + ((-1) * t + 0)))) rfl (by omega) hp_Fn) (hp_Kc (zi := (0 + 0)) (zv := (0 + (1 * t + 0))) k0 rfl rfl (by omega) (by omega) (hp_Kc (zi := (0 + 0)) (zv := (498 + 0)) k1 rfl rfl (by omega) (by omega) (hp_Kc (zi := (1 + 0)) (zv := (1476 + 0)) k2 rfl rfl (by omega) (by omega) (hp_Kc (zi := (2 + 0)) (zv := (14836 + 0)) k3 rfl rfl (by omega) (by omega) (hp_Kc (zi := (3 + 0)) (zv := (719722099 + 0)) k4 rfl rfl (by omega) (by omega) (hp_Kc (zi := (4 + 0)) (zv := (1130181 + 0)) k5 rfl rfl (by omega) (by omega) (hp_Kc (zi := (5 + 0)) (zv := (2273783 + 0)) k6 rfl rfl (by omega) (by omega) (hp_Kc (zi := (6 + 0)) (zv := (307 + 0)) k7 rfl rfl (by omega) (by omega) hp_Kn)))))))) (hp_La l0 (hp_Li (z := (0 + (1 * b + 0))) l1 rfl (by omega) hp_Ln)) trivial ?_ ?_
  · intro p hp ys l' st' h' hys a1 a2 a3 gZ gL gS
    cases hp
  · intro p hp ys v h' hys a1 a2 a3 gZ gS
    rcases List.mem_cons.mp hp with rfl | hp
    · obtain rfl := hp_y0 hys
      have sv := hp_gSn gS
      cases v with
      | some w => cases sv
      | none =>
        exact r0 h' a1 a2 a3 (hp_gK (zi := (0 + 0)) (zv := (0 + (1 * b + 0))) gZ.2.2.2 (List.mem_of_getElem? (i := 0) rfl) rfl rfl (by omega) (by omega)) (hp_gK (zi := (0 + 0)) (zv := (0 + 0)) gZ.2.2.2 (List.mem_of_getElem? (i := 1) rfl) rfl rfl (by omega) (by omega)) (hp_gK (zi := (0 + 0)) (zv := (0 + 0)) gZ.2.2.2 (List.mem_of_getElem? (i := 2) rfl) rfl rfl (by omega) (by omega)) (hp_gK (zi := (0 + 0)) (zv := ((-1) + 0)) gZ.2.2.2 (List.mem_of_getElem? (i := 3) rfl) rfl rfl (by omega) (by omega))
    cases hp
theorem lk1_k : hq_chk [79, 80, 81] 78 0 3 [(0, 0, 1200), (1, 0, 1200), (2, 2, 255)] [((-1), [(0, (-1)), (1, 1)])] [(0, .inr (.inr (.inl (some 40)))), (1, .inl (0, [(0, 1)]))] [] [(261, (0, []), (0, [(1, 1)])), (768, (0, [(0, 1)]), (0, [(2, 1)])), (6912, (0, []), (498, [])), (6912, (1, []), (1476, [])), (6912, (2, []), (14836, [])), (6912, (3, []), (719722099, [])), (6912, (4, []), (1130181, [])), (6912, (5, []), (2273783, [])), (6912, (6, []), (307, []))] [6154, 6155, 6156, 6157] 4 [] [([], 3, [(0, 0, 1200), (1, 0, 1200), (2, 2, 255)], [], [], [], [(6154, (0, []), (0, [(0, 1)])), (6155, (0, []), (0, [(2, 1)])), (6156, (0, []), (0, [])), (6157, (0, []), ((-1), []))])] = true := by decide +kernel
theorem lk1 {cst : am_K} {strs : List Nat} {Φ : am_Q → Prop} {D : Nat} {M : am_M} {h : am_H} {l : am_L} (c : hp_C cst strs D) (hM : m_P[78]? = some M) (hD : (4 : Int) ≤ (D : Int) + 1) (hy : ly_hy m_tt ly_TH h) (b t q : Int) (b0 : 0 ≤ b) (t0 : b ≤ 1200) (b1 : 0 ≤ t) (t1 : t ≤ 1200) (b2 : 2 ≤ q) (t2 : q ≤ 255) (f0 : 0 ≤ (t - b - 1)) (k0 : ly_hv cst h 261 0 = some (t)) (k1 : ly_hv cst h 768 (b) = some (q)) (k2 : ly_hv cst h 6912 0 = some 498) (k3 : ly_hv cst h 6912 1 = some 1476) (k4 : ly_hv cst h 6912 2 = some 14836) (k5 : ly_hv cst h 6912 3 = some 719722099) (k6 : ly_hv cst h 6912 4 = some 1130181) (k7 : ly_hv cst h 6912 5 = some 2273783) (k8 : ly_hv cst h 6912 6 = some 307) (l0 : hp_a l 0 40) (l1 : hp_i l 1 (b)) (r0 : ∀ (h' : am_H), ly_hy m_tt ly_TH h' → ly_fr cst [6154, 6155, 6156, 6157] h h' → h.length ≤ h'.length → ly_hv cst h' 6154 0 = some (b) → ly_hv cst h' 6155 0 = some (q) → ly_hv cst h' 6156 0 = some 0 → ly_hv cst h' 6157 0 = some (-1) → Φ (none, h', 0, 0)) : hp_F cst strs Φ D M 0 l [] h := by
  refine hq_arc c hM lk1_k hD [b, t, q] rfl hy (hp_Bc (z := b) rfl b0 t0 (hp_Bc (z := t) rfl b1 t1 (hp_Bc (z := q) rfl b2 t2 hp_Bn))) (hp_Fc (z := ((-1) + ((-1) * b + (1 * t + 0)))) rfl (by omega) hp_Fn) (hp_Kc (zi := (0 + 0)) (zv := (0 + (1 * t + 0))) k0 rfl rfl (by omega) (by omega) (hp_Kc (zi := (0 + (1 * b + 0))) (zv := (0 + (1 * q + 0))) k1 rfl rfl (by omega) (by omega) (hp_Kc (zi := (0 + 0)) (zv := (498 + 0)) k2 rfl rfl (by omega) (by omega) (hp_Kc (zi := (1 + 0)) (zv := (1476 + 0)) k3 rfl rfl (by omega) (by omega) (hp_Kc (zi := (2 + 0)) (zv := (14836 + 0)) k4 rfl rfl (by omega) (by omega) (hp_Kc (zi := (3 + 0)) (zv := (719722099 + 0)) k5 rfl rfl (by omega) (by omega) (hp_Kc (zi := (4 + 0)) (zv := (1130181 + 0)) k6 rfl rfl (by omega) (by omega) (hp_Kc (zi := (5 + 0)) (zv := (2273783 + 0)) k7 rfl rfl (by omega) (by omega) (hp_Kc (zi := (6 + 0)) (zv := (307 + 0)) k8 rfl rfl (by omega) (by omega) hp_Kn))))))))) (hp_La l0 (hp_Li (z := (0 + (1 * b + 0))) l1 rfl (by omega) hp_Ln)) trivial ?_ ?_
  · intro p hp ys l' st' h' hys a1 a2 a3 gZ gL gS
    cases hp
  · intro p hp ys v h' hys a1 a2 a3 gZ gS
    rcases List.mem_cons.mp hp with rfl | hp
    · obtain rfl := hp_y0 hys
      have sv := hp_gSn gS
      cases v with
      | some w => cases sv
      | none =>
        exact r0 h' a1 a2 a3 (hp_gK (zi := (0 + 0)) (zv := (0 + (1 * b + 0))) gZ.2.2.2 (List.mem_of_getElem? (i := 0) rfl) rfl rfl (by omega) (by omega)) (hp_gK (zi := (0 + 0)) (zv := (0 + (1 * q + 0))) gZ.2.2.2 (List.mem_of_getElem? (i := 1) rfl) rfl rfl (by omega) (by omega)) (hp_gK (zi := (0 + 0)) (zv := (0 + 0)) gZ.2.2.2 (List.mem_of_getElem? (i := 2) rfl) rfl rfl (by omega) (by omega)) (hp_gK (zi := (0 + 0)) (zv := ((-1) + 0)) gZ.2.2.2 (List.mem_of_getElem? (i := 3) rfl) rfl rfl (by omega) (by omega))
    cases hp
theorem lkW0_k : hq_chk [79, 80, 81] 78 0 2 [(0, 0, 1200), (1, 0, 1200)] [((-1), [(0, (-1)), (1, 1)])] [(0, .inr (.inr (.inl (some 40)))), (1, .inl (0, [(0, 1)]))] [] [(261, (0, []), (0, [(1, 1)])), (768, (0, [(0, 1)]), (1, [])), (1280, (0, [(0, 1)]), (498, [])), (6912, (0, []), (498, [])), (6912, (1, []), (1476, [])), (6912, (2, []), (14836, [])), (6912, (3, []), (719722099, [])), (6912, (4, []), (1130181, [])), (6912, (5, []), (2273783, [])), (6912, (6, []), (307, []))] [6154, 6155, 6156, 6157] 4 [] [([], 2, [(0, 0, 1200), (1, 0, 1200)], [], [], [], [(6154, (0, []), (0, [(0, 1)])), (6155, (0, []), (1, [])), (6156, (0, []), (498, [])), (6157, (0, []), (0, []))])] = true := by decide +kernel
theorem lkW0 {cst : am_K} {strs : List Nat} {Φ : am_Q → Prop} {D : Nat} {M : am_M} {h : am_H} {l : am_L} (c : hp_C cst strs D) (hM : m_P[78]? = some M) (hD : (4 : Int) ≤ (D : Int) + 1) (hy : ly_hy m_tt ly_TH h) (b t : Int) (b0 : 0 ≤ b) (t0 : b ≤ 1200) (b1 : 0 ≤ t) (t1 : t ≤ 1200) (f0 : 0 ≤ (t - b - 1)) (k0 : ly_hv cst h 261 0 = some (t)) (k1 : ly_hv cst h 768 (b) = some 1) (k2 : ly_hv cst h 1280 (b) = some 498) (k3 : ly_hv cst h 6912 0 = some 498) (k4 : ly_hv cst h 6912 1 = some 1476) (k5 : ly_hv cst h 6912 2 = some 14836) (k6 : ly_hv cst h 6912 3 = some 719722099) (k7 : ly_hv cst h 6912 4 = some 1130181) (k8 : ly_hv cst h 6912 5 = some 2273783) (k9 : ly_hv cst h 6912 6 = some 307) (l0 : hp_a l 0 40) (l1 : hp_i l 1 (b)) (r0 : ∀ (h' : am_H), ly_hy m_tt ly_TH h' → ly_fr cst [6154, 6155, 6156, 6157] h h' → h.length ≤ h'.length → ly_hv cst h' 6154 0 = some (b) → ly_hv cst h' 6155 0 = some 1 → ly_hv cst h' 6156 0 = some 498 → ly_hv cst h' 6157 0 = some 0 → Φ (none, h', 0, 0)) : hp_F cst strs Φ D M 0 l [] h := by
  refine hq_arc c hM lkW0_k hD [b, t] rfl hy (hp_Bc (z := b) rfl b0 t0 (hp_Bc (z := t) rfl b1 t1 hp_Bn)) (hp_Fc (z := ((-1) + ((-1) * b + (1 * t + 0)))) rfl (by omega) hp_Fn) (hp_Kc (zi := (0 + 0)) (zv := (0 + (1 * t + 0))) k0 rfl rfl (by omega) (by omega) (hp_Kc (zi := (0 + (1 * b + 0))) (zv := (1 + 0)) k1 rfl rfl (by omega) (by omega) (hp_Kc (zi := (0 + (1 * b + 0))) (zv := (498 + 0)) k2 rfl rfl (by omega) (by omega) (hp_Kc (zi := (0 + 0)) (zv := (498 + 0)) k3 rfl rfl (by omega) (by omega) (hp_Kc (zi := (1 + 0)) (zv := (1476 + 0)) k4 rfl rfl (by omega) (by omega) (hp_Kc (zi := (2 + 0)) (zv := (14836 + 0)) k5 rfl rfl (by omega) (by omega) (hp_Kc (zi := (3 + 0)) (zv := (719722099 + 0)) k6 rfl rfl (by omega) (by omega) (hp_Kc (zi := (4 + 0)) (zv := (1130181 + 0)) k7 rfl rfl (by omega) (by omega) (hp_Kc (zi := (5 + 0)) (zv := (2273783 + 0)) k8 rfl rfl (by omega) (by omega) (hp_Kc (zi := (6 + 0)) (zv := (307 + 0)) k9 rfl rfl (by omega) (by omega) hp_Kn)))))))))) (hp_La l0 (hp_Li (z := (0 + (1 * b + 0))) l1 rfl (by omega) hp_Ln)) trivial ?_ ?_
  · intro p hp ys l' st' h' hys a1 a2 a3 gZ gL gS
    cases hp
  · intro p hp ys v h' hys a1 a2 a3 gZ gS
    rcases List.mem_cons.mp hp with rfl | hp
    · obtain rfl := hp_y0 hys
      have sv := hp_gSn gS
      cases v with
      | some w => cases sv
      | none =>
        exact r0 h' a1 a2 a3 (hp_gK (zi := (0 + 0)) (zv := (0 + (1 * b + 0))) gZ.2.2.2 (List.mem_of_getElem? (i := 0) rfl) rfl rfl (by omega) (by omega)) (hp_gK (zi := (0 + 0)) (zv := (1 + 0)) gZ.2.2.2 (List.mem_of_getElem? (i := 1) rfl) rfl rfl (by omega) (by omega)) (hp_gK (zi := (0 + 0)) (zv := (498 + 0)) gZ.2.2.2 (List.mem_of_getElem? (i := 2) rfl) rfl rfl (by omega) (by omega)) (hp_gK (zi := (0 + 0)) (zv := (0 + 0)) gZ.2.2.2 (List.mem_of_getElem? (i := 3) rfl) rfl rfl (by omega) (by omega))
    cases hp
theorem lkW1_k : hq_chk [79, 80, 81] 78 0 2 [(0, 0, 1200), (1, 0, 1200)] [((-1), [(0, (-1)), (1, 1)])] [(0, .inr (.inr (.inl (some 40)))), (1, .inl (0, [(0, 1)]))] [] [(261, (0, []), (0, [(1, 1)])), (768, (0, [(0, 1)]), (1, [])), (1280, (0, [(0, 1)]), (1476, [])), (6912, (0, []), (498, [])), (6912, (1, []), (1476, [])), (6912, (2, []), (14836, [])), (6912, (3, []), (719722099, [])), (6912, (4, []), (1130181, [])), (6912, (5, []), (2273783, [])), (6912, (6, []), (307, []))] [6154, 6155, 6156, 6157] 4 [] [([], 2, [(0, 0, 1200), (1, 0, 1200)], [], [], [], [(6154, (0, []), (0, [(0, 1)])), (6155, (0, []), (1, [])), (6156, (0, []), (1476, [])), (6157, (0, []), (1, []))])] = true := by decide +kernel
theorem lkW1 {cst : am_K} {strs : List Nat} {Φ : am_Q → Prop} {D : Nat} {M : am_M} {h : am_H} {l : am_L} (c : hp_C cst strs D) (hM : m_P[78]? = some M) (hD : (4 : Int) ≤ (D : Int) + 1) (hy : ly_hy m_tt ly_TH h) (b t : Int) (b0 : 0 ≤ b) (t0 : b ≤ 1200) (b1 : 0 ≤ t) (t1 : t ≤ 1200) (f0 : 0 ≤ (t - b - 1)) (k0 : ly_hv cst h 261 0 = some (t)) (k1 : ly_hv cst h 768 (b) = some 1) (k2 : ly_hv cst h 1280 (b) = some 1476) (k3 : ly_hv cst h 6912 0 = some 498) (k4 : ly_hv cst h 6912 1 = some 1476) (k5 : ly_hv cst h 6912 2 = some 14836) (k6 : ly_hv cst h 6912 3 = some 719722099) (k7 : ly_hv cst h 6912 4 = some 1130181) (k8 : ly_hv cst h 6912 5 = some 2273783) (k9 : ly_hv cst h 6912 6 = some 307) (l0 : hp_a l 0 40) (l1 : hp_i l 1 (b)) (r0 : ∀ (h' : am_H), ly_hy m_tt ly_TH h' → ly_fr cst [6154, 6155, 6156, 6157] h h' → h.length ≤ h'.length → ly_hv cst h' 6154 0 = some (b) → ly_hv cst h' 6155 0 = some 1 → ly_hv cst h' 6156 0 = some 1476 → ly_hv cst h' 6157 0 = some 1 → Φ (none, h', 0, 0)) : hp_F cst strs Φ D M 0 l [] h := by
  refine hq_arc c hM lkW1_k hD [b, t] rfl hy (hp_Bc (z := b) rfl b0 t0 (hp_Bc (z := t) rfl b1 t1 hp_Bn)) (hp_Fc (z := ((-1) + ((-1) * b + (1 * t + 0)))) rfl (by omega) hp_Fn) (hp_Kc (zi := (0 + 0)) (zv := (0 + (1 * t + 0))) k0 rfl rfl (by omega) (by omega) (hp_Kc (zi := (0 + (1 * b + 0))) (zv := (1 + 0)) k1 rfl rfl (by omega) (by omega) (hp_Kc (zi := (0 + (1 * b + 0))) (zv := (1476 + 0)) k2 rfl rfl (by omega) (by omega) (hp_Kc (zi := (0 + 0)) (zv := (498 + 0)) k3 rfl rfl (by omega) (by omega) (hp_Kc (zi := (1 + 0)) (zv := (1476 + 0)) k4 rfl rfl (by omega) (by omega) (hp_Kc (zi := (2 + 0)) (zv := (14836 + 0)) k5 rfl rfl (by omega) (by omega) (hp_Kc (zi := (3 + 0)) (zv := (719722099 + 0)) k6 rfl rfl (by omega) (by omega) (hp_Kc (zi := (4 + 0)) (zv := (1130181 + 0)) k7 rfl rfl (by omega) (by omega) (hp_Kc (zi := (5 + 0)) (zv := (2273783 + 0)) k8 rfl rfl (by omega) (by omega) (hp_Kc (zi := (6 + 0)) (zv := (307 + 0)) k9 rfl rfl (by omega) (by omega) hp_Kn)))))))))) (hp_La l0 (hp_Li (z := (0 + (1 * b + 0))) l1 rfl (by omega) hp_Ln)) trivial ?_ ?_
  · intro p hp ys l' st' h' hys a1 a2 a3 gZ gL gS
    cases hp
  · intro p hp ys v h' hys a1 a2 a3 gZ gS
    rcases List.mem_cons.mp hp with rfl | hp
    · obtain rfl := hp_y0 hys
      have sv := hp_gSn gS
      cases v with
      | some w => cases sv
      | none =>
        exact r0 h' a1 a2 a3 (hp_gK (zi := (0 + 0)) (zv := (0 + (1 * b + 0))) gZ.2.2.2 (List.mem_of_getElem? (i := 0) rfl) rfl rfl (by omega) (by omega)) (hp_gK (zi := (0 + 0)) (zv := (1 + 0)) gZ.2.2.2 (List.mem_of_getElem? (i := 1) rfl) rfl rfl (by omega) (by omega)) (hp_gK (zi := (0 + 0)) (zv := (1476 + 0)) gZ.2.2.2 (List.mem_of_getElem? (i := 2) rfl) rfl rfl (by omega) (by omega)) (hp_gK (zi := (0 + 0)) (zv := (1 + 0)) gZ.2.2.2 (List.mem_of_getElem? (i := 3) rfl) rfl rfl (by omega) (by omega))
    cases hp
theorem lkW2_k : hq_chk [79, 80, 81] 78 0 2 [(0, 0, 1200), (1, 0, 1200)] [((-1), [(0, (-1)), (1, 1)])] [(0, .inr (.inr (.inl (some 40)))), (1, .inl (0, [(0, 1)]))] [] [(261, (0, []), (0, [(1, 1)])), (768, (0, [(0, 1)]), (1, [])), (1280, (0, [(0, 1)]), (14836, [])), (6912, (0, []), (498, [])), (6912, (1, []), (1476, [])), (6912, (2, []), (14836, [])), (6912, (3, []), (719722099, [])), (6912, (4, []), (1130181, [])), (6912, (5, []), (2273783, [])), (6912, (6, []), (307, []))] [6154, 6155, 6156, 6157] 4 [] [([], 2, [(0, 0, 1200), (1, 0, 1200)], [], [], [], [(6154, (0, []), (0, [(0, 1)])), (6155, (0, []), (1, [])), (6156, (0, []), (14836, [])), (6157, (0, []), (2, []))])] = true := by decide +kernel
theorem lkW2 {cst : am_K} {strs : List Nat} {Φ : am_Q → Prop} {D : Nat} {M : am_M} {h : am_H} {l : am_L} (c : hp_C cst strs D) (hM : m_P[78]? = some M) (hD : (4 : Int) ≤ (D : Int) + 1) (hy : ly_hy m_tt ly_TH h) (b t : Int) (b0 : 0 ≤ b) (t0 : b ≤ 1200) (b1 : 0 ≤ t) (t1 : t ≤ 1200) (f0 : 0 ≤ (t - b - 1)) (k0 : ly_hv cst h 261 0 = some (t)) (k1 : ly_hv cst h 768 (b) = some 1) (k2 : ly_hv cst h 1280 (b) = some 14836) (k3 : ly_hv cst h 6912 0 = some 498) (k4 : ly_hv cst h 6912 1 = some 1476) (k5 : ly_hv cst h 6912 2 = some 14836) (k6 : ly_hv cst h 6912 3 = some 719722099) (k7 : ly_hv cst h 6912 4 = some 1130181) (k8 : ly_hv cst h 6912 5 = some 2273783) (k9 : ly_hv cst h 6912 6 = some 307) (l0 : hp_a l 0 40) (l1 : hp_i l 1 (b)) (r0 : ∀ (h' : am_H), ly_hy m_tt ly_TH h' → ly_fr cst [6154, 6155, 6156, 6157] h h' → h.length ≤ h'.length → ly_hv cst h' 6154 0 = some (b) → ly_hv cst h' 6155 0 = some 1 → ly_hv cst h' 6156 0 = some 14836 → ly_hv cst h' 6157 0 = some 2 → Φ (none, h', 0, 0)) : hp_F cst strs Φ D M 0 l [] h := by
  refine hq_arc c hM lkW2_k hD [b, t] rfl hy (hp_Bc (z := b) rfl b0 t0 (hp_Bc (z := t) rfl b1 t1 hp_Bn)) (hp_Fc (z := ((-1) + ((-1) * b + (1 * t + 0)))) rfl (by omega) hp_Fn) (hp_Kc (zi := (0 + 0)) (zv := (0 + (1 * t + 0))) k0 rfl rfl (by omega) (by omega) (hp_Kc (zi := (0 + (1 * b + 0))) (zv := (1 + 0)) k1 rfl rfl (by omega) (by omega) (hp_Kc (zi := (0 + (1 * b + 0))) (zv := (14836 + 0)) k2 rfl rfl (by omega) (by omega) (hp_Kc (zi := (0 + 0)) (zv := (498 + 0)) k3 rfl rfl (by omega) (by omega) (hp_Kc (zi := (1 + 0)) (zv := (1476 + 0)) k4 rfl rfl (by omega) (by omega) (hp_Kc (zi := (2 + 0)) (zv := (14836 + 0)) k5 rfl rfl (by omega) (by omega) (hp_Kc (zi := (3 + 0)) (zv := (719722099 + 0)) k6 rfl rfl (by omega) (by omega) (hp_Kc (zi := (4 + 0)) (zv := (1130181 + 0)) k7 rfl rfl (by omega) (by omega) (hp_Kc (zi := (5 + 0)) (zv := (2273783 + 0)) k8 rfl rfl (by omega) (by omega) (hp_Kc (zi := (6 + 0)) (zv := (307 + 0)) k9 rfl rfl (by omega) (by omega) hp_Kn)))))))))) (hp_La l0 (hp_Li (z := (0 + (1 * b + 0))) l1 rfl (by omega) hp_Ln)) trivial ?_ ?_
  · intro p hp ys l' st' h' hys a1 a2 a3 gZ gL gS
    cases hp
  · intro p hp ys v h' hys a1 a2 a3 gZ gS
    rcases List.mem_cons.mp hp with rfl | hp
    · obtain rfl := hp_y0 hys
      have sv := hp_gSn gS
      cases v with
      | some w => cases sv
      | none =>
        exact r0 h' a1 a2 a3 (hp_gK (zi := (0 + 0)) (zv := (0 + (1 * b + 0))) gZ.2.2.2 (List.mem_of_getElem? (i := 0) rfl) rfl rfl (by omega) (by omega)) (hp_gK (zi := (0 + 0)) (zv := (1 + 0)) gZ.2.2.2 (List.mem_of_getElem? (i := 1) rfl) rfl rfl (by omega) (by omega)) (hp_gK (zi := (0 + 0)) (zv := (14836 + 0)) gZ.2.2.2 (List.mem_of_getElem? (i := 2) rfl) rfl rfl (by omega) (by omega)) (hp_gK (zi := (0 + 0)) (zv := (2 + 0)) gZ.2.2.2 (List.mem_of_getElem? (i := 3) rfl) rfl rfl (by omega) (by omega))
    cases hp
theorem lkW3_k : hq_chk [79, 80, 81] 78 0 2 [(0, 0, 1200), (1, 0, 1200)] [((-1), [(0, (-1)), (1, 1)])] [(0, .inr (.inr (.inl (some 40)))), (1, .inl (0, [(0, 1)]))] [] [(261, (0, []), (0, [(1, 1)])), (768, (0, [(0, 1)]), (1, [])), (1280, (0, [(0, 1)]), (719722099, [])), (6912, (0, []), (498, [])), (6912, (1, []), (1476, [])), (6912, (2, []), (14836, [])), (6912, (3, []), (719722099, [])), (6912, (4, []), (1130181, [])), (6912, (5, []), (2273783, [])), (6912, (6, []), (307, []))] [6154, 6155, 6156, 6157] 4 [] [([], 2, [(0, 0, 1200), (1, 0, 1200)], [], [], [], [(6154, (0, []), (0, [(0, 1)])), (6155, (0, []), (1, [])), (6156, (0, []), (719722099, [])), (6157, (0, []), (3, []))])] = true := by decide +kernel
theorem lkW3 {cst : am_K} {strs : List Nat} {Φ : am_Q → Prop} {D : Nat} {M : am_M} {h : am_H} {l : am_L} (c : hp_C cst strs D) (hM : m_P[78]? = some M) (hD : (4 : Int) ≤ (D : Int) + 1) (hy : ly_hy m_tt ly_TH h) (b t : Int) (b0 : 0 ≤ b) (t0 : b ≤ 1200) (b1 : 0 ≤ t) (t1 : t ≤ 1200) (f0 : 0 ≤ (t - b - 1)) (k0 : ly_hv cst h 261 0 = some (t)) (k1 : ly_hv cst h 768 (b) = some 1) (k2 : ly_hv cst h 1280 (b) = some 719722099) (k3 : ly_hv cst h 6912 0 = some 498) (k4 : ly_hv cst h 6912 1 = some 1476) (k5 : ly_hv cst h 6912 2 = some 14836) (k6 : ly_hv cst h 6912 3 = some 719722099) (k7 : ly_hv cst h 6912 4 = some 1130181) (k8 : ly_hv cst h 6912 5 = some 2273783) (k9 : ly_hv cst h 6912 6 = some 307) (l0 : hp_a l 0 40) (l1 : hp_i l 1 (b)) (r0 : ∀ (h' : am_H), ly_hy m_tt ly_TH h' → ly_fr cst [6154, 6155, 6156, 6157] h h' → h.length ≤ h'.length → ly_hv cst h' 6154 0 = some (b) → ly_hv cst h' 6155 0 = some 1 → ly_hv cst h' 6156 0 = some 719722099 → ly_hv cst h' 6157 0 = some 3 → Φ (none, h', 0, 0)) : hp_F cst strs Φ D M 0 l [] h := by
  refine hq_arc c hM lkW3_k hD [b, t] rfl hy (hp_Bc (z := b) rfl b0 t0 (hp_Bc (z := t) rfl b1 t1 hp_Bn)) (hp_Fc (z := ((-1) + ((-1) * b + (1 * t + 0)))) rfl (by omega) hp_Fn) (hp_Kc (zi := (0 + 0)) (zv := (0 + (1 * t + 0))) k0 rfl rfl (by omega) (by omega) (hp_Kc (zi := (0 + (1 * b + 0))) (zv := (1 + 0)) k1 rfl rfl (by omega) (by omega) (hp_Kc (zi := (0 + (1 * b + 0))) (zv := (719722099 + 0)) k2 rfl rfl (by omega) (by omega) (hp_Kc (zi := (0 + 0)) (zv := (498 + 0)) k3 rfl rfl (by omega) (by omega) (hp_Kc (zi := (1 + 0)) (zv := (1476 + 0)) k4 rfl rfl (by omega) (by omega) (hp_Kc (zi := (2 + 0)) (zv := (14836 + 0)) k5 rfl rfl (by omega) (by omega) (hp_Kc (zi := (3 + 0)) (zv := (719722099 + 0)) k6 rfl rfl (by omega) (by omega) (hp_Kc (zi := (4 + 0)) (zv := (1130181 + 0)) k7 rfl rfl (by omega) (by omega) (hp_Kc (zi := (5 + 0)) (zv := (2273783 + 0)) k8 rfl rfl (by omega) (by omega) (hp_Kc (zi := (6 + 0)) (zv := (307 + 0)) k9 rfl rfl (by omega) (by omega) hp_Kn)))))))))) (hp_La l0 (hp_Li (z := (0 + (1 * b + 0))) l1 rfl (by omega) hp_Ln)) trivial ?_ ?_
  · intro p hp ys l' st' h' hys a1 a2 a3 gZ gL gS
    cases hp
  · intro p hp ys v h' hys a1 a2 a3 gZ gS
    rcases List.mem_cons.mp hp with rfl | hp
    · obtain rfl := hp_y0 hys
      have sv := hp_gSn gS
      cases v with
      | some w => cases sv
      | none =>
        exact r0 h' a1 a2 a3 (hp_gK (zi := (0 + 0)) (zv := (0 + (1 * b + 0))) gZ.2.2.2 (List.mem_of_getElem? (i := 0) rfl) rfl rfl (by omega) (by omega)) (hp_gK (zi := (0 + 0)) (zv := (1 + 0)) gZ.2.2.2 (List.mem_of_getElem? (i := 1) rfl) rfl rfl (by omega) (by omega)) (hp_gK (zi := (0 + 0)) (zv := (719722099 + 0)) gZ.2.2.2 (List.mem_of_getElem? (i := 2) rfl) rfl rfl (by omega) (by omega)) (hp_gK (zi := (0 + 0)) (zv := (3 + 0)) gZ.2.2.2 (List.mem_of_getElem? (i := 3) rfl) rfl rfl (by omega) (by omega))
    cases hp
theorem lkW4_k : hq_chk [79, 80, 81] 78 0 2 [(0, 0, 1200), (1, 0, 1200)] [((-1), [(0, (-1)), (1, 1)])] [(0, .inr (.inr (.inl (some 40)))), (1, .inl (0, [(0, 1)]))] [] [(261, (0, []), (0, [(1, 1)])), (768, (0, [(0, 1)]), (1, [])), (1280, (0, [(0, 1)]), (1130181, [])), (6912, (0, []), (498, [])), (6912, (1, []), (1476, [])), (6912, (2, []), (14836, [])), (6912, (3, []), (719722099, [])), (6912, (4, []), (1130181, [])), (6912, (5, []), (2273783, [])), (6912, (6, []), (307, []))] [6154, 6155, 6156, 6157] 4 [] [([], 2, [(0, 0, 1200), (1, 0, 1200)], [], [], [], [(6154, (0, []), (0, [(0, 1)])), (6155, (0, []), (1, [])), (6156, (0, []), (1130181, [])), (6157, (0, []), (4, []))])] = true := by decide +kernel
theorem lkW4 {cst : am_K} {strs : List Nat} {Φ : am_Q → Prop} {D : Nat} {M : am_M} {h : am_H} {l : am_L} (c : hp_C cst strs D) (hM : m_P[78]? = some M) (hD : (4 : Int) ≤ (D : Int) + 1) (hy : ly_hy m_tt ly_TH h) (b t : Int) (b0 : 0 ≤ b) (t0 : b ≤ 1200) (b1 : 0 ≤ t) (t1 : t ≤ 1200) (f0 : 0 ≤ (t - b - 1)) (k0 : ly_hv cst h 261 0 = some (t)) (k1 : ly_hv cst h 768 (b) = some 1) (k2 : ly_hv cst h 1280 (b) = some 1130181) (k3 : ly_hv cst h 6912 0 = some 498) (k4 : ly_hv cst h 6912 1 = some 1476) (k5 : ly_hv cst h 6912 2 = some 14836) (k6 : ly_hv cst h 6912 3 = some 719722099) (k7 : ly_hv cst h 6912 4 = some 1130181) (k8 : ly_hv cst h 6912 5 = some 2273783) (k9 : ly_hv cst h 6912 6 = some 307) (l0 : hp_a l 0 40) (l1 : hp_i l 1 (b)) (r0 : ∀ (h' : am_H), ly_hy m_tt ly_TH h' → ly_fr cst [6154, 6155, 6156, 6157] h h' → h.length ≤ h'.length → ly_hv cst h' 6154 0 = some (b) → ly_hv cst h' 6155 0 = some 1 → ly_hv cst h' 6156 0 = some 1130181 → ly_hv cst h' 6157 0 = some 4 → Φ (none, h', 0, 0)) : hp_F cst strs Φ D M 0 l [] h := by
  refine hq_arc c hM lkW4_k hD [b, t] rfl hy (hp_Bc (z := b) rfl b0 t0 (hp_Bc (z := t) rfl b1 t1 hp_Bn)) (hp_Fc (z := ((-1) + ((-1) * b + (1 * t + 0)))) rfl (by omega) hp_Fn) (hp_Kc (zi := (0 + 0)) (zv := (0 + (1 * t + 0))) k0 rfl rfl (by omega) (by omega) (hp_Kc (zi := (0 + (1 * b + 0))) (zv := (1 + 0)) k1 rfl rfl (by omega) (by omega) (hp_Kc (zi := (0 + (1 * b + 0))) (zv := (1130181 + 0)) k2 rfl rfl (by omega) (by omega) (hp_Kc (zi := (0 + 0)) (zv := (498 + 0)) k3 rfl rfl (by omega) (by omega) (hp_Kc (zi := (1 + 0)) (zv := (1476 + 0)) k4 rfl rfl (by omega) (by omega) (hp_Kc (zi := (2 + 0)) (zv := (14836 + 0)) k5 rfl rfl (by omega) (by omega) (hp_Kc (zi := (3 + 0)) (zv := (719722099 + 0)) k6 rfl rfl (by omega) (by omega) (hp_Kc (zi := (4 + 0)) (zv := (1130181 + 0)) k7 rfl rfl (by omega) (by omega) (hp_Kc (zi := (5 + 0)) (zv := (2273783 + 0)) k8 rfl rfl (by omega) (by omega) (hp_Kc (zi := (6 + 0)) (zv := (307 + 0)) k9 rfl rfl (by omega) (by omega) hp_Kn)))))))))) (hp_La l0 (hp_Li (z := (0 + (1 * b + 0))) l1 rfl (by omega) hp_Ln)) trivial ?_ ?_
  · intro p hp ys l' st' h' hys a1 a2 a3 gZ gL gS
    cases hp
  · intro p hp ys v h' hys a1 a2 a3 gZ gS
    rcases List.mem_cons.mp hp with rfl | hp
    · obtain rfl := hp_y0 hys
      have sv := hp_gSn gS
      cases v with
      | some w => cases sv
      | none =>
        exact r0 h' a1 a2 a3 (hp_gK (zi := (0 + 0)) (zv := (0 + (1 * b + 0))) gZ.2.2.2 (List.mem_of_getElem? (i := 0) rfl) rfl rfl (by omega) (by omega)) (hp_gK (zi := (0 + 0)) (zv := (1 + 0)) gZ.2.2.2 (List.mem_of_getElem? (i := 1) rfl) rfl rfl (by omega) (by omega)) (hp_gK (zi := (0 + 0)) (zv := (1130181 + 0)) gZ.2.2.2 (List.mem_of_getElem? (i := 2) rfl) rfl rfl (by omega) (by omega)) (hp_gK (zi := (0 + 0)) (zv := (4 + 0)) gZ.2.2.2 (List.mem_of_getElem? (i := 3) rfl) rfl rfl (by omega) (by omega))
    cases hp
theorem lkW5_k : hq_chk [79, 80, 81] 78 0 2 [(0, 0, 1200), (1, 0, 1200)] [((-1), [(0, (-1)), (1, 1)])] [(0, .inr (.inr (.inl (some 40)))), (1, .inl (0, [(0, 1)]))] [] [(261, (0, []), (0, [(1, 1)])), (768, (0, [(0, 1)]), (1, [])), (1280, (0, [(0, 1)]), (2273783, [])), (6912, (0, []), (498, [])), (6912, (1, []), (1476, [])), (6912, (2, []), (14836, [])), (6912, (3, []), (719722099, [])), (6912, (4, []), (1130181, [])), (6912, (5, []), (2273783, [])), (6912, (6, []), (307, []))] [6154, 6155, 6156, 6157] 4 [] [([], 2, [(0, 0, 1200), (1, 0, 1200)], [], [], [], [(6154, (0, []), (0, [(0, 1)])), (6155, (0, []), (1, [])), (6156, (0, []), (2273783, [])), (6157, (0, []), (5, []))])] = true := by decide +kernel
theorem lkW5 {cst : am_K} {strs : List Nat} {Φ : am_Q → Prop} {D : Nat} {M : am_M} {h : am_H} {l : am_L} (c : hp_C cst strs D) (hM : m_P[78]? = some M) (hD : (4 : Int) ≤ (D : Int) + 1) (hy : ly_hy m_tt ly_TH h) (b t : Int) (b0 : 0 ≤ b) (t0 : b ≤ 1200) (b1 : 0 ≤ t) (t1 : t ≤ 1200) (f0 : 0 ≤ (t - b - 1)) (k0 : ly_hv cst h 261 0 = some (t)) (k1 : ly_hv cst h 768 (b) = some 1) (k2 : ly_hv cst h 1280 (b) = some 2273783) (k3 : ly_hv cst h 6912 0 = some 498) (k4 : ly_hv cst h 6912 1 = some 1476) (k5 : ly_hv cst h 6912 2 = some 14836) (k6 : ly_hv cst h 6912 3 = some 719722099) (k7 : ly_hv cst h 6912 4 = some 1130181) (k8 : ly_hv cst h 6912 5 = some 2273783) (k9 : ly_hv cst h 6912 6 = some 307) (l0 : hp_a l 0 40) (l1 : hp_i l 1 (b)) (r0 : ∀ (h' : am_H), ly_hy m_tt ly_TH h' → ly_fr cst [6154, 6155, 6156, 6157] h h' → h.length ≤ h'.length → ly_hv cst h' 6154 0 = some (b) → ly_hv cst h' 6155 0 = some 1 → ly_hv cst h' 6156 0 = some 2273783 → ly_hv cst h' 6157 0 = some 5 → Φ (none, h', 0, 0)) : hp_F cst strs Φ D M 0 l [] h := by
  refine hq_arc c hM lkW5_k hD [b, t] rfl hy (hp_Bc (z := b) rfl b0 t0 (hp_Bc (z := t) rfl b1 t1 hp_Bn)) (hp_Fc (z := ((-1) + ((-1) * b + (1 * t + 0)))) rfl (by omega) hp_Fn) (hp_Kc (zi := (0 + 0)) (zv := (0 + (1 * t + 0))) k0 rfl rfl (by omega) (by omega) (hp_Kc (zi := (0 + (1 * b + 0))) (zv := (1 + 0)) k1 rfl rfl (by omega) (by omega) (hp_Kc (zi := (0 + (1 * b + 0))) (zv := (2273783 + 0)) k2 rfl rfl (by omega) (by omega) (hp_Kc (zi := (0 + 0)) (zv := (498 + 0)) k3 rfl rfl (by omega) (by omega) (hp_Kc (zi := (1 + 0)) (zv := (1476 + 0)) k4 rfl rfl (by omega) (by omega) (hp_Kc (zi := (2 + 0)) (zv := (14836 + 0)) k5 rfl rfl (by omega) (by omega) (hp_Kc (zi := (3 + 0)) (zv := (719722099 + 0)) k6 rfl rfl (by omega) (by omega) (hp_Kc (zi := (4 + 0)) (zv := (1130181 + 0)) k7 rfl rfl (by omega) (by omega) (hp_Kc (zi := (5 + 0)) (zv := (2273783 + 0)) k8 rfl rfl (by omega) (by omega) (hp_Kc (zi := (6 + 0)) (zv := (307 + 0)) k9 rfl rfl (by omega) (by omega) hp_Kn)))))))))) (hp_La l0 (hp_Li (z := (0 + (1 * b + 0))) l1 rfl (by omega) hp_Ln)) trivial ?_ ?_
  · intro p hp ys l' st' h' hys a1 a2 a3 gZ gL gS
    cases hp
  · intro p hp ys v h' hys a1 a2 a3 gZ gS
    rcases List.mem_cons.mp hp with rfl | hp
    · obtain rfl := hp_y0 hys
      have sv := hp_gSn gS
      cases v with
      | some w => cases sv
      | none =>
        exact r0 h' a1 a2 a3 (hp_gK (zi := (0 + 0)) (zv := (0 + (1 * b + 0))) gZ.2.2.2 (List.mem_of_getElem? (i := 0) rfl) rfl rfl (by omega) (by omega)) (hp_gK (zi := (0 + 0)) (zv := (1 + 0)) gZ.2.2.2 (List.mem_of_getElem? (i := 1) rfl) rfl rfl (by omega) (by omega)) (hp_gK (zi := (0 + 0)) (zv := (2273783 + 0)) gZ.2.2.2 (List.mem_of_getElem? (i := 2) rfl) rfl rfl (by omega) (by omega)) (hp_gK (zi := (0 + 0)) (zv := (5 + 0)) gZ.2.2.2 (List.mem_of_getElem? (i := 3) rfl) rfl rfl (by omega) (by omega))
    cases hp
theorem lkW6_k : hq_chk [79, 80, 81] 78 0 2 [(0, 0, 1200), (1, 0, 1200)] [((-1), [(0, (-1)), (1, 1)])] [(0, .inr (.inr (.inl (some 40)))), (1, .inl (0, [(0, 1)]))] [] [(261, (0, []), (0, [(1, 1)])), (768, (0, [(0, 1)]), (1, [])), (1280, (0, [(0, 1)]), (307, [])), (6912, (0, []), (498, [])), (6912, (1, []), (1476, [])), (6912, (2, []), (14836, [])), (6912, (3, []), (719722099, [])), (6912, (4, []), (1130181, [])), (6912, (5, []), (2273783, [])), (6912, (6, []), (307, []))] [6154, 6155, 6156, 6157] 4 [] [([], 2, [(0, 0, 1200), (1, 0, 1200)], [], [], [], [(6154, (0, []), (0, [(0, 1)])), (6155, (0, []), (1, [])), (6156, (0, []), (307, [])), (6157, (0, []), (6, []))])] = true := by decide +kernel
theorem lkW6 {cst : am_K} {strs : List Nat} {Φ : am_Q → Prop} {D : Nat} {M : am_M} {h : am_H} {l : am_L} (c : hp_C cst strs D) (hM : m_P[78]? = some M) (hD : (4 : Int) ≤ (D : Int) + 1) (hy : ly_hy m_tt ly_TH h) (b t : Int) (b0 : 0 ≤ b) (t0 : b ≤ 1200) (b1 : 0 ≤ t) (t1 : t ≤ 1200) (f0 : 0 ≤ (t - b - 1)) (k0 : ly_hv cst h 261 0 = some (t)) (k1 : ly_hv cst h 768 (b) = some 1) (k2 : ly_hv cst h 1280 (b) = some 307) (k3 : ly_hv cst h 6912 0 = some 498) (k4 : ly_hv cst h 6912 1 = some 1476) (k5 : ly_hv cst h 6912 2 = some 14836) (k6 : ly_hv cst h 6912 3 = some 719722099) (k7 : ly_hv cst h 6912 4 = some 1130181) (k8 : ly_hv cst h 6912 5 = some 2273783) (k9 : ly_hv cst h 6912 6 = some 307) (l0 : hp_a l 0 40) (l1 : hp_i l 1 (b)) (r0 : ∀ (h' : am_H), ly_hy m_tt ly_TH h' → ly_fr cst [6154, 6155, 6156, 6157] h h' → h.length ≤ h'.length → ly_hv cst h' 6154 0 = some (b) → ly_hv cst h' 6155 0 = some 1 → ly_hv cst h' 6156 0 = some 307 → ly_hv cst h' 6157 0 = some 6 → Φ (none, h', 0, 0)) : hp_F cst strs Φ D M 0 l [] h := by
  refine hq_arc c hM lkW6_k hD [b, t] rfl hy (hp_Bc (z := b) rfl b0 t0 (hp_Bc (z := t) rfl b1 t1 hp_Bn)) (hp_Fc (z := ((-1) + ((-1) * b + (1 * t + 0)))) rfl (by omega) hp_Fn) (hp_Kc (zi := (0 + 0)) (zv := (0 + (1 * t + 0))) k0 rfl rfl (by omega) (by omega) (hp_Kc (zi := (0 + (1 * b + 0))) (zv := (1 + 0)) k1 rfl rfl (by omega) (by omega) (hp_Kc (zi := (0 + (1 * b + 0))) (zv := (307 + 0)) k2 rfl rfl (by omega) (by omega) (hp_Kc (zi := (0 + 0)) (zv := (498 + 0)) k3 rfl rfl (by omega) (by omega) (hp_Kc (zi := (1 + 0)) (zv := (1476 + 0)) k4 rfl rfl (by omega) (by omega) (hp_Kc (zi := (2 + 0)) (zv := (14836 + 0)) k5 rfl rfl (by omega) (by omega) (hp_Kc (zi := (3 + 0)) (zv := (719722099 + 0)) k6 rfl rfl (by omega) (by omega) (hp_Kc (zi := (4 + 0)) (zv := (1130181 + 0)) k7 rfl rfl (by omega) (by omega) (hp_Kc (zi := (5 + 0)) (zv := (2273783 + 0)) k8 rfl rfl (by omega) (by omega) (hp_Kc (zi := (6 + 0)) (zv := (307 + 0)) k9 rfl rfl (by omega) (by omega) hp_Kn)))))))))) (hp_La l0 (hp_Li (z := (0 + (1 * b + 0))) l1 rfl (by omega) hp_Ln)) trivial ?_ ?_
  · intro p hp ys l' st' h' hys a1 a2 a3 gZ gL gS
    cases hp
  · intro p hp ys v h' hys a1 a2 a3 gZ gS
    rcases List.mem_cons.mp hp with rfl | hp
    · obtain rfl := hp_y0 hys
      have sv := hp_gSn gS
      cases v with
      | some w => cases sv
      | none =>
        exact r0 h' a1 a2 a3 (hp_gK (zi := (0 + 0)) (zv := (0 + (1 * b + 0))) gZ.2.2.2 (List.mem_of_getElem? (i := 0) rfl) rfl rfl (by omega) (by omega)) (hp_gK (zi := (0 + 0)) (zv := (1 + 0)) gZ.2.2.2 (List.mem_of_getElem? (i := 1) rfl) rfl rfl (by omega) (by omega)) (hp_gK (zi := (0 + 0)) (zv := (307 + 0)) gZ.2.2.2 (List.mem_of_getElem? (i := 2) rfl) rfl rfl (by omega) (by omega)) (hp_gK (zi := (0 + 0)) (zv := (6 + 0)) gZ.2.2.2 (List.mem_of_getElem? (i := 3) rfl) rfl rfl (by omega) (by omega))
    cases hp
theorem lk2_k : hq_chk [79, 80, 81] 78 0 3 [(0, 0, 1200), (1, 0, 1200), (2, 1, 1152921504606846976)] [((-1), [(0, (-1)), (1, 1)])] [(0, .inr (.inr (.inl (some 40)))), (1, .inl (0, [(0, 1)]))] [] [(261, (0, []), (0, [(1, 1)])), (768, (0, [(0, 1)]), (1, [])), (1280, (0, [(0, 1)]), (0, [(2, 1)])), (61000, ((-498), [(2, 1)]), (1, [])), (61000, ((-1476), [(2, 1)]), (1, [])), (61000, ((-14836), [(2, 1)]), (1, [])), (61000, ((-719722099), [(2, 1)]), (1, [])), (61000, ((-1130181), [(2, 1)]), (1, [])), (61000, ((-2273783), [(2, 1)]), (1, [])), (61000, ((-307), [(2, 1)]), (1, [])), (6912, (0, []), (498, [])), (6912, (1, []), (1476, [])), (6912, (2, []), (14836, [])), (6912, (3, []), (719722099, [])), (6912, (4, []), (1130181, [])), (6912, (5, []), (2273783, [])), (6912, (6, []), (307, []))] [6154, 6155, 6156, 6157] 4 [] [([], 3, [(0, 0, 1200), (1, 0, 1200), (2, 1, 1152921504606846976)], [], [], [], [(6154, (0, []), (0, [(0, 1)])), (6155, (0, []), (1, [])), (6156, (0, []), (0, [(2, 1)])), (6157, (0, []), ((-1), []))])] = true := by decide +kernel
theorem lk2 {cst : am_K} {strs : List Nat} {Φ : am_Q → Prop} {D : Nat} {M : am_M} {h : am_H} {l : am_L} (c : hp_C cst strs D) (hM : m_P[78]? = some M) (hD : (4 : Int) ≤ (D : Int) + 1) (hy : ly_hy m_tt ly_TH h) (b t v : Int) (b0 : 0 ≤ b) (t0 : b ≤ 1200) (b1 : 0 ≤ t) (t1 : t ≤ 1200) (b2 : 1 ≤ v) (t2 : v ≤ 1152921504606846976) (f0 : 0 ≤ (t - b - 1)) (k0 : ly_hv cst h 261 0 = some (t)) (k1 : ly_hv cst h 768 (b) = some 1) (k2 : ly_hv cst h 1280 (b) = some (v)) (k3 : ly_hv cst h 61000 (v - 498) = some 1) (k4 : ly_hv cst h 61000 (v - 1476) = some 1) (k5 : ly_hv cst h 61000 (v - 14836) = some 1) (k6 : ly_hv cst h 61000 (v - 719722099) = some 1) (k7 : ly_hv cst h 61000 (v - 1130181) = some 1) (k8 : ly_hv cst h 61000 (v - 2273783) = some 1) (k9 : ly_hv cst h 61000 (v - 307) = some 1) (k10 : ly_hv cst h 6912 0 = some 498) (k11 : ly_hv cst h 6912 1 = some 1476) (k12 : ly_hv cst h 6912 2 = some 14836) (k13 : ly_hv cst h 6912 3 = some 719722099) (k14 : ly_hv cst h 6912 4 = some 1130181) (k15 : ly_hv cst h 6912 5 = some 2273783) (k16 : ly_hv cst h 6912 6 = some 307) (l0 : hp_a l 0 40) (l1 : hp_i l 1 (b)) (r0 : ∀ (h' : am_H), ly_hy m_tt ly_TH h' → ly_fr cst [6154, 6155, 6156, 6157] h h' → h.length ≤ h'.length → ly_hv cst h' 6154 0 = some (b) → ly_hv cst h' 6155 0 = some 1 → ly_hv cst h' 6156 0 = some (v) → ly_hv cst h' 6157 0 = some (-1) → Φ (none, h', 0, 0)) : hp_F cst strs Φ D M 0 l [] h := by
  refine hq_arc c hM lk2_k hD [b, t, v] rfl hy (hp_Bc (z := b) rfl b0 t0 (hp_Bc (z := t) rfl b1 t1 (hp_Bc (z := v) rfl b2 t2 hp_Bn))) (hp_Fc (z := ((-1) + ((-1) * b + (1 * t + 0)))) rfl (by omega) hp_Fn) (hp_Kc (zi := (0 + 0)) (zv := (0 + (1 * t + 0))) k0 rfl rfl (by omega) (by omega) (hp_Kc (zi := (0 + (1 * b + 0))) (zv := (1 + 0)) k1 rfl rfl (by omega) (by omega) (hp_Kc (zi := (0 + (1 * b + 0))) (zv := (0 + (1 * v + 0))) k2 rfl rfl (by omega) (by omega) (hp_Kc (zi := ((-498) + (1 * v + 0))) (zv := (1 + 0)) k3 rfl rfl (by omega) (by omega) (hp_Kc (zi := ((-1476) + (1 * v + 0))) (zv := (1 + 0)) k4 rfl rfl (by omega) (by omega) (hp_Kc (zi := ((-14836) + (1 * v + 0))) (zv := (1 + 0)) k5 rfl rfl (by omega) (by omega) (hp_Kc (zi := ((-719722099) + (1 * v + 0))) (zv := (1 + 0)) k6 rfl rfl (by omega) (by omega) (hp_Kc (zi := ((-1130181) + (1 * v + 0))) (zv := (1 + 0)) k7 rfl rfl (by omega) (by omega) (hp_Kc (zi := ((-2273783) + (1 * v + 0))) (zv := (1 + 0)) k8 rfl rfl (by omega) (by omega) (hp_Kc (zi := ((-307) + (1 * v + 0))) (zv := (1 + 0)) k9 rfl rfl (by omega) (by omega) (hp_Kc (zi := (0 + 0)) (zv := (498 + 0)) k10 rfl rfl (by omega) (by omega) (hp_Kc (zi := (1 + 0)) (zv := (1476 + 0)) k11 rfl rfl (by omega) (by omega) (hp_Kc (zi := (2 + 0)) (zv := (14836 + 0)) k12 rfl rfl (by omega) (by omega) (hp_Kc (zi := (3 + 0)) (zv := (719722099 + 0)) k13 rfl rfl (by omega) (by omega) (hp_Kc (zi := (4 + 0)) (zv := (1130181 + 0)) k14 rfl rfl (by omega) (by omega) (hp_Kc (zi := (5 + 0)) (zv := (2273783 + 0)) k15 rfl rfl (by omega) (by omega) (hp_Kc (zi := (6 + 0)) (zv := (307 + 0)) k16 rfl rfl (by omega) (by omega) hp_Kn))))))))))))))))) (hp_La l0 (hp_Li (z := (0 + (1 * b + 0))) l1 rfl (by omega) hp_Ln)) trivial ?_ ?_
  · intro p hp ys l' st' h' hys a1 a2 a3 gZ gL gS
    cases hp
  · intro p hp ys v h' hys a1 a2 a3 gZ gS
    rcases List.mem_cons.mp hp with rfl | hp
    · obtain rfl := hp_y0 hys
      have sv := hp_gSn gS
      cases v with
      | some w => cases sv
      | none =>
        exact r0 h' a1 a2 a3 (hp_gK (zi := (0 + 0)) (zv := (0 + (1 * b + 0))) gZ.2.2.2 (List.mem_of_getElem? (i := 0) rfl) rfl rfl (by omega) (by omega)) (hp_gK (zi := (0 + 0)) (zv := (1 + 0)) gZ.2.2.2 (List.mem_of_getElem? (i := 1) rfl) rfl rfl (by omega) (by omega)) (hp_gK (zi := (0 + 0)) (zv := (0 + (1 * v + 0))) gZ.2.2.2 (List.mem_of_getElem? (i := 2) rfl) rfl rfl (by omega) (by omega)) (hp_gK (zi := (0 + 0)) (zv := ((-1) + 0)) gZ.2.2.2 (List.mem_of_getElem? (i := 3) rfl) rfl rfl (by omega) (by omega))
    cases hp
theorem fl0_k : hq_chk [84] 83 0 4 [(0, 1, 4), (1, 0, 1200), (2, 0, 1200), (3, 0, 1200)] [(0, [(1, 1), (2, (-1))])] [(0, .inr (.inr (.inl (some 40)))), (1, .inl (0, [(0, 1)]))] [] [(261, (0, []), (0, [(2, 1)])), (6154, (0, []), (0, [(1, 1)])), (262, (0, []), (0, [(3, 1)]))] [6144, 6145] 3 [] [([], 4, [(0, 1, 4), (1, 0, 1200), (2, 0, 1200), (3, 0, 1200)], [], [], [.inl (0, [])], [(6144, (0, []), (0, [(0, 1)])), (6145, (0, []), (0, [(3, 1)]))])] = true := by decide +kernel
theorem fl0 {cst : am_K} {strs : List Nat} {Φ : am_Q → Prop} {D : Nat} {M : am_M} {h : am_H} {l : am_L} (c : hp_C cst strs D) (hM : m_P[83]? = some M) (hD : (3 : Int) ≤ (D : Int) + 1) (hy : ly_hy m_tt ly_TH h) (k b t n : Int) (b0 : 1 ≤ k) (t0 : k ≤ 4) (b1 : 0 ≤ b) (t1 : b ≤ 1200) (b2 : 0 ≤ t) (t2 : t ≤ 1200) (b3 : 0 ≤ n) (t3 : n ≤ 1200) (f0 : 0 ≤ (b - t)) (k0 : ly_hv cst h 261 0 = some (t)) (k1 : ly_hv cst h 6154 0 = some (b)) (k2 : ly_hv cst h 262 0 = some (n)) (l0 : hp_a l 0 40) (l1 : hp_i l 1 (k)) (r0 : ∀ (h' : am_H) (y0 : Int32), y0.toInt = 0 → ly_hy m_tt ly_TH h' → ly_fr cst [6144, 6145] h h' → h.length ≤ h'.length → ly_hv cst h' 6144 0 = some (k) → ly_hv cst h' 6145 0 = some (n) → Φ (some (.int y0), h', 0, 0)) : hp_F cst strs Φ D M 0 l [] h := by
  refine hq_arc c hM fl0_k hD [k, b, t, n] rfl hy (hp_Bc (z := k) rfl b0 t0 (hp_Bc (z := b) rfl b1 t1 (hp_Bc (z := t) rfl b2 t2 (hp_Bc (z := n) rfl b3 t3 hp_Bn)))) (hp_Fc (z := (0 + (1 * b + ((-1) * t + 0)))) rfl (by omega) hp_Fn) (hp_Kc (zi := (0 + 0)) (zv := (0 + (1 * t + 0))) k0 rfl rfl (by omega) (by omega) (hp_Kc (zi := (0 + 0)) (zv := (0 + (1 * b + 0))) k1 rfl rfl (by omega) (by omega) (hp_Kc (zi := (0 + 0)) (zv := (0 + (1 * n + 0))) k2 rfl rfl (by omega) (by omega) hp_Kn))) (hp_La l0 (hp_Li (z := (0 + (1 * k + 0))) l1 rfl (by omega) hp_Ln)) trivial ?_ ?_
  · intro p hp ys l' st' h' hys a1 a2 a3 gZ gL gS
    cases hp
  · intro p hp ys v h' hys a1 a2 a3 gZ gS
    rcases List.mem_cons.mp hp with rfl | hp
    · obtain rfl := hp_y0 hys
      cases v with
      | none => cases gS
      | some w =>
        obtain ⟨y0, t0, s0, q0, -⟩ := hp_gSi (z := (0 + 0)) gS rfl
        cases s0
        exact r0 h' y0 (by omega) a1 a2 a3 (hp_gK (zi := (0 + 0)) (zv := (0 + (1 * k + 0))) gZ.2.2.2 (List.mem_of_getElem? (i := 0) rfl) rfl rfl (by omega) (by omega)) (hp_gK (zi := (0 + 0)) (zv := (0 + (1 * n + 0))) gZ.2.2.2 (List.mem_of_getElem? (i := 1) rfl) rfl rfl (by omega) (by omega))
    cases hp
theorem fl1_k : hq_chk [84] 83 0 4 [(0, 1, 4), (1, 0, 1200), (2, 0, 1200), (3, (-2147483648), 2147483647)] [((-1), [(1, (-1)), (2, 1)])] [(0, .inr (.inr (.inl (some 40)))), (1, .inl (0, [(0, 1)]))] [] [(261, (0, []), (0, [(2, 1)])), (6154, (0, []), (0, [(1, 1)])), (1024, (0, [(1, 1)]), (0, [(3, 1)]))] [6144, 6145] 3 [] [([], 4, [(0, 1, 4), (1, 0, 1200), (2, 0, 1200), (3, (-2147483648), 2147483647)], [], [], [.inl (0, [])], [(6144, (0, []), (0, [(0, 1)])), (6145, (0, []), (0, [(3, 1)]))])] = true := by decide +kernel
theorem fl1 {cst : am_K} {strs : List Nat} {Φ : am_Q → Prop} {D : Nat} {M : am_M} {h : am_H} {l : am_L} (c : hp_C cst strs D) (hM : m_P[83]? = some M) (hD : (3 : Int) ≤ (D : Int) + 1) (hy : ly_hy m_tt ly_TH h) (k b t p : Int) (b0 : 1 ≤ k) (t0 : k ≤ 4) (b1 : 0 ≤ b) (t1 : b ≤ 1200) (b2 : 0 ≤ t) (t2 : t ≤ 1200) (b3 : (-2147483648) ≤ p) (t3 : p ≤ 2147483647) (f0 : 0 ≤ (t - b - 1)) (k0 : ly_hv cst h 261 0 = some (t)) (k1 : ly_hv cst h 6154 0 = some (b)) (k2 : ly_hv cst h 1024 (b) = some (p)) (l0 : hp_a l 0 40) (l1 : hp_i l 1 (k)) (r0 : ∀ (h' : am_H) (y0 : Int32), y0.toInt = 0 → ly_hy m_tt ly_TH h' → ly_fr cst [6144, 6145] h h' → h.length ≤ h'.length → ly_hv cst h' 6144 0 = some (k) → ly_hv cst h' 6145 0 = some (p) → Φ (some (.int y0), h', 0, 0)) : hp_F cst strs Φ D M 0 l [] h := by
  refine hq_arc c hM fl1_k hD [k, b, t, p] rfl hy (hp_Bc (z := k) rfl b0 t0 (hp_Bc (z := b) rfl b1 t1 (hp_Bc (z := t) rfl b2 t2 (hp_Bc (z := p) rfl b3 t3 hp_Bn)))) (hp_Fc (z := ((-1) + ((-1) * b + (1 * t + 0)))) rfl (by omega) hp_Fn) (hp_Kc (zi := (0 + 0)) (zv := (0 + (1 * t + 0))) k0 rfl rfl (by omega) (by omega) (hp_Kc (zi := (0 + 0)) (zv := (0 + (1 * b + 0))) k1 rfl rfl (by omega) (by omega) (hp_Kc (zi := (0 + (1 * b + 0))) (zv := (0 + (1 * p + 0))) k2 rfl rfl (by omega) (by omega) hp_Kn))) (hp_La l0 (hp_Li (z := (0 + (1 * k + 0))) l1 rfl (by omega) hp_Ln)) trivial ?_ ?_
  · intro p hp ys l' st' h' hys a1 a2 a3 gZ gL gS
    cases hp
  · intro p hp ys v h' hys a1 a2 a3 gZ gS
    rcases List.mem_cons.mp hp with rfl | hp
    · obtain rfl := hp_y0 hys
      cases v with
      | none => cases gS
      | some w =>
        obtain ⟨y0, t0, s0, q0, -⟩ := hp_gSi (z := (0 + 0)) gS rfl
        cases s0
        exact r0 h' y0 (by omega) a1 a2 a3 (hp_gK (zi := (0 + 0)) (zv := (0 + (1 * k + 0))) gZ.2.2.2 (List.mem_of_getElem? (i := 0) rfl) rfl rfl (by omega) (by omega)) (hp_gK (zi := (0 + 0)) (zv := (0 + (1 * p + 0))) gZ.2.2.2 (List.mem_of_getElem? (i := 1) rfl) rfl rfl (by omega) (by omega))
    cases hp
theorem di0_k : hp_chk 97 0 2 [(0, (-9223372036854775808), 9223372036854775807), (1, 0, 10239)] [] [(0, .inr (.inr (.inl (some 30)))), (1, .inr (.inl (0, [(0, 1)])))] [] [(3594, (0, []), (0, [(1, 1)]))] [] 2 [(25, ([], 2, [(0, (-9223372036854775808), 9223372036854775807), (1, 0, 10239)], [], [(0, .inr (.inr (.inl (some 30))))], [.inr (.inl (0, [(0, 1)])), .inl (0, [(1, 1)]), .inr (.inr (.inl (some 39)))], [(3594, (0, []), (0, [(1, 1)]))]))] [] = true := by decide +kernel
theorem di0 {cst : am_K} {strs : List Nat} {Φ : am_Q → Prop} {D : Nat} {M : am_M} {h : am_H} {l : am_L} (c : hp_C cst strs D) (hM : m_P[97]? = some M) (hD : (2 : Int) ≤ (D : Int) + 1) (hy : ly_hy m_tt ly_TH h) (v i : Int) (b0 : (-9223372036854775808) ≤ v) (t0 : v ≤ 9223372036854775807) (b1 : 0 ≤ i) (t1 : i ≤ 10239) (k0 : ly_hv cst h 3594 0 = some (i)) (l0 : hp_a l 0 30) (l1 : hp_j l 1 (v)) (e0 : ∀ (l' : am_L) (h' : am_H) (y0 : Int64) (y1 : Int32), y0.toInt = (v) → y1.toInt = (i) → ly_hy m_tt ly_TH h' → ly_fr cst [] h h' → h.length ≤ h'.length → ly_hv cst h' 3594 0 = some (i) → hp_a l' 0 30 → hp_F cst strs Φ D M 25 l' [.long y0, .int y1, .ref 39] h') : hp_F cst strs Φ D M 0 l [] h := by
  refine hp_arc c hM di0_k hD [v, i] rfl hy (hp_Bc (z := v) rfl b0 t0 (hp_Bc (z := i) rfl b1 t1 hp_Bn)) hp_Fn (hp_Kc (zi := (0 + 0)) (zv := (0 + (1 * i + 0))) k0 rfl rfl (by omega) (by omega) hp_Kn) (hp_La l0 (hp_Lj (z := (0 + (1 * v + 0))) l1 rfl (by omega) hp_Ln)) trivial ?_ ?_
  · intro p hp ys l' st' h' hys a1 a2 a3 gZ gL gS
    rcases List.mem_cons.mp hp with rfl | hp
    · obtain rfl := hp_y0 hys
      obtain ⟨y0, t0, rfl, q0, g0⟩ := hp_gSj (z := (0 + (1 * v + 0))) gS rfl
      obtain ⟨y1, t1, rfl, q1, g1⟩ := hp_gSi (z := (0 + (1 * i + 0))) g0 rfl
      obtain ⟨t2, rfl, g2⟩ := hp_gSa g1 (by decide)
      cases hp_gSn g2
      exact e0 l' h' y0 y1 (by omega) (by omega) a1 a2 a3 (hp_gK (zi := (0 + 0)) (zv := (0 + (1 * i + 0))) gZ.2.2.2 (List.mem_of_getElem? (i := 0) rfl) rfl rfl (by omega) (by omega)) (hp_gLa gL (List.mem_of_getElem? (i := 0) rfl) (by decide))
    cases hp
  · intro p hp ys v h' hys a1 a2 a3 gZ gS
    cases hp
theorem di1_k : hp_chk 97 26 1 [(0, 0, 10239)] [] [(0, .inr (.inr (.inl (some 30))))] [] [(3594, (0, []), (0, [(0, 1)]))] [3594] 2 [] [([], 1, [(0, 0, 10239)], [], [], [], [(3594, (0, []), (1, [(0, 1)]))])] = true := by decide +kernel
theorem di1 {cst : am_K} {strs : List Nat} {Φ : am_Q → Prop} {D : Nat} {M : am_M} {h : am_H} {l : am_L} (c : hp_C cst strs D) (hM : m_P[97]? = some M) (hD : (2 : Int) ≤ (D : Int) + 1) (hy : ly_hy m_tt ly_TH h) (i : Int) (b0 : 0 ≤ i) (t0 : i ≤ 10239) (k0 : ly_hv cst h 3594 0 = some (i)) (l0 : hp_a l 0 30) (r0 : ∀ (h' : am_H), ly_hy m_tt ly_TH h' → ly_fr cst [3594] h h' → h.length ≤ h'.length → ly_hv cst h' 3594 0 = some (i + 1) → Φ (none, h', 0, 0)) : hp_F cst strs Φ D M 26 l [] h := by
  refine hp_arc c hM di1_k hD [i] rfl hy (hp_Bc (z := i) rfl b0 t0 hp_Bn) hp_Fn (hp_Kc (zi := (0 + 0)) (zv := (0 + (1 * i + 0))) k0 rfl rfl (by omega) (by omega) hp_Kn) (hp_La l0 hp_Ln) trivial ?_ ?_
  · intro p hp ys l' st' h' hys a1 a2 a3 gZ gL gS
    cases hp
  · intro p hp ys v h' hys a1 a2 a3 gZ gS
    rcases List.mem_cons.mp hp with rfl | hp
    · obtain rfl := hp_y0 hys
      have sv := hp_gSn gS
      cases v with
      | some w => cases sv
      | none =>
        exact r0 h' a1 a2 a3 (hp_gK (zi := (0 + 0)) (zv := (1 + (1 * i + 0))) gZ.2.2.2 (List.mem_of_getElem? (i := 0) rfl) rfl rfl (by omega) (by omega))
    cases hp
theorem dc0_k : hp_chk 102 0 4 [(0, 0, 1239), (1, (-2147483648), 2147483647), (2, (-9223372036854775808), 9223372036854775807), (3, (-2147483648), 2147483647)] [] [(0, .inr (.inr (.inl (some 30)))), (1, .inl (0, [(1, 1)])), (2, .inr (.inl (0, [(2, 1)]))), (4, .inl (0, [(3, 1)]))] [] [(3588, (0, []), (0, [(0, 1)]))] [] 2 [(25, ([], 4, [(0, 0, 1239), (1, (-2147483648), 2147483647), (2, (-9223372036854775808), 9223372036854775807), (3, (-2147483648), 2147483647)], [], [(0, .inr (.inr (.inl (some 30)))), (1, .inl (0, [(1, 1)])), (2, .inr (.inl (0, [(2, 1)]))), (4, .inl (0, [(3, 1)]))], [.inl (0, [(1, 1)]), .inl (0, [(0, 1)]), .inr (.inr (.inl (some 34)))], [(3588, (0, []), (0, [(0, 1)]))]))] [] = true := by decide +kernel
theorem dc0 {cst : am_K} {strs : List Nat} {Φ : am_Q → Prop} {D : Nat} {M : am_M} {h : am_H} {l : am_L} (c : hp_C cst strs D) (hM : m_P[102]? = some M) (hD : (2 : Int) ≤ (D : Int) + 1) (hy : ly_hy m_tt ly_TH h) (cc q v n : Int) (b0 : 0 ≤ cc) (t0 : cc ≤ 1239) (b1 : (-2147483648) ≤ q) (t1 : q ≤ 2147483647) (b2 : (-9223372036854775808) ≤ v) (t2 : v ≤ 9223372036854775807) (b3 : (-2147483648) ≤ n) (t3 : n ≤ 2147483647) (k0 : ly_hv cst h 3588 0 = some (cc)) (l0 : hp_a l 0 30) (l1 : hp_i l 1 (q)) (l2 : hp_j l 2 (v)) (l4 : hp_i l 4 (n)) (e0 : ∀ (l' : am_L) (h' : am_H) (y0 : Int32) (y1 : Int32), y0.toInt = (q) → y1.toInt = (cc) → ly_hy m_tt ly_TH h' → ly_fr cst [] h h' → h.length ≤ h'.length → ly_hv cst h' 3588 0 = some (cc) → hp_a l' 0 30 → hp_i l' 1 (q) → hp_j l' 2 (v) → hp_i l' 4 (n) → hp_F cst strs Φ D M 25 l' [.int y0, .int y1, .ref 34] h') : hp_F cst strs Φ D M 0 l [] h := by
  refine hp_arc c hM dc0_k hD [cc, q, v, n] rfl hy (hp_Bc (z := cc) rfl b0 t0 (hp_Bc (z := q) rfl b1 t1 (hp_Bc (z := v) rfl b2 t2 (hp_Bc (z := n) rfl b3 t3 hp_Bn)))) hp_Fn (hp_Kc (zi := (0 + 0)) (zv := (0 + (1 * cc + 0))) k0 rfl rfl (by omega) (by omega) hp_Kn) (hp_La l0 (hp_Li (z := (0 + (1 * q + 0))) l1 rfl (by omega) (hp_Lj (z := (0 + (1 * v + 0))) l2 rfl (by omega) (hp_Li (z := (0 + (1 * n + 0))) l4 rfl (by omega) hp_Ln)))) trivial ?_ ?_
  · intro p hp ys l' st' h' hys a1 a2 a3 gZ gL gS
    rcases List.mem_cons.mp hp with rfl | hp
    · obtain rfl := hp_y0 hys
      obtain ⟨y0, t0, rfl, q0, g0⟩ := hp_gSi (z := (0 + (1 * q + 0))) gS rfl
      obtain ⟨y1, t1, rfl, q1, g1⟩ := hp_gSi (z := (0 + (1 * cc + 0))) g0 rfl
      obtain ⟨t2, rfl, g2⟩ := hp_gSa g1 (by decide)
      cases hp_gSn g2
      exact e0 l' h' y0 y1 (by omega) (by omega) a1 a2 a3 (hp_gK (zi := (0 + 0)) (zv := (0 + (1 * cc + 0))) gZ.2.2.2 (List.mem_of_getElem? (i := 0) rfl) rfl rfl (by omega) (by omega)) (hp_gLa gL (List.mem_of_getElem? (i := 0) rfl) (by decide)) (hp_gLi (z := (0 + (1 * q + 0))) gL (List.mem_of_getElem? (i := 1) rfl) rfl (by omega)) (hp_gLj (z := (0 + (1 * v + 0))) gL (List.mem_of_getElem? (i := 2) rfl) rfl (by omega)) (hp_gLi (z := (0 + (1 * n + 0))) gL (List.mem_of_getElem? (i := 3) rfl) rfl (by omega))
    cases hp
  · intro p hp ys v h' hys a1 a2 a3 gZ gS
    cases hp
theorem dc1_k : hp_chk 102 26 4 [(0, 0, 1239), (1, (-2147483648), 2147483647), (2, (-9223372036854775808), 9223372036854775807), (3, (-2147483648), 2147483647)] [] [(0, .inr (.inr (.inl (some 30)))), (1, .inl (0, [(1, 1)])), (2, .inr (.inl (0, [(2, 1)]))), (4, .inl (0, [(3, 1)]))] [] [(3588, (0, []), (0, [(0, 1)]))] [] 2 [(35, ([], 4, [(0, 0, 1239), (1, (-2147483648), 2147483647), (2, (-9223372036854775808), 9223372036854775807), (3, (-2147483648), 2147483647)], [], [(0, .inr (.inr (.inl (some 30)))), (1, .inl (0, [(1, 1)])), (2, .inr (.inl (0, [(2, 1)]))), (4, .inl (0, [(3, 1)]))], [.inr (.inl (0, [(2, 1)])), .inl (0, [(0, 1)]), .inr (.inr (.inl (some 35)))], [(3588, (0, []), (0, [(0, 1)]))]))] [] = true := by decide +kernel
theorem dc1 {cst : am_K} {strs : List Nat} {Φ : am_Q → Prop} {D : Nat} {M : am_M} {h : am_H} {l : am_L} (c : hp_C cst strs D) (hM : m_P[102]? = some M) (hD : (2 : Int) ≤ (D : Int) + 1) (hy : ly_hy m_tt ly_TH h) (cc q v n : Int) (b0 : 0 ≤ cc) (t0 : cc ≤ 1239) (b1 : (-2147483648) ≤ q) (t1 : q ≤ 2147483647) (b2 : (-9223372036854775808) ≤ v) (t2 : v ≤ 9223372036854775807) (b3 : (-2147483648) ≤ n) (t3 : n ≤ 2147483647) (k0 : ly_hv cst h 3588 0 = some (cc)) (l0 : hp_a l 0 30) (l1 : hp_i l 1 (q)) (l2 : hp_j l 2 (v)) (l4 : hp_i l 4 (n)) (e0 : ∀ (l' : am_L) (h' : am_H) (y0 : Int64) (y1 : Int32), y0.toInt = (v) → y1.toInt = (cc) → ly_hy m_tt ly_TH h' → ly_fr cst [] h h' → h.length ≤ h'.length → ly_hv cst h' 3588 0 = some (cc) → hp_a l' 0 30 → hp_i l' 1 (q) → hp_j l' 2 (v) → hp_i l' 4 (n) → hp_F cst strs Φ D M 35 l' [.long y0, .int y1, .ref 35] h') : hp_F cst strs Φ D M 26 l [] h := by
  refine hp_arc c hM dc1_k hD [cc, q, v, n] rfl hy (hp_Bc (z := cc) rfl b0 t0 (hp_Bc (z := q) rfl b1 t1 (hp_Bc (z := v) rfl b2 t2 (hp_Bc (z := n) rfl b3 t3 hp_Bn)))) hp_Fn (hp_Kc (zi := (0 + 0)) (zv := (0 + (1 * cc + 0))) k0 rfl rfl (by omega) (by omega) hp_Kn) (hp_La l0 (hp_Li (z := (0 + (1 * q + 0))) l1 rfl (by omega) (hp_Lj (z := (0 + (1 * v + 0))) l2 rfl (by omega) (hp_Li (z := (0 + (1 * n + 0))) l4 rfl (by omega) hp_Ln)))) trivial ?_ ?_
  · intro p hp ys l' st' h' hys a1 a2 a3 gZ gL gS
    rcases List.mem_cons.mp hp with rfl | hp
    · obtain rfl := hp_y0 hys
      obtain ⟨y0, t0, rfl, q0, g0⟩ := hp_gSj (z := (0 + (1 * v + 0))) gS rfl
      obtain ⟨y1, t1, rfl, q1, g1⟩ := hp_gSi (z := (0 + (1 * cc + 0))) g0 rfl
      obtain ⟨t2, rfl, g2⟩ := hp_gSa g1 (by decide)
      cases hp_gSn g2
      exact e0 l' h' y0 y1 (by omega) (by omega) a1 a2 a3 (hp_gK (zi := (0 + 0)) (zv := (0 + (1 * cc + 0))) gZ.2.2.2 (List.mem_of_getElem? (i := 0) rfl) rfl rfl (by omega) (by omega)) (hp_gLa gL (List.mem_of_getElem? (i := 0) rfl) (by decide)) (hp_gLi (z := (0 + (1 * q + 0))) gL (List.mem_of_getElem? (i := 1) rfl) rfl (by omega)) (hp_gLj (z := (0 + (1 * v + 0))) gL (List.mem_of_getElem? (i := 2) rfl) rfl (by omega)) (hp_gLi (z := (0 + (1 * n + 0))) gL (List.mem_of_getElem? (i := 3) rfl) rfl (by omega))
    cases hp
  · intro p hp ys v h' hys a1 a2 a3 gZ gS
    cases hp
theorem dc2_k : hp_chk 102 36 4 [(0, 0, 1239), (1, (-2147483648), 2147483647), (2, (-9223372036854775808), 9223372036854775807), (3, (-2147483648), 2147483647)] [] [(0, .inr (.inr (.inl (some 30)))), (1, .inl (0, [(1, 1)])), (2, .inr (.inl (0, [(2, 1)]))), (4, .inl (0, [(3, 1)]))] [] [(3588, (0, []), (0, [(0, 1)]))] [] 2 [(46, ([], 4, [(0, 0, 1239), (1, (-2147483648), 2147483647), (2, (-9223372036854775808), 9223372036854775807), (3, (-2147483648), 2147483647)], [], [(0, .inr (.inr (.inl (some 30)))), (1, .inl (0, [(1, 1)])), (2, .inr (.inl (0, [(2, 1)]))), (4, .inl (0, [(3, 1)]))], [.inl (0, [(3, 1)]), .inl (0, [(0, 1)]), .inr (.inr (.inl (some 36)))], [(3588, (0, []), (0, [(0, 1)]))]))] [] = true := by decide +kernel
theorem dc2 {cst : am_K} {strs : List Nat} {Φ : am_Q → Prop} {D : Nat} {M : am_M} {h : am_H} {l : am_L} (c : hp_C cst strs D) (hM : m_P[102]? = some M) (hD : (2 : Int) ≤ (D : Int) + 1) (hy : ly_hy m_tt ly_TH h) (cc q v n : Int) (b0 : 0 ≤ cc) (t0 : cc ≤ 1239) (b1 : (-2147483648) ≤ q) (t1 : q ≤ 2147483647) (b2 : (-9223372036854775808) ≤ v) (t2 : v ≤ 9223372036854775807) (b3 : (-2147483648) ≤ n) (t3 : n ≤ 2147483647) (k0 : ly_hv cst h 3588 0 = some (cc)) (l0 : hp_a l 0 30) (l1 : hp_i l 1 (q)) (l2 : hp_j l 2 (v)) (l4 : hp_i l 4 (n)) (e0 : ∀ (l' : am_L) (h' : am_H) (y0 : Int32) (y1 : Int32), y0.toInt = (n) → y1.toInt = (cc) → ly_hy m_tt ly_TH h' → ly_fr cst [] h h' → h.length ≤ h'.length → ly_hv cst h' 3588 0 = some (cc) → hp_a l' 0 30 → hp_i l' 1 (q) → hp_j l' 2 (v) → hp_i l' 4 (n) → hp_F cst strs Φ D M 46 l' [.int y0, .int y1, .ref 36] h') : hp_F cst strs Φ D M 36 l [] h := by
  refine hp_arc c hM dc2_k hD [cc, q, v, n] rfl hy (hp_Bc (z := cc) rfl b0 t0 (hp_Bc (z := q) rfl b1 t1 (hp_Bc (z := v) rfl b2 t2 (hp_Bc (z := n) rfl b3 t3 hp_Bn)))) hp_Fn (hp_Kc (zi := (0 + 0)) (zv := (0 + (1 * cc + 0))) k0 rfl rfl (by omega) (by omega) hp_Kn) (hp_La l0 (hp_Li (z := (0 + (1 * q + 0))) l1 rfl (by omega) (hp_Lj (z := (0 + (1 * v + 0))) l2 rfl (by omega) (hp_Li (z := (0 + (1 * n + 0))) l4 rfl (by omega) hp_Ln)))) trivial ?_ ?_
  · intro p hp ys l' st' h' hys a1 a2 a3 gZ gL gS
    rcases List.mem_cons.mp hp with rfl | hp
    · obtain rfl := hp_y0 hys
      obtain ⟨y0, t0, rfl, q0, g0⟩ := hp_gSi (z := (0 + (1 * n + 0))) gS rfl
      obtain ⟨y1, t1, rfl, q1, g1⟩ := hp_gSi (z := (0 + (1 * cc + 0))) g0 rfl
      obtain ⟨t2, rfl, g2⟩ := hp_gSa g1 (by decide)
      cases hp_gSn g2
      exact e0 l' h' y0 y1 (by omega) (by omega) a1 a2 a3 (hp_gK (zi := (0 + 0)) (zv := (0 + (1 * cc + 0))) gZ.2.2.2 (List.mem_of_getElem? (i := 0) rfl) rfl rfl (by omega) (by omega)) (hp_gLa gL (List.mem_of_getElem? (i := 0) rfl) (by decide)) (hp_gLi (z := (0 + (1 * q + 0))) gL (List.mem_of_getElem? (i := 1) rfl) rfl (by omega)) (hp_gLj (z := (0 + (1 * v + 0))) gL (List.mem_of_getElem? (i := 2) rfl) rfl (by omega)) (hp_gLi (z := (0 + (1 * n + 0))) gL (List.mem_of_getElem? (i := 3) rfl) rfl (by omega))
    cases hp
  · intro p hp ys v h' hys a1 a2 a3 gZ gS
    cases hp
theorem dc3_k : hp_chk 102 47 2 [(0, 0, 1239), (1, 0, 30)] [] [(0, .inr (.inr (.inl (some 30))))] [] [(3588, (0, []), (0, [(0, 1)])), (3584, (0, []), (0, [(1, 1)]))] [] 2 [(59, ([], 2, [(0, 0, 1239), (1, 0, 30)], [], [(0, .inr (.inr (.inl (some 30))))], [.inl (0, [(1, 1)]), .inl (0, [(0, 1)]), .inr (.inr (.inl (some 37)))], [(3588, (0, []), (0, [(0, 1)]))]))] [] = true := by decide +kernel
theorem dc3 {cst : am_K} {strs : List Nat} {Φ : am_Q → Prop} {D : Nat} {M : am_M} {h : am_H} {l : am_L} (c : hp_C cst strs D) (hM : m_P[102]? = some M) (hD : (2 : Int) ≤ (D : Int) + 1) (hy : ly_hy m_tt ly_TH h) (cc a : Int) (b0 : 0 ≤ cc) (t0 : cc ≤ 1239) (b1 : 0 ≤ a) (t1 : a ≤ 30) (k0 : ly_hv cst h 3588 0 = some (cc)) (k1 : ly_hv cst h 3584 0 = some (a)) (l0 : hp_a l 0 30) (e0 : ∀ (l' : am_L) (h' : am_H) (y0 : Int32) (y1 : Int32), y0.toInt = (a) → y1.toInt = (cc) → ly_hy m_tt ly_TH h' → ly_fr cst [] h h' → h.length ≤ h'.length → ly_hv cst h' 3588 0 = some (cc) → hp_a l' 0 30 → hp_F cst strs Φ D M 59 l' [.int y0, .int y1, .ref 37] h') : hp_F cst strs Φ D M 47 l [] h := by
  refine hp_arc c hM dc3_k hD [cc, a] rfl hy (hp_Bc (z := cc) rfl b0 t0 (hp_Bc (z := a) rfl b1 t1 hp_Bn)) hp_Fn (hp_Kc (zi := (0 + 0)) (zv := (0 + (1 * cc + 0))) k0 rfl rfl (by omega) (by omega) (hp_Kc (zi := (0 + 0)) (zv := (0 + (1 * a + 0))) k1 rfl rfl (by omega) (by omega) hp_Kn)) (hp_La l0 hp_Ln) trivial ?_ ?_
  · intro p hp ys l' st' h' hys a1 a2 a3 gZ gL gS
    rcases List.mem_cons.mp hp with rfl | hp
    · obtain rfl := hp_y0 hys
      obtain ⟨y0, t0, rfl, q0, g0⟩ := hp_gSi (z := (0 + (1 * a + 0))) gS rfl
      obtain ⟨y1, t1, rfl, q1, g1⟩ := hp_gSi (z := (0 + (1 * cc + 0))) g0 rfl
      obtain ⟨t2, rfl, g2⟩ := hp_gSa g1 (by decide)
      cases hp_gSn g2
      exact e0 l' h' y0 y1 (by omega) (by omega) a1 a2 a3 (hp_gK (zi := (0 + 0)) (zv := (0 + (1 * cc + 0))) gZ.2.2.2 (List.mem_of_getElem? (i := 0) rfl) rfl rfl (by omega) (by omega)) (hp_gLa gL (List.mem_of_getElem? (i := 0) rfl) (by decide))
    cases hp
  · intro p hp ys v h' hys a1 a2 a3 gZ gS
    cases hp
theorem dc5_k : hp_chk 102 60 2 [(0, 0, 1239), (1, 0, 10240)] [] [(0, .inr (.inr (.inl (some 30))))] [] [(3588, (0, []), (0, [(0, 1)])), (3594, (0, []), (0, [(1, 1)]))] [3588, 60010, 60011, 60012] 2 [(82, ([], 2, [(0, 0, 1239), (1, 0, 10240)], [], [(0, .inr (.inr (.inl (some 30))))], [.inl (0, [(1, 1)]), .inl (1, [(0, 1)]), .inr (.inr (.inl (some 38)))], [(3588, (0, []), (1, [(0, 1)]))]))] [] = true := by decide +kernel
theorem dc5 {cst : am_K} {strs : List Nat} {Φ : am_Q → Prop} {D : Nat} {M : am_M} {h : am_H} {l : am_L} (c : hp_C cst strs D) (hM : m_P[102]? = some M) (hD : (2 : Int) ≤ (D : Int) + 1) (hy : ly_hy m_tt ly_TH h) (cc i : Int) (b0 : 0 ≤ cc) (t0 : cc ≤ 1239) (b1 : 0 ≤ i) (t1 : i ≤ 10240) (k0 : ly_hv cst h 3588 0 = some (cc)) (k1 : ly_hv cst h 3594 0 = some (i)) (l0 : hp_a l 0 30) (e0 : ∀ (l' : am_L) (h' : am_H) (y0 : Int32) (y1 : Int32), y0.toInt = (i) → y1.toInt = (cc + 1) → ly_hy m_tt ly_TH h' → ly_fr cst [3588, 60010, 60011, 60012] h h' → h.length ≤ h'.length → ly_hv cst h' 3588 0 = some (cc + 1) → hp_a l' 0 30 → hp_F cst strs Φ D M 82 l' [.int y0, .int y1, .ref 38] h') : hp_F cst strs Φ D M 60 l [] h := by
  refine hp_arc c hM dc5_k hD [cc, i] rfl hy (hp_Bc (z := cc) rfl b0 t0 (hp_Bc (z := i) rfl b1 t1 hp_Bn)) hp_Fn (hp_Kc (zi := (0 + 0)) (zv := (0 + (1 * cc + 0))) k0 rfl rfl (by omega) (by omega) (hp_Kc (zi := (0 + 0)) (zv := (0 + (1 * i + 0))) k1 rfl rfl (by omega) (by omega) hp_Kn)) (hp_La l0 hp_Ln) trivial ?_ ?_
  · intro p hp ys l' st' h' hys a1 a2 a3 gZ gL gS
    rcases List.mem_cons.mp hp with rfl | hp
    · obtain rfl := hp_y0 hys
      obtain ⟨y0, t0, rfl, q0, g0⟩ := hp_gSi (z := (0 + (1 * i + 0))) gS rfl
      obtain ⟨y1, t1, rfl, q1, g1⟩ := hp_gSi (z := (1 + (1 * cc + 0))) g0 rfl
      obtain ⟨t2, rfl, g2⟩ := hp_gSa g1 (by decide)
      cases hp_gSn g2
      exact e0 l' h' y0 y1 (by omega) (by omega) a1 a2 a3 (hp_gK (zi := (0 + 0)) (zv := (1 + (1 * cc + 0))) gZ.2.2.2 (List.mem_of_getElem? (i := 0) rfl) rfl rfl (by omega) (by omega)) (hp_gLa gL (List.mem_of_getElem? (i := 0) rfl) (by decide))
    cases hp
  · intro p hp ys v h' hys a1 a2 a3 gZ gS
    cases hp
theorem dc4_k : hp_chk 102 83 0 [] [] [(0, .inr (.inr (.inl (some 30))))] [] [] [] 2 [] [([], 0, [], [], [], [], [])] = true := by decide +kernel
theorem dc4 {cst : am_K} {strs : List Nat} {Φ : am_Q → Prop} {D : Nat} {M : am_M} {h : am_H} {l : am_L} (c : hp_C cst strs D) (hM : m_P[102]? = some M) (hD : (2 : Int) ≤ (D : Int) + 1) (hy : ly_hy m_tt ly_TH h) (l0 : hp_a l 0 30) (r0 : ∀ (h' : am_H), ly_hy m_tt ly_TH h' → ly_fr cst [] h h' → h.length ≤ h'.length → Φ (none, h', 0, 0)) : hp_F cst strs Φ D M 83 l [] h := by
  refine hp_arc c hM dc4_k hD [] rfl hy hp_Bn hp_Fn hp_Kn (hp_La l0 hp_Ln) trivial ?_ ?_
  · intro p hp ys l' st' h' hys a1 a2 a3 gZ gL gS
    cases hp
  · intro p hp ys v h' hys a1 a2 a3 gZ gS
    rcases List.mem_cons.mp hp with rfl | hp
    · obtain rfl := hp_y0 hys
      have sv := hp_gSn gS
      cases v with
      | some w => cases sv
      | none =>
        exact r0 h' a1 a2 a3
    cases hp
theorem cm0_k : hp_chk 56 0 4 [(0, 0, 1240), (1, 0, 1240), (2, 0, 14), (3, (-9223372036854775808), 9223372036854775807)] [] [(0, .inr (.inr (.inl (some 30)))), (1, .inl (0, [(0, 1)])), (2, .inl (0, [(1, 1)])), (3, .inl (0, [(2, 1)])), (4, .inr (.inl (0, [(3, 1)])))] [] [] [] 2 [(3, ([], 4, [(0, 0, 1240), (1, 0, 1240), (2, 0, 14), (3, (-9223372036854775808), 9223372036854775807)], [], [(0, .inr (.inr (.inl (some 30)))), (1, .inl (0, [(0, 1)])), (2, .inl (0, [(1, 1)])), (3, .inl (0, [(2, 1)])), (4, .inr (.inl (0, [(3, 1)]))), (6, .inl (0, [(0, 1)]))], [], []))] [] = true := by decide +kernel
theorem cm0 {cst : am_K} {strs : List Nat} {Φ : am_Q → Prop} {D : Nat} {M : am_M} {h : am_H} {l : am_L} (c : hp_C cst strs D) (hM : m_P[56]? = some M) (hD : (2 : Int) ≤ (D : Int) + 1) (hy : ly_hy m_tt ly_TH h) (f e k d : Int) (b0 : 0 ≤ f) (t0 : f ≤ 1240) (b1 : 0 ≤ e) (t1 : e ≤ 1240) (b2 : 0 ≤ k) (t2 : k ≤ 14) (b3 : (-9223372036854775808) ≤ d) (t3 : d ≤ 9223372036854775807) (l0 : hp_a l 0 30) (l1 : hp_i l 1 (f)) (l2 : hp_i l 2 (e)) (l3 : hp_i l 3 (k)) (l4 : hp_j l 4 (d)) (e0 : ∀ (l' : am_L) (h' : am_H), ly_hy m_tt ly_TH h' → ly_fr cst [] h h' → h.length ≤ h'.length → hp_a l' 0 30 → hp_i l' 1 (f) → hp_i l' 2 (e) → hp_i l' 3 (k) → hp_j l' 4 (d) → hp_i l' 6 (f) → hp_F cst strs Φ D M 3 l' [] h') : hp_F cst strs Φ D M 0 l [] h := by
  refine hp_arc c hM cm0_k hD [f, e, k, d] rfl hy (hp_Bc (z := f) rfl b0 t0 (hp_Bc (z := e) rfl b1 t1 (hp_Bc (z := k) rfl b2 t2 (hp_Bc (z := d) rfl b3 t3 hp_Bn)))) hp_Fn hp_Kn (hp_La l0 (hp_Li (z := (0 + (1 * f + 0))) l1 rfl (by omega) (hp_Li (z := (0 + (1 * e + 0))) l2 rfl (by omega) (hp_Li (z := (0 + (1 * k + 0))) l3 rfl (by omega) (hp_Lj (z := (0 + (1 * d + 0))) l4 rfl (by omega) hp_Ln))))) trivial ?_ ?_
  · intro p hp ys l' st' h' hys a1 a2 a3 gZ gL gS
    rcases List.mem_cons.mp hp with rfl | hp
    · obtain rfl := hp_y0 hys
      cases hp_gSn gS
      exact e0 l' h' a1 a2 a3 (hp_gLa gL (List.mem_of_getElem? (i := 0) rfl) (by decide)) (hp_gLi (z := (0 + (1 * f + 0))) gL (List.mem_of_getElem? (i := 1) rfl) rfl (by omega)) (hp_gLi (z := (0 + (1 * e + 0))) gL (List.mem_of_getElem? (i := 2) rfl) rfl (by omega)) (hp_gLi (z := (0 + (1 * k + 0))) gL (List.mem_of_getElem? (i := 3) rfl) rfl (by omega)) (hp_gLj (z := (0 + (1 * d + 0))) gL (List.mem_of_getElem? (i := 4) rfl) rfl (by omega)) (hp_gLi (z := (0 + (1 * f + 0))) gL (List.mem_of_getElem? (i := 5) rfl) rfl (by omega))
    cases hp
  · intro p hp ys v h' hys a1 a2 a3 gZ gS
    cases hp
theorem cm1_k : hp_chk 56 3 6 [(0, 0, 1240), (1, 0, 1240), (2, 0, 14), (3, (-9223372036854775808), 9223372036854775807), (4, 0, 1239), (5, (-2147483648), 2147483647)] [((-1), [(1, 1), (4, (-1))])] [(0, .inr (.inr (.inl (some 30)))), (1, .inl (0, [(0, 1)])), (2, .inl (0, [(1, 1)])), (3, .inl (0, [(2, 1)])), (4, .inr (.inl (0, [(3, 1)]))), (6, .inl (0, [(4, 1)]))] [] [(4608, (0, [(4, 1)]), (0, [(5, 1)])), (61000, (0, [(2, (-1)), (5, 1)]), (1, []))] [] 2 [(3, ([], 6, [(0, 0, 1240), (1, 0, 1240), (2, 0, 14), (3, (-9223372036854775808), 9223372036854775807), (4, 0, 1239), (5, (-2147483648), 2147483647)], [], [(0, .inr (.inr (.inl (some 30)))), (1, .inl (0, [(0, 1)])), (2, .inl (0, [(1, 1)])), (3, .inl (0, [(2, 1)])), (4, .inr (.inl (0, [(3, 1)]))), (6, .inl (1, [(4, 1)]))], [], []))] [] = true := by decide +kernel
theorem cm1 {cst : am_K} {strs : List Nat} {Φ : am_Q → Prop} {D : Nat} {M : am_M} {h : am_H} {l : am_L} (c : hp_C cst strs D) (hM : m_P[56]? = some M) (hD : (2 : Int) ≤ (D : Int) + 1) (hy : ly_hy m_tt ly_TH h) (f e k d i x : Int) (b0 : 0 ≤ f) (t0 : f ≤ 1240) (b1 : 0 ≤ e) (t1 : e ≤ 1240) (b2 : 0 ≤ k) (t2 : k ≤ 14) (b3 : (-9223372036854775808) ≤ d) (t3 : d ≤ 9223372036854775807) (b4 : 0 ≤ i) (t4 : i ≤ 1239) (b5 : (-2147483648) ≤ x) (t5 : x ≤ 2147483647) (f0 : 0 ≤ (e - i - 1)) (k0 : ly_hv cst h 4608 (i) = some (x)) (k1 : ly_hv cst h 61000 (x - k) = some 1) (l0 : hp_a l 0 30) (l1 : hp_i l 1 (f)) (l2 : hp_i l 2 (e)) (l3 : hp_i l 3 (k)) (l4 : hp_j l 4 (d)) (l6 : hp_i l 6 (i)) (e0 : ∀ (l' : am_L) (h' : am_H), ly_hy m_tt ly_TH h' → ly_fr cst [] h h' → h.length ≤ h'.length → hp_a l' 0 30 → hp_i l' 1 (f) → hp_i l' 2 (e) → hp_i l' 3 (k) → hp_j l' 4 (d) → hp_i l' 6 (i + 1) → hp_F cst strs Φ D M 3 l' [] h') : hp_F cst strs Φ D M 3 l [] h := by
  refine hp_arc c hM cm1_k hD [f, e, k, d, i, x] rfl hy (hp_Bc (z := f) rfl b0 t0 (hp_Bc (z := e) rfl b1 t1 (hp_Bc (z := k) rfl b2 t2 (hp_Bc (z := d) rfl b3 t3 (hp_Bc (z := i) rfl b4 t4 (hp_Bc (z := x) rfl b5 t5 hp_Bn)))))) (hp_Fc (z := ((-1) + (1 * e + ((-1) * i + 0)))) rfl (by omega) hp_Fn) (hp_Kc (zi := (0 + (1 * i + 0))) (zv := (0 + (1 * x + 0))) k0 rfl rfl (by omega) (by omega) (hp_Kc (zi := (0 + ((-1) * k + (1 * x + 0)))) (zv := (1 + 0)) k1 rfl rfl (by omega) (by omega) hp_Kn)) (hp_La l0 (hp_Li (z := (0 + (1 * f + 0))) l1 rfl (by omega) (hp_Li (z := (0 + (1 * e + 0))) l2 rfl (by omega) (hp_Li (z := (0 + (1 * k + 0))) l3 rfl (by omega) (hp_Lj (z := (0 + (1 * d + 0))) l4 rfl (by omega) (hp_Li (z := (0 + (1 * i + 0))) l6 rfl (by omega) hp_Ln)))))) trivial ?_ ?_
  · intro p hp ys l' st' h' hys a1 a2 a3 gZ gL gS
    rcases List.mem_cons.mp hp with rfl | hp
    · obtain rfl := hp_y0 hys
      cases hp_gSn gS
      exact e0 l' h' a1 a2 a3 (hp_gLa gL (List.mem_of_getElem? (i := 0) rfl) (by decide)) (hp_gLi (z := (0 + (1 * f + 0))) gL (List.mem_of_getElem? (i := 1) rfl) rfl (by omega)) (hp_gLi (z := (0 + (1 * e + 0))) gL (List.mem_of_getElem? (i := 2) rfl) rfl (by omega)) (hp_gLi (z := (0 + (1 * k + 0))) gL (List.mem_of_getElem? (i := 3) rfl) rfl (by omega)) (hp_gLj (z := (0 + (1 * d + 0))) gL (List.mem_of_getElem? (i := 4) rfl) rfl (by omega)) (hp_gLi (z := (1 + (1 * i + 0))) gL (List.mem_of_getElem? (i := 5) rfl) rfl (by omega))
    cases hp
  · intro p hp ys v h' hys a1 a2 a3 gZ gS
    cases hp
theorem cm2_k : hp_chk 56 3 6 [(0, 0, 1240), (1, 0, 1240), (2, 0, 14), (3, (-9223372036854775808), 9223372036854775807), (4, 0, 1239), (5, (-9223372036854775808), 9223372036854775807)] [((-1), [(1, 1), (4, (-1))])] [(0, .inr (.inr (.inl (some 30)))), (1, .inl (0, [(0, 1)])), (2, .inl (0, [(1, 1)])), (3, .inl (0, [(2, 1)])), (4, .inr (.inl (0, [(3, 1)]))), (6, .inl (0, [(4, 1)]))] [] [(4608, (0, [(4, 1)]), (0, [(2, 1)])), (4864, (0, [(4, 1)]), (0, [(5, 1)])), (61000, (0, [(3, (-1)), (5, 1)]), (1, []))] [] 2 [(3, ([], 6, [(0, 0, 1240), (1, 0, 1240), (2, 0, 14), (3, (-9223372036854775808), 9223372036854775807), (4, 0, 1239), (5, (-9223372036854775808), 9223372036854775807)], [], [(0, .inr (.inr (.inl (some 30)))), (1, .inl (0, [(0, 1)])), (2, .inl (0, [(1, 1)])), (3, .inl (0, [(2, 1)])), (4, .inr (.inl (0, [(3, 1)]))), (6, .inl (1, [(4, 1)]))], [], []))] [] = true := by decide +kernel
theorem cm2 {cst : am_K} {strs : List Nat} {Φ : am_Q → Prop} {D : Nat} {M : am_M} {h : am_H} {l : am_L} (c : hp_C cst strs D) (hM : m_P[56]? = some M) (hD : (2 : Int) ≤ (D : Int) + 1) (hy : ly_hy m_tt ly_TH h) (f e k d i y : Int) (b0 : 0 ≤ f) (t0 : f ≤ 1240) (b1 : 0 ≤ e) (t1 : e ≤ 1240) (b2 : 0 ≤ k) (t2 : k ≤ 14) (b3 : (-9223372036854775808) ≤ d) (t3 : d ≤ 9223372036854775807) (b4 : 0 ≤ i) (t4 : i ≤ 1239) (b5 : (-9223372036854775808) ≤ y) (t5 : y ≤ 9223372036854775807) (f0 : 0 ≤ (e - i - 1)) (k0 : ly_hv cst h 4608 (i) = some (k)) (k1 : ly_hv cst h 4864 (i) = some (y)) (k2 : ly_hv cst h 61000 (y - d) = some 1) (l0 : hp_a l 0 30) (l1 : hp_i l 1 (f)) (l2 : hp_i l 2 (e)) (l3 : hp_i l 3 (k)) (l4 : hp_j l 4 (d)) (l6 : hp_i l 6 (i)) (e0 : ∀ (l' : am_L) (h' : am_H), ly_hy m_tt ly_TH h' → ly_fr cst [] h h' → h.length ≤ h'.length → hp_a l' 0 30 → hp_i l' 1 (f) → hp_i l' 2 (e) → hp_i l' 3 (k) → hp_j l' 4 (d) → hp_i l' 6 (i + 1) → hp_F cst strs Φ D M 3 l' [] h') : hp_F cst strs Φ D M 3 l [] h := by
  refine hp_arc c hM cm2_k hD [f, e, k, d, i, y] rfl hy (hp_Bc (z := f) rfl b0 t0 (hp_Bc (z := e) rfl b1 t1 (hp_Bc (z := k) rfl b2 t2 (hp_Bc (z := d) rfl b3 t3 (hp_Bc (z := i) rfl b4 t4 (hp_Bc (z := y) rfl b5 t5 hp_Bn)))))) (hp_Fc (z := ((-1) + (1 * e + ((-1) * i + 0)))) rfl (by omega) hp_Fn) (hp_Kc (zi := (0 + (1 * i + 0))) (zv := (0 + (1 * k + 0))) k0 rfl rfl (by omega) (by omega) (hp_Kc (zi := (0 + (1 * i + 0))) (zv := (0 + (1 * y + 0))) k1 rfl rfl (by omega) (by omega) (hp_Kc (zi := (0 + ((-1) * d + (1 * y + 0)))) (zv := (1 + 0)) k2 rfl rfl (by omega) (by omega) hp_Kn))) (hp_La l0 (hp_Li (z := (0 + (1 * f + 0))) l1 rfl (by omega) (hp_Li (z := (0 + (1 * e + 0))) l2 rfl (by omega) (hp_Li (z := (0 + (1 * k + 0))) l3 rfl (by omega) (hp_Lj (z := (0 + (1 * d + 0))) l4 rfl (by omega) (hp_Li (z := (0 + (1 * i + 0))) l6 rfl (by omega) hp_Ln)))))) trivial ?_ ?_
  · intro p hp ys l' st' h' hys a1 a2 a3 gZ gL gS
    rcases List.mem_cons.mp hp with rfl | hp
    · obtain rfl := hp_y0 hys
      cases hp_gSn gS
      exact e0 l' h' a1 a2 a3 (hp_gLa gL (List.mem_of_getElem? (i := 0) rfl) (by decide)) (hp_gLi (z := (0 + (1 * f + 0))) gL (List.mem_of_getElem? (i := 1) rfl) rfl (by omega)) (hp_gLi (z := (0 + (1 * e + 0))) gL (List.mem_of_getElem? (i := 2) rfl) rfl (by omega)) (hp_gLi (z := (0 + (1 * k + 0))) gL (List.mem_of_getElem? (i := 3) rfl) rfl (by omega)) (hp_gLj (z := (0 + (1 * d + 0))) gL (List.mem_of_getElem? (i := 4) rfl) rfl (by omega)) (hp_gLi (z := (1 + (1 * i + 0))) gL (List.mem_of_getElem? (i := 5) rfl) rfl (by omega))
    cases hp
  · intro p hp ys v h' hys a1 a2 a3 gZ gS
    cases hp
theorem cm3_k : hp_chk 56 3 5 [(0, 0, 1240), (1, 0, 1240), (2, 0, 14), (3, (-9223372036854775808), 9223372036854775807), (4, 0, 1239)] [((-1), [(1, 1), (4, (-1))])] [(0, .inr (.inr (.inl (some 30)))), (1, .inl (0, [(0, 1)])), (2, .inl (0, [(1, 1)])), (3, .inl (0, [(2, 1)])), (4, .inr (.inl (0, [(3, 1)]))), (6, .inl (0, [(4, 1)]))] [] [(4608, (0, [(4, 1)]), (0, [(2, 1)])), (4864, (0, [(4, 1)]), (0, [(3, 1)]))] [] 2 [] [([], 5, [(0, 0, 1240), (1, 0, 1240), (2, 0, 14), (3, (-9223372036854775808), 9223372036854775807), (4, 0, 1239)], [], [], [.inl (0, [(4, 1)])], [])] = true := by decide +kernel
theorem cm3 {cst : am_K} {strs : List Nat} {Φ : am_Q → Prop} {D : Nat} {M : am_M} {h : am_H} {l : am_L} (c : hp_C cst strs D) (hM : m_P[56]? = some M) (hD : (2 : Int) ≤ (D : Int) + 1) (hy : ly_hy m_tt ly_TH h) (f e k d i : Int) (b0 : 0 ≤ f) (t0 : f ≤ 1240) (b1 : 0 ≤ e) (t1 : e ≤ 1240) (b2 : 0 ≤ k) (t2 : k ≤ 14) (b3 : (-9223372036854775808) ≤ d) (t3 : d ≤ 9223372036854775807) (b4 : 0 ≤ i) (t4 : i ≤ 1239) (f0 : 0 ≤ (e - i - 1)) (k0 : ly_hv cst h 4608 (i) = some (k)) (k1 : ly_hv cst h 4864 (i) = some (d)) (l0 : hp_a l 0 30) (l1 : hp_i l 1 (f)) (l2 : hp_i l 2 (e)) (l3 : hp_i l 3 (k)) (l4 : hp_j l 4 (d)) (l6 : hp_i l 6 (i)) (r0 : ∀ (h' : am_H) (y0 : Int32), y0.toInt = (i) → ly_hy m_tt ly_TH h' → ly_fr cst [] h h' → h.length ≤ h'.length → Φ (some (.int y0), h', 0, 0)) : hp_F cst strs Φ D M 3 l [] h := by
  refine hp_arc c hM cm3_k hD [f, e, k, d, i] rfl hy (hp_Bc (z := f) rfl b0 t0 (hp_Bc (z := e) rfl b1 t1 (hp_Bc (z := k) rfl b2 t2 (hp_Bc (z := d) rfl b3 t3 (hp_Bc (z := i) rfl b4 t4 hp_Bn))))) (hp_Fc (z := ((-1) + (1 * e + ((-1) * i + 0)))) rfl (by omega) hp_Fn) (hp_Kc (zi := (0 + (1 * i + 0))) (zv := (0 + (1 * k + 0))) k0 rfl rfl (by omega) (by omega) (hp_Kc (zi := (0 + (1 * i + 0))) (zv := (0 + (1 * d + 0))) k1 rfl rfl (by omega) (by omega) hp_Kn)) (hp_La l0 (hp_Li (z := (0 + (1 * f + 0))) l1 rfl (by omega) (hp_Li (z := (0 + (1 * e + 0))) l2 rfl (by omega) (hp_Li (z := (0 + (1 * k + 0))) l3 rfl (by omega) (hp_Lj (z := (0 + (1 * d + 0))) l4 rfl (by omega) (hp_Li (z := (0 + (1 * i + 0))) l6 rfl (by omega) hp_Ln)))))) trivial ?_ ?_
  · intro p hp ys l' st' h' hys a1 a2 a3 gZ gL gS
    cases hp
  · intro p hp ys v h' hys a1 a2 a3 gZ gS
    rcases List.mem_cons.mp hp with rfl | hp
    · obtain rfl := hp_y0 hys
      cases v with
      | none => cases gS
      | some w =>
        obtain ⟨y0, t0, s0, q0, -⟩ := hp_gSi (z := (0 + (1 * i + 0))) gS rfl
        cases s0
        exact r0 h' y0 (by omega) a1 a2 a3
    cases hp
theorem cm4_k : hp_chk 56 3 4 [(0, 0, 1240), (1, 0, 1240), (2, 0, 14), (3, (-9223372036854775808), 9223372036854775807)] [] [(0, .inr (.inr (.inl (some 30)))), (1, .inl (0, [(0, 1)])), (2, .inl (0, [(1, 1)])), (3, .inl (0, [(2, 1)])), (4, .inr (.inl (0, [(3, 1)]))), (6, .inl (0, [(1, 1)]))] [] [] [] 2 [] [([], 4, [(0, 0, 1240), (1, 0, 1240), (2, 0, 14), (3, (-9223372036854775808), 9223372036854775807)], [], [], [.inl ((-1), [])], [])] = true := by decide +kernel
theorem cm4 {cst : am_K} {strs : List Nat} {Φ : am_Q → Prop} {D : Nat} {M : am_M} {h : am_H} {l : am_L} (c : hp_C cst strs D) (hM : m_P[56]? = some M) (hD : (2 : Int) ≤ (D : Int) + 1) (hy : ly_hy m_tt ly_TH h) (f e k d : Int) (b0 : 0 ≤ f) (t0 : f ≤ 1240) (b1 : 0 ≤ e) (t1 : e ≤ 1240) (b2 : 0 ≤ k) (t2 : k ≤ 14) (b3 : (-9223372036854775808) ≤ d) (t3 : d ≤ 9223372036854775807) (l0 : hp_a l 0 30) (l1 : hp_i l 1 (f)) (l2 : hp_i l 2 (e)) (l3 : hp_i l 3 (k)) (l4 : hp_j l 4 (d)) (l6 : hp_i l 6 (e)) (r0 : ∀ (h' : am_H) (y0 : Int32), y0.toInt = (-1) → ly_hy m_tt ly_TH h' → ly_fr cst [] h h' → h.length ≤ h'.length → Φ (some (.int y0), h', 0, 0)) : hp_F cst strs Φ D M 3 l [] h := by
  refine hp_arc c hM cm4_k hD [f, e, k, d] rfl hy (hp_Bc (z := f) rfl b0 t0 (hp_Bc (z := e) rfl b1 t1 (hp_Bc (z := k) rfl b2 t2 (hp_Bc (z := d) rfl b3 t3 hp_Bn)))) hp_Fn hp_Kn (hp_La l0 (hp_Li (z := (0 + (1 * f + 0))) l1 rfl (by omega) (hp_Li (z := (0 + (1 * e + 0))) l2 rfl (by omega) (hp_Li (z := (0 + (1 * k + 0))) l3 rfl (by omega) (hp_Lj (z := (0 + (1 * d + 0))) l4 rfl (by omega) (hp_Li (z := (0 + (1 * e + 0))) l6 rfl (by omega) hp_Ln)))))) trivial ?_ ?_
  · intro p hp ys l' st' h' hys a1 a2 a3 gZ gL gS
    cases hp
  · intro p hp ys v h' hys a1 a2 a3 gZ gS
    rcases List.mem_cons.mp hp with rfl | hp
    · obtain rfl := hp_y0 hys
      cases v with
      | none => cases gS
      | some w =>
        obtain ⟨y0, t0, s0, q0, -⟩ := hp_gSi (z := ((-1) + 0)) gS rfl
        cases s0
        exact r0 h' y0 (by omega) a1 a2 a3
    cases hp
theorem dh0_k : hp_chk 85 0 5 [(0, 0, 14), (1, (-9223372036854775808), 9223372036854775807), (2, 0, 30), (3, 0, 1240), (4, 0, 1240)] [] [(0, .inr (.inr (.inl (some 30)))), (1, .inl (0, [(0, 1)])), (2, .inr (.inl (0, [(1, 1)])))] [] [(3584, (0, []), (0, [(2, 1)])), (4352, (0, [(2, 1)]), (0, [(3, 1)])), (3588, (0, []), (0, [(4, 1)]))] [] 2 [(16, ([], 5, [(0, 0, 14), (1, (-9223372036854775808), 9223372036854775807), (2, 0, 30), (3, 0, 1240), (4, 0, 1240)], [], [(0, .inr (.inr (.inl (some 30))))], [.inr (.inl (0, [(1, 1)])), .inl (0, [(0, 1)]), .inl (0, [(4, 1)]), .inl (0, [(3, 1)]), .inr (.inr (.inl (some 30)))], []))] [] = true := by decide +kernel
theorem dh0 {cst : am_K} {strs : List Nat} {Φ : am_Q → Prop} {D : Nat} {M : am_M} {h : am_H} {l : am_L} (c : hp_C cst strs D) (hM : m_P[85]? = some M) (hD : (2 : Int) ≤ (D : Int) + 1) (hy : ly_hy m_tt ly_TH h) (k d a f e : Int) (b0 : 0 ≤ k) (t0 : k ≤ 14) (b1 : (-9223372036854775808) ≤ d) (t1 : d ≤ 9223372036854775807) (b2 : 0 ≤ a) (t2 : a ≤ 30) (b3 : 0 ≤ f) (t3 : f ≤ 1240) (b4 : 0 ≤ e) (t4 : e ≤ 1240) (k0 : ly_hv cst h 3584 0 = some (a)) (k1 : ly_hv cst h 4352 (a) = some (f)) (k2 : ly_hv cst h 3588 0 = some (e)) (l0 : hp_a l 0 30) (l1 : hp_i l 1 (k)) (l2 : hp_j l 2 (d)) (e0 : ∀ (l' : am_L) (h' : am_H) (y0 : Int64) (y1 : Int32) (y2 : Int32) (y3 : Int32), y0.toInt = (d) → y1.toInt = (k) → y2.toInt = (e) → y3.toInt = (f) → ly_hy m_tt ly_TH h' → ly_fr cst [] h h' → h.length ≤ h'.length → hp_a l' 0 30 → hp_F cst strs Φ D M 16 l' [.long y0, .int y1, .int y2, .int y3, .ref 30] h') : hp_F cst strs Φ D M 0 l [] h := by
  refine hp_arc c hM dh0_k hD [k, d, a, f, e] rfl hy (hp_Bc (z := k) rfl b0 t0 (hp_Bc (z := d) rfl b1 t1 (hp_Bc (z := a) rfl b2 t2 (hp_Bc (z := f) rfl b3 t3 (hp_Bc (z := e) rfl b4 t4 hp_Bn))))) hp_Fn (hp_Kc (zi := (0 + 0)) (zv := (0 + (1 * a + 0))) k0 rfl rfl (by omega) (by omega) (hp_Kc (zi := (0 + (1 * a + 0))) (zv := (0 + (1 * f + 0))) k1 rfl rfl (by omega) (by omega) (hp_Kc (zi := (0 + 0)) (zv := (0 + (1 * e + 0))) k2 rfl rfl (by omega) (by omega) hp_Kn))) (hp_La l0 (hp_Li (z := (0 + (1 * k + 0))) l1 rfl (by omega) (hp_Lj (z := (0 + (1 * d + 0))) l2 rfl (by omega) hp_Ln))) trivial ?_ ?_
  · intro p hp ys l' st' h' hys a1 a2 a3 gZ gL gS
    rcases List.mem_cons.mp hp with rfl | hp
    · obtain rfl := hp_y0 hys
      obtain ⟨y0, t0, rfl, q0, g0⟩ := hp_gSj (z := (0 + (1 * d + 0))) gS rfl
      obtain ⟨y1, t1, rfl, q1, g1⟩ := hp_gSi (z := (0 + (1 * k + 0))) g0 rfl
      obtain ⟨y2, t2, rfl, q2, g2⟩ := hp_gSi (z := (0 + (1 * e + 0))) g1 rfl
      obtain ⟨y3, t3, rfl, q3, g3⟩ := hp_gSi (z := (0 + (1 * f + 0))) g2 rfl
      obtain ⟨t4, rfl, g4⟩ := hp_gSa g3 (by decide)
      cases hp_gSn g4
      exact e0 l' h' y0 y1 y2 y3 (by omega) (by omega) (by omega) (by omega) a1 a2 a3 (hp_gLa gL (List.mem_of_getElem? (i := 0) rfl) (by decide))
    cases hp
  · intro p hp ys v h' hys a1 a2 a3 gZ gS
    cases hp
theorem dh1_k : hp_chk 85 19 0 [] [] [(0, .inr (.inr (.inl (some 30))))] [.inl ((-1), [])] [] [] 2 [] [([], 0, [], [], [], [.inl (0, [])], [])] = true := by decide +kernel
theorem dh1 {cst : am_K} {strs : List Nat} {Φ : am_Q → Prop} {D : Nat} {M : am_M} {h : am_H} {l : am_L} (c : hp_C cst strs D) (hM : m_P[85]? = some M) (hD : (2 : Int) ≤ (D : Int) + 1) (hy : ly_hy m_tt ly_TH h) (x0 : Int32) (hx0 : x0.toInt = (-1)) (l0 : hp_a l 0 30) (r0 : ∀ (h' : am_H) (y0 : Int32), y0.toInt = 0 → ly_hy m_tt ly_TH h' → ly_fr cst [] h h' → h.length ≤ h'.length → Φ (some (.int y0), h', 0, 0)) : hp_F cst strs Φ D M 19 l [.int x0] h := by
  refine hp_arc c hM dh1_k hD [] rfl hy hp_Bn hp_Fn hp_Kn (hp_La l0 hp_Ln) (hp_Si (z := ((-1) + 0)) rfl (by omega) trivial) ?_ ?_
  · intro p hp ys l' st' h' hys a1 a2 a3 gZ gL gS
    cases hp
  · intro p hp ys v h' hys a1 a2 a3 gZ gS
    rcases List.mem_cons.mp hp with rfl | hp
    · obtain rfl := hp_y0 hys
      cases v with
      | none => cases gS
      | some w =>
        obtain ⟨y0, t0, s0, q0, -⟩ := hp_gSi (z := (0 + 0)) gS rfl
        cases s0
        exact r0 h' y0 (by omega) a1 a2 a3
    cases hp
theorem dh2_k : hp_chk 85 19 1 [(0, 0, 1239)] [] [(0, .inr (.inr (.inl (some 30))))] [.inl (0, [(0, 1)])] [] [] 2 [] [([], 1, [(0, 0, 1239)], [], [], [.inl (1, [])], [])] = true := by decide +kernel
theorem dh2 {cst : am_K} {strs : List Nat} {Φ : am_Q → Prop} {D : Nat} {M : am_M} {h : am_H} {l : am_L} (c : hp_C cst strs D) (hM : m_P[85]? = some M) (hD : (2 : Int) ≤ (D : Int) + 1) (hy : ly_hy m_tt ly_TH h) (y : Int) (x0 : Int32) (hx0 : x0.toInt = (y)) (b0 : 0 ≤ y) (t0 : y ≤ 1239) (l0 : hp_a l 0 30) (r0 : ∀ (h' : am_H) (y0 : Int32), y0.toInt = 1 → ly_hy m_tt ly_TH h' → ly_fr cst [] h h' → h.length ≤ h'.length → Φ (some (.int y0), h', 0, 0)) : hp_F cst strs Φ D M 19 l [.int x0] h := by
  refine hp_arc c hM dh2_k hD [y] rfl hy (hp_Bc (z := y) rfl b0 t0 hp_Bn) hp_Fn hp_Kn (hp_La l0 hp_Ln) (hp_Si (z := (0 + (1 * y + 0))) rfl (by omega) trivial) ?_ ?_
  · intro p hp ys l' st' h' hys a1 a2 a3 gZ gL gS
    cases hp
  · intro p hp ys v h' hys a1 a2 a3 gZ gS
    rcases List.mem_cons.mp hp with rfl | hp
    · obtain rfl := hp_y0 hys
      cases v with
      | none => cases gS
      | some w =>
        obtain ⟨y0, t0, s0, q0, -⟩ := hp_gSi (z := (1 + 0)) gS rfl
        cases s0
        exact r0 h' y0 (by omega) a1 a2 a3
    cases hp
def jwl : List Int := [498, 1476, 14836, 719722099, 1130181, 2273783, 307]
def cwl : List Int := [136356, 24627347, 4359816, 206277, 113428729, 365744, 431556, 349785, 394692, 11566, 3574901946597, 9309407396, 75148, 736548, 659105125, 609441381, 20579780]
/-- what the reader reads: tokens, and the words that it knows -/
def ct (cst : am_K) (h : am_H) (kd pl vl : Int → Int) (t : Nat) (n : Int) : Prop := ly_hv cst h 261 0 = some (t : Int) ∧ ly_hv cst h 262 0 = some n ∧ (∀ j : Nat, j < t → ly_hv cst h 768 (j : Int) = some (kd (j : Int)) ∧ ly_hv cst h 1024 (j : Int) = some (pl (j : Int)) ∧ ly_hv cst h 1280 (j : Int) = some (vl (j : Int))) ∧ fn_N cst h 6912 0 jwl ∧ fn_N cst h 6656 0 cwl
theorem ct_mv {cst : am_K} {h h' : am_H} {kd pl vl : Int → Int} {t : Nat} {n : Int} {ms : List Nat} (A : ct cst h kd pl vl t n) (fr : ly_fr cst ms h h') (q : [261, 262, 768, 1024, 1280, 6912, 6656].all (fun x => !ly_has x ms) = true) : ct cst h' kd pl vl t n := by
  simp only [List.all_cons, List.all_nil, Bool.and_true, Bool.and_eq_true, Bool.not_eq_true'] at q
  obtain ⟨q1, q2, q3, q4, q5, q6, q7⟩ := q
  obtain ⟨a1, a2, a3, a4, a5⟩ := A
  exact ⟨fr _ _ _ q1 a1, fr _ _ _ q2 a2, fun j hj => ⟨fr _ _ _ q3 (a3 j hj).1, fr _ _ _ q4 (a3 j hj).2.1, fr _ _ _ q5 (a3 j hj).2.2⟩, fn_mv a4 fr q6, fn_mv a5 fr q7⟩
/-- the reader stands at the token a -/
def cs (cst : am_K) (h : am_H) (kd vl : Int → Int) (t a : Nat) : Prop := ly_hv cst h 6154 0 = some (a : Int) ∧ ly_hv cst h 6155 0 = some (fk kd t a) ∧ ly_hv cst h 6156 0 = some (wv kd vl t a) ∧ ly_hv cst h 6157 0 = some (jf (ak kd vl t a))
theorem cs_mv {cst : am_K} {h h' : am_H} {kd vl : Int → Int} {t a : Nat} {ms : List Nat} (A : cs cst h kd vl t a) (fr : ly_fr cst ms h h') (q : [6154, 6155, 6156, 6157].all (fun x => !ly_has x ms) = true) : cs cst h' kd vl t a := by
  simp only [List.all_cons, List.all_nil, Bool.and_true, Bool.and_eq_true, Bool.not_eq_true'] at q
  obtain ⟨q1, q2, q3, q4⟩ := q
  obtain ⟨a1, a2, a3, a4⟩ := A
  exact ⟨fr _ _ _ q1 a1, fr _ _ _ q2 a2, fr _ _ _ q3 a3, fr _ _ _ q4 a4⟩
abbrev kB (kd : Int → Int) (t : Nat) : Prop := ∀ j : Nat, j < t → 1 ≤ kd (j : Int) ∧ kd (j : Int) ≤ 61
abbrev vB (kd vl : Int → Int) (t : Nat) : Prop := ∀ j : Nat, j < t → (kd (j : Int) = 1 → 1 ≤ vl (j : Int) ∧ vl (j : Int) < 1152921504606846976) ∧ (kd (j : Int) = 2 → 0 ≤ vl (j : Int) ∧ vl (j : Int) ≤ 9999)
theorem fk_b {kd : Int → Int} {t : Nat} (kb : kB kd t) (a : Nat) : 0 ≤ fk kd t a ∧ fk kd t a ≤ 61 := by
  unfold fk
  split
  · have := kb a (by assumption)
    omega
  · omega
theorem fk_in {kd : Int → Int} {t a : Nat} (h : fk kd t a ≠ 0) : a < t := by
  by_cases z : a < t
  · exact z
  · exact absurd (fk_ge z) h
theorem lk_run {cst : am_K} {strs : List Nat} {D : Nat} {h : am_H} (c : hp_C cst strs D) (hD : (4 : Int) ≤ (D : Int) + 1) (hy : ly_hy m_tt ly_TH h) {kd pl vl : Int → Int} {t : Nat} {n : Int} (t1 : (t : Int) ≤ 1200) (kb : kB kd t) (vb : vB kd vl t) (X : ct cst h kd pl vl t n) {xb : Int32} {b : Nat} (eb : xb.toInt = (b : Int)) (b1 : (b : Int) ≤ 1200) :
    ∃ r, am_Run cst m_cl m_tt m_P strs sx_bi (D + 1) 78 [.ref 40, .int xb] h r ∧ r.1 = none ∧ r.2.2.1 = 0 ∧ r.2.2.2 = 0 ∧ ly_hy m_tt ly_TH r.2.1 ∧ ly_fr cst [6154, 6155, 6156, 6157] h r.2.1 ∧ cs cst r.2.1 kd vl t b := by
  obtain ⟨M, hM, hl⟩ := hp_M (mi := 78) (k := 2) (by decide +kernel)
  obtain ⟨x1, x2, x3, x4, x5⟩ := X
  have j0 : ly_hv cst h 6912 0 = some 498 := x4 0 (by decide)
  have j1 : ly_hv cst h 6912 1 = some 1476 := x4 1 (by decide)
  have j2 : ly_hv cst h 6912 2 = some 14836 := x4 2 (by decide)
  have j3 : ly_hv cst h 6912 3 = some 719722099 := x4 3 (by decide)
  have j4 : ly_hv cst h 6912 4 = some 1130181 := x4 4 (by decide)
  have j5 : ly_hv cst h 6912 5 = some 2273783 := x4 5 (by decide)
  have j6 : ly_hv cst h 6912 6 = some 307 := x4 6 (by decide)
  have go : hp_F cst strs (fun r : am_Q => r.1 = none ∧ r.2.2.1 = 0 ∧ r.2.2.2 = 0 ∧ ly_hy m_tt ly_TH r.2.1 ∧ ly_fr cst [6154, 6155, 6156, 6157] h r.2.1 ∧ cs cst r.2.1 kd vl t b) D M 0 (lv_args 0 [.ref 40, .int xb]) [] h := by
    by_cases q0 : b < t
    rotate_left
    · have e := fk_ge (kd := kd) q0
      have ew : wv kd vl t b = 0 := if_neg (by rw [e]; decide)
      have ej : jf (ak kd vl t b) = -1 := by
        unfold ak
        rw [if_neg (by rw [e]; decide)]
        rfl
      exact lk0 c hM (by omega) hy (b : Int) (t : Int) (by omega) b1 (by omega) t1 (by omega) x1 j0 j1 j2 j3 j4 j5 j6 rfl ⟨xb, rfl, eb⟩ (fun h2 u1 u2 u3 k1 k2 k3 k4 => ⟨rfl, rfl, rfl, u1, u2, k1, by rw [e]; exact k2, by rw [ew]; exact k3, by rw [ej]; exact k4⟩)
    obtain ⟨kk, -, kv⟩ := x3 b q0
    have e := fk_lt (kd := kd) q0
    have kb' := kb b q0
    by_cases q1 : kd (b : Int) = 1
    rotate_left
    · have ew : wv kd vl t b = 0 := if_neg (by rw [e]; exact q1)
      have ej : jf (ak kd vl t b) = -1 := by
        unfold ak
        rw [if_neg (by rw [e]; exact q1)]
        rfl
      exact lk1 c hM (by omega) hy (b : Int) (t : Int) (kd (b : Int)) (by omega) b1 (by omega) t1 (by omega) (by omega) (by omega) x1 kk j0 j1 j2 j3 j4 j5 j6 rfl ⟨xb, rfl, eb⟩ (fun h2 u1 u2 u3 k1 k2 k3 k4 => ⟨rfl, rfl, rfl, u1, u2, k1, by rw [e]; exact k2, by rw [ew]; exact k3, by rw [ej]; exact k4⟩)
    have vv := (vb b q0).1 q1
    rw [q1] at kk e
    have ew : wv kd vl t b = vl (b : Int) := if_pos e
    have ea : ak kd vl t b = kw (vl (b : Int)) := if_pos e
    by_cases w0 : vl (b : Int) = 498
    · have ej : jf (ak kd vl t b) = 0 := by
        rw [ea, w0]
        exact jf_0
      rw [w0] at kv ew
      exact lkW0 c hM (by omega) hy (b : Int) (t : Int) (by omega) b1 (by omega) t1 (by omega) x1 kk kv j0 j1 j2 j3 j4 j5 j6 rfl ⟨xb, rfl, eb⟩ (fun h2 u1 u2 u3 k1 k2 k3 k4 => ⟨rfl, rfl, rfl, u1, u2, k1, by rw [e]; exact k2, by rw [ew]; exact k3, by rw [ej]; exact k4⟩)
    by_cases w1 : vl (b : Int) = 1476
    · have ej : jf (ak kd vl t b) = 1 := by
        rw [ea, w1]
        exact jf_1
      rw [w1] at kv ew
      exact lkW1 c hM (by omega) hy (b : Int) (t : Int) (by omega) b1 (by omega) t1 (by omega) x1 kk kv j0 j1 j2 j3 j4 j5 j6 rfl ⟨xb, rfl, eb⟩ (fun h2 u1 u2 u3 k1 k2 k3 k4 => ⟨rfl, rfl, rfl, u1, u2, k1, by rw [e]; exact k2, by rw [ew]; exact k3, by rw [ej]; exact k4⟩)
    by_cases w2 : vl (b : Int) = 14836
    · have ej : jf (ak kd vl t b) = 2 := by
        rw [ea, w2]
        exact jf_2
      rw [w2] at kv ew
      exact lkW2 c hM (by omega) hy (b : Int) (t : Int) (by omega) b1 (by omega) t1 (by omega) x1 kk kv j0 j1 j2 j3 j4 j5 j6 rfl ⟨xb, rfl, eb⟩ (fun h2 u1 u2 u3 k1 k2 k3 k4 => ⟨rfl, rfl, rfl, u1, u2, k1, by rw [e]; exact k2, by rw [ew]; exact k3, by rw [ej]; exact k4⟩)
    by_cases w3 : vl (b : Int) = 719722099
    · have ej : jf (ak kd vl t b) = 3 := by
        rw [ea, w3]
        exact jf_3
      rw [w3] at kv ew
      exact lkW3 c hM (by omega) hy (b : Int) (t : Int) (by omega) b1 (by omega) t1 (by omega) x1 kk kv j0 j1 j2 j3 j4 j5 j6 rfl ⟨xb, rfl, eb⟩ (fun h2 u1 u2 u3 k1 k2 k3 k4 => ⟨rfl, rfl, rfl, u1, u2, k1, by rw [e]; exact k2, by rw [ew]; exact k3, by rw [ej]; exact k4⟩)
    by_cases w4 : vl (b : Int) = 1130181
    · have ej : jf (ak kd vl t b) = 4 := by
        rw [ea, w4]
        exact jf_4
      rw [w4] at kv ew
      exact lkW4 c hM (by omega) hy (b : Int) (t : Int) (by omega) b1 (by omega) t1 (by omega) x1 kk kv j0 j1 j2 j3 j4 j5 j6 rfl ⟨xb, rfl, eb⟩ (fun h2 u1 u2 u3 k1 k2 k3 k4 => ⟨rfl, rfl, rfl, u1, u2, k1, by rw [e]; exact k2, by rw [ew]; exact k3, by rw [ej]; exact k4⟩)
    by_cases w5 : vl (b : Int) = 2273783
    · have ej : jf (ak kd vl t b) = 5 := by
        rw [ea, w5]
        exact jf_5
      rw [w5] at kv ew
      exact lkW5 c hM (by omega) hy (b : Int) (t : Int) (by omega) b1 (by omega) t1 (by omega) x1 kk kv j0 j1 j2 j3 j4 j5 j6 rfl ⟨xb, rfl, eb⟩ (fun h2 u1 u2 u3 k1 k2 k3 k4 => ⟨rfl, rfl, rfl, u1, u2, k1, by rw [e]; exact k2, by rw [ew]; exact k3, by rw [ej]; exact k4⟩)
    by_cases w6 : vl (b : Int) = 307
    · have ej : jf (ak kd vl t b) = 6 := by
        rw [ea, w6]
        exact jf_6
      rw [w6] at kv ew
      exact lkW6 c hM (by omega) hy (b : Int) (t : Int) (by omega) b1 (by omega) t1 (by omega) x1 kk kv j0 j1 j2 j3 j4 j5 j6 rfl ⟨xb, rfl, eb⟩ (fun h2 u1 u2 u3 k1 k2 k3 k4 => ⟨rfl, rfl, rfl, u1, u2, k1, by rw [e]; exact k2, by rw [ew]; exact k3, by rw [ej]; exact k4⟩)
    have ej : jf (ak kd vl t b) = -1 := by
      rw [ea]
      exact jf_n w0 w1 w2 w3 w4 w5 w6
    exact lk2 c hM (by omega) hy (b : Int) (t : Int) (vl (b : Int)) (by omega) b1 (by omega) t1 (by omega) (by omega) (by omega) x1 kk kv (hp_ne (by omega)) (hp_ne (by omega)) (hp_ne (by omega)) (hp_ne (by omega)) (hp_ne (by omega)) (hp_ne (by omega)) (hp_ne (by omega)) j0 j1 j2 j3 j4 j5 j6 rfl ⟨xb, rfl, eb⟩ (fun h2 u1 u2 u3 k1 k2 k3 k4 => ⟨rfl, rfl, rfl, u1, u2, k1, by rw [e]; exact k2, by rw [ew]; exact k3, by rw [ej]; exact k4⟩)
  obtain ⟨n', r, hgo, r1, r2, r3, r4⟩ := go
  simp only [Nat.zero_add] at r2 r3
  exact ⟨r, Or.inr ⟨M, n', hM, hl, hgo⟩, r1, r2, r3, r4⟩
/-- where the token a begins -/
def pa (pl : Int → Int) (t : Nat) (n : Int) (a : Nat) : Int := if a < t then pl (a : Int) else n
theorem fl_run {cst : am_K} {strs : List Nat} {D : Nat} {h : am_H} (c : hp_C cst strs D) (hD : (3 : Int) ≤ (D : Int) + 1) (hy : ly_hy m_tt ly_TH h) {kd pl vl : Int → Int} {t : Nat} {n : Int} (t1 : (t : Int) ≤ 1200) (n0 : 0 ≤ n) (n1 : n ≤ 1200) (X : ct cst h kd pl vl t n) {xk : Int32} {b : Nat} (k0 : 1 ≤ xk.toInt) (k1 : xk.toInt ≤ 4) (ka : ly_hv cst h 6154 0 = some (b : Int)) (b1 : (b : Int) ≤ 1200) :
    ∃ r, am_Run cst m_cl m_tt m_P strs sx_bi (D + 1) 83 [.ref 40, .int xk] h r ∧ ∃ w : Int32, r.1 = some (.int w) ∧ r.2.2.1 = 0 ∧ r.2.2.2 = 0 ∧ ly_hy m_tt ly_TH r.2.1 ∧ ly_fr cst [6144, 6145] h r.2.1 ∧ w.toInt = 0 ∧ ly_hv cst r.2.1 6144 0 = some xk.toInt ∧ ly_hv cst r.2.1 6145 0 = some (pa pl t n b) := by
  obtain ⟨M, hM, hl⟩ := hp_M (mi := 83) (k := 2) (by decide +kernel)
  obtain ⟨x1, x2, x3, -⟩ := X
  have go : hp_F cst strs (fun r : am_Q => ∃ w : Int32, r.1 = some (.int w) ∧ r.2.2.1 = 0 ∧ r.2.2.2 = 0 ∧ ly_hy m_tt ly_TH r.2.1 ∧ ly_fr cst [6144, 6145] h r.2.1 ∧ w.toInt = 0 ∧ ly_hv cst r.2.1 6144 0 = some xk.toInt ∧ ly_hv cst r.2.1 6145 0 = some (pa pl t n b)) D M 0 (lv_args 0 [.ref 40, .int xk]) [] h := by
    by_cases q0 : b < t
    · have kp := (x3 b q0).2.1
      obtain ⟨p, kp', p0, p1⟩ := hp_row (cst := cst) (i := (b : Int)) hy (show ly_ths ly_TH 4 = some (.inl (.int, 1200, -2147483648, 2147483647)) from rfl) (by omega) (by omega)
      have kp' : ly_hv cst h 1024 (b : Int) = some p := kp'
      rw [kp] at kp'
      have ep := Option.some.inj kp'
      exact fl1 c hM (by omega) hy xk.toInt (b : Int) (t : Int) (pl (b : Int)) k0 k1 (by omega) b1 (by omega) t1 (by omega) (by omega) (by omega) x1 ka kp rfl ⟨xk, rfl, rfl⟩ (fun h2 w hw u1 u2 u3 z1 z2 => ⟨w, rfl, rfl, rfl, u1, u2, hw, z1, by unfold pa; rw [if_pos q0]; exact z2⟩)
    · exact fl0 c hM (by omega) hy xk.toInt (b : Int) (t : Int) n k0 k1 (by omega) b1 (by omega) t1 n0 n1 (by omega) x1 ka x2 rfl ⟨xk, rfl, rfl⟩ (fun h2 w hw u1 u2 u3 z1 z2 => ⟨w, rfl, rfl, rfl, u1, u2, hw, z1, by unfold pa; rw [if_neg q0]; exact z2⟩)
  obtain ⟨n', r, hgo, w, r1, r2, r3, r4⟩ := go
  simp only [Nat.zero_add] at r2 r3
  exact ⟨r, Or.inr ⟨M, n', hM, hl, hgo⟩, w, r1, r2, r3, r4⟩
/-- the items so far -/
def it (cst : am_K) (h : am_H) (i0 : List Int) (L : List Int) : Prop := ly_hv cst h 3594 0 = some ((i0.length : Int) + (L.length : Int)) ∧ ly_hv cst h 3596 0 = some 0 ∧ fn_N cst h 5888 0 (i0 ++ L)
theorem it_mv {cst : am_K} {h h' : am_H} {i0 : List Int} {L : List Int} {ms : List Nat} (A : it cst h i0 L) (fr : ly_fr cst ms h h') (q : [3594, 3596, 5888].all (fun x => !ly_has x ms) = true) : it cst h' i0 L := by
  simp only [List.all_cons, List.all_nil, Bool.and_true, Bool.and_eq_true, Bool.not_eq_true'] at q
  obtain ⟨q1, q2, q3⟩ := q
  exact ⟨fr _ _ _ q1 A.1, fr _ _ _ q2 A.2.1, fn_mv A.2.2 fr q3⟩
theorem di_run {cst : am_K} {strs : List Nat} {D : Nat} {h : am_H} (c : hp_C cst strs D) (hD : 1 ≤ D) (hy : ly_hy m_tt ly_TH h) {i0 : List Int} {L : List Int} (A : it cst h i0 L) (rm : (i0.length : Int) + (L.length : Int) ≤ 10239) {xv : Int64} :
    ∃ r, am_Run cst m_cl m_tt m_P strs sx_bi (D + 1) 97 [.ref 30, .long xv] h r ∧ r.1 = none ∧ r.2.2.1 = 0 ∧ r.2.2.2 = 0 ∧ ly_hy m_tt ly_TH r.2.1 ∧ ly_fr cst [3594, 5888] h r.2.1 ∧ it cst r.2.1 i0 (L ++ [xv.toInt]) := by
  obtain ⟨M, hM, hl⟩ := hp_M (mi := 97) (k := 3) (by decide +kernel)
  have go : hp_F cst strs (fun r : am_Q => r.1 = none ∧ r.2.2.1 = 0 ∧ r.2.2.2 = 0 ∧ ly_hy m_tt ly_TH r.2.1 ∧ ly_fr cst [3594, 5888] h r.2.1 ∧ it cst r.2.1 i0 (L ++ [xv.toInt])) D M 0 (lv_args 0 [.ref 30, .long xv]) [] h := by
    refine di0 c hM (by omega) hy xv.toInt ((i0.length : Int) + (L.length : Int)) xv.le_toInt xv.toInt_le (by omega) rm A.1 rfl ⟨xv, rfl, rfl⟩ (fun l1 h1 y0 y1 f0 f1 u1 u2 u3 k1 g0 => ?_)
    refine hp_stj (c := 23) hM (by decide +kernel) u1 (show ly_ths ly_TH 23 = some (.inl (.long, 10240, 0, 0)) from rfl) rfl (by omega) (by omega) (fun h2 q1 q2 q3 => ?_)
    rw [f0, f1] at q3
    have q3 : hp_put cst 5888 ((i0.length : Int) + (L.length : Int)) xv.toInt h1 h2 := q3
    refine di1 c hM (by omega) q1 ((i0.length : Int) + (L.length : Int)) (by omega) rm (by rw [q3.2 _ _ (Or.inl (by decide))]; exact k1) g0 (fun h3 v1 v2 v3 k3 => ⟨rfl, rfl, rfl, v1, ly_fr_tr (hp_sub2 rfl u2) (ly_fr_tr (hp_put_fr (by rfl) q3) (hp_sub2 rfl v2)), ?_, ?_, ?_⟩)
    · rw [List.length_append, List.length_singleton]
      rw [k3]
      congr 1 <;> omega
    · refine v2 _ _ _ rfl ?_
      rw [q3.2 _ _ (Or.inl (by decide))]
      exact u2 _ _ _ rfl A.2.1
    · rw [← List.append_assoc]
      exact fn_mv (fn_put (fn_mv A.2.2 u2 rfl) (by rw [Int.zero_add, List.length_append, Int.natCast_add]; exact q3)) v2 rfl
  obtain ⟨n', r, hgo, r1, r2, r3, r4⟩ := go
  simp only [Nat.zero_add] at r2 r3
  exact ⟨r, Or.inr ⟨M, n', hM, hl, hgo⟩, r1, r2, r3, r4⟩
/-- where the items of clauses begin and end -/
def fi : Int → List cl → List Int
  | i, [] => [i]
  | i, x :: C => i :: fi (i + (x.2.2.2.length : Int)) C
theorem fi_len : ∀ (C : List cl) (i : Int), (fi i C).length = C.length + 1
  | [], _ => rfl
  | x :: C, i => by rw [fi, List.length_cons, fi_len C, List.length_cons]
def cit (C : List cl) : List Int := C.flatMap fun x => x.2.2.2
theorem fi_app : ∀ (C : List cl) (i : Int) (x : cl), fi i (C ++ [x]) = fi i C ++ [i + ((cit C).length : Int) + (x.2.2.2.length : Int)]
  | [], i, x => by simp [fi, cit]
  | y :: C, i, x => by
    rw [List.cons_append, fi, fi_app C, fi, List.cons_append]
    congr 3
    simp only [cit, List.flatMap_cons, List.length_append]
    omega
theorem cit_ap (O C : List cl) : cit (O ++ C) = cit O ++ cit C := by
  unfold cit
  exact List.flatMap_append
/-- whose a clause is: m clauses, of which those from f on are the draft's -/
def ow (cst : am_K) (h : am_H) (f m : Nat) : Prop := ∃ A : Nat, ly_hv cst h 3584 0 = some (A : Int) ∧ ly_hv cst h 4352 (A : Int) = some (f : Int) ∧ ∀ j : Nat, j < m → ∃ o g : Nat, ly_hv cst h 5376 (j : Int) = some (o : Int) ∧ o ≤ A ∧ ly_hv cst h 4352 (o : Int) = some (g : Int) ∧ g ≤ j ∧ (o < A → ∃ g' : Nat, ly_hv cst h 4352 ((o : Int) + 1) = some (g' : Int) ∧ j < g')
theorem ow_m2 {cst : am_K} {h h' : am_H} {f m : Nat} (X : ow cst h f m) (k1 : ∀ v, ly_hv cst h 3584 0 = some v → ly_hv cst h' 3584 0 = some v) (k2 : ∀ j v, ly_hv cst h 4352 j = some v → ly_hv cst h' 4352 j = some v) (k3 : ∀ j v, ly_hv cst h 5376 j = some v → ly_hv cst h' 5376 j = some v) : ow cst h' f m := by
  obtain ⟨A, x1, x2, x3⟩ := X
  refine ⟨A, k1 _ x1, k2 _ _ x2, fun j hj => ?_⟩
  obtain ⟨o, g, y1, y2, y3, y4, y5⟩ := x3 j hj
  refine ⟨o, g, k3 _ _ y1, y2, k2 _ _ y3, y4, fun hl => ?_⟩
  obtain ⟨g', z1, z2⟩ := y5 hl
  exact ⟨g', k2 _ _ z1, z2⟩
theorem ow_mv {cst : am_K} {h h' : am_H} {f m : Nat} {ms : List Nat} (X : ow cst h f m) (fr : ly_fr cst ms h h') (q1 : ly_has 3584 ms = false) (q2 : ly_has 4352 ms = false) (q3 : ly_has 5376 ms = false) : ow cst h' f m := ow_m2 X (fun _ z => fr _ _ _ q1 z) (fun _ _ z => fr _ _ _ q2 z) (fun _ _ z => fr _ _ _ q3 z)
theorem ow_le {cst : am_K} {h : am_H} {f m m' : Nat} (X : ow cst h f m) (hm : m' ≤ m) : ow cst h f m' := by
  obtain ⟨A, x1, x2, x3⟩ := X
  exact ⟨A, x1, x2, fun j hj => x3 j (by omega)⟩
/-- a clause more: its owner is the act that is drafted -/
theorem ow_put {cst : am_K} {h h' : am_H} {f m : Nat} {B : Int} (X : ow cst h f m) (hB : ly_hv cst h 3584 0 = some B) (hf : f ≤ m) (q1 : ly_hv cst h' 5376 (m : Int) = some B) (q2 : ∀ j, j ≠ (m : Int) → ly_hv cst h' 5376 j = ly_hv cst h 5376 j) (q3 : ∀ j, ly_hv cst h' 3584 j = ly_hv cst h 3584 j) (q4 : ∀ j, ly_hv cst h' 4352 j = ly_hv cst h 4352 j) : ow cst h' f (m + 1) := by
  obtain ⟨A, x1, x2, x3⟩ := X
  have eB : B = (A : Int) := Option.some.inj (hB.symm.trans x1)
  subst eB
  refine ⟨A, by rw [q3]; exact x1, by rw [q4]; exact x2, fun j hj => ?_⟩
  by_cases e : j = m
  · subst e
    exact ⟨A, f, q1, Nat.le_refl _, by rw [q4]; exact x2, hf, fun hl => absurd hl (Nat.lt_irrefl _)⟩
  · obtain ⟨o, g, y1, y2, y3, y4, y5⟩ := x3 j (by omega)
    refine ⟨o, g, by rw [q2 _ (by omega)]; exact y1, y2, by rw [q4]; exact y3, y4, fun hl => ?_⟩
    obtain ⟨g', z1, z2⟩ := y5 hl
    exact ⟨g', by rw [q4]; exact z1, z2⟩
/-- the draft is enacted: one act more, which the next draft's clauses follow -/
theorem ow_en {cst : am_K} {h h' : am_H} {f m : Nat} {A : Int} (X : ow cst h f m) (hA : ly_hv cst h 3584 0 = some A) (k1 : ly_hv cst h' 3584 0 = some (A + 1)) (k2 : ly_hv cst h' 4352 (A + 1) = some (m : Int)) (k3 : ∀ j u, j ≠ A + 1 → ly_hv cst h 4352 j = some u → ly_hv cst h' 4352 j = some u) (k4 : ∀ j v, ly_hv cst h 5376 j = some v → ly_hv cst h' 5376 j = some v) : ow cst h' m m := by
  obtain ⟨B, x1, x2, x3⟩ := X
  have eA : A = (B : Int) := Option.some.inj (hA.symm.trans x1)
  subst eA
  refine ⟨B + 1, by rw [k1]; rfl, by rw [Int.natCast_add]; exact k2, fun j hj => ?_⟩
  obtain ⟨o, g, y1, y2, y3, y4, y5⟩ := x3 j hj
  refine ⟨o, g, k4 _ _ y1, by omega, k3 _ _ (by omega) y3, y4, fun hl => ?_⟩
  by_cases e : o = B
  · subst e
    exact ⟨m, k2, hj⟩
  · obtain ⟨g', z1, z2⟩ := y5 (by omega)
    exact ⟨g', k3 _ _ (by omega) z1, z2⟩
/-- the draft so far: clauses C behind those in force, c0, whose items are i0 -/
def dr (cst : am_K) (h : am_H) (i0 : List Int) (c0 : List cl) (C : List cl) : Prop := ly_hv cst h 3588 0 = some ((c0.length : Int) + (C.length : Int)) ∧ fn_N cst h 4608 0 ((c0 ++ C).map fun x => x.1) ∧ fn_N cst h 4864 0 ((c0 ++ C).map fun x => x.2.1) ∧ fn_N cst h 5120 0 ((c0 ++ C).map fun x => x.2.2.1) ∧ fn_N cst h 5632 0 (fi 0 (c0 ++ C)) ∧ i0 = cit c0 ∧ ow cst h c0.length (c0.length + C.length)
theorem dr_mv {cst : am_K} {h h' : am_H} {i0 : List Int} {c0 : List cl} {C : List cl} {ms : List Nat} (A : dr cst h i0 c0 C) (fr : ly_fr cst ms h h') (q : [3588, 4608, 4864, 5120, 5632, 3584, 4352, 5376].all (fun x => !ly_has x ms) = true) : dr cst h' i0 c0 C := by
  simp only [List.all_cons, List.all_nil, Bool.and_true, Bool.and_eq_true, Bool.not_eq_true'] at q
  obtain ⟨q1, q2, q3, q4, q5, q6, q7, q8⟩ := q
  exact ⟨fr _ _ _ q1 A.1, fn_mv A.2.1 fr q2, fn_mv A.2.2.1 fr q3, fn_mv A.2.2.2.1 fr q4, fn_mv A.2.2.2.2.1 fr q5, A.2.2.2.2.2.1, ow_mv A.2.2.2.2.2.2 fr q6 q7 q8⟩
theorem fn_at {cst : am_K} {h : am_H} {r : Nat} {O C : List cl} {g : cl → Int} (A : fn_N cst h r 0 ((O ++ C).map g)) {i : Nat} (hi : i < C.length) : ly_hv cst h r ((O.length : Int) + (i : Int)) = some (g C[i]) := by
  have z := A (O.length + i) (by rw [List.length_map, List.length_append]; omega)
  rw [List.getElem_map, List.getElem_append_right (by omega), Int.zero_add, Int.natCast_add] at z
  simp only [Nat.add_sub_cancel_left] at z
  exact z
theorem dc_run {cst : am_K} {strs : List Nat} {D : Nat} {h : am_H} (c : hp_C cst strs D) (hD : 1 ≤ D) (hy : ly_hy m_tt ly_TH h) {i0 : List Int} {c0 : List cl} {C : List cl} {L : List Int} {A : Int} (X : dr cst h i0 c0 C) (I : it cst h i0 (cit C ++ L)) (rm : (c0.length : Int) + (C.length : Int) ≤ 1239) (ri : (i0.length : Int) + ((cit C ++ L).length : Int) ≤ 10240) (a0 : 0 ≤ A) (a1 : A ≤ 30) (kA : ly_hv cst h 3584 0 = some A) {xk xn : Int32} {xd : Int64} :
    ∃ r, am_Run cst m_cl m_tt m_P strs sx_bi (D + 1) 102 [.ref 30, .int xk, .long xd, .int xn] h r ∧ r.1 = none ∧ r.2.2.1 = 0 ∧ r.2.2.2 = 0 ∧ ly_hy m_tt ly_TH r.2.1 ∧ ly_fr cst [3588, 4608, 4864, 5120, 5376, 5632, 60010, 60011, 60012] h r.2.1 ∧ dr cst r.2.1 i0 c0 (C ++ [(xk.toInt, xd.toInt, xn.toInt, L)]) := by
  obtain ⟨M, hM, hl⟩ := hp_M (mi := 102) (k := 5) (by decide +kernel)
  obtain ⟨d1, d2, d3, d4, d5, d6, d7⟩ := X
  have bk : -2147483648 ≤ xk.toInt := xk.le_toInt
  have bk' : xk.toInt ≤ 2147483647 := xk.toInt_le
  have bn : -2147483648 ≤ xn.toInt := xn.le_toInt
  have bn' : xn.toInt ≤ 2147483647 := xn.toInt_le
  have go : hp_F cst strs (fun r : am_Q => r.1 = none ∧ r.2.2.1 = 0 ∧ r.2.2.2 = 0 ∧ ly_hy m_tt ly_TH r.2.1 ∧ ly_fr cst [3588, 4608, 4864, 5120, 5376, 5632, 60010, 60011, 60012] h r.2.1 ∧ dr cst r.2.1 i0 c0 (C ++ [(xk.toInt, xd.toInt, xn.toInt, L)])) D M 0 (lv_args 0 [.ref 30, .int xk, .long xd, .int xn]) [] h := by
    refine dc0 c hM (by omega) hy ((c0.length : Int) + (C.length : Int)) xk.toInt xd.toInt xn.toInt (by omega) rm bk bk' xd.le_toInt xd.toInt_le bn bn' d1 rfl ⟨xk, rfl, rfl⟩ ⟨xd, rfl, rfl⟩ ⟨xn, rfl, rfl⟩ (fun l1 h1 y0 y1 f0 f1 u1 u2 u3 k1 g0 g1 g2 g4 => ?_)
    refine hp_st (c := 18) hM (by decide +kernel) u1 (show ly_ths ly_TH 18 = some (.inl (.int, 1240, -2147483648, 2147483647)) from rfl) rfl (by omega) (by omega) (by omega) (by omega) (fun h2 q1 q2 q3 => ?_)
    rw [f0, f1] at q3
    have q3 : hp_put cst 4608 ((c0.length : Int) + (C.length : Int)) xk.toInt h1 h2 := q3
    have F2 : ly_fr cst [4608] h h2 := ly_fr_tr (hp_sub2 rfl u2) (hp_put_fr (by rfl) q3)
    refine dc1 c hM (by omega) q1 ((c0.length : Int) + (C.length : Int)) xk.toInt xd.toInt xn.toInt (by omega) rm bk bk' xd.le_toInt xd.toInt_le bn bn' (F2 _ _ _ rfl d1) g0 g1 g2 g4 (fun l3 h3 y2 y3 f2 f3 v1 v2 v3 k3 o0 o1 o2 o4 => ?_)
    refine hp_stj (c := 19) hM (by decide +kernel) v1 (show ly_ths ly_TH 19 = some (.inl (.long, 1240, 0, 0)) from rfl) rfl (by omega) (by omega) (fun h4 s1 s2 s3 => ?_)
    rw [f2, f3] at s3
    have s3 : hp_put cst 4864 ((c0.length : Int) + (C.length : Int)) xd.toInt h3 h4 := s3
    have F4 : ly_fr cst [4608, 4864] h h4 := ly_fr_tr (hp_sub2 rfl F2) (ly_fr_tr (hp_sub2 rfl v2) (hp_put_fr (by rfl) s3))
    refine dc2 c hM (by omega) s1 ((c0.length : Int) + (C.length : Int)) xk.toInt xd.toInt xn.toInt (by omega) rm bk bk' xd.le_toInt xd.toInt_le bn bn' (F4 _ _ _ rfl d1) o0 o1 o2 o4 (fun l5 h5 y4 y5 f4 f5 w1 w2 w3 k5 p0 p1 p2 p4 => ?_)
    refine hp_st (c := 20) hM (by decide +kernel) w1 (show ly_ths ly_TH 20 = some (.inl (.int, 1240, -2147483648, 2147483647)) from rfl) rfl (by omega) (by omega) (by omega) (by omega) (fun h6 z1 z2 z3 => ?_)
    rw [f4, f5] at z3
    have z3 : hp_put cst 5120 ((c0.length : Int) + (C.length : Int)) xn.toInt h5 h6 := z3
    have F6 : ly_fr cst [4608, 4864, 5120] h h6 := ly_fr_tr (hp_sub2 rfl F4) (ly_fr_tr (hp_sub2 rfl w2) (hp_put_fr (by rfl) z3))
    refine dc3 c hM (by omega) z1 ((c0.length : Int) + (C.length : Int)) A (by omega) rm a0 a1 (F6 _ _ _ rfl d1) (F6 _ _ _ rfl kA) p0 (fun la ha ya yb fa fb ea1 ea2 ea3 ka na => ?_)
    refine hp_st0 (c := 21) hM (by decide +kernel) ea1 (show ly_ths ly_TH 21 = some (.inl (.int, 1240, 0, 30)) from rfl) (by omega) (by omega) (by omega) (by omega) (fun hb b1 b2 b3 => ?_)
    rw [fa, fb] at b3
    have b3 : hp_p0 cst 5376 ((c0.length : Int) + (C.length : Int)) A ha hb := b3
    have bf : ly_fr cst [5376, 60010, 60011, 60012] ha hb := hp_p0_fr b3 (by decide) rfl rfl
    have Fa : ly_fr cst [4608, 4864, 5120] h ha := ly_fr_tr F6 (hp_sub2 rfl ea2)
    have Fb : ly_fr cst [4608, 4864, 5120, 5376, 60010, 60011, 60012] h hb := ly_fr_tr (hp_sub2 rfl Fa) (hp_sub2 rfl bf)
    have Ow : ow cst hb c0.length (c0.length + C.length + 1) := ow_put (ow_mv d7 Fa rfl rfl rfl) (Fa _ _ _ rfl kA) (by omega) (by rw [Int.natCast_add, ly_hv0 (by decide)]; exact b3.1) (fun j hj => by rw [ly_hv0 (by decide), ly_hv0 (by decide)]; exact b3.2 _ _ (Or.inr (by omega))) (fun j => by rw [ly_hv0 (by decide), ly_hv0 (by decide)]; exact b3.2 _ _ (Or.inl (by decide))) (fun j => by rw [ly_hv0 (by decide), ly_hv0 (by decide)]; exact b3.2 _ _ (Or.inl (by decide)))
    refine dc5 c hM (by omega) b1 ((c0.length : Int) + (C.length : Int)) ((i0.length : Int) + ((cit C ++ L).length : Int)) (by omega) rm (by omega) ri (Fb _ _ _ rfl d1) (Fb _ _ _ rfl I.1) na (fun l7 h7 y6 y7 f6 f7 e1 e2 e3 k7 n0 => ?_)
    refine hp_st (c := 22) hM (by decide +kernel) e1 (show ly_ths ly_TH 22 = some (.inl (.int, 1241, 0, 10240)) from rfl) rfl (by omega) (by omega) (by omega) (by omega) (fun h8 m1 m2 m3 => ?_)
    rw [f6, f7] at m3
    have m3 : hp_put cst 5632 ((c0.length : Int) + (C.length : Int) + 1) ((i0.length : Int) + ((cit C ++ L).length : Int)) h7 h8 := m3
    refine dc4 c hM (by omega) m1 n0 (fun h9 r1 r2 r3 => ⟨rfl, rfl, rfl, r1, ?_, ?_, ?_, ?_, ?_, ?_, d6, ?_⟩)
    · exact ly_fr_tr (hp_sub2 rfl Fb) (ly_fr_tr (hp_sub2 rfl e2) (ly_fr_tr (hp_put_fr (by rfl) m3) (hp_sub2 rfl r2)))
    · refine r2 _ _ _ rfl ?_
      rw [m3.2 _ _ (Or.inl (by decide)), k7, List.length_append, List.length_singleton]
      congr 1 <;> omega
    · rw [← List.append_assoc, List.map_append]
      exact fn_mv (fn_mv (ms := [5632]) (fn_mv (fn_mv (fn_mv (fn_mv (ms := [5120]) (fn_mv (fn_mv (ms := [4864]) (fn_mv (fn_put (fn_mv d2 u2 rfl) (by rw [Int.zero_add, List.length_map, List.length_append, Int.natCast_add]; exact q3)) v2 rfl) (hp_put_fr (by rfl) s3) rfl) w2 rfl) (hp_put_fr (by rfl) z3) rfl) ea2 rfl) bf rfl) e2 rfl) (hp_put_fr (by rfl) m3) rfl) r2 rfl
    · rw [← List.append_assoc, List.map_append]
      exact fn_mv (fn_mv (ms := [5632]) (fn_mv (fn_mv (fn_mv (fn_mv (ms := [5120]) (fn_mv (fn_put (fn_mv (fn_mv d3 F2 rfl) v2 rfl) (by rw [Int.zero_add, List.length_map, List.length_append, Int.natCast_add]; exact s3)) w2 rfl) (hp_put_fr (by rfl) z3) rfl) ea2 rfl) bf rfl) e2 rfl) (hp_put_fr (by rfl) m3) rfl) r2 rfl
    · rw [← List.append_assoc, List.map_append]
      exact fn_mv (fn_mv (ms := [5632]) (fn_mv (fn_mv (fn_mv (fn_put (fn_mv (fn_mv d4 F4 rfl) w2 rfl) (by rw [Int.zero_add, List.length_map, List.length_append, Int.natCast_add]; exact z3)) ea2 rfl) bf rfl) e2 rfl) (hp_put_fr (by rfl) m3) rfl) r2 rfl
    · rw [← List.append_assoc, fi_app]
      refine fn_mv (fn_put (fn_mv (fn_mv d5 Fb rfl) e2 rfl) ?_) r2 rfl
      have e1' : (0 : Int) + ((fi 0 (c0 ++ C)).length : Int) = (c0.length : Int) + (C.length : Int) + 1 := by
        rw [fi_len, List.length_append]
        omega
      have e2' : (0 : Int) + ((cit (c0 ++ C)).length : Int) + (L.length : Int) = (i0.length : Int) + ((cit C ++ L).length : Int) := by
        rw [cit_ap, List.length_append, List.length_append, d6]
        omega
      rw [e1']
      show hp_put cst 5632 _ ((0 : Int) + ((cit (c0 ++ C)).length : Int) + (L.length : Int)) _ _
      rw [e2']
      exact m3
    · rw [List.length_append, List.length_singleton, ← Nat.add_assoc]
      exact ow_mv (ow_mv (ow_mv Ow e2 rfl rfl rfl) (hp_put_fr (mods := [5632]) (by rfl) m3) rfl rfl rfl) r2 rfl rfl rfl
  obtain ⟨n', r, hgo, r1, r2, r3, r4⟩ := go
  simp only [Nat.zero_add] at r2 r3
  exact ⟨r, Or.inr ⟨M, n', hM, hl, hgo⟩, r1, r2, r3, r4⟩
theorem tl_no {k d : Int} {C : List cl} (h : ∀ i (hi : i < C.length), ¬ (C[i].1 = k ∧ C[i].2.1 = d)) : tl k d C = false := by
  unfold tl
  rw [List.any_eq_false]
  intro x hx
  obtain ⟨i, hi, rfl⟩ := List.mem_iff_getElem.mp hx
  have := h i hi
  simp only [Bool.and_eq_true, beq_iff_eq]
  exact this
theorem tl_yes {k d : Int} {C : List cl} {i : Nat} (hi : i < C.length) (a : C[i].1 = k) (b : C[i].2.1 = d) : tl k d C = true := by
  unfold tl
  rw [List.any_eq_true]
  exact ⟨C[i], List.getElem_mem hi, by simp [a, b]⟩
theorem cm_lp {cst : am_K} {strs : List Nat} {D : Nat} {M : am_M} {h0 : am_H} (c : hp_C cst strs D) (hM : m_P[56]? = some M) (hD : 1 ≤ D) {i0 : List Int} {c0 : List cl} {C : List cl} (X : dr cst h0 i0 c0 C) (rm : (c0.length : Int) + (C.length : Int) ≤ 1240) {k d : Int} (k0 : 0 ≤ k) (k1 : k ≤ 14) (d0 : -9223372036854775808 ≤ d) (d1 : d ≤ 9223372036854775807) : ∀ (Q : Nat) (h : am_H) (l : am_L) (i : Nat), C.length - i < Q → i ≤ C.length → ly_hy m_tt ly_TH h → ly_fr cst [] h0 h → (∀ j (hj : j < C.length), j < i → ¬ (C[j].1 = k ∧ C[j].2.1 = d)) → hp_a l 0 30 → hp_i l 1 (c0.length : Int) → hp_i l 2 ((c0.length : Int) + (C.length : Int)) → hp_i l 3 k → hp_j l 4 d → hp_i l 6 ((c0.length : Int) + (i : Int)) → hp_F cst strs (fun r : am_Q => ∃ w : Int32, r.1 = some (.int w) ∧ r.2.2.1 = 0 ∧ r.2.2.2 = 0 ∧ ly_hy m_tt ly_TH r.2.1 ∧ ly_fr cst [] h0 r.2.1 ∧ ((tl k d C = true ∧ 0 ≤ w.toInt ∧ w.toInt ≤ 1239) ∨ (tl k d C = false ∧ w.toInt = -1))) D M 3 l [] h := by
  intro Q
  induction Q with
  | zero => intro h l i hN; omega
  | succ Q ih =>
    intro h l i hN hi hy fr ne l0 l1 l2 l3 l4 l6
    by_cases z : i = C.length
    · rw [z] at l6
      refine cm4 c hM (by omega) hy (c0.length : Int) ((c0.length : Int) + (C.length : Int)) k d (by omega) (by omega) (by omega) rm k0 k1 d0 d1 l0 l1 l2 l3 l4 l6 (fun h2 w hw u1 u2 u3 => ⟨w, rfl, rfl, rfl, u1, ly_fr_tr fr u2, Or.inr ⟨tl_no (fun j hj => ne j hj (by omega)), hw⟩⟩)
    · have hl : i < C.length := by omega
      have kk := fr _ _ _ rfl (fn_at X.2.1 hl)
      have kd := fr _ _ _ rfl (fn_at X.2.2.1 hl)
      obtain ⟨v, kv, v0, v1⟩ := hp_row (cst := cst) (i := (c0.length : Int) + (i : Int)) hy (show ly_ths ly_TH 18 = some (.inl (.int, 1240, -2147483648, 2147483647)) from rfl) (by omega) (by omega)
      have kv : ly_hv cst h 4608 ((c0.length : Int) + (i : Int)) = some v := kv
      rw [kk] at kv
      have ev := Option.some.inj kv
      obtain ⟨w, kw', w0, w1⟩ := hp_rowj (cst := cst) (i := (c0.length : Int) + (i : Int)) hy (show ly_ths ly_TH 19 = some (.inl (.long, 1240, 0, 0)) from rfl) (by omega) (by omega)
      have kw' : ly_hv cst h 4864 ((c0.length : Int) + (i : Int)) = some w := kw'
      rw [kd] at kw'
      have ew := Option.some.inj kw'
      have w0 : -9223372036854775808 ≤ w := w0
      have w1 : w ≤ 9223372036854775807 := w1
      have nx : ¬ (C[i].1 = k ∧ C[i].2.1 = d) → ∀ (l3' : am_L) (h3 : am_H), ly_hy m_tt ly_TH h3 → ly_fr cst [] h h3 → h.length ≤ h3.length → hp_a l3' 0 30 → hp_i l3' 1 (c0.length : Int) → hp_i l3' 2 ((c0.length : Int) + (C.length : Int)) → hp_i l3' 3 k → hp_j l3' 4 d → hp_i l3' 6 ((c0.length : Int) + (i : Int) + 1) → hp_F cst strs (fun r : am_Q => ∃ w : Int32, r.1 = some (.int w) ∧ r.2.2.1 = 0 ∧ r.2.2.2 = 0 ∧ ly_hy m_tt ly_TH r.2.1 ∧ ly_fr cst [] h0 r.2.1 ∧ ((tl k d C = true ∧ 0 ≤ w.toInt ∧ w.toInt ≤ 1239) ∨ (tl k d C = false ∧ w.toInt = -1))) D M 3 l3' [] h3 := fun e l3' h3 u1 u2 u3 m0 m1 m2 m3 m4 m6 => ih h3 l3' (i + 1) (by omega) (by omega) u1 (ly_fr_tr fr u2) (fun j hj h9 => if w : j = i then by subst w; exact e else ne j hj (by omega)) m0 m1 m2 m3 m4 (by rw [show ((c0.length : Int) + ((i + 1 : Nat) : Int)) = (c0.length : Int) + (i : Int) + 1 by omega]; exact m6)
      by_cases e1 : C[i].1 = k
      rotate_left
      · exact cm1 c hM (by omega) hy (c0.length : Int) ((c0.length : Int) + (C.length : Int)) k d ((c0.length : Int) + (i : Int)) (C[i].1) (by omega) (by omega) (by omega) rm k0 k1 d0 d1 (by omega) (by omega) (by omega) (by omega) (by omega) kk (hp_ne (by omega)) l0 l1 l2 l3 l4 l6 (nx (fun y => e1 y.1))
      rw [e1] at kk
      by_cases e2 : C[i].2.1 = d
      · rw [e2] at kd
        exact cm3 c hM (by omega) hy (c0.length : Int) ((c0.length : Int) + (C.length : Int)) k d ((c0.length : Int) + (i : Int)) (by omega) (by omega) (by omega) rm k0 k1 d0 d1 (by omega) (by omega) (by omega) kk kd l0 l1 l2 l3 l4 l6 (fun h2 w hw u1 u2 u3 => ⟨w, rfl, rfl, rfl, u1, ly_fr_tr fr u2, Or.inl ⟨tl_yes hl e1 e2, by omega, by omega⟩⟩)
      · exact cm2 c hM (by omega) hy (c0.length : Int) ((c0.length : Int) + (C.length : Int)) k d ((c0.length : Int) + (i : Int)) (C[i].2.1) (by omega) (by omega) (by omega) rm k0 k1 d0 d1 (by omega) (by omega) (by omega) (by omega) (by omega) kk kd (hp_ne (by omega)) l0 l1 l2 l3 l4 l6 (nx (fun y => e2 y.2))
/-- whether the draft has such a clause -/
theorem dh_run {cst : am_K} {strs : List Nat} {D : Nat} {h : am_H} (c1 : hp_C cst strs D) (c : hp_C cst strs (D + 1)) (hD : 1 ≤ D) (hy : ly_hy m_tt ly_TH h) {i0 : List Int} {c0 : List cl} {C : List cl} {A : Int} (X : dr cst h i0 c0 C) (rm : (c0.length : Int) + (C.length : Int) ≤ 1240) (a0 : 0 ≤ A) (a1 : A ≤ 30) (kA : ly_hv cst h 3584 0 = some A) (kF : ly_hv cst h 4352 A = some (c0.length : Int)) {xk : Int32} {xd : Int64} (k0 : 0 ≤ xk.toInt) (k1 : xk.toInt ≤ 14) :
    ∃ r, am_Run cst m_cl m_tt m_P strs sx_bi (D + 1 + 1) 85 [.ref 30, .int xk, .long xd] h r ∧ (fun r : am_Q => ∃ w : Int32, r.1 = some (.int w) ∧ r.2.2.1 = 0 ∧ r.2.2.2 = 0 ∧ ly_hy m_tt ly_TH r.2.1 ∧ ly_fr cst [] h r.2.1 ∧ ((tl xk.toInt xd.toInt C = true ∧ w.toInt = 1) ∨ (tl xk.toInt xd.toInt C = false ∧ w.toInt = 0))) r := by
  obtain ⟨M, hM, hl⟩ := hp_M (mi := 85) (k := 4) (by decide +kernel)
  have go : hp_F cst strs (fun r : am_Q => ∃ w : Int32, r.1 = some (.int w) ∧ r.2.2.1 = 0 ∧ r.2.2.2 = 0 ∧ ly_hy m_tt ly_TH r.2.1 ∧ ly_fr cst [] h r.2.1 ∧ ((tl xk.toInt xd.toInt C = true ∧ w.toInt = 1) ∨ (tl xk.toInt xd.toInt C = false ∧ w.toInt = 0))) (D + 1) M 0 (lv_args 0 [.ref 30, .int xk, .long xd]) [] h := by
    refine dh0 c hM (by omega) hy xk.toInt xd.toInt A (c0.length : Int) ((c0.length : Int) + (C.length : Int)) k0 k1 xd.le_toInt xd.toInt_le a0 a1 (by omega) (by omega) (by omega) rm kA kF X.1 rfl ⟨xk, rfl, rfl⟩ ⟨xd, rfl, rfl⟩ (fun l1 h1 y0 y1 y2 y3 f0 f1 f2 f3 u1 u2 u3 g0 => ?_)
    have sub : ∃ r, am_Run cst m_cl m_tt m_P strs sx_bi (D + 1) 56 [.ref 30, .int y3, .int y2, .int y1, .long y0] h1 r ∧ ∃ w : Int32, r.1 = some (.int w) ∧ r.2.2.1 = 0 ∧ r.2.2.2 = 0 ∧ ly_hy m_tt ly_TH r.2.1 ∧ ly_fr cst [] h1 r.2.1 ∧ ((tl xk.toInt xd.toInt C = true ∧ 0 ≤ w.toInt ∧ w.toInt ≤ 1239) ∨ (tl xk.toInt xd.toInt C = false ∧ w.toInt = -1)) := by
      obtain ⟨M2, hM2, hl2⟩ := hp_M (mi := 56) (k := 6) (by decide +kernel)
      obtain ⟨n', r, hgo, w, r1, r2, r3, r4⟩ := cm0 (Φ := fun r : am_Q => ∃ w : Int32, r.1 = some (.int w) ∧ r.2.2.1 = 0 ∧ r.2.2.2 = 0 ∧ ly_hy m_tt ly_TH r.2.1 ∧ ly_fr cst [] h1 r.2.1 ∧ ((tl xk.toInt xd.toInt C = true ∧ 0 ≤ w.toInt ∧ w.toInt ≤ 1239) ∨ (tl xk.toInt xd.toInt C = false ∧ w.toInt = -1))) (l := lv_args 0 [.ref 30, .int y3, .int y2, .int y1, .long y0]) c1 hM2 (by omega) u1 (c0.length : Int) ((c0.length : Int) + (C.length : Int)) xk.toInt xd.toInt (by omega) (by omega) (by omega) rm k0 k1 xd.le_toInt xd.toInt_le rfl ⟨y3, rfl, f3⟩ ⟨y2, rfl, f2⟩ ⟨y1, rfl, f1⟩ ⟨y0, rfl, f0⟩ (fun l2 h2 w1 w2 w3 m0 m1 m2 m3 m4 m6 => hp_mon (cm_lp (h0 := h2) c1 hM2 hD (dr_mv (dr_mv X u2 rfl) w2 rfl) rm k0 k1 xd.le_toInt xd.toInt_le (C.length + 1) h2 l2 0 (by omega) (by omega) w1 (ly_fr_rf h2) (fun j hj h9 => by omega) m0 m1 m2 m3 m4 (by rw [show ((c0.length : Int) + ((0 : Nat) : Int)) = (c0.length : Int) by omega]; exact m6)) (fun r z => by
        obtain ⟨a, z1, z2, z3, z4, z5, z6⟩ := z
        exact ⟨a, z1, z2, z3, z4, ly_fr_tr w2 z5, z6⟩))
      simp only [Nat.zero_add] at r2 r3
      exact ⟨r, Or.inr ⟨M2, n', hM2, hl2, hgo⟩, w, r1, r2, r3, r4⟩
    obtain ⟨r, hrun, a, r1, r2, r3, rhy, rfr, rE⟩ := sub
    refine hp_call (mi := 85) (pc := 16) (tg := 56) (na := 5) (c := 14) (ci := 3) (st0 := [.long y0, .int y1, .int y2, .int y3, .ref 30]) (st := []) (av := [.int y3, .int y2, .int y1, .long y0]) hM (by decide +kernel) u1 rfl rfl rfl (by decide) hrun r2 r3 ?_
    rw [r1]
    rcases rE with ⟨e1, e2, e3⟩ | ⟨e1, e2⟩
    · exact dh2 c hM (by omega) rhy a.toInt a rfl e2 e3 g0 (fun h5 w hw t1 t2 t3 => ⟨w, rfl, rfl, rfl, t1, ly_fr_tr u2 (ly_fr_tr rfr t2), Or.inl ⟨e1, hw⟩⟩)
    · exact dh1 c hM (by omega) rhy a e2 g0 (fun h5 w hw t1 t2 t3 => ⟨w, rfl, rfl, rfl, t1, ly_fr_tr u2 (ly_fr_tr rfr t2), Or.inr ⟨e1, hw⟩⟩)
  obtain ⟨n', r, hgo, w, r1, r2, r3, r4⟩ := go
  simp only [Nat.zero_add] at r2 r3
  exact ⟨r, Or.inr ⟨M, n', hM, hl, hgo⟩, w, r1, r2, r3, r4⟩
