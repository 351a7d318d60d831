/-! PRINTED by wip/p2/gen_hand.py: roads of the switch by hand -/
noncomputable def lw_isV (pc tg na ci : Nat) : Bool := match sx_find pc sxmL.2.2.2.2 with
  | some (.invokevirtual _, X) => Nat.beq X.1 tg && (Nat.beq X.2.1 na && (sx_eq X.2.2 0 && (match sx_ch 16 tg sx_T with
    | some m' => Nat.beq m'.1 tg && (Nat.beq m'.2.1 ci && Nat.blt ci 98)
    | none => false)))
  | _ => false
theorem lw_call {cst : am_K} {Φ : am_Q → Prop} {pc tg na c ci : Nat} {fs : List (List ly_F)} {av st0 st : List Value} {h : am_H} {l : am_L} {r : am_Q} (hI : lw_isV pc tg na ci = true) (hy : ly_hy m_tt ly_TH h) (ht : ly_ths ly_TH c = some (.inr (ci, fs))) (hst : st0.length = na) (hav : st0.reverse = .ref (16 + c) :: av) (hcat : (st.map fun v => v.category).sum ≤ 8)
    (hrun : am_Run cst m_cl m_tt m_P m_strs sx_bi 50 tg (.ref (16 + c) :: av) h r) (hc0 : r.2.2.1 = 0) (hs0 : r.2.2.2 = 0) (k : lw_F cst Φ (pc + 3) l (r.1.toList ++ st) r.2.1 0 0) : lw_F cst Φ pc l (st0 ++ st) h 0 0 := by
  unfold lw_isV at hI
  split at hI
  case h_2 => cases hI
  rename_i ix X hX
  simp only [Bool.and_eq_true, sx_beqn, sx_eq_iff] at hI
  obtain ⟨x1, x2, x3, hI⟩ := hI
  split at hI
  case h_2 => cases hI
  rename_i m' hm'
  simp only [Bool.and_eq_true, sx_beqn, sx_blt] at hI
  obtain ⟨t0, t1, t2⟩ := hI
  obtain ⟨T', hT', -, -, h98, -⟩ := sx_tok_m tg m' hm' t0
  have hfind := lw_mok.2.2 _ _ hX
  have etake : (st0 ++ st).take X.2.1 = st0 := by rw [x2, ← hst]; exact List.take_left' rfl
  have edrop : (st0 ++ st).drop X.2.1 = st := by rw [x2, ← hst]; exact List.drop_left' rfl
  obtain ⟨xc, hx, vs, rfl, -⟩ := hy.2.1 _ _ ht
  obtain ⟨rr, hrr, hrr1⟩ := h98 (by omega)
  have hcc : am_c m_cl m_P m_strs (.invokevirtual ix) X (st0 ++ st) h := by
    refine ⟨by rw [List.length_append]; omega, by rw [edrop]; exact hcat, x3, .ref (16 + c), av, T', by rw [etake]; exact hav, by rw [x1]; exact hT', 16 + c, rfl, Or.inl ⟨Nat.not_lt.mpr (Nat.le_add_right 16 c), ci, vs, rr, ?_, ?_, hrr1⟩⟩
    · rw [show 16 + c - 16 = c by omega]; exact hx
    · rw [← t1]; exact hrr
  refine sx_Fin_pre (dc := r.2.2.1) (ds := r.2.2.2) (f1 := (mtL, pc + 3, l, r.1.toList ++ st)) (h1 := r.2.1) (fun n2 q hgo2 => ⟨n2 + 1, _, X, hfind, Or.inr (Or.inr (Or.inr (Or.inl ⟨r, q, hcc, ?_, ?_, rfl⟩)))⟩) ?_
  · rw [etake, hav, x1]; exact hrun
  · rw [edrop]; exact hgo2
  · rw [hc0, hs0]; exact k
theorem lw_elem {cst : am_K} {h : am_H} {n i : Int} (gC : ly_gC sx_KK cst) (hn : ly_hv cst h 60000 0 = some n) (i0 : 0 ≤ i) (i1 : i < n) : ∃ x : Int32, ly_hv cst h 60001 i = some x.toInt := by
  obtain ⟨L, eL, -⟩ := gC.2.1
  rw [ly_hv0 (by decide)] at hn ⊢
  unfold ly_h0 at hn ⊢
  rw [if_neg (by decide), if_neg (by decide), if_neg (by decide)] at hn ⊢
  unfold ly_hk at hn ⊢
  rw [eL] at hn ⊢
  simp only [if_pos] at hn
  cases hn
  simp only
  rw [if_neg (by decide), if_pos ⟨trivial, i0⟩]
  cases hx : L[i.toNat]? with
  | some x => exact ⟨x, rfl⟩
  | none =>
    have := List.getElem?_eq_none_iff.mp hx
    omega
theorem lpa0_k : lw_chk (lw_rm [31] 0 ly_Y) 449 9 [(0, 0, 3584), (1, 0, 3584), (2, 177, 2077), (3, 0, 100), (4, 0, 512), (5, 0, 1200), (6, 0, 399), (7, 0, 120), (8, (-2147483648), 0)] [((-7), [(0, 1), (1, (-1))])] [(0, .inr (.inr (.inl (some 4)))), (1, .inr (.inr (.inl (some 16)))), (2, .inr (.inr (.inl (some 94)))), (3, .inl (0, [(1, 1)]))] [] [(60000, (0, []), (0, [(0, 1)])), (60002, (0, []), (0, [(2, 1)])), (7170, (0, []), (0, [(3, 1)])), (60010, (0, []), (1, [])), (60020, (0, []), (1, [])), (20055, (0, []), (0, [(4, 1)])), (257, (0, []), (0, [(5, 1)])), (19969, (0, []), (0, [(5, 1)])), (10, (0, []), (0, [(6, 1)])), (19977, (0, []), (0, [(6, 1)])), (1536, (0, []), (0, [(7, 1)])), (19978, (0, []), (0, [(7, 1)])), (60001, (1, [(1, 1)]), (0, [(8, 1)]))] [10, 11015, 13824] [(465, ([], 9, [(0, 0, 3584), (1, 0, 3584), (2, 177, 2077), (3, 0, 100), (4, 0, 512), (5, 0, 1200), (6, 0, 399), (7, 0, 120), (8, (-2147483648), 0)], [], [(0, .inr (.inr (.inl (some 4)))), (1, .inr (.inr (.inl (some 16)))), (2, .inr (.inr (.inl (some 94)))), (3, .inl (0, [(1, 1)]))], [.inl (0, [(8, 1)]), .inr (.inr (.inl (some 94)))], [(60000, (0, []), (0, [(0, 1)])), (60002, (0, []), (0, [(2, 1)])), (7170, (0, []), (0, [(3, 1)])), (60010, (0, []), (1, [])), (60020, (0, []), (1, [])), (20055, (0, []), (0, [(4, 1)])), (257, (0, []), (0, [(5, 1)])), (19969, (0, []), (0, [(5, 1)])), (10, (0, []), (0, [(6, 1)])), (19977, (0, []), (0, [(6, 1)])), (1536, (0, []), (0, [(7, 1)])), (19978, (0, []), (0, [(7, 1)]))]))] [] 0 0 = true := by decide +kernel
theorem lpa0 {cst : am_K} {Φ : am_Q → Prop} {h : am_H} {l : am_L} (gC : ly_gC sx_KK cst) (hY : ∀ d, ly_Yok cst m_cl m_tt m_P m_strs ly_TH ly_Y d) (hy : ly_hy m_tt ly_TH h) (n p t s r v0 v1 v2 x : Int) (b0 : 0 ≤ n) (t0 : n ≤ 3584) (b1 : 0 ≤ p) (t1 : p ≤ 3584) (b2 : 177 ≤ t) (t2 : t ≤ 2077) (b3 : 0 ≤ s) (t3 : s ≤ 100) (b4 : 0 ≤ r) (t4 : r ≤ 512) (b5 : 0 ≤ v0) (t5 : v0 ≤ 1200) (b6 : 0 ≤ v1) (t6 : v1 ≤ 399) (b7 : 0 ≤ v2) (t7 : v2 ≤ 120) (b8 : (-2147483648) ≤ x) (t8 : x ≤ 0) (f0 : 0 ≤ (n - p - 7)) (k0 : ly_hv cst h 60000 0 = some (n)) (k1 : ly_hv cst h 60002 0 = some (t)) (k2 : ly_hv cst h 7170 0 = some (s)) (k3 : ly_hv cst h 60010 0 = some 1) (k4 : ly_hv cst h 60020 0 = some 1) (k5 : ly_hv cst h 20055 0 = some (r)) (k6 : ly_hv cst h 257 0 = some (v0)) (k7 : ly_hv cst h 19969 0 = some (v0)) (k8 : ly_hv cst h 10 0 = some (v1)) (k9 : ly_hv cst h 19977 0 = some (v1)) (k10 : ly_hv cst h 1536 0 = some (v2)) (k11 : ly_hv cst h 19978 0 = some (v2)) (k12 : ly_hv cst h 60001 (p + 1) = some (x)) (l0 : hp_a l 0 4) (l1 : hp_a l 1 16) (l2 : hp_a l 2 94) (l3 : hp_i l 3 (p)) (e0 : ∀ (l' : am_L) (h' : am_H) (y0 : Int32), y0.toInt = (x) → ly_hy m_tt ly_TH h' → ly_fr cst [10, 11015, 13824] h h' → ly_hv cst h' 60000 0 = some (n) → ly_hv cst h' 60002 0 = some (t) → ly_hv cst h' 7170 0 = some (s) → ly_hv cst h' 60010 0 = some 1 → ly_hv cst h' 60020 0 = some 1 → ly_hv cst h' 20055 0 = some (r) → ly_hv cst h' 257 0 = some (v0) → ly_hv cst h' 19969 0 = some (v0) → ly_hv cst h' 10 0 = some (v1) → ly_hv cst h' 19977 0 = some (v1) → ly_hv cst h' 1536 0 = some (v2) → ly_hv cst h' 19978 0 = some (v2) → hp_a l' 0 4 → hp_a l' 1 16 → hp_a l' 2 94 → hp_i l' 3 (p) → lw_F cst Φ 465 l' [.int y0, .ref 94] h' 0 0) : lw_F cst Φ 449 l [] h 0 0 := by
  refine lw_arc gC (fun d => lw_rm_ok (hY d)) lpa0_k [n, p, t, s, r, v0, v1, v2, x] rfl hy (hp_Bc (z := n) rfl b0 t0 (hp_Bc (z := p) rfl b1 t1 (hp_Bc (z := t) rfl b2 t2 (hp_Bc (z := s) rfl b3 t3 (hp_Bc (z := r) rfl b4 t4 (hp_Bc (z := v0) rfl b5 t5 (hp_Bc (z := v1) rfl b6 t6 (hp_Bc (z := v2) rfl b7 t7 (hp_Bc (z := x) rfl b8 t8 hp_Bn))))))))) (hp_Fc (z := ((-7) + (1 * n + ((-1) * p + 0)))) rfl (by omega) hp_Fn) (hp_Kc (zi := (0 + 0)) (zv := (0 + (1 * n + 0))) k0 rfl rfl (by omega) (by omega) (hp_Kc (zi := (0 + 0)) (zv := (0 + (1 * t + 0))) k1 rfl rfl (by omega) (by omega) (hp_Kc (zi := (0 + 0)) (zv := (0 + (1 * s + 0))) k2 rfl rfl (by omega) (by omega) (hp_Kc (zi := (0 + 0)) (zv := (1 + 0)) k3 rfl rfl (by omega) (by omega) (hp_Kc (zi := (0 + 0)) (zv := (1 + 0)) k4 rfl rfl (by omega) (by omega) (hp_Kc (zi := (0 + 0)) (zv := (0 + (1 * r + 0))) k5 rfl rfl (by omega) (by omega) (hp_Kc (zi := (0 + 0)) (zv := (0 + (1 * v0 + 0))) k6 rfl rfl (by omega) (by omega) (hp_Kc (zi := (0 + 0)) (zv := (0 + (1 * v0 + 0))) k7 rfl rfl (by omega) (by omega) (hp_Kc (zi := (0 + 0)) (zv := (0 + (1 * v1 + 0))) k8 rfl rfl (by omega) (by omega) (hp_Kc (zi := (0 + 0)) (zv := (0 + (1 * v1 + 0))) k9 rfl rfl (by omega) (by omega) (hp_Kc (zi := (0 + 0)) (zv := (0 + (1 * v2 + 0))) k10 rfl rfl (by omega) (by omega) (hp_Kc (zi := (0 + 0)) (zv := (0 + (1 * v2 + 0))) k11 rfl rfl (by omega) (by omega) (hp_Kc (zi := (1 + (1 * p + 0))) (zv := (0 + (1 * x + 0))) k12 rfl rfl (by omega) (by omega) hp_Kn))))))))))))) (hp_La l0 (hp_La l1 (hp_La l2 (hp_Li (z := (0 + (1 * p + 0))) l3 rfl (by omega) hp_Ln)))) trivial ?_ ?_
  · intro q hp ys l' st' h' ca sa ha hs hys a1 hfr gZ gL gS
    have ea : ca = 0 := Nat.le_zero.mp ha
    have eb : sa = 0 := Nat.le_zero.mp hs
    subst ea
    subst eb
    rcases List.mem_cons.mp hp with rfl | hp
    · obtain rfl := hp_y0 hys
      obtain ⟨y0, t0, rfl, q0, g0⟩ := hp_gSi (z := (0 + (1 * x + 0))) gS rfl
      obtain ⟨t1, rfl, g1⟩ := hp_gSa g0 (by decide)
      cases hp_gSn g1
      exact e0 l' h' y0 (by omega) a1 hfr (hp_gK (zi := (0 + 0)) (zv := (0 + (1 * n + 0))) gZ.2.2.2 (List.mem_of_getElem? (i := 0) rfl) rfl rfl (by omega) (by omega)) (hp_gK (zi := (0 + 0)) (zv := (0 + (1 * t + 0))) gZ.2.2.2 (List.mem_of_getElem? (i := 1) rfl) rfl rfl (by omega) (by omega)) (hp_gK (zi := (0 + 0)) (zv := (0 + (1 * s + 0))) gZ.2.2.2 (List.mem_of_getElem? (i := 2) rfl) rfl rfl (by omega) (by omega)) (hp_gK (zi := (0 + 0)) (zv := (1 + 0)) gZ.2.2.2 (List.mem_of_getElem? (i := 3) rfl) rfl rfl (by omega) (by omega)) (hp_gK (zi := (0 + 0)) (zv := (1 + 0)) gZ.2.2.2 (List.mem_of_getElem? (i := 4) rfl) rfl rfl (by omega) (by omega)) (hp_gK (zi := (0 + 0)) (zv := (0 + (1 * r + 0))) gZ.2.2.2 (List.mem_of_getElem? (i := 5) rfl) rfl rfl (by omega) (by omega)) (hp_gK (zi := (0 + 0)) (zv := (0 + (1 * v0 + 0))) gZ.2.2.2 (List.mem_of_getElem? (i := 6) rfl) rfl rfl (by omega) (by omega)) (hp_gK (zi := (0 + 0)) (zv := (0 + (1 * v0 + 0))) gZ.2.2.2 (List.mem_of_getElem? (i := 7) rfl) rfl rfl (by omega) (by omega)) (hp_gK (zi := (0 + 0)) (zv := (0 + (1 * v1 + 0))) gZ.2.2.2 (List.mem_of_getElem? (i := 8) rfl) rfl rfl (by omega) (by omega)) (hp_gK (zi := (0 + 0)) (zv := (0 + (1 * v1 + 0))) gZ.2.2.2 (List.mem_of_getElem? (i := 9) rfl) rfl rfl (by omega) (by omega)) (hp_gK (zi := (0 + 0)) (zv := (0 + (1 * v2 + 0))) gZ.2.2.2 (List.mem_of_getElem? (i := 10) rfl) rfl rfl (by omega) (by omega)) (hp_gK (zi := (0 + 0)) (zv := (0 + (1 * v2 + 0))) gZ.2.2.2 (List.mem_of_getElem? (i := 11) rfl) rfl rfl (by omega) (by omega)) (hp_gLa gL (List.mem_of_getElem? (i := 0) rfl) (by decide)) (hp_gLa gL (List.mem_of_getElem? (i := 1) rfl) (by decide)) (hp_gLa gL (List.mem_of_getElem? (i := 2) rfl) (by decide)) (hp_gLi (z := (0 + (1 * p + 0))) gL (List.mem_of_getElem? (i := 3) rfl) rfl (by omega))
    cases hp
  · intro q hq ys v h' hys gS
    cases hq
theorem lpa1_k : lw_chk (lw_rm [31] 0 ly_Y) 449 9 [(0, 0, 3584), (1, 0, 3584), (2, 177, 2077), (3, 0, 100), (4, 0, 512), (5, 0, 1200), (6, 0, 399), (7, 0, 120), (8, 101, 2147483647)] [((-7), [(0, 1), (1, (-1))])] [(0, .inr (.inr (.inl (some 4)))), (1, .inr (.inr (.inl (some 16)))), (2, .inr (.inr (.inl (some 94)))), (3, .inl (0, [(1, 1)]))] [] [(60000, (0, []), (0, [(0, 1)])), (60002, (0, []), (0, [(2, 1)])), (7170, (0, []), (0, [(3, 1)])), (60010, (0, []), (1, [])), (60020, (0, []), (1, [])), (20055, (0, []), (0, [(4, 1)])), (257, (0, []), (0, [(5, 1)])), (19969, (0, []), (0, [(5, 1)])), (10, (0, []), (0, [(6, 1)])), (19977, (0, []), (0, [(6, 1)])), (1536, (0, []), (0, [(7, 1)])), (19978, (0, []), (0, [(7, 1)])), (60001, (1, [(1, 1)]), (0, [(8, 1)]))] [10, 11015, 13824] [(465, ([], 9, [(0, 0, 3584), (1, 0, 3584), (2, 177, 2077), (3, 0, 100), (4, 0, 512), (5, 0, 1200), (6, 0, 399), (7, 0, 120), (8, 101, 2147483647)], [], [(0, .inr (.inr (.inl (some 4)))), (1, .inr (.inr (.inl (some 16)))), (2, .inr (.inr (.inl (some 94)))), (3, .inl (0, [(1, 1)]))], [.inl (0, [(8, 1)]), .inr (.inr (.inl (some 94)))], [(60000, (0, []), (0, [(0, 1)])), (60002, (0, []), (0, [(2, 1)])), (7170, (0, []), (0, [(3, 1)])), (60010, (0, []), (1, [])), (60020, (0, []), (1, [])), (20055, (0, []), (0, [(4, 1)])), (257, (0, []), (0, [(5, 1)])), (19969, (0, []), (0, [(5, 1)])), (10, (0, []), (0, [(6, 1)])), (19977, (0, []), (0, [(6, 1)])), (1536, (0, []), (0, [(7, 1)])), (19978, (0, []), (0, [(7, 1)]))]))] [] 0 0 = true := by decide +kernel
theorem lpa1 {cst : am_K} {Φ : am_Q → Prop} {h : am_H} {l : am_L} (gC : ly_gC sx_KK cst) (hY : ∀ d, ly_Yok cst m_cl m_tt m_P m_strs ly_TH ly_Y d) (hy : ly_hy m_tt ly_TH h) (n p t s r v0 v1 v2 x : Int) (b0 : 0 ≤ n) (t0 : n ≤ 3584) (b1 : 0 ≤ p) (t1 : p ≤ 3584) (b2 : 177 ≤ t) (t2 : t ≤ 2077) (b3 : 0 ≤ s) (t3 : s ≤ 100) (b4 : 0 ≤ r) (t4 : r ≤ 512) (b5 : 0 ≤ v0) (t5 : v0 ≤ 1200) (b6 : 0 ≤ v1) (t6 : v1 ≤ 399) (b7 : 0 ≤ v2) (t7 : v2 ≤ 120) (b8 : 101 ≤ x) (t8 : x ≤ 2147483647) (f0 : 0 ≤ (n - p - 7)) (k0 : ly_hv cst h 60000 0 = some (n)) (k1 : ly_hv cst h 60002 0 = some (t)) (k2 : ly_hv cst h 7170 0 = some (s)) (k3 : ly_hv cst h 60010 0 = some 1) (k4 : ly_hv cst h 60020 0 = some 1) (k5 : ly_hv cst h 20055 0 = some (r)) (k6 : ly_hv cst h 257 0 = some (v0)) (k7 : ly_hv cst h 19969 0 = some (v0)) (k8 : ly_hv cst h 10 0 = some (v1)) (k9 : ly_hv cst h 19977 0 = some (v1)) (k10 : ly_hv cst h 1536 0 = some (v2)) (k11 : ly_hv cst h 19978 0 = some (v2)) (k12 : ly_hv cst h 60001 (p + 1) = some (x)) (l0 : hp_a l 0 4) (l1 : hp_a l 1 16) (l2 : hp_a l 2 94) (l3 : hp_i l 3 (p)) (e0 : ∀ (l' : am_L) (h' : am_H) (y0 : Int32), y0.toInt = (x) → ly_hy m_tt ly_TH h' → ly_fr cst [10, 11015, 13824] h h' → ly_hv cst h' 60000 0 = some (n) → ly_hv cst h' 60002 0 = some (t) → ly_hv cst h' 7170 0 = some (s) → ly_hv cst h' 60010 0 = some 1 → ly_hv cst h' 60020 0 = some 1 → ly_hv cst h' 20055 0 = some (r) → ly_hv cst h' 257 0 = some (v0) → ly_hv cst h' 19969 0 = some (v0) → ly_hv cst h' 10 0 = some (v1) → ly_hv cst h' 19977 0 = some (v1) → ly_hv cst h' 1536 0 = some (v2) → ly_hv cst h' 19978 0 = some (v2) → hp_a l' 0 4 → hp_a l' 1 16 → hp_a l' 2 94 → hp_i l' 3 (p) → lw_F cst Φ 465 l' [.int y0, .ref 94] h' 0 0) : lw_F cst Φ 449 l [] h 0 0 := by
  refine lw_arc gC (fun d => lw_rm_ok (hY d)) lpa1_k [n, p, t, s, r, v0, v1, v2, x] rfl hy (hp_Bc (z := n) rfl b0 t0 (hp_Bc (z := p) rfl b1 t1 (hp_Bc (z := t) rfl b2 t2 (hp_Bc (z := s) rfl b3 t3 (hp_Bc (z := r) rfl b4 t4 (hp_Bc (z := v0) rfl b5 t5 (hp_Bc (z := v1) rfl b6 t6 (hp_Bc (z := v2) rfl b7 t7 (hp_Bc (z := x) rfl b8 t8 hp_Bn))))))))) (hp_Fc (z := ((-7) + (1 * n + ((-1) * p + 0)))) rfl (by omega) hp_Fn) (hp_Kc (zi := (0 + 0)) (zv := (0 + (1 * n + 0))) k0 rfl rfl (by omega) (by omega) (hp_Kc (zi := (0 + 0)) (zv := (0 + (1 * t + 0))) k1 rfl rfl (by omega) (by omega) (hp_Kc (zi := (0 + 0)) (zv := (0 + (1 * s + 0))) k2 rfl rfl (by omega) (by omega) (hp_Kc (zi := (0 + 0)) (zv := (1 + 0)) k3 rfl rfl (by omega) (by omega) (hp_Kc (zi := (0 + 0)) (zv := (1 + 0)) k4 rfl rfl (by omega) (by omega) (hp_Kc (zi := (0 + 0)) (zv := (0 + (1 * r + 0))) k5 rfl rfl (by omega) (by omega) (hp_Kc (zi := (0 + 0)) (zv := (0 + (1 * v0 + 0))) k6 rfl rfl (by omega) (by omega) (hp_Kc (zi := (0 + 0)) (zv := (0 + (1 * v0 + 0))) k7 rfl rfl (by omega) (by omega) (hp_Kc (zi := (0 + 0)) (zv := (0 + (1 * v1 + 0))) k8 rfl rfl (by omega) (by omega) (hp_Kc (zi := (0 + 0)) (zv := (0 + (1 * v1 + 0))) k9 rfl rfl (by omega) (by omega) (hp_Kc (zi := (0 + 0)) (zv := (0 + (1 * v2 + 0))) k10 rfl rfl (by omega) (by omega) (hp_Kc (zi := (0 + 0)) (zv := (0 + (1 * v2 + 0))) k11 rfl rfl (by omega) (by omega) (hp_Kc (zi := (1 + (1 * p + 0))) (zv := (0 + (1 * x + 0))) k12 rfl rfl (by omega) (by omega) hp_Kn))))))))))))) (hp_La l0 (hp_La l1 (hp_La l2 (hp_Li (z := (0 + (1 * p + 0))) l3 rfl (by omega) hp_Ln)))) trivial ?_ ?_
  · intro q hp ys l' st' h' ca sa ha hs hys a1 hfr gZ gL gS
    have ea : ca = 0 := Nat.le_zero.mp ha
    have eb : sa = 0 := Nat.le_zero.mp hs
    subst ea
    subst eb
    rcases List.mem_cons.mp hp with rfl | hp
    · obtain rfl := hp_y0 hys
      obtain ⟨y0, t0, rfl, q0, g0⟩ := hp_gSi (z := (0 + (1 * x + 0))) gS rfl
      obtain ⟨t1, rfl, g1⟩ := hp_gSa g0 (by decide)
      cases hp_gSn g1
      exact e0 l' h' y0 (by omega) a1 hfr (hp_gK (zi := (0 + 0)) (zv := (0 + (1 * n + 0))) gZ.2.2.2 (List.mem_of_getElem? (i := 0) rfl) rfl rfl (by omega) (by omega)) (hp_gK (zi := (0 + 0)) (zv := (0 + (1 * t + 0))) gZ.2.2.2 (List.mem_of_getElem? (i := 1) rfl) rfl rfl (by omega) (by omega)) (hp_gK (zi := (0 + 0)) (zv := (0 + (1 * s + 0))) gZ.2.2.2 (List.mem_of_getElem? (i := 2) rfl) rfl rfl (by omega) (by omega)) (hp_gK (zi := (0 + 0)) (zv := (1 + 0)) gZ.2.2.2 (List.mem_of_getElem? (i := 3) rfl) rfl rfl (by omega) (by omega)) (hp_gK (zi := (0 + 0)) (zv := (1 + 0)) gZ.2.2.2 (List.mem_of_getElem? (i := 4) rfl) rfl rfl (by omega) (by omega)) (hp_gK (zi := (0 + 0)) (zv := (0 + (1 * r + 0))) gZ.2.2.2 (List.mem_of_getElem? (i := 5) rfl) rfl rfl (by omega) (by omega)) (hp_gK (zi := (0 + 0)) (zv := (0 + (1 * v0 + 0))) gZ.2.2.2 (List.mem_of_getElem? (i := 6) rfl) rfl rfl (by omega) (by omega)) (hp_gK (zi := (0 + 0)) (zv := (0 + (1 * v0 + 0))) gZ.2.2.2 (List.mem_of_getElem? (i := 7) rfl) rfl rfl (by omega) (by omega)) (hp_gK (zi := (0 + 0)) (zv := (0 + (1 * v1 + 0))) gZ.2.2.2 (List.mem_of_getElem? (i := 8) rfl) rfl rfl (by omega) (by omega)) (hp_gK (zi := (0 + 0)) (zv := (0 + (1 * v1 + 0))) gZ.2.2.2 (List.mem_of_getElem? (i := 9) rfl) rfl rfl (by omega) (by omega)) (hp_gK (zi := (0 + 0)) (zv := (0 + (1 * v2 + 0))) gZ.2.2.2 (List.mem_of_getElem? (i := 10) rfl) rfl rfl (by omega) (by omega)) (hp_gK (zi := (0 + 0)) (zv := (0 + (1 * v2 + 0))) gZ.2.2.2 (List.mem_of_getElem? (i := 11) rfl) rfl rfl (by omega) (by omega)) (hp_gLa gL (List.mem_of_getElem? (i := 0) rfl) (by decide)) (hp_gLa gL (List.mem_of_getElem? (i := 1) rfl) (by decide)) (hp_gLa gL (List.mem_of_getElem? (i := 2) rfl) (by decide)) (hp_gLi (z := (0 + (1 * p + 0))) gL (List.mem_of_getElem? (i := 3) rfl) rfl (by omega))
    cases hp
  · intro q hq ys v h' hys gS
    cases hq
theorem lpa2_k : lw_chk (lw_rm [31] 0 ly_Y) 449 9 [(0, 0, 3584), (1, 0, 3584), (2, 177, 2077), (3, 0, 100), (4, 0, 512), (5, 0, 1200), (6, 0, 399), (7, 0, 120), (8, 1, 100)] [((-7), [(0, 1), (1, (-1))]), ((-400), [(6, 1), (8, 1)])] [(0, .inr (.inr (.inl (some 4)))), (1, .inr (.inr (.inl (some 16)))), (2, .inr (.inr (.inl (some 94)))), (3, .inl (0, [(1, 1)]))] [] [(60000, (0, []), (0, [(0, 1)])), (60002, (0, []), (0, [(2, 1)])), (7170, (0, []), (0, [(3, 1)])), (60010, (0, []), (1, [])), (60020, (0, []), (1, [])), (20055, (0, []), (0, [(4, 1)])), (257, (0, []), (0, [(5, 1)])), (19969, (0, []), (0, [(5, 1)])), (10, (0, []), (0, [(6, 1)])), (19977, (0, []), (0, [(6, 1)])), (1536, (0, []), (0, [(7, 1)])), (19978, (0, []), (0, [(7, 1)])), (60001, (1, [(1, 1)]), (0, [(8, 1)]))] [10, 11015, 13824] [(465, ([], 9, [(0, 0, 3584), (1, 0, 3584), (2, 177, 2077), (3, 0, 100), (4, 0, 512), (5, 0, 1200), (6, 0, 399), (7, 0, 120), (8, 1, 100)], [], [(0, .inr (.inr (.inl (some 4)))), (1, .inr (.inr (.inl (some 16)))), (2, .inr (.inr (.inl (some 94)))), (3, .inl (0, [(1, 1)]))], [.inl (0, [(8, 1)]), .inr (.inr (.inl (some 94)))], [(60000, (0, []), (0, [(0, 1)])), (60002, (0, []), (0, [(2, 1)])), (7170, (0, []), (0, [(3, 1)])), (60010, (0, []), (1, [])), (60020, (0, []), (1, [])), (20055, (0, []), (0, [(4, 1)])), (257, (0, []), (0, [(5, 1)])), (19969, (0, []), (0, [(5, 1)])), (10, (0, []), (0, [(6, 1)])), (19977, (0, []), (0, [(6, 1)])), (1536, (0, []), (0, [(7, 1)])), (19978, (0, []), (0, [(7, 1)]))]))] [] 0 0 = true := by decide +kernel
theorem lpa2 {cst : am_K} {Φ : am_Q → Prop} {h : am_H} {l : am_L} (gC : ly_gC sx_KK cst) (hY : ∀ d, ly_Yok cst m_cl m_tt m_P m_strs ly_TH ly_Y d) (hy : ly_hy m_tt ly_TH h) (n p t s r v0 v1 v2 x : Int) (b0 : 0 ≤ n) (t0 : n ≤ 3584) (b1 : 0 ≤ p) (t1 : p ≤ 3584) (b2 : 177 ≤ t) (t2 : t ≤ 2077) (b3 : 0 ≤ s) (t3 : s ≤ 100) (b4 : 0 ≤ r) (t4 : r ≤ 512) (b5 : 0 ≤ v0) (t5 : v0 ≤ 1200) (b6 : 0 ≤ v1) (t6 : v1 ≤ 399) (b7 : 0 ≤ v2) (t7 : v2 ≤ 120) (b8 : 1 ≤ x) (t8 : x ≤ 100) (f0 : 0 ≤ (n - p - 7)) (f1 : 0 ≤ (v1 + x - 400)) (k0 : ly_hv cst h 60000 0 = some (n)) (k1 : ly_hv cst h 60002 0 = some (t)) (k2 : ly_hv cst h 7170 0 = some (s)) (k3 : ly_hv cst h 60010 0 = some 1) (k4 : ly_hv cst h 60020 0 = some 1) (k5 : ly_hv cst h 20055 0 = some (r)) (k6 : ly_hv cst h 257 0 = some (v0)) (k7 : ly_hv cst h 19969 0 = some (v0)) (k8 : ly_hv cst h 10 0 = some (v1)) (k9 : ly_hv cst h 19977 0 = some (v1)) (k10 : ly_hv cst h 1536 0 = some (v2)) (k11 : ly_hv cst h 19978 0 = some (v2)) (k12 : ly_hv cst h 60001 (p + 1) = some (x)) (l0 : hp_a l 0 4) (l1 : hp_a l 1 16) (l2 : hp_a l 2 94) (l3 : hp_i l 3 (p)) (e0 : ∀ (l' : am_L) (h' : am_H) (y0 : Int32), y0.toInt = (x) → ly_hy m_tt ly_TH h' → ly_fr cst [10, 11015, 13824] h h' → ly_hv cst h' 60000 0 = some (n) → ly_hv cst h' 60002 0 = some (t) → ly_hv cst h' 7170 0 = some (s) → ly_hv cst h' 60010 0 = some 1 → ly_hv cst h' 60020 0 = some 1 → ly_hv cst h' 20055 0 = some (r) → ly_hv cst h' 257 0 = some (v0) → ly_hv cst h' 19969 0 = some (v0) → ly_hv cst h' 10 0 = some (v1) → ly_hv cst h' 19977 0 = some (v1) → ly_hv cst h' 1536 0 = some (v2) → ly_hv cst h' 19978 0 = some (v2) → hp_a l' 0 4 → hp_a l' 1 16 → hp_a l' 2 94 → hp_i l' 3 (p) → lw_F cst Φ 465 l' [.int y0, .ref 94] h' 0 0) : lw_F cst Φ 449 l [] h 0 0 := by
  refine lw_arc gC (fun d => lw_rm_ok (hY d)) lpa2_k [n, p, t, s, r, v0, v1, v2, x] rfl hy (hp_Bc (z := n) rfl b0 t0 (hp_Bc (z := p) rfl b1 t1 (hp_Bc (z := t) rfl b2 t2 (hp_Bc (z := s) rfl b3 t3 (hp_Bc (z := r) rfl b4 t4 (hp_Bc (z := v0) rfl b5 t5 (hp_Bc (z := v1) rfl b6 t6 (hp_Bc (z := v2) rfl b7 t7 (hp_Bc (z := x) rfl b8 t8 hp_Bn))))))))) (hp_Fc (z := ((-7) + (1 * n + ((-1) * p + 0)))) rfl (by omega) (hp_Fc (z := ((-400) + (1 * v1 + (1 * x + 0)))) rfl (by omega) hp_Fn)) (hp_Kc (zi := (0 + 0)) (zv := (0 + (1 * n + 0))) k0 rfl rfl (by omega) (by omega) (hp_Kc (zi := (0 + 0)) (zv := (0 + (1 * t + 0))) k1 rfl rfl (by omega) (by omega) (hp_Kc (zi := (0 + 0)) (zv := (0 + (1 * s + 0))) k2 rfl rfl (by omega) (by omega) (hp_Kc (zi := (0 + 0)) (zv := (1 + 0)) k3 rfl rfl (by omega) (by omega) (hp_Kc (zi := (0 + 0)) (zv := (1 + 0)) k4 rfl rfl (by omega) (by omega) (hp_Kc (zi := (0 + 0)) (zv := (0 + (1 * r + 0))) k5 rfl rfl (by omega) (by omega) (hp_Kc (zi := (0 + 0)) (zv := (0 + (1 * v0 + 0))) k6 rfl rfl (by omega) (by omega) (hp_Kc (zi := (0 + 0)) (zv := (0 + (1 * v0 + 0))) k7 rfl rfl (by omega) (by omega) (hp_Kc (zi := (0 + 0)) (zv := (0 + (1 * v1 + 0))) k8 rfl rfl (by omega) (by omega) (hp_Kc (zi := (0 + 0)) (zv := (0 + (1 * v1 + 0))) k9 rfl rfl (by omega) (by omega) (hp_Kc (zi := (0 + 0)) (zv := (0 + (1 * v2 + 0))) k10 rfl rfl (by omega) (by omega) (hp_Kc (zi := (0 + 0)) (zv := (0 + (1 * v2 + 0))) k11 rfl rfl (by omega) (by omega) (hp_Kc (zi := (1 + (1 * p + 0))) (zv := (0 + (1 * x + 0))) k12 rfl rfl (by omega) (by omega) hp_Kn))))))))))))) (hp_La l0 (hp_La l1 (hp_La l2 (hp_Li (z := (0 + (1 * p + 0))) l3 rfl (by omega) hp_Ln)))) trivial ?_ ?_
  · intro q hp ys l' st' h' ca sa ha hs hys a1 hfr gZ gL gS
    have ea : ca = 0 := Nat.le_zero.mp ha
    have eb : sa = 0 := Nat.le_zero.mp hs
    subst ea
    subst eb
    rcases List.mem_cons.mp hp with rfl | hp
    · obtain rfl := hp_y0 hys
      obtain ⟨y0, t0, rfl, q0, g0⟩ := hp_gSi (z := (0 + (1 * x + 0))) gS rfl
      obtain ⟨t1, rfl, g1⟩ := hp_gSa g0 (by decide)
      cases hp_gSn g1
      exact e0 l' h' y0 (by omega) a1 hfr (hp_gK (zi := (0 + 0)) (zv := (0 + (1 * n + 0))) gZ.2.2.2 (List.mem_of_getElem? (i := 0) rfl) rfl rfl (by omega) (by omega)) (hp_gK (zi := (0 + 0)) (zv := (0 + (1 * t + 0))) gZ.2.2.2 (List.mem_of_getElem? (i := 1) rfl) rfl rfl (by omega) (by omega)) (hp_gK (zi := (0 + 0)) (zv := (0 + (1 * s + 0))) gZ.2.2.2 (List.mem_of_getElem? (i := 2) rfl) rfl rfl (by omega) (by omega)) (hp_gK (zi := (0 + 0)) (zv := (1 + 0)) gZ.2.2.2 (List.mem_of_getElem? (i := 3) rfl) rfl rfl (by omega) (by omega)) (hp_gK (zi := (0 + 0)) (zv := (1 + 0)) gZ.2.2.2 (List.mem_of_getElem? (i := 4) rfl) rfl rfl (by omega) (by omega)) (hp_gK (zi := (0 + 0)) (zv := (0 + (1 * r + 0))) gZ.2.2.2 (List.mem_of_getElem? (i := 5) rfl) rfl rfl (by omega) (by omega)) (hp_gK (zi := (0 + 0)) (zv := (0 + (1 * v0 + 0))) gZ.2.2.2 (List.mem_of_getElem? (i := 6) rfl) rfl rfl (by omega) (by omega)) (hp_gK (zi := (0 + 0)) (zv := (0 + (1 * v0 + 0))) gZ.2.2.2 (List.mem_of_getElem? (i := 7) rfl) rfl rfl (by omega) (by omega)) (hp_gK (zi := (0 + 0)) (zv := (0 + (1 * v1 + 0))) gZ.2.2.2 (List.mem_of_getElem? (i := 8) rfl) rfl rfl (by omega) (by omega)) (hp_gK (zi := (0 + 0)) (zv := (0 + (1 * v1 + 0))) gZ.2.2.2 (List.mem_of_getElem? (i := 9) rfl) rfl rfl (by omega) (by omega)) (hp_gK (zi := (0 + 0)) (zv := (0 + (1 * v2 + 0))) gZ.2.2.2 (List.mem_of_getElem? (i := 10) rfl) rfl rfl (by omega) (by omega)) (hp_gK (zi := (0 + 0)) (zv := (0 + (1 * v2 + 0))) gZ.2.2.2 (List.mem_of_getElem? (i := 11) rfl) rfl rfl (by omega) (by omega)) (hp_gLa gL (List.mem_of_getElem? (i := 0) rfl) (by decide)) (hp_gLa gL (List.mem_of_getElem? (i := 1) rfl) (by decide)) (hp_gLa gL (List.mem_of_getElem? (i := 2) rfl) (by decide)) (hp_gLi (z := (0 + (1 * p + 0))) gL (List.mem_of_getElem? (i := 3) rfl) rfl (by omega))
    cases hp
  · intro q hq ys v h' hys gS
    cases hq
theorem lpa3_k : lw_chk (lw_rm [31] 0 ly_Y) 449 9 [(0, 0, 3584), (1, 0, 3584), (2, 177, 2077), (3, 0, 100), (4, 0, 512), (5, 0, 1200), (6, 0, 399), (7, 0, 120), (8, 1, 100)] [((-7), [(0, 1), (1, (-1))]), (399, [(6, (-1)), (8, (-1))])] [(0, .inr (.inr (.inl (some 4)))), (1, .inr (.inr (.inl (some 16)))), (2, .inr (.inr (.inl (some 94)))), (3, .inl (0, [(1, 1)]))] [] [(60000, (0, []), (0, [(0, 1)])), (60002, (0, []), (0, [(2, 1)])), (7170, (0, []), (0, [(3, 1)])), (60010, (0, []), (1, [])), (60020, (0, []), (1, [])), (20055, (0, []), (0, [(4, 1)])), (257, (0, []), (0, [(5, 1)])), (19969, (0, []), (0, [(5, 1)])), (10, (0, []), (0, [(6, 1)])), (19977, (0, []), (0, [(6, 1)])), (1536, (0, []), (0, [(7, 1)])), (19978, (0, []), (0, [(7, 1)])), (60001, (1, [(1, 1)]), (0, [(8, 1)]))] [10, 11015, 13824] [(465, ([], 9, [(0, 0, 3584), (1, 0, 3584), (2, 177, 2077), (3, 0, 100), (4, 0, 512), (5, 0, 1200), (6, 0, 399), (7, 0, 120), (8, 1, 100)], [], [(0, .inr (.inr (.inl (some 4)))), (1, .inr (.inr (.inl (some 16)))), (2, .inr (.inr (.inl (some 94)))), (3, .inl (0, [(1, 1)]))], [.inl (0, [(8, 1)]), .inr (.inr (.inl (some 94)))], [(60000, (0, []), (0, [(0, 1)])), (60002, (0, []), (0, [(2, 1)])), (7170, (0, []), (0, [(3, 1)])), (60010, (0, []), (1, [])), (60020, (0, []), (1, [])), (20055, (0, []), (0, [(4, 1)])), (257, (0, []), (0, [(5, 1)])), (19969, (0, []), (0, [(5, 1)])), (10, (0, []), (0, [(6, 1), (8, 1)])), (19977, (0, []), (0, [(6, 1)])), (1536, (0, []), (0, [(7, 1)])), (19978, (0, []), (0, [(7, 1)]))]))] [] 0 0 = true := by decide +kernel
theorem lpa3 {cst : am_K} {Φ : am_Q → Prop} {h : am_H} {l : am_L} (gC : ly_gC sx_KK cst) (hY : ∀ d, ly_Yok cst m_cl m_tt m_P m_strs ly_TH ly_Y d) (hy : ly_hy m_tt ly_TH h) (n p t s r v0 v1 v2 x : Int) (b0 : 0 ≤ n) (t0 : n ≤ 3584) (b1 : 0 ≤ p) (t1 : p ≤ 3584) (b2 : 177 ≤ t) (t2 : t ≤ 2077) (b3 : 0 ≤ s) (t3 : s ≤ 100) (b4 : 0 ≤ r) (t4 : r ≤ 512) (b5 : 0 ≤ v0) (t5 : v0 ≤ 1200) (b6 : 0 ≤ v1) (t6 : v1 ≤ 399) (b7 : 0 ≤ v2) (t7 : v2 ≤ 120) (b8 : 1 ≤ x) (t8 : x ≤ 100) (f0 : 0 ≤ (n - p - 7)) (f1 : 0 ≤ (-v1 - x + 399)) (k0 : ly_hv cst h 60000 0 = some (n)) (k1 : ly_hv cst h 60002 0 = some (t)) (k2 : ly_hv cst h 7170 0 = some (s)) (k3 : ly_hv cst h 60010 0 = some 1) (k4 : ly_hv cst h 60020 0 = some 1) (k5 : ly_hv cst h 20055 0 = some (r)) (k6 : ly_hv cst h 257 0 = some (v0)) (k7 : ly_hv cst h 19969 0 = some (v0)) (k8 : ly_hv cst h 10 0 = some (v1)) (k9 : ly_hv cst h 19977 0 = some (v1)) (k10 : ly_hv cst h 1536 0 = some (v2)) (k11 : ly_hv cst h 19978 0 = some (v2)) (k12 : ly_hv cst h 60001 (p + 1) = some (x)) (l0 : hp_a l 0 4) (l1 : hp_a l 1 16) (l2 : hp_a l 2 94) (l3 : hp_i l 3 (p)) (e0 : ∀ (l' : am_L) (h' : am_H) (y0 : Int32), y0.toInt = (x) → ly_hy m_tt ly_TH h' → ly_fr cst [10, 11015, 13824] h h' → ly_hv cst h' 60000 0 = some (n) → ly_hv cst h' 60002 0 = some (t) → ly_hv cst h' 7170 0 = some (s) → ly_hv cst h' 60010 0 = some 1 → ly_hv cst h' 60020 0 = some 1 → ly_hv cst h' 20055 0 = some (r) → ly_hv cst h' 257 0 = some (v0) → ly_hv cst h' 19969 0 = some (v0) → ly_hv cst h' 10 0 = some (v1 + x) → ly_hv cst h' 19977 0 = some (v1) → ly_hv cst h' 1536 0 = some (v2) → ly_hv cst h' 19978 0 = some (v2) → hp_a l' 0 4 → hp_a l' 1 16 → hp_a l' 2 94 → hp_i l' 3 (p) → lw_F cst Φ 465 l' [.int y0, .ref 94] h' 0 0) : lw_F cst Φ 449 l [] h 0 0 := by
  refine lw_arc gC (fun d => lw_rm_ok (hY d)) lpa3_k [n, p, t, s, r, v0, v1, v2, x] rfl hy (hp_Bc (z := n) rfl b0 t0 (hp_Bc (z := p) rfl b1 t1 (hp_Bc (z := t) rfl b2 t2 (hp_Bc (z := s) rfl b3 t3 (hp_Bc (z := r) rfl b4 t4 (hp_Bc (z := v0) rfl b5 t5 (hp_Bc (z := v1) rfl b6 t6 (hp_Bc (z := v2) rfl b7 t7 (hp_Bc (z := x) rfl b8 t8 hp_Bn))))))))) (hp_Fc (z := ((-7) + (1 * n + ((-1) * p + 0)))) rfl (by omega) (hp_Fc (z := (399 + ((-1) * v1 + ((-1) * x + 0)))) rfl (by omega) hp_Fn)) (hp_Kc (zi := (0 + 0)) (zv := (0 + (1 * n + 0))) k0 rfl rfl (by omega) (by omega) (hp_Kc (zi := (0 + 0)) (zv := (0 + (1 * t + 0))) k1 rfl rfl (by omega) (by omega) (hp_Kc (zi := (0 + 0)) (zv := (0 + (1 * s + 0))) k2 rfl rfl (by omega) (by omega) (hp_Kc (zi := (0 + 0)) (zv := (1 + 0)) k3 rfl rfl (by omega) (by omega) (hp_Kc (zi := (0 + 0)) (zv := (1 + 0)) k4 rfl rfl (by omega) (by omega) (hp_Kc (zi := (0 + 0)) (zv := (0 + (1 * r + 0))) k5 rfl rfl (by omega) (by omega) (hp_Kc (zi := (0 + 0)) (zv := (0 + (1 * v0 + 0))) k6 rfl rfl (by omega) (by omega) (hp_Kc (zi := (0 + 0)) (zv := (0 + (1 * v0 + 0))) k7 rfl rfl (by omega) (by omega) (hp_Kc (zi := (0 + 0)) (zv := (0 + (1 * v1 + 0))) k8 rfl rfl (by omega) (by omega) (hp_Kc (zi := (0 + 0)) (zv := (0 + (1 * v1 + 0))) k9 rfl rfl (by omega) (by omega) (hp_Kc (zi := (0 + 0)) (zv := (0 + (1 * v2 + 0))) k10 rfl rfl (by omega) (by omega) (hp_Kc (zi := (0 + 0)) (zv := (0 + (1 * v2 + 0))) k11 rfl rfl (by omega) (by omega) (hp_Kc (zi := (1 + (1 * p + 0))) (zv := (0 + (1 * x + 0))) k12 rfl rfl (by omega) (by omega) hp_Kn))))))))))))) (hp_La l0 (hp_La l1 (hp_La l2 (hp_Li (z := (0 + (1 * p + 0))) l3 rfl (by omega) hp_Ln)))) trivial ?_ ?_
  · intro q hp ys l' st' h' ca sa ha hs hys a1 hfr gZ gL gS
    have ea : ca = 0 := Nat.le_zero.mp ha
    have eb : sa = 0 := Nat.le_zero.mp hs
    subst ea
    subst eb
    rcases List.mem_cons.mp hp with rfl | hp
    · obtain rfl := hp_y0 hys
      obtain ⟨y0, t0, rfl, q0, g0⟩ := hp_gSi (z := (0 + (1 * x + 0))) gS rfl
      obtain ⟨t1, rfl, g1⟩ := hp_gSa g0 (by decide)
      cases hp_gSn g1
      exact e0 l' h' y0 (by omega) a1 hfr (hp_gK (zi := (0 + 0)) (zv := (0 + (1 * n + 0))) gZ.2.2.2 (List.mem_of_getElem? (i := 0) rfl) rfl rfl (by omega) (by omega)) (hp_gK (zi := (0 + 0)) (zv := (0 + (1 * t + 0))) gZ.2.2.2 (List.mem_of_getElem? (i := 1) rfl) rfl rfl (by omega) (by omega)) (hp_gK (zi := (0 + 0)) (zv := (0 + (1 * s + 0))) gZ.2.2.2 (List.mem_of_getElem? (i := 2) rfl) rfl rfl (by omega) (by omega)) (hp_gK (zi := (0 + 0)) (zv := (1 + 0)) gZ.2.2.2 (List.mem_of_getElem? (i := 3) rfl) rfl rfl (by omega) (by omega)) (hp_gK (zi := (0 + 0)) (zv := (1 + 0)) gZ.2.2.2 (List.mem_of_getElem? (i := 4) rfl) rfl rfl (by omega) (by omega)) (hp_gK (zi := (0 + 0)) (zv := (0 + (1 * r + 0))) gZ.2.2.2 (List.mem_of_getElem? (i := 5) rfl) rfl rfl (by omega) (by omega)) (hp_gK (zi := (0 + 0)) (zv := (0 + (1 * v0 + 0))) gZ.2.2.2 (List.mem_of_getElem? (i := 6) rfl) rfl rfl (by omega) (by omega)) (hp_gK (zi := (0 + 0)) (zv := (0 + (1 * v0 + 0))) gZ.2.2.2 (List.mem_of_getElem? (i := 7) rfl) rfl rfl (by omega) (by omega)) (hp_gK (zi := (0 + 0)) (zv := (0 + (1 * v1 + (1 * x + 0)))) gZ.2.2.2 (List.mem_of_getElem? (i := 8) rfl) rfl rfl (by omega) (by omega)) (hp_gK (zi := (0 + 0)) (zv := (0 + (1 * v1 + 0))) gZ.2.2.2 (List.mem_of_getElem? (i := 9) rfl) rfl rfl (by omega) (by omega)) (hp_gK (zi := (0 + 0)) (zv := (0 + (1 * v2 + 0))) gZ.2.2.2 (List.mem_of_getElem? (i := 10) rfl) rfl rfl (by omega) (by omega)) (hp_gK (zi := (0 + 0)) (zv := (0 + (1 * v2 + 0))) gZ.2.2.2 (List.mem_of_getElem? (i := 11) rfl) rfl rfl (by omega) (by omega)) (hp_gLa gL (List.mem_of_getElem? (i := 0) rfl) (by decide)) (hp_gLa gL (List.mem_of_getElem? (i := 1) rfl) (by decide)) (hp_gLa gL (List.mem_of_getElem? (i := 2) rfl) (by decide)) (hp_gLi (z := (0 + (1 * p + 0))) gL (List.mem_of_getElem? (i := 3) rfl) rfl (by omega))
    cases hp
  · intro q hq ys v h' hys gS
    cases hq
theorem lpab_k : lw_chk ly_Y 468 9 [(0, 0, 3584), (1, 0, 3584), (2, 177, 2077), (3, 0, 100), (4, 0, 512), (5, 0, 1200), (6, 0, 399), (7, 0, 120), (8, (-2147483648), 2147483647)] [((-7), [(0, 1), (1, (-1))])] [(0, .inr (.inr (.inl (some 4)))), (1, .inr (.inr (.inl (some 16)))), (2, .inr (.inr (.inl (some 94)))), (3, .inl (0, [(1, 1)]))] [.inl (0, [(8, 1)])] [(60000, (0, []), (0, [(0, 1)])), (60002, (0, []), (0, [(2, 1)])), (7170, (0, []), (0, [(3, 1)])), (60010, (0, []), (1, [])), (60020, (0, []), (1, [])), (20055, (0, []), (0, [(4, 1)])), (257, (0, []), (0, [(5, 1)])), (19969, (0, []), (0, [(5, 1)])), (10, (0, []), (0, [(6, 1)])), (19977, (0, []), (0, [(6, 1)])), (1536, (0, []), (0, [(7, 1)])), (19978, (0, []), (0, [(7, 1)]))] [] [(18, ([], 9, [(0, 0, 3584), (1, 0, 3584), (2, 177, 2077), (3, 0, 100), (4, 0, 512), (5, 0, 1200), (6, 0, 399), (7, 0, 120), (8, (-2147483648), 2147483647)], [], [(0, .inr (.inr (.inl (some 4)))), (1, .inr (.inr (.inl (some 16)))), (2, .inr (.inr (.inl (some 94)))), (3, .inl (7, [(1, 1)]))], [], [(60000, (0, []), (0, [(0, 1)])), (60002, (0, []), (0, [(2, 1)])), (7170, (0, []), (0, [(3, 1)])), (60010, (0, []), (1, [])), (60020, (0, []), (1, [])), (20055, (0, []), (0, [(4, 1)])), (257, (0, []), (0, [(5, 1)])), (19969, (0, []), (0, [(5, 1)])), (10, (0, []), (0, [(6, 1)])), (19977, (0, []), (0, [(6, 1)])), (1536, (0, []), (0, [(7, 1)])), (19978, (0, []), (0, [(7, 1)]))]))] [] 0 0 = true := by decide +kernel
theorem lpab {cst : am_K} {Φ : am_Q → Prop} {h : am_H} {l : am_L} (gC : ly_gC sx_KK cst) (hY : ∀ d, ly_Yok cst m_cl m_tt m_P m_strs ly_TH ly_Y d) (hy : ly_hy m_tt ly_TH h) (n p t s r v0 v1 v2 y : Int) (x0 : Int32) (hx0 : x0.toInt = (y)) (b0 : 0 ≤ n) (t0 : n ≤ 3584) (b1 : 0 ≤ p) (t1 : p ≤ 3584) (b2 : 177 ≤ t) (t2 : t ≤ 2077) (b3 : 0 ≤ s) (t3 : s ≤ 100) (b4 : 0 ≤ r) (t4 : r ≤ 512) (b5 : 0 ≤ v0) (t5 : v0 ≤ 1200) (b6 : 0 ≤ v1) (t6 : v1 ≤ 399) (b7 : 0 ≤ v2) (t7 : v2 ≤ 120) (b8 : (-2147483648) ≤ y) (t8 : y ≤ 2147483647) (f0 : 0 ≤ (n - p - 7)) (k0 : ly_hv cst h 60000 0 = some (n)) (k1 : ly_hv cst h 60002 0 = some (t)) (k2 : ly_hv cst h 7170 0 = some (s)) (k3 : ly_hv cst h 60010 0 = some 1) (k4 : ly_hv cst h 60020 0 = some 1) (k5 : ly_hv cst h 20055 0 = some (r)) (k6 : ly_hv cst h 257 0 = some (v0)) (k7 : ly_hv cst h 19969 0 = some (v0)) (k8 : ly_hv cst h 10 0 = some (v1)) (k9 : ly_hv cst h 19977 0 = some (v1)) (k10 : ly_hv cst h 1536 0 = some (v2)) (k11 : ly_hv cst h 19978 0 = some (v2)) (l0 : hp_a l 0 4) (l1 : hp_a l 1 16) (l2 : hp_a l 2 94) (l3 : hp_i l 3 (p)) (e0 : ∀ (l' : am_L) (h' : am_H), ly_hy m_tt ly_TH h' → ly_fr cst [] h h' → ly_hv cst h' 60000 0 = some (n) → ly_hv cst h' 60002 0 = some (t) → ly_hv cst h' 7170 0 = some (s) → ly_hv cst h' 60010 0 = some 1 → ly_hv cst h' 60020 0 = some 1 → ly_hv cst h' 20055 0 = some (r) → ly_hv cst h' 257 0 = some (v0) → ly_hv cst h' 19969 0 = some (v0) → ly_hv cst h' 10 0 = some (v1) → ly_hv cst h' 19977 0 = some (v1) → ly_hv cst h' 1536 0 = some (v2) → ly_hv cst h' 19978 0 = some (v2) → hp_a l' 0 4 → hp_a l' 1 16 → hp_a l' 2 94 → hp_i l' 3 (p + 7) → lw_F cst Φ 18 l' [] h' 0 0) : lw_F cst Φ 468 l [.int x0] h 0 0 := by
  refine lw_arc gC hY lpab_k [n, p, t, s, r, v0, v1, v2, y] rfl hy (hp_Bc (z := n) rfl b0 t0 (hp_Bc (z := p) rfl b1 t1 (hp_Bc (z := t) rfl b2 t2 (hp_Bc (z := s) rfl b3 t3 (hp_Bc (z := r) rfl b4 t4 (hp_Bc (z := v0) rfl b5 t5 (hp_Bc (z := v1) rfl b6 t6 (hp_Bc (z := v2) rfl b7 t7 (hp_Bc (z := y) rfl b8 t8 hp_Bn))))))))) (hp_Fc (z := ((-7) + (1 * n + ((-1) * p + 0)))) rfl (by omega) hp_Fn) (hp_Kc (zi := (0 + 0)) (zv := (0 + (1 * n + 0))) k0 rfl rfl (by omega) (by omega) (hp_Kc (zi := (0 + 0)) (zv := (0 + (1 * t + 0))) k1 rfl rfl (by omega) (by omega) (hp_Kc (zi := (0 + 0)) (zv := (0 + (1 * s + 0))) k2 rfl rfl (by omega) (by omega) (hp_Kc (zi := (0 + 0)) (zv := (1 + 0)) k3 rfl rfl (by omega) (by omega) (hp_Kc (zi := (0 + 0)) (zv := (1 + 0)) k4 rfl rfl (by omega) (by omega) (hp_Kc (zi := (0 + 0)) (zv := (0 + (1 * r + 0))) k5 rfl rfl (by omega) (by omega) (hp_Kc (zi := (0 + 0)) (zv := (0 + (1 * v0 + 0))) k6 rfl rfl (by omega) (by omega) (hp_Kc (zi := (0 + 0)) (zv := (0 + (1 * v0 + 0))) k7 rfl rfl (by omega) (by omega) (hp_Kc (zi := (0 + 0)) (zv := (0 + (1 * v1 + 0))) k8 rfl rfl (by omega) (by omega) (hp_Kc (zi := (0 + 0)) (zv := (0 + (1 * v1 + 0))) k9 rfl rfl (by omega) (by omega) (hp_Kc (zi := (0 + 0)) (zv := (0 + (1 * v2 + 0))) k10 rfl rfl (by omega) (by omega) (hp_Kc (zi := (0 + 0)) (zv := (0 + (1 * v2 + 0))) k11 rfl rfl (by omega) (by omega) hp_Kn)))))))))))) (hp_La l0 (hp_La l1 (hp_La l2 (hp_Li (z := (0 + (1 * p + 0))) l3 rfl (by omega) hp_Ln)))) (hp_Si (z := (0 + (1 * y + 0))) rfl (by omega) trivial) ?_ ?_
  · intro q hp ys l' st' h' ca sa ha hs hys a1 hfr gZ gL gS
    have ea : ca = 0 := Nat.le_zero.mp ha
    have eb : sa = 0 := Nat.le_zero.mp hs
    subst ea
    subst eb
    rcases List.mem_cons.mp hp with rfl | hp
    · obtain rfl := hp_y0 hys
      cases hp_gSn gS
      exact e0 l' h' a1 hfr (hp_gK (zi := (0 + 0)) (zv := (0 + (1 * n + 0))) gZ.2.2.2 (List.mem_of_getElem? (i := 0) rfl) rfl rfl (by omega) (by omega)) (hp_gK (zi := (0 + 0)) (zv := (0 + (1 * t + 0))) gZ.2.2.2 (List.mem_of_getElem? (i := 1) rfl) rfl rfl (by omega) (by omega)) (hp_gK (zi := (0 + 0)) (zv := (0 + (1 * s + 0))) gZ.2.2.2 (List.mem_of_getElem? (i := 2) rfl) rfl rfl (by omega) (by omega)) (hp_gK (zi := (0 + 0)) (zv := (1 + 0)) gZ.2.2.2 (List.mem_of_getElem? (i := 3) rfl) rfl rfl (by omega) (by omega)) (hp_gK (zi := (0 + 0)) (zv := (1 + 0)) gZ.2.2.2 (List.mem_of_getElem? (i := 4) rfl) rfl rfl (by omega) (by omega)) (hp_gK (zi := (0 + 0)) (zv := (0 + (1 * r + 0))) gZ.2.2.2 (List.mem_of_getElem? (i := 5) rfl) rfl rfl (by omega) (by omega)) (hp_gK (zi := (0 + 0)) (zv := (0 + (1 * v0 + 0))) gZ.2.2.2 (List.mem_of_getElem? (i := 6) rfl) rfl rfl (by omega) (by omega)) (hp_gK (zi := (0 + 0)) (zv := (0 + (1 * v0 + 0))) gZ.2.2.2 (List.mem_of_getElem? (i := 7) rfl) rfl rfl (by omega) (by omega)) (hp_gK (zi := (0 + 0)) (zv := (0 + (1 * v1 + 0))) gZ.2.2.2 (List.mem_of_getElem? (i := 8) rfl) rfl rfl (by omega) (by omega)) (hp_gK (zi := (0 + 0)) (zv := (0 + (1 * v1 + 0))) gZ.2.2.2 (List.mem_of_getElem? (i := 9) rfl) rfl rfl (by omega) (by omega)) (hp_gK (zi := (0 + 0)) (zv := (0 + (1 * v2 + 0))) gZ.2.2.2 (List.mem_of_getElem? (i := 10) rfl) rfl rfl (by omega) (by omega)) (hp_gK (zi := (0 + 0)) (zv := (0 + (1 * v2 + 0))) gZ.2.2.2 (List.mem_of_getElem? (i := 11) rfl) rfl rfl (by omega) (by omega)) (hp_gLa gL (List.mem_of_getElem? (i := 0) rfl) (by decide)) (hp_gLa gL (List.mem_of_getElem? (i := 1) rfl) (by decide)) (hp_gLa gL (List.mem_of_getElem? (i := 2) rfl) (by decide)) (hp_gLi (z := (7 + (1 * p + 0))) gL (List.mem_of_getElem? (i := 3) rfl) rfl (by omega))
    cases hp
  · intro q hq ys v h' hys gS
    cases hq
theorem lc_pass {cst : am_K} {Φ : am_Q → Prop} (gC : ly_gC sx_KK cst) (hY : ∀ d, ly_Yok cst m_cl m_tt m_P m_strs ly_TH ly_Y d) {n p : Int} {h : am_H} {l : am_L} (I : lw_I cst n p h l) (hp7 : p + 7 ≤ n)
    (k : ∀ (h' : am_H) (l' : am_L) (ca sa : Nat), ca ≤ 19 → sa ≤ 261 → lw_I cst n (p + 7) h' l' → lw_F cst Φ 18 l' [] h' ca sa) : lw_F cst Φ 449 l [] h 0 0 := by
  obtain ⟨hy, k0, n0, n1, p0, p1, ⟨t, s, k2, k3, et, s0, s1⟩, ⟨r, kr, r0, r1⟩, k4, k5, l0, l1, l2, l3, ⟨v0, vk0, vm0, vb0, vt0⟩, ⟨v1, vk1, vm1, vb1, vt1⟩, ⟨v2, vk2, vm2, vb2, vt2⟩, er0, er1, er2, er3, er4, er5⟩ := I
  obtain ⟨x, kx⟩ := lw_elem (i := p + 1) gC k0 (by omega) (by omega)
  have x0 := x.le_toInt
  have x1 := x.toInt_le
  have c49 : hp_C cst m_strs 49 := ⟨gC, lw_strs, fun d _ => hY d⟩
  have rest : ∀ (a z : Int), a = (if 1 ≤ x.toInt ∧ x.toInt ≤ 100 ∧ v1 + x.toInt ≤ 399 then v1 + x.toInt else -2) → z = (if 1 ≤ x.toInt ∧ x.toInt ≤ 100 ∧ v1 + x.toInt ≤ 399 then v1 + x.toInt else v1) → 0 ≤ z → z ≤ 399 → ∀ (l' : am_L) (h' : am_H) (y0 : Int32), y0.toInt = x.toInt → ly_hy m_tt ly_TH h' → ly_fr cst [10, 11015, 13824] h h' → ly_hv cst h' 60000 0 = some n → ly_hv cst h' 60002 0 = some t → ly_hv cst h' 7170 0 = some s → ly_hv cst h' 60010 0 = some 1 → ly_hv cst h' 60020 0 = some 1 → ly_hv cst h' 20055 0 = some r → ly_hv cst h' 257 0 = some v0 → ly_hv cst h' 19969 0 = some v0 → ly_hv cst h' 10 0 = some z → ly_hv cst h' 19977 0 = some v1 → ly_hv cst h' 1536 0 = some v2 → ly_hv cst h' 19978 0 = some v2 → hp_a l' 0 4 → hp_a l' 1 16 → hp_a l' 2 94 → hp_i l' 3 p → lw_F cst Φ 465 l' [.int y0, .ref 94] h' 0 0 := by
    intro a z ha hz z0 z1 l' h' y0 e0 u1 ufr q0 q2 q3 q4 q5 qr c0 d0 c1 d1 c2 d2 w0 w1 w2 w3
    obtain ⟨rr, hrun, ⟨yr, r1', hyr⟩, r2, r3, rhy, rfr, rck⟩ := ps_run (x := y0) c49 (by decide) u1 vb1 vt1 d1
    refine lw_call (pc := 465) (tg := 387) (na := 2) (c := 78) (ci := 12) (st0 := [.int y0, .ref 94]) (st := []) (av := [.int y0]) (by decide +kernel) u1 rfl rfl rfl (Nat.le_of_ble_eq_true rfl) hrun r2 r3 ?_
    rw [r1']
    rw [e0] at hyr rck
    rw [← ha] at hyr
    rw [← hz] at rck
    have f : ∀ r i v, ly_has r ps_mods = false → ly_hv cst h' r i = some v → ly_hv cst rr.2.1 r i = some v := rfr
    refine lpab gC hY rhy n p t s r v0 z v2 a yr hyr n0 n1 p0 (by omega) (by omega) (by omega) s0 s1 r0 (by omega) vb0 vt0 z0 z1 vb2 vt2 (by rw [← hyr]; exact yr.le_toInt) (by rw [← hyr]; exact yr.toInt_le) (by omega) (f _ _ _ rfl q0) (f _ _ _ rfl q2) (f _ _ _ rfl q3) (f _ _ _ rfl q4) (f _ _ _ rfl q5) (f _ _ _ rfl qr) (f _ _ _ rfl c0) (f _ _ _ rfl d0) (f _ _ _ rfl c1) rck (f _ _ _ rfl c2) (f _ _ _ rfl d2) w0 w1 w2 w3 (fun l2' h2 o1 ofr j0 j2 j3 j4 j5 jr g0 m0 g1 m1 g2 m2 b0 b1 b2 b3 => k h2 l2' 0 0 (by omega) (by omega) ⟨o1, j0, n0, n1, by omega, by omega, ⟨t, s, j2, j3, et, s0, s1⟩, ⟨r, jr, r0, by omega⟩, j4, j5, b0, b1, b2, b3, ⟨v0, g0, m0, vb0, vt0⟩, ⟨z, g1, m1, z0, z1⟩, ⟨v2, g2, m2, vb2, vt2⟩, (tp_mv (tp_mv (tp_mv er0 hy u1 hy u1 ufr ufr rfl rfl) u1 rhy u1 rhy rfr rfr rfl rfl) rhy o1 rhy o1 ofr ofr rfl rfl), LW_mv (p' := p + 7) (LW_mv (p' := p + 7) (LW_mv (p' := p + 7) er1 ufr rfl rfl vk0 c0 vb0 (by omega)) rfr rfl rfl c0 (f _ _ _ rfl c0) vb0 (by omega)) ofr rfl rfl (f _ _ _ rfl c0) g0 vb0 (by omega), (mt_mv (mt_mv (mt_mv er2 ufr rfl rfl) rfr rfl rfl) ofr rfl rfl), (mo_mv (mo_mv (mo_mv er3 ufr rfl rfl) rfr rfl rfl) ofr rfl rfl), (zr_mv (zr_mv (zr_mv er4 ufr ufr rfl rfl rfl) rfr rfr rfl rfl rfl) ofr ofr rfl rfl rfl), (wf_mv (wf_mv (wf_mv er5 ufr ufr rfl rfl rfl) rfr rfr rfl rfl rfl) ofr ofr rfl rfl rfl)⟩)
  by_cases q1 : x.toInt ≤ 0
  · exact lpa0 gC hY hy n p t s r v0 v1 v2 x.toInt n0 n1 p0 (by omega) (by omega) (by omega) s0 s1 r0 (by omega) vb0 vt0 vb1 vt1 vb2 vt2 x0 q1 (by omega) k0 k2 k3 k4 k5 kr vk0 vm0 vk1 vm1 vk2 vm2 kx l0 l1 l2 l3 (fun l' h' y0 e0 => rest (-2) v1 (by rw [if_neg (by omega)]) (by rw [if_neg (by omega)]) (by omega) (by omega) l' h' y0 e0)
  · by_cases q2 : 101 ≤ x.toInt
    · exact lpa1 gC hY hy n p t s r v0 v1 v2 x.toInt n0 n1 p0 (by omega) (by omega) (by omega) s0 s1 r0 (by omega) vb0 vt0 vb1 vt1 vb2 vt2 q2 x1 (by omega) k0 k2 k3 k4 k5 kr vk0 vm0 vk1 vm1 vk2 vm2 kx l0 l1 l2 l3 (fun l' h' y0 e0 => rest (-2) v1 (by rw [if_neg (by omega)]) (by rw [if_neg (by omega)]) (by omega) (by omega) l' h' y0 e0)
    · by_cases q3 : v1 + x.toInt ≤ 399
      · exact lpa3 gC hY hy n p t s r v0 v1 v2 x.toInt n0 n1 p0 (by omega) (by omega) (by omega) s0 s1 r0 (by omega) vb0 vt0 vb1 vt1 vb2 vt2 (by omega) (by omega) (by omega) (by omega) k0 k2 k3 k4 k5 kr vk0 vm0 vk1 vm1 vk2 vm2 kx l0 l1 l2 l3 (fun l' h' y0 e0 => rest (v1 + x.toInt) (v1 + x.toInt) (by rw [if_pos (by omega)]) (by rw [if_pos (by omega)]) (by omega) (by omega) l' h' y0 e0)
      · exact lpa2 gC hY hy n p t s r v0 v1 v2 x.toInt n0 n1 p0 (by omega) (by omega) (by omega) s0 s1 r0 (by omega) vb0 vt0 vb1 vt1 vb2 vt2 (by omega) (by omega) (by omega) (by omega) k0 k2 k3 k4 k5 kr vk0 vm0 vk1 vm1 vk2 vm2 kx l0 l1 l2 l3 (fun l' h' y0 e0 => rest (-2) v1 (by rw [if_neg (by omega)]) (by rw [if_neg (by omega)]) (by omega) (by omega) l' h' y0 e0)
theorem lw_callc {cst : am_K} {Φ : am_Q → Prop} {pc tg na c ci : Nat} {fs : List (List ly_F)} {av st0 st : List Value} {h : am_H} {l : am_L} {r : am_Q} (hI : lw_isV pc tg na ci = true) (hy : ly_hy m_tt ly_TH h) (ht : ly_ths ly_TH c = some (.inr (ci, fs))) (hst : st0.length = na) (hav : st0.reverse = .ref (16 + c) :: av) (hcat : (st.map fun v => v.category).sum ≤ 8)
    (hrun : am_Run cst m_cl m_tt m_P m_strs sx_bi 50 tg (.ref (16 + c) :: av) h r) (k : lw_F cst Φ (pc + 3) l (r.1.toList ++ st) r.2.1 r.2.2.1 r.2.2.2) : lw_F cst Φ pc l (st0 ++ st) h 0 0 := by
  unfold lw_isV at hI
  split at hI
  case h_2 => cases hI
  rename_i ix X hX
  simp only [Bool.and_eq_true, sx_beqn, sx_eq_iff] at hI
  obtain ⟨x1, x2, x3, hI⟩ := hI
  split at hI
  case h_2 => cases hI
  rename_i m' hm'
  simp only [Bool.and_eq_true, sx_beqn, sx_blt] at hI
  obtain ⟨t0, t1, t2⟩ := hI
  obtain ⟨T', hT', -, -, h98, -⟩ := sx_tok_m tg m' hm' t0
  have hfind := lw_mok.2.2 _ _ hX
  have etake : (st0 ++ st).take X.2.1 = st0 := by rw [x2, ← hst]; exact List.take_left' rfl
  have edrop : (st0 ++ st).drop X.2.1 = st := by rw [x2, ← hst]; exact List.drop_left' rfl
  obtain ⟨xc, hx, vs, rfl, -⟩ := hy.2.1 _ _ ht
  obtain ⟨rr, hrr, hrr1⟩ := h98 (by omega)
  have hcc : am_c m_cl m_P m_strs (.invokevirtual ix) X (st0 ++ st) h := by
    refine ⟨by rw [List.length_append]; omega, by rw [edrop]; exact hcat, x3, .ref (16 + c), av, T', by rw [etake]; exact hav, by rw [x1]; exact hT', 16 + c, rfl, Or.inl ⟨Nat.not_lt.mpr (Nat.le_add_right 16 c), ci, vs, rr, ?_, ?_, hrr1⟩⟩
    · rw [show 16 + c - 16 = c by omega]; exact hx
    · rw [← t1]; exact hrr
  refine sx_Fin_pre (dc := r.2.2.1) (ds := r.2.2.2) (f1 := (mtL, pc + 3, l, r.1.toList ++ st)) (h1 := r.2.1) (fun n2 q hgo2 => ⟨n2 + 1, _, X, hfind, Or.inr (Or.inr (Or.inr (Or.inl ⟨r, q, hcc, ?_, ?_, rfl⟩)))⟩) ?_
  · rw [etake, hav, x1]; exact hrun
  · rw [edrop]; exact hgo2
  · rw [Nat.zero_add, Nat.zero_add]; exact k
theorem rq_feed0_k : lw_chk ly_Y 320 7 [(0, 0, 3584), (1, 0, 3584), (2, (-2147483648), 2147483647), (3, (-2147483648), 2147483647), (4, (-2147483648), 2147483647), (5, (-2147483648), 2147483647), (6, (-2147483648), 2147483647)] [((-7), [(0, 1), (1, (-1))])] [(0, .inr (.inr (.inl (some 4)))), (1, .inr (.inr (.inl (some 16)))), (2, .inr (.inr (.inl (some 94)))), (3, .inl (0, [(1, 1)]))] [] [(60000, (0, []), (0, [(0, 1)])), (60001, (1, [(1, 1)]), (0, [(2, 1)])), (60001, (2, [(1, 1)]), (0, [(3, 1)])), (60001, (3, [(1, 1)]), (0, [(4, 1)])), (60001, (4, [(1, 1)]), (0, [(5, 1)])), (60001, (5, [(1, 1)]), (0, [(6, 1)]))] [] [(346, ([], 7, [(0, 0, 3584), (1, 0, 3584), (2, (-2147483648), 2147483647), (3, (-2147483648), 2147483647), (4, (-2147483648), 2147483647), (5, (-2147483648), 2147483647), (6, (-2147483648), 2147483647)], [], [(0, .inr (.inr (.inl (some 4)))), (1, .inr (.inr (.inl (some 16)))), (2, .inr (.inr (.inl (some 94)))), (3, .inl (0, [(1, 1)]))], [.inl (0, [(6, 1)]), .inl (0, [(5, 1)]), .inl (0, [(4, 1)]), .inl (0, [(3, 1)]), .inl (0, [(2, 1)]), .inr (.inr (.inl (some 16)))], []))] [] 0 0 = true := by decide +kernel
theorem rq_feed0 {cst : am_K} {Φ : am_Q → Prop} {h : am_H} {l : am_L} (gC : ly_gC sx_KK cst) (hY : ∀ d, ly_Yok cst m_cl m_tt m_P m_strs ly_TH ly_Y d) (hy : ly_hy m_tt ly_TH h) (n p x y z x4 x5 : Int) (b0 : 0 ≤ n) (t0 : n ≤ 3584) (b1 : 0 ≤ p) (t1 : p ≤ 3584) (b2 : (-2147483648) ≤ x) (t2 : x ≤ 2147483647) (b3 : (-2147483648) ≤ y) (t3 : y ≤ 2147483647) (b4 : (-2147483648) ≤ z) (t4 : z ≤ 2147483647) (b5 : (-2147483648) ≤ x4) (t5 : x4 ≤ 2147483647) (b6 : (-2147483648) ≤ x5) (t6 : x5 ≤ 2147483647) (f0 : 0 ≤ (n - p - 7)) (k0 : ly_hv cst h 60000 0 = some (n)) (k1 : ly_hv cst h 60001 (p + 1) = some (x)) (k2 : ly_hv cst h 60001 (p + 2) = some (y)) (k3 : ly_hv cst h 60001 (p + 3) = some (z)) (k4 : ly_hv cst h 60001 (p + 4) = some (x4)) (k5 : ly_hv cst h 60001 (p + 5) = some (x5)) (l0 : hp_a l 0 4) (l1 : hp_a l 1 16) (l2 : hp_a l 2 94) (l3 : hp_i l 3 (p)) (e0 : ∀ (l' : am_L) (h' : am_H) (y0 : Int32) (y1 : Int32) (y2 : Int32) (y3 : Int32) (y4 : Int32), y0.toInt = (x5) → y1.toInt = (x4) → y2.toInt = (z) → y3.toInt = (y) → y4.toInt = (x) → ly_hy m_tt ly_TH h' → ly_fr cst [] h h' → hp_a l' 0 4 → hp_a l' 1 16 → hp_a l' 2 94 → hp_i l' 3 (p) → lw_F cst Φ 346 l' [.int y0, .int y1, .int y2, .int y3, .int y4, .ref 16] h' 0 0) : lw_F cst Φ 320 l [] h 0 0 := by
  refine lw_arc gC hY rq_feed0_k [n, p, x, y, z, x4, x5] rfl hy (hp_Bc (z := n) rfl b0 t0 (hp_Bc (z := p) rfl b1 t1 (hp_Bc (z := x) rfl b2 t2 (hp_Bc (z := y) rfl b3 t3 (hp_Bc (z := z) rfl b4 t4 (hp_Bc (z := x4) rfl b5 t5 (hp_Bc (z := x5) rfl b6 t6 hp_Bn))))))) (hp_Fc (z := ((-7) + (1 * n + ((-1) * p + 0)))) rfl (by omega) hp_Fn) (hp_Kc (zi := (0 + 0)) (zv := (0 + (1 * n + 0))) k0 rfl rfl (by omega) (by omega) (hp_Kc (zi := (1 + (1 * p + 0))) (zv := (0 + (1 * x + 0))) k1 rfl rfl (by omega) (by omega) (hp_Kc (zi := (2 + (1 * p + 0))) (zv := (0 + (1 * y + 0))) k2 rfl rfl (by omega) (by omega) (hp_Kc (zi := (3 + (1 * p + 0))) (zv := (0 + (1 * z + 0))) k3 rfl rfl (by omega) (by omega) (hp_Kc (zi := (4 + (1 * p + 0))) (zv := (0 + (1 * x4 + 0))) k4 rfl rfl (by omega) (by omega) (hp_Kc (zi := (5 + (1 * p + 0))) (zv := (0 + (1 * x5 + 0))) k5 rfl rfl (by omega) (by omega) hp_Kn)))))) (hp_La l0 (hp_La l1 (hp_La l2 (hp_Li (z := (0 + (1 * p + 0))) l3 rfl (by omega) hp_Ln)))) trivial ?_ ?_
  · intro q hp ys l' st' h' ca sa ha hs hys a1 hfr gZ gL gS
    have ea : ca = 0 := Nat.le_zero.mp ha
    have eb : sa = 0 := Nat.le_zero.mp hs
    subst ea
    subst eb
    rcases List.mem_cons.mp hp with rfl | hp
    · obtain rfl := hp_y0 hys
      obtain ⟨y0, t0, rfl, q0, g0⟩ := hp_gSi (z := (0 + (1 * x5 + 0))) gS rfl
      obtain ⟨y1, t1, rfl, q1, g1⟩ := hp_gSi (z := (0 + (1 * x4 + 0))) g0 rfl
      obtain ⟨y2, t2, rfl, q2, g2⟩ := hp_gSi (z := (0 + (1 * z + 0))) g1 rfl
      obtain ⟨y3, t3, rfl, q3, g3⟩ := hp_gSi (z := (0 + (1 * y + 0))) g2 rfl
      obtain ⟨y4, t4, rfl, q4, g4⟩ := hp_gSi (z := (0 + (1 * x + 0))) g3 rfl
      obtain ⟨t5, rfl, g5⟩ := hp_gSa g4 (by decide)
      cases hp_gSn g5
      exact e0 l' h' y0 y1 y2 y3 y4 (by omega) (by omega) (by omega) (by omega) (by omega) a1 hfr (hp_gLa gL (List.mem_of_getElem? (i := 0) rfl) (by decide)) (hp_gLa gL (List.mem_of_getElem? (i := 1) rfl) (by decide)) (hp_gLa gL (List.mem_of_getElem? (i := 2) rfl) (by decide)) (hp_gLi (z := (0 + (1 * p + 0))) gL (List.mem_of_getElem? (i := 3) rfl) rfl (by omega))
    cases hp
  · intro q hq ys v h' hys gS
    cases hq
theorem rq_feed1_k : lw_chk ly_Y 349 8 [(0, 0, 3584), (1, 0, 3584), (2, (-2147483648), 2147483647), (3, (-2147483648), 2147483647), (4, (-2147483648), 2147483647), (5, (-2147483648), 2147483647), (6, (-2147483648), 2147483647), (7, (-2147483648), 2147483647)] [((-7), [(0, 1), (1, (-1))])] [(0, .inr (.inr (.inl (some 4)))), (1, .inr (.inr (.inl (some 16)))), (2, .inr (.inr (.inl (some 94)))), (3, .inl (0, [(1, 1)]))] [.inl (0, [(7, 1)])] [(60000, (0, []), (0, [(0, 1)])), (60001, (1, [(1, 1)]), (0, [(2, 1)])), (60001, (2, [(1, 1)]), (0, [(3, 1)])), (60001, (3, [(1, 1)]), (0, [(4, 1)])), (60001, (4, [(1, 1)]), (0, [(5, 1)])), (60001, (5, [(1, 1)]), (0, [(6, 1)]))] [] [(376, ([], 8, [(0, 0, 3584), (1, 0, 3584), (2, (-2147483648), 2147483647), (3, (-2147483648), 2147483647), (4, (-2147483648), 2147483647), (5, (-2147483648), 2147483647), (6, (-2147483648), 2147483647), (7, (-2147483648), 2147483647)], [], [(0, .inr (.inr (.inl (some 4)))), (1, .inr (.inr (.inl (some 16)))), (2, .inr (.inr (.inl (some 94)))), (3, .inl (0, [(1, 1)]))], [.inl (0, [(6, 1)]), .inl (0, [(5, 1)]), .inl (0, [(4, 1)]), .inl (0, [(3, 1)]), .inl (0, [(2, 1)]), .inr (.inr (.inl (some 94)))], []))] [] 0 0 = true := by decide +kernel
theorem rq_feed1 {cst : am_K} {Φ : am_Q → Prop} {h : am_H} {l : am_L} (gC : ly_gC sx_KK cst) (hY : ∀ d, ly_Yok cst m_cl m_tt m_P m_strs ly_TH ly_Y d) (hy : ly_hy m_tt ly_TH h) (n p x y z x4 x5 a : Int) (x0 : Int32) (hx0 : x0.toInt = (a)) (b0 : 0 ≤ n) (t0 : n ≤ 3584) (b1 : 0 ≤ p) (t1 : p ≤ 3584) (b2 : (-2147483648) ≤ x) (t2 : x ≤ 2147483647) (b3 : (-2147483648) ≤ y) (t3 : y ≤ 2147483647) (b4 : (-2147483648) ≤ z) (t4 : z ≤ 2147483647) (b5 : (-2147483648) ≤ x4) (t5 : x4 ≤ 2147483647) (b6 : (-2147483648) ≤ x5) (t6 : x5 ≤ 2147483647) (b7 : (-2147483648) ≤ a) (t7 : a ≤ 2147483647) (f0 : 0 ≤ (n - p - 7)) (k0 : ly_hv cst h 60000 0 = some (n)) (k1 : ly_hv cst h 60001 (p + 1) = some (x)) (k2 : ly_hv cst h 60001 (p + 2) = some (y)) (k3 : ly_hv cst h 60001 (p + 3) = some (z)) (k4 : ly_hv cst h 60001 (p + 4) = some (x4)) (k5 : ly_hv cst h 60001 (p + 5) = some (x5)) (l0 : hp_a l 0 4) (l1 : hp_a l 1 16) (l2 : hp_a l 2 94) (l3 : hp_i l 3 (p)) (e0 : ∀ (l' : am_L) (h' : am_H) (y0 : Int32) (y1 : Int32) (y2 : Int32) (y3 : Int32) (y4 : Int32), y0.toInt = (x5) → y1.toInt = (x4) → y2.toInt = (z) → y3.toInt = (y) → y4.toInt = (x) → ly_hy m_tt ly_TH h' → ly_fr cst [] h h' → hp_a l' 0 4 → hp_a l' 1 16 → hp_a l' 2 94 → hp_i l' 3 (p) → lw_F cst Φ 376 l' [.int y0, .int y1, .int y2, .int y3, .int y4, .ref 94] h' 0 0) : lw_F cst Φ 349 l [.int x0] h 0 0 := by
  refine lw_arc gC hY rq_feed1_k [n, p, x, y, z, x4, x5, a] rfl hy (hp_Bc (z := n) rfl b0 t0 (hp_Bc (z := p) rfl b1 t1 (hp_Bc (z := x) rfl b2 t2 (hp_Bc (z := y) rfl b3 t3 (hp_Bc (z := z) rfl b4 t4 (hp_Bc (z := x4) rfl b5 t5 (hp_Bc (z := x5) rfl b6 t6 (hp_Bc (z := a) rfl b7 t7 hp_Bn)))))))) (hp_Fc (z := ((-7) + (1 * n + ((-1) * p + 0)))) rfl (by omega) hp_Fn) (hp_Kc (zi := (0 + 0)) (zv := (0 + (1 * n + 0))) k0 rfl rfl (by omega) (by omega) (hp_Kc (zi := (1 + (1 * p + 0))) (zv := (0 + (1 * x + 0))) k1 rfl rfl (by omega) (by omega) (hp_Kc (zi := (2 + (1 * p + 0))) (zv := (0 + (1 * y + 0))) k2 rfl rfl (by omega) (by omega) (hp_Kc (zi := (3 + (1 * p + 0))) (zv := (0 + (1 * z + 0))) k3 rfl rfl (by omega) (by omega) (hp_Kc (zi := (4 + (1 * p + 0))) (zv := (0 + (1 * x4 + 0))) k4 rfl rfl (by omega) (by omega) (hp_Kc (zi := (5 + (1 * p + 0))) (zv := (0 + (1 * x5 + 0))) k5 rfl rfl (by omega) (by omega) hp_Kn)))))) (hp_La l0 (hp_La l1 (hp_La l2 (hp_Li (z := (0 + (1 * p + 0))) l3 rfl (by omega) hp_Ln)))) (hp_Si (z := (0 + (1 * a + 0))) rfl (by omega) trivial) ?_ ?_
  · intro q hp ys l' st' h' ca sa ha hs hys a1 hfr gZ gL gS
    have ea : ca = 0 := Nat.le_zero.mp ha
    have eb : sa = 0 := Nat.le_zero.mp hs
    subst ea
    subst eb
    rcases List.mem_cons.mp hp with rfl | hp
    · obtain rfl := hp_y0 hys
      obtain ⟨y0, t0, rfl, q0, g0⟩ := hp_gSi (z := (0 + (1 * x5 + 0))) gS rfl
      obtain ⟨y1, t1, rfl, q1, g1⟩ := hp_gSi (z := (0 + (1 * x4 + 0))) g0 rfl
      obtain ⟨y2, t2, rfl, q2, g2⟩ := hp_gSi (z := (0 + (1 * z + 0))) g1 rfl
      obtain ⟨y3, t3, rfl, q3, g3⟩ := hp_gSi (z := (0 + (1 * y + 0))) g2 rfl
      obtain ⟨y4, t4, rfl, q4, g4⟩ := hp_gSi (z := (0 + (1 * x + 0))) g3 rfl
      obtain ⟨t5, rfl, g5⟩ := hp_gSa g4 (by decide)
      cases hp_gSn g5
      exact e0 l' h' y0 y1 y2 y3 y4 (by omega) (by omega) (by omega) (by omega) (by omega) a1 hfr (hp_gLa gL (List.mem_of_getElem? (i := 0) rfl) (by decide)) (hp_gLa gL (List.mem_of_getElem? (i := 1) rfl) (by decide)) (hp_gLa gL (List.mem_of_getElem? (i := 2) rfl) (by decide)) (hp_gLi (z := (0 + (1 * p + 0))) gL (List.mem_of_getElem? (i := 3) rfl) rfl (by omega))
    cases hp
  · intro q hq ys v h' hys gS
    cases hq
theorem rq_feed2_k : lw_chk ly_Y 379 3 [(0, 0, 3584), (1, 0, 3584), (2, (-2147483648), 2147483647)] [((-7), [(0, 1), (1, (-1))])] [(0, .inr (.inr (.inl (some 4)))), (1, .inr (.inr (.inl (some 16)))), (2, .inr (.inr (.inl (some 94)))), (3, .inl (0, [(1, 1)]))] [.inl (0, [(2, 1)])] [] [] [(18, ([], 3, [(0, 0, 3584), (1, 0, 3584), (2, (-2147483648), 2147483647)], [], [(0, .inr (.inr (.inl (some 4)))), (1, .inr (.inr (.inl (some 16)))), (2, .inr (.inr (.inl (some 94)))), (3, .inl (7, [(1, 1)]))], [], []))] [] 0 0 = true := by decide +kernel
theorem rq_feed2 {cst : am_K} {Φ : am_Q → Prop} {h : am_H} {l : am_L} (gC : ly_gC sx_KK cst) (hY : ∀ d, ly_Yok cst m_cl m_tt m_P m_strs ly_TH ly_Y d) (hy : ly_hy m_tt ly_TH h) (n p a : Int) (x0 : Int32) (hx0 : x0.toInt = (a)) (b0 : 0 ≤ n) (t0 : n ≤ 3584) (b1 : 0 ≤ p) (t1 : p ≤ 3584) (b2 : (-2147483648) ≤ a) (t2 : a ≤ 2147483647) (f0 : 0 ≤ (n - p - 7)) (l0 : hp_a l 0 4) (l1 : hp_a l 1 16) (l2 : hp_a l 2 94) (l3 : hp_i l 3 (p)) (e0 : ∀ (l' : am_L) (h' : am_H), ly_hy m_tt ly_TH h' → ly_fr cst [] h h' → hp_a l' 0 4 → hp_a l' 1 16 → hp_a l' 2 94 → hp_i l' 3 (p + 7) → lw_F cst Φ 18 l' [] h' 0 0) : lw_F cst Φ 379 l [.int x0] h 0 0 := by
  refine lw_arc gC hY rq_feed2_k [n, p, a] rfl hy (hp_Bc (z := n) rfl b0 t0 (hp_Bc (z := p) rfl b1 t1 (hp_Bc (z := a) rfl b2 t2 hp_Bn))) (hp_Fc (z := ((-7) + (1 * n + ((-1) * p + 0)))) rfl (by omega) hp_Fn) hp_Kn (hp_La l0 (hp_La l1 (hp_La l2 (hp_Li (z := (0 + (1 * p + 0))) l3 rfl (by omega) hp_Ln)))) (hp_Si (z := (0 + (1 * a + 0))) rfl (by omega) trivial) ?_ ?_
  · intro q hp ys l' st' h' ca sa ha hs hys a1 hfr gZ gL gS
    have ea : ca = 0 := Nat.le_zero.mp ha
    have eb : sa = 0 := Nat.le_zero.mp hs
    subst ea
    subst eb
    rcases List.mem_cons.mp hp with rfl | hp
    · obtain rfl := hp_y0 hys
      cases hp_gSn gS
      exact e0 l' h' a1 hfr (hp_gLa gL (List.mem_of_getElem? (i := 0) rfl) (by decide)) (hp_gLa gL (List.mem_of_getElem? (i := 1) rfl) (by decide)) (hp_gLa gL (List.mem_of_getElem? (i := 2) rfl) (by decide)) (hp_gLi (z := (7 + (1 * p + 0))) gL (List.mem_of_getElem? (i := 3) rfl) rfl (by omega))
    cases hp
  · intro q hq ys v h' hys gS
    cases hq
theorem lc_feed {cst : am_K} {Φ : am_Q → Prop} (gC : ly_gC sx_KK cst) (hY : ∀ d, ly_Yok cst m_cl m_tt m_P m_strs ly_TH ly_Y d) {n p : Int} {h : am_H} {l : am_L} (I : lw_I cst n p h l) (hp7 : p + 7 ≤ n)
    (k : ∀ (h' : am_H) (l' : am_L) (ca sa : Nat), ca ≤ 19 → sa ≤ 261 → lw_I cst n (p + 7) h' l' → lw_F cst Φ 18 l' [] h' ca sa) : lw_F cst Φ 320 l [] h 0 0 := by
  obtain ⟨hy, k0, n0, n1, p0, p1, ⟨t, s, k2, k3, et, s0, s1⟩, ⟨r, kr, r0, r1⟩, k4, k5, l0, l1, l2, l3, ⟨v0, vk0, vm0, vb0, vt0⟩, ⟨v1, vk1, vm1, vb1, vt1⟩, ⟨v2, vk2, vm2, vb2, vt2⟩, er0, er1, er2, er3, er4, er5⟩ := I
  obtain ⟨x, kx⟩ := lw_elem (i := p + 1) gC k0 (by omega) (by omega)
  obtain ⟨y, ky⟩ := lw_elem (i := p + 2) gC k0 (by omega) (by omega)
  obtain ⟨z, kz⟩ := lw_elem (i := p + 3) gC k0 (by omega) (by omega)
  obtain ⟨x4, kx4⟩ := lw_elem (i := p + 4) gC k0 (by omega) (by omega)
  obtain ⟨x5, kx5⟩ := lw_elem (i := p + 5) gC k0 (by omega) (by omega)
  have c46 : hp_C cst m_strs (46) := ⟨gC, lw_strs, fun d _ => hY d⟩
  have c47 : hp_C cst m_strs (47) := ⟨gC, lw_strs, fun d _ => hY d⟩
  have c48 : hp_C cst m_strs (48) := ⟨gC, lw_strs, fun d _ => hY d⟩
  have c49 : hp_C cst m_strs (49) := ⟨gC, lw_strs, fun d _ => hY d⟩
  refine rq_feed0 gC hY hy n p x.toInt y.toInt z.toInt x4.toInt x5.toInt n0 n1 p0 (by omega) x.le_toInt x.toInt_le y.le_toInt y.toInt_le z.le_toInt z.toInt_le x4.le_toInt x4.toInt_le x5.le_toInt x5.toInt_le (by omega) k0 kx ky kz kx4 kx5 l0 l1 l2 l3 (fun l1' h1 a0 a1 a2 a3 a4 e0 e1 e2 e3 e4 u1 f1 g0 g1 g2 g3 => ?_)
  have T0 : tp_H cst h1 h1 := tp_mv er0 hy u1 hy u1 f1 f1 rfl rfl
  obtain ⟨q1, hrun, ⟨aC, s1'⟩, s2', s3', shy, sfr, sP⟩ := ku_run (xa := a4) (xb := a3) (xc := a2) (xd := a1) (xe := a0) c48 c49 (by decide) u1 vb0 vt0 (f1 _ _ _ rfl vk0)
  refine lw_call (pc := 346) (tg := 21) (na := 6) (c := 0) (ci := 0) (st0 := [.int a0, .int a1, .int a2, .int a3, .int a4, .ref 16]) (st := []) (av := [.int a4, .int a3, .int a2, .int a1, .int a0]) (by decide +kernel) u1 rfl rfl rfl (Nat.le_of_ble_eq_true rfl) hrun s2' s3' ?_
  rw [s1']
  have fa : ∀ rg i v, ly_has rg [257, 512] = false → ly_hv cst h rg i = some v → ly_hv cst q1.2.1 rg i = some v := fun rg i v ha e => sfr _ _ _ ha (f1 _ _ _ rfl e)
  refine rq_feed1 gC hY shy n p x.toInt y.toInt z.toInt x4.toInt x5.toInt aC.toInt aC rfl n0 n1 p0 (by omega) x.le_toInt x.toInt_le y.le_toInt y.toInt_le z.le_toInt z.toInt_le x4.le_toInt x4.toInt_le x5.le_toInt x5.toInt_le aC.le_toInt aC.toInt_le (by omega) (fa _ _ _ rfl k0) (fa _ _ _ rfl kx) (fa _ _ _ rfl ky) (fa _ _ _ rfl kz) (fa _ _ _ rfl kx4) (fa _ _ _ rfl kx5) g0 g1 g2 g3 (fun l2' h2 b0 b1 b2 b3 b4 d0 d1 d2 d3 d4 u2 f2 o0 o1 o2 o3 => ?_)
  have fb : ∀ rg i v, ly_has rg [257, 512] = false → ly_hv cst h rg i = some v → ly_hv cst h2 rg i = some v := fun rg i v ha e => f2 _ _ _ rfl (fa _ _ _ ha e)
  have T1 : tp_H cst h1 h2 := tp_mv (mc := []) (mm := [257, 512]) T0 u1 u1 u1 u2 (ly_fr_rf h1) (fun rg i v ha e => f2 _ _ _ rfl (sfr rg i v ha e)) rfl rfl
  obtain ⟨q2, hrun2, ⟨aR, w1'⟩, w2', w3', why, wfr, wP⟩ := kx_run (xa := b4) (xb := b3) (xc := b2) (xd := b1) (xe := b0) c49 (by decide) u2 vb0 vt0 (fb _ _ _ rfl vm0)
  refine lw_call (pc := 376) (tg := 269) (na := 6) (c := 78) (ci := 12) (st0 := [.int b0, .int b1, .int b2, .int b3, .int b4, .ref 94]) (st := []) (av := [.int b4, .int b3, .int b2, .int b1, .int b0]) (by decide +kernel) u2 rfl rfl rfl (Nat.le_of_ble_eq_true rfl) hrun2 w2' w3' ?_
  rw [w1']
  have ea0 : a0 = x5 := Int32.toInt_inj.mp e0
  have eb0 : b0 = x5 := Int32.toInt_inj.mp d0
  have ea1 : a1 = x4 := Int32.toInt_inj.mp e1
  have eb1 : b1 = x4 := Int32.toInt_inj.mp d1
  have ea2 : a2 = z := Int32.toInt_inj.mp e2
  have eb2 : b2 = z := Int32.toInt_inj.mp d2
  have ea3 : a3 = y := Int32.toInt_inj.mp e3
  have eb3 : b3 = y := Int32.toInt_inj.mp d3
  have ea4 : a4 = x := Int32.toInt_inj.mp e4
  have eb4 : b4 = x := Int32.toInt_inj.mp d4
  rw [ea0, ea1, ea2, ea3, ea4] at sP
  rw [eb0, eb1, eb2, eb3, eb4] at wP
  obtain ⟨w, w0, w1, kw1, kw2, T2⟩ := tp_feed T1 vb0 vt0 sP wP
  refine rq_feed2 gC hY why n p aR.toInt aR rfl n0 n1 p0 (by omega) aR.le_toInt aR.toInt_le (by omega) o0 o1 o2 o3 (fun l3' h3 u3 f3 i0 i1 i2 i3 => ?_)
  have fc : ly_fr cst [19969, 20224] q1.2.1 h3 := fun rg i v hb e => f3 _ _ _ rfl (wfr _ _ _ hb (f2 _ _ _ rfl e))
  have tt : ∀ rg i v, ly_has rg [257, 512] = false → ly_has rg [19969, 20224] = false → ly_hv cst h rg i = some v → ly_hv cst h3 rg i = some v := fun rg i v ha hb e => fc _ _ _ hb (fa _ _ _ ha e)
  exact k h3 l3' 0 0 (by omega) (by omega) ⟨u3, tt _ _ _ rfl rfl k0, n0, n1, by omega, by omega, ⟨t, s, tt _ _ _ rfl rfl k2, tt _ _ _ rfl rfl k3, et, s0, s1⟩, ⟨r, tt _ _ _ rfl rfl kr, r0, by omega⟩, tt _ _ _ rfl rfl k4, tt _ _ _ rfl rfl k5, i0, i1, i2, i3, ⟨w, fc _ _ _ rfl kw1, f3 _ _ _ rfl kw2, w0, w1⟩, ⟨v1, tt _ _ _ rfl rfl vk1, tt _ _ _ rfl rfl vm1, vb1, vt1⟩, ⟨v2, tt _ _ _ rfl rfl vk2, tt _ _ _ rfl rfl vm2, vb2, vt2⟩, tp_mv T2 shy u3 why u3 fc f3 rfl rfl, LW_mv (p' := p + 7) (LW_mv (p' := p + 7) (ms := [257, 512]) er1 fa rfl rfl vk0 kw1 w0 (by have := fd_le sP kw1; omega)) fc rfl rfl kw1 (fc _ _ _ rfl kw1) w0 (by omega), mt_mv (mt_mv (ms := [257, 512]) er2 fa rfl rfl) fc rfl rfl, mo_mv (mo_mv (ms := [257, 512]) er3 fa rfl rfl) fc rfl rfl, zr_mv (zr_mv (mc := [257, 512]) (mm := [257, 512]) er4 fa fa rfl rfl rfl) fc fc rfl rfl rfl, wf_mv (wf_mv (mc := [257, 512]) (mm := [257, 512]) er5 fa fa rfl rfl rfl) fc fc rfl rfl rfl⟩
theorem rq_act0_k : lw_chk ly_Y 753 4 [(0, 0, 3584), (1, 0, 3584), (2, (-2147483648), 2147483647), (3, (-2147483648), 2147483647)] [((-7), [(0, 1), (1, (-1))])] [(0, .inr (.inr (.inl (some 4)))), (1, .inr (.inr (.inl (some 16)))), (2, .inr (.inr (.inl (some 94)))), (3, .inl (0, [(1, 1)]))] [] [(60000, (0, []), (0, [(0, 1)])), (60001, (1, [(1, 1)]), (0, [(2, 1)])), (60001, (2, [(1, 1)]), (0, [(3, 1)]))] [] [(764, ([], 4, [(0, 0, 3584), (1, 0, 3584), (2, (-2147483648), 2147483647), (3, (-2147483648), 2147483647)], [], [(0, .inr (.inr (.inl (some 4)))), (1, .inr (.inr (.inl (some 16)))), (2, .inr (.inr (.inl (some 94)))), (3, .inl (0, [(1, 1)]))], [.inl (0, [(3, 1)]), .inl (0, [(2, 1)]), .inr (.inr (.inl (some 16)))], []))] [] 0 0 = true := by decide +kernel
theorem rq_act0 {cst : am_K} {Φ : am_Q → Prop} {h : am_H} {l : am_L} (gC : ly_gC sx_KK cst) (hY : ∀ d, ly_Yok cst m_cl m_tt m_P m_strs ly_TH ly_Y d) (hy : ly_hy m_tt ly_TH h) (n p x y : Int) (b0 : 0 ≤ n) (t0 : n ≤ 3584) (b1 : 0 ≤ p) (t1 : p ≤ 3584) (b2 : (-2147483648) ≤ x) (t2 : x ≤ 2147483647) (b3 : (-2147483648) ≤ y) (t3 : y ≤ 2147483647) (f0 : 0 ≤ (n - p - 7)) (k0 : ly_hv cst h 60000 0 = some (n)) (k1 : ly_hv cst h 60001 (p + 1) = some (x)) (k2 : ly_hv cst h 60001 (p + 2) = some (y)) (l0 : hp_a l 0 4) (l1 : hp_a l 1 16) (l2 : hp_a l 2 94) (l3 : hp_i l 3 (p)) (e0 : ∀ (l' : am_L) (h' : am_H) (y0 : Int32) (y1 : Int32), y0.toInt = (y) → y1.toInt = (x) → ly_hy m_tt ly_TH h' → ly_fr cst [] h h' → hp_a l' 0 4 → hp_a l' 1 16 → hp_a l' 2 94 → hp_i l' 3 (p) → lw_F cst Φ 764 l' [.int y0, .int y1, .ref 16] h' 0 0) : lw_F cst Φ 753 l [] h 0 0 := by
  refine lw_arc gC hY rq_act0_k [n, p, x, y] rfl hy (hp_Bc (z := n) rfl b0 t0 (hp_Bc (z := p) rfl b1 t1 (hp_Bc (z := x) rfl b2 t2 (hp_Bc (z := y) rfl b3 t3 hp_Bn)))) (hp_Fc (z := ((-7) + (1 * n + ((-1) * p + 0)))) rfl (by omega) hp_Fn) (hp_Kc (zi := (0 + 0)) (zv := (0 + (1 * n + 0))) k0 rfl rfl (by omega) (by omega) (hp_Kc (zi := (1 + (1 * p + 0))) (zv := (0 + (1 * x + 0))) k1 rfl rfl (by omega) (by omega) (hp_Kc (zi := (2 + (1 * p + 0))) (zv := (0 + (1 * y + 0))) k2 rfl rfl (by omega) (by omega) hp_Kn))) (hp_La l0 (hp_La l1 (hp_La l2 (hp_Li (z := (0 + (1 * p + 0))) l3 rfl (by omega) hp_Ln)))) trivial ?_ ?_
  · intro q hp ys l' st' h' ca sa ha hs hys a1 hfr gZ gL gS
    have ea : ca = 0 := Nat.le_zero.mp ha
    have eb : sa = 0 := Nat.le_zero.mp hs
    subst ea
    subst eb
    rcases List.mem_cons.mp hp with rfl | hp
    · obtain rfl := hp_y0 hys
      obtain ⟨y0, t0, rfl, q0, g0⟩ := hp_gSi (z := (0 + (1 * y + 0))) gS rfl
      obtain ⟨y1, t1, rfl, q1, g1⟩ := hp_gSi (z := (0 + (1 * x + 0))) g0 rfl
      obtain ⟨t2, rfl, g2⟩ := hp_gSa g1 (by decide)
      cases hp_gSn g2
      exact e0 l' h' y0 y1 (by omega) (by omega) a1 hfr (hp_gLa gL (List.mem_of_getElem? (i := 0) rfl) (by decide)) (hp_gLa gL (List.mem_of_getElem? (i := 1) rfl) (by decide)) (hp_gLa gL (List.mem_of_getElem? (i := 2) rfl) (by decide)) (hp_gLi (z := (0 + (1 * p + 0))) gL (List.mem_of_getElem? (i := 3) rfl) rfl (by omega))
    cases hp
  · intro q hq ys v h' hys gS
    cases hq
theorem rq_act1_k : lw_chk ly_Y 767 5 [(0, 0, 3584), (1, 0, 3584), (2, (-2147483648), 2147483647), (3, (-2147483648), 2147483647), (4, (-2147483648), 2147483647)] [((-7), [(0, 1), (1, (-1))])] [(0, .inr (.inr (.inl (some 4)))), (1, .inr (.inr (.inl (some 16)))), (2, .inr (.inr (.inl (some 94)))), (3, .inl (0, [(1, 1)]))] [.inl (0, [(4, 1)])] [(60000, (0, []), (0, [(0, 1)])), (60001, (1, [(1, 1)]), (0, [(2, 1)])), (60001, (2, [(1, 1)]), (0, [(3, 1)]))] [] [(779, ([], 5, [(0, 0, 3584), (1, 0, 3584), (2, (-2147483648), 2147483647), (3, (-2147483648), 2147483647), (4, (-2147483648), 2147483647)], [], [(0, .inr (.inr (.inl (some 4)))), (1, .inr (.inr (.inl (some 16)))), (2, .inr (.inr (.inl (some 94)))), (3, .inl (0, [(1, 1)]))], [.inl (0, [(3, 1)]), .inl (0, [(2, 1)]), .inr (.inr (.inl (some 94)))], []))] [] 0 0 = true := by decide +kernel
theorem rq_act1 {cst : am_K} {Φ : am_Q → Prop} {h : am_H} {l : am_L} (gC : ly_gC sx_KK cst) (hY : ∀ d, ly_Yok cst m_cl m_tt m_P m_strs ly_TH ly_Y d) (hy : ly_hy m_tt ly_TH h) (n p x y a : Int) (x0 : Int32) (hx0 : x0.toInt = (a)) (b0 : 0 ≤ n) (t0 : n ≤ 3584) (b1 : 0 ≤ p) (t1 : p ≤ 3584) (b2 : (-2147483648) ≤ x) (t2 : x ≤ 2147483647) (b3 : (-2147483648) ≤ y) (t3 : y ≤ 2147483647) (b4 : (-2147483648) ≤ a) (t4 : a ≤ 2147483647) (f0 : 0 ≤ (n - p - 7)) (k0 : ly_hv cst h 60000 0 = some (n)) (k1 : ly_hv cst h 60001 (p + 1) = some (x)) (k2 : ly_hv cst h 60001 (p + 2) = some (y)) (l0 : hp_a l 0 4) (l1 : hp_a l 1 16) (l2 : hp_a l 2 94) (l3 : hp_i l 3 (p)) (e0 : ∀ (l' : am_L) (h' : am_H) (y0 : Int32) (y1 : Int32), y0.toInt = (y) → y1.toInt = (x) → ly_hy m_tt ly_TH h' → ly_fr cst [] h h' → hp_a l' 0 4 → hp_a l' 1 16 → hp_a l' 2 94 → hp_i l' 3 (p) → lw_F cst Φ 779 l' [.int y0, .int y1, .ref 94] h' 0 0) : lw_F cst Φ 767 l [.int x0] h 0 0 := by
  refine lw_arc gC hY rq_act1_k [n, p, x, y, a] rfl hy (hp_Bc (z := n) rfl b0 t0 (hp_Bc (z := p) rfl b1 t1 (hp_Bc (z := x) rfl b2 t2 (hp_Bc (z := y) rfl b3 t3 (hp_Bc (z := a) rfl b4 t4 hp_Bn))))) (hp_Fc (z := ((-7) + (1 * n + ((-1) * p + 0)))) rfl (by omega) hp_Fn) (hp_Kc (zi := (0 + 0)) (zv := (0 + (1 * n + 0))) k0 rfl rfl (by omega) (by omega) (hp_Kc (zi := (1 + (1 * p + 0))) (zv := (0 + (1 * x + 0))) k1 rfl rfl (by omega) (by omega) (hp_Kc (zi := (2 + (1 * p + 0))) (zv := (0 + (1 * y + 0))) k2 rfl rfl (by omega) (by omega) hp_Kn))) (hp_La l0 (hp_La l1 (hp_La l2 (hp_Li (z := (0 + (1 * p + 0))) l3 rfl (by omega) hp_Ln)))) (hp_Si (z := (0 + (1 * a + 0))) rfl (by omega) trivial) ?_ ?_
  · intro q hp ys l' st' h' ca sa ha hs hys a1 hfr gZ gL gS
    have ea : ca = 0 := Nat.le_zero.mp ha
    have eb : sa = 0 := Nat.le_zero.mp hs
    subst ea
    subst eb
    rcases List.mem_cons.mp hp with rfl | hp
    · obtain rfl := hp_y0 hys
      obtain ⟨y0, t0, rfl, q0, g0⟩ := hp_gSi (z := (0 + (1 * y + 0))) gS rfl
      obtain ⟨y1, t1, rfl, q1, g1⟩ := hp_gSi (z := (0 + (1 * x + 0))) g0 rfl
      obtain ⟨t2, rfl, g2⟩ := hp_gSa g1 (by decide)
      cases hp_gSn g2
      exact e0 l' h' y0 y1 (by omega) (by omega) a1 hfr (hp_gLa gL (List.mem_of_getElem? (i := 0) rfl) (by decide)) (hp_gLa gL (List.mem_of_getElem? (i := 1) rfl) (by decide)) (hp_gLa gL (List.mem_of_getElem? (i := 2) rfl) (by decide)) (hp_gLi (z := (0 + (1 * p + 0))) gL (List.mem_of_getElem? (i := 3) rfl) rfl (by omega))
    cases hp
  · intro q hq ys v h' hys gS
    cases hq
theorem rq_act2_k : lw_chk ly_Y 782 3 [(0, 0, 3584), (1, 0, 3584), (2, (-2147483648), 2147483647)] [((-7), [(0, 1), (1, (-1))])] [(0, .inr (.inr (.inl (some 4)))), (1, .inr (.inr (.inl (some 16)))), (2, .inr (.inr (.inl (some 94)))), (3, .inl (0, [(1, 1)]))] [.inl (0, [(2, 1)])] [] [] [(18, ([], 3, [(0, 0, 3584), (1, 0, 3584), (2, (-2147483648), 2147483647)], [], [(0, .inr (.inr (.inl (some 4)))), (1, .inr (.inr (.inl (some 16)))), (2, .inr (.inr (.inl (some 94)))), (3, .inl (7, [(1, 1)]))], [], []))] [] 0 0 = true := by decide +kernel
theorem rq_act2 {cst : am_K} {Φ : am_Q → Prop} {h : am_H} {l : am_L} (gC : ly_gC sx_KK cst) (hY : ∀ d, ly_Yok cst m_cl m_tt m_P m_strs ly_TH ly_Y d) (hy : ly_hy m_tt ly_TH h) (n p a : Int) (x0 : Int32) (hx0 : x0.toInt = (a)) (b0 : 0 ≤ n) (t0 : n ≤ 3584) (b1 : 0 ≤ p) (t1 : p ≤ 3584) (b2 : (-2147483648) ≤ a) (t2 : a ≤ 2147483647) (f0 : 0 ≤ (n - p - 7)) (l0 : hp_a l 0 4) (l1 : hp_a l 1 16) (l2 : hp_a l 2 94) (l3 : hp_i l 3 (p)) (e0 : ∀ (l' : am_L) (h' : am_H), ly_hy m_tt ly_TH h' → ly_fr cst [] h h' → hp_a l' 0 4 → hp_a l' 1 16 → hp_a l' 2 94 → hp_i l' 3 (p + 7) → lw_F cst Φ 18 l' [] h' 0 0) : lw_F cst Φ 782 l [.int x0] h 0 0 := by
  refine lw_arc gC hY rq_act2_k [n, p, a] rfl hy (hp_Bc (z := n) rfl b0 t0 (hp_Bc (z := p) rfl b1 t1 (hp_Bc (z := a) rfl b2 t2 hp_Bn))) (hp_Fc (z := ((-7) + (1 * n + ((-1) * p + 0)))) rfl (by omega) hp_Fn) hp_Kn (hp_La l0 (hp_La l1 (hp_La l2 (hp_Li (z := (0 + (1 * p + 0))) l3 rfl (by omega) hp_Ln)))) (hp_Si (z := (0 + (1 * a + 0))) rfl (by omega) trivial) ?_ ?_
  · intro q hp ys l' st' h' ca sa ha hs hys a1 hfr gZ gL gS
    have ea : ca = 0 := Nat.le_zero.mp ha
    have eb : sa = 0 := Nat.le_zero.mp hs
    subst ea
    subst eb
    rcases List.mem_cons.mp hp with rfl | hp
    · obtain rfl := hp_y0 hys
      cases hp_gSn gS
      exact e0 l' h' a1 hfr (hp_gLa gL (List.mem_of_getElem? (i := 0) rfl) (by decide)) (hp_gLa gL (List.mem_of_getElem? (i := 1) rfl) (by decide)) (hp_gLa gL (List.mem_of_getElem? (i := 2) rfl) (by decide)) (hp_gLi (z := (7 + (1 * p + 0))) gL (List.mem_of_getElem? (i := 3) rfl) rfl (by omega))
    cases hp
  · intro q hq ys v h' hys gS
    cases hq
theorem lc_act {cst : am_K} {Φ : am_Q → Prop} (gC : ly_gC sx_KK cst) (hY : ∀ d, ly_Yok cst m_cl m_tt m_P m_strs ly_TH ly_Y d) {n p : Int} {h : am_H} {l : am_L} (I : lw_I cst n p h l) (hp7 : p + 7 ≤ n)
    (k : ∀ (h' : am_H) (l' : am_L) (ca sa : Nat), ca ≤ 19 → sa ≤ 261 → lw_I cst n (p + 7) h' l' → lw_F cst Φ 18 l' [] h' ca sa) : lw_F cst Φ 753 l [] h 0 0 := by
  obtain ⟨hy, k0, n0, n1, p0, p1, ⟨t, s, k2, k3, et, s0, s1⟩, ⟨r, kr, r0, r1⟩, k4, k5, l0, l1, l2, l3, ⟨v0, vk0, vm0, vb0, vt0⟩, ⟨v1, vk1, vm1, vb1, vt1⟩, ⟨v2, vk2, vm2, vb2, vt2⟩, er0, er1, er2, er3, er4, er5⟩ := I
  obtain ⟨x, kx⟩ := lw_elem (i := p + 1) gC k0 (by omega) (by omega)
  obtain ⟨y, ky⟩ := lw_elem (i := p + 2) gC k0 (by omega) (by omega)
  have c46 : hp_C cst m_strs (46) := ⟨gC, lw_strs, fun d _ => hY d⟩
  have c47 : hp_C cst m_strs (47) := ⟨gC, lw_strs, fun d _ => hY d⟩
  have c48 : hp_C cst m_strs (48) := ⟨gC, lw_strs, fun d _ => hY d⟩
  have c49 : hp_C cst m_strs (49) := ⟨gC, lw_strs, fun d _ => hY d⟩
  refine rq_act0 gC hY hy n p x.toInt y.toInt n0 n1 p0 (by omega) x.le_toInt x.toInt_le y.le_toInt y.toInt_le (by omega) k0 kx ky l0 l1 l2 l3 (fun l1' h1 a0 a1 e0 e1 u1 f1 g0 g1 g2 g3 => ?_)
  have T0 : tp_H cst h1 h1 := tp_mv er0 hy u1 hy u1 f1 f1 rfl rfl
  obtain ⟨X, i0, N0, x30, LCh, RAh, kN, N0', pot, wdh⟩ := er1
  have eN : v0 = N0 := Option.some.inj (vk0.symm.trans kN)
  obtain ⟨nN, vN⟩ : ∃ nN : Nat, v0 = (nN : Int) := ⟨v0.toNat, by omega⟩
  have cc : ∀ d, hp_C cst m_strs d := fun d => ⟨gC, lw_strs, fun d' _ => hY d'⟩
  have LC1 := LC_mv LCh f1 rfl
  obtain ⟨ed, ke1, ke2⟩ := LW_ke hy LCh RAh x30
  have ke1' : (X.length : Int) ≠ 0 → ly_hv cst h1 3840 ((X.length : Int) - 1) = some ed ∧ -2147483648 ≤ ed ∧ ed ≤ 2147483647 := fun z => ⟨f1 _ _ _ rfl (ke1 z).1, (ke1 z).2⟩
  have rc1 := LW_rc RAh x30
  obtain ⟨q1, hrun, aC, s1', s2', s3', shy, sfr, sP⟩ := ac_run (D := 43) (N := nN) (A := (X.length : Int)) (i0 := i0) (c0 := fX X) (e := ed) (xd := a1) (xs := a0) cc (by decide) u1 (by omega) (by rw [← vN]; exact f1 _ _ _ rfl vk0) (by omega) (by omega) (by omega) rc1 LC1.1 LC1.2.2.2.1 LC1.2.2.2.2 ke1'
  refine lw_call (pc := 764) (tg := 70) (na := 3) (c := 0) (ci := 0) (st0 := [.int a0, .int a1, .ref 16]) (st := []) (av := [.int a1, .int a0]) (by decide +kernel) u1 rfl rfl rfl (Nat.le_of_ble_eq_true rfl) hrun s2' s3' ?_
  rw [s1']
  have fa : ∀ rg i v, ly_has rg ac_mods = false → ly_hv cst h rg i = some v → ly_hv cst q1.2.1 rg i = some v := fun rg i v ha e => sfr _ _ _ ha (f1 _ _ _ rfl e)
  refine rq_act1 gC hY shy n p x.toInt y.toInt aC.toInt aC rfl n0 n1 p0 (by omega) x.le_toInt x.toInt_le y.le_toInt y.toInt_le aC.le_toInt aC.toInt_le (by omega) (fa _ _ _ rfl k0) (fa _ _ _ rfl kx) (fa _ _ _ rfl ky) g0 g1 g2 g3 (fun l2' h2 b0 b1 d0 d1 u2 f2 o0 o1 o2 o3 => ?_)
  have fb : ∀ rg i v, ly_has rg ac_mods = false → ly_hv cst h rg i = some v → ly_hv cst h2 rg i = some v := fun rg i v ha e => f2 _ _ _ rfl (fa _ _ _ ha e)
  have T1 : tp_H cst h1 h2 := tp_mv (mc := []) (mm := ac_mods) T0 u1 u1 u1 u2 (ly_fr_rf h1) (fun rg i v ha e => f2 _ _ _ rfl (sfr rg i v ha e)) rfl rfl
  obtain ⟨sz, tT, enT, kdT, plT, vlT, TT, sA⟩ := sP
  have RA2 : rA cst h2 X := rA_k RAh ⟨fun rg hr i u _ ee => fb _ _ _ (by have z := List.all_eq_true.mp (show [22784, 23040, 23296].all (fun x => !ly_has x ac_mods) = true from rfl) rg hr; simpa using z) ee, fun q hq j u _ ee => fb _ _ _ (by have z := List.all_eq_true.mp (show gk_L.all (fun x => !ly_has x.1 ac_mods) = true from rfl) q hq; simpa using z) ee⟩ (fb _ _ _ rfl RAh.1)
  have ke2' : X.length ≠ 0 → ly_hv cst h2 22784 ((X.length : Int) - 1) = some ed ∧ -2147483648 ≤ ed ∧ ed ≤ 2147483647 := fun z => ⟨fb _ _ _ rfl (ke2 z).1, (ke2 z).2⟩
  have g60 := xg_one cc u1 (f1 _ _ _ rfl k4) hrun
  have m60 : ly_hv cst h2 60020 0 = some 1 := fb _ _ _ rfl k5
  obtain ⟨q2, hrun2, aR, w1', w2', w3', why, wfr, wP⟩ := ra_run (D := 49) (f := gt_g cst h1 512) (n := (nN : Int)) (X := X) (e := ed) (xd := b1) (xs := b0) cc (by decide) u2 TT (tkT_kb TT) (tkT_vB TT) (by omega) (by omega) (fun x x0 x1 => gs_even T1 u2 x0 (by omega)) (by rw [← vN]; exact fb _ _ _ rfl vm0) x30 RA2 ke2'
  refine lw_call (pc := 779) (tg := 297) (na := 3) (c := 78) (ci := 12) (st0 := [.int b0, .int b1, .ref 94]) (st := []) (av := [.int b1, .int b0]) (by decide +kernel) u2 rfl rfl rfl (Nat.le_of_ble_eq_true rfl) hrun2 w2' w3' ?_
  rw [w1']
  have ea0 : a0 = y := Int32.toInt_inj.mp e0
  have ea1 : a1 = x := Int32.toInt_inj.mp e1
  have eb0 : b0 = y := Int32.toInt_inj.mp d0
  have eb1 : b1 = x := Int32.toInt_inj.mp d1
  rw [ea0, ea1] at sA
  rw [eb0, eb1] at wP
  obtain ⟨wz, wA⟩ := wP
  obtain ⟨ab, X', i0', x30', LCq, RAq, li, wdq⟩ := LW_act x30 (by omega) wdh (fun C e => tx_w _ _ _ _ (fun x hx => by cases hx) e) LC1 sfr sA wA
  have both : aR.toInt = aC.toInt := ab
  have m61 := xg_two cc u2 m60 hrun2
  refine rq_act2 gC hY why n p aR.toInt aR rfl n0 n1 p0 (by omega) aR.le_toInt aR.toInt_le (by omega) o0 o1 o2 o3 (fun l3' h3 u3 f3 i0 i1 i2 i3 => ?_)
  have fc : ly_fr cst [19969, 19970, 19971, 19972, 19973, 19974, 19975, 19976, 19989, 19990, 19991, 20010, 20011, 20012, 20013, 20014, 20015, 20016, 22784, 23040, 23296, 23552, 23808, 24064, 24320, 24576, 24832, 25088, 25344, 25600, 25856, 26112, 26368, 26624, 26880, 27136, 60020, 60030, 60031, 60032, 60033, 60034, 60035, 60036, 60037, 60038, 60039, 60040, 60050, 60060, 60061, 60070, 60071] q1.2.1 h3 := fun rg i v hb e => f3 _ _ _ rfl (wfr _ _ _ hb (f2 _ _ _ rfl e))
  have tt : ∀ rg i v, ly_has rg ac_mods = false → ly_has rg [19969, 19970, 19971, 19972, 19973, 19974, 19975, 19976, 19989, 19990, 19991, 20010, 20011, 20012, 20013, 20014, 20015, 20016, 22784, 23040, 23296, 23552, 23808, 24064, 24320, 24576, 24832, 25088, 25344, 25600, 25856, 26112, 26368, 26624, 26880, 27136, 60020, 60030, 60031, 60032, 60033, 60034, 60035, 60036, 60037, 60038, 60039, 60040, 60050, 60060, 60061, 60070, 60071] = false → ly_hv cst h rg i = some v → ly_hv cst h3 rg i = some v := fun rg i v ha hb e => fc _ _ _ hb (fa _ _ _ ha e)
  exact k h3 l3' 0 0 (by omega) (by omega) ⟨u3, tt _ _ _ rfl rfl k0, n0, n1, by omega, by omega, ⟨t, s, tt _ _ _ rfl rfl k2, tt _ _ _ rfl rfl k3, et, s0, s1⟩, ⟨r, tt _ _ _ rfl rfl kr, r0, by omega⟩, (fc _ _ _ rfl g60), (f3 _ _ _ rfl m61), i0, i1, i2, i3, ⟨0, fc _ _ _ rfl sz, f3 _ _ _ rfl wz, by omega, by omega⟩, ⟨v1, tt _ _ _ rfl rfl vk1, tt _ _ _ rfl rfl vm1, vb1, vt1⟩, ⟨v2, tt _ _ _ rfl rfl vk2, tt _ _ _ rfl rfl vm2, vb2, vt2⟩, tp_mv (tp_mv (mc := ac_mods) (mm := ac_mods) er0 hy shy hy shy fa fa rfl rfl) shy u3 shy u3 fc fc rfl rfl, ⟨X', i0', 0, x30', LC_mv LCq fc rfl, rA_f3 RAq f3, fc _ _ _ rfl sz, by omega, by omega, wdq⟩, mt_mv (mt_mv (ms := ac_mods) er2 fa rfl rfl) fc rfl rfl, mo_mv (mo_mv (ms := ac_mods) er3 fa rfl rfl) fc rfl rfl, zr_mv (zr_mv (mc := ac_mods) (mm := ac_mods) er4 fa fa rfl rfl rfl) fc fc rfl rfl rfl, wf_mv (wf_mv (mc := ac_mods) (mm := ac_mods) er5 fa fa rfl rfl rfl) fc fc rfl rfl rfl⟩
theorem rq_words0_k : lw_chk ly_Y 1155 3 [(0, 0, 3584), (1, 0, 3584), (2, (-2147483648), 2147483647)] [((-7), [(0, 1), (1, (-1))])] [(0, .inr (.inr (.inl (some 4)))), (1, .inr (.inr (.inl (some 16)))), (2, .inr (.inr (.inl (some 94)))), (3, .inl (0, [(1, 1)]))] [] [(60000, (0, []), (0, [(0, 1)])), (60001, (1, [(1, 1)]), (0, [(2, 1)]))] [] [(1161, ([], 3, [(0, 0, 3584), (1, 0, 3584), (2, (-2147483648), 2147483647)], [], [(0, .inr (.inr (.inl (some 4)))), (1, .inr (.inr (.inl (some 16)))), (2, .inr (.inr (.inl (some 94)))), (3, .inl (0, [(1, 1)]))], [.inl (0, [(2, 1)]), .inr (.inr (.inl (some 16)))], []))] [] 0 0 = true := by decide +kernel
theorem rq_words0 {cst : am_K} {Φ : am_Q → Prop} {h : am_H} {l : am_L} (gC : ly_gC sx_KK cst) (hY : ∀ d, ly_Yok cst m_cl m_tt m_P m_strs ly_TH ly_Y d) (hy : ly_hy m_tt ly_TH h) (n p x : Int) (b0 : 0 ≤ n) (t0 : n ≤ 3584) (b1 : 0 ≤ p) (t1 : p ≤ 3584) (b2 : (-2147483648) ≤ x) (t2 : x ≤ 2147483647) (f0 : 0 ≤ (n - p - 7)) (k0 : ly_hv cst h 60000 0 = some (n)) (k1 : ly_hv cst h 60001 (p + 1) = some (x)) (l0 : hp_a l 0 4) (l1 : hp_a l 1 16) (l2 : hp_a l 2 94) (l3 : hp_i l 3 (p)) (e0 : ∀ (l' : am_L) (h' : am_H) (y0 : Int32), y0.toInt = (x) → ly_hy m_tt ly_TH h' → ly_fr cst [] h h' → hp_a l' 0 4 → hp_a l' 1 16 → hp_a l' 2 94 → hp_i l' 3 (p) → lw_F cst Φ 1161 l' [.int y0, .ref 16] h' 0 0) : lw_F cst Φ 1155 l [] h 0 0 := by
  refine lw_arc gC hY rq_words0_k [n, p, x] rfl hy (hp_Bc (z := n) rfl b0 t0 (hp_Bc (z := p) rfl b1 t1 (hp_Bc (z := x) rfl b2 t2 hp_Bn))) (hp_Fc (z := ((-7) + (1 * n + ((-1) * p + 0)))) rfl (by omega) hp_Fn) (hp_Kc (zi := (0 + 0)) (zv := (0 + (1 * n + 0))) k0 rfl rfl (by omega) (by omega) (hp_Kc (zi := (1 + (1 * p + 0))) (zv := (0 + (1 * x + 0))) k1 rfl rfl (by omega) (by omega) hp_Kn)) (hp_La l0 (hp_La l1 (hp_La l2 (hp_Li (z := (0 + (1 * p + 0))) l3 rfl (by omega) hp_Ln)))) trivial ?_ ?_
  · intro q hp ys l' st' h' ca sa ha hs hys a1 hfr gZ gL gS
    have ea : ca = 0 := Nat.le_zero.mp ha
    have eb : sa = 0 := Nat.le_zero.mp hs
    subst ea
    subst eb
    rcases List.mem_cons.mp hp with rfl | hp
    · obtain rfl := hp_y0 hys
      obtain ⟨y0, t0, rfl, q0, g0⟩ := hp_gSi (z := (0 + (1 * x + 0))) gS rfl
      obtain ⟨t1, rfl, g1⟩ := hp_gSa g0 (by decide)
      cases hp_gSn g1
      exact e0 l' h' y0 (by omega) a1 hfr (hp_gLa gL (List.mem_of_getElem? (i := 0) rfl) (by decide)) (hp_gLa gL (List.mem_of_getElem? (i := 1) rfl) (by decide)) (hp_gLa gL (List.mem_of_getElem? (i := 2) rfl) (by decide)) (hp_gLi (z := (0 + (1 * p + 0))) gL (List.mem_of_getElem? (i := 3) rfl) rfl (by omega))
    cases hp
  · intro q hq ys v h' hys gS
    cases hq
theorem rq_words1_k : lw_chk ly_Y 1164 4 [(0, 0, 3584), (1, 0, 3584), (2, (-2147483648), 2147483647), (3, (-2147483648), 2147483647)] [((-7), [(0, 1), (1, (-1))])] [(0, .inr (.inr (.inl (some 4)))), (1, .inr (.inr (.inl (some 16)))), (2, .inr (.inr (.inl (some 94)))), (3, .inl (0, [(1, 1)]))] [.inl (0, [(3, 1)])] [(60000, (0, []), (0, [(0, 1)])), (60001, (1, [(1, 1)]), (0, [(2, 1)]))] [] [(1171, ([], 4, [(0, 0, 3584), (1, 0, 3584), (2, (-2147483648), 2147483647), (3, (-2147483648), 2147483647)], [], [(0, .inr (.inr (.inl (some 4)))), (1, .inr (.inr (.inl (some 16)))), (2, .inr (.inr (.inl (some 94)))), (3, .inl (0, [(1, 1)]))], [.inl (0, [(2, 1)]), .inr (.inr (.inl (some 94)))], []))] [] 0 0 = true := by decide +kernel
theorem rq_words1 {cst : am_K} {Φ : am_Q → Prop} {h : am_H} {l : am_L} (gC : ly_gC sx_KK cst) (hY : ∀ d, ly_Yok cst m_cl m_tt m_P m_strs ly_TH ly_Y d) (hy : ly_hy m_tt ly_TH h) (n p x a : Int) (x0 : Int32) (hx0 : x0.toInt = (a)) (b0 : 0 ≤ n) (t0 : n ≤ 3584) (b1 : 0 ≤ p) (t1 : p ≤ 3584) (b2 : (-2147483648) ≤ x) (t2 : x ≤ 2147483647) (b3 : (-2147483648) ≤ a) (t3 : a ≤ 2147483647) (f0 : 0 ≤ (n - p - 7)) (k0 : ly_hv cst h 60000 0 = some (n)) (k1 : ly_hv cst h 60001 (p + 1) = some (x)) (l0 : hp_a l 0 4) (l1 : hp_a l 1 16) (l2 : hp_a l 2 94) (l3 : hp_i l 3 (p)) (e0 : ∀ (l' : am_L) (h' : am_H) (y0 : Int32), y0.toInt = (x) → ly_hy m_tt ly_TH h' → ly_fr cst [] h h' → hp_a l' 0 4 → hp_a l' 1 16 → hp_a l' 2 94 → hp_i l' 3 (p) → lw_F cst Φ 1171 l' [.int y0, .ref 94] h' 0 0) : lw_F cst Φ 1164 l [.int x0] h 0 0 := by
  refine lw_arc gC hY rq_words1_k [n, p, x, a] rfl hy (hp_Bc (z := n) rfl b0 t0 (hp_Bc (z := p) rfl b1 t1 (hp_Bc (z := x) rfl b2 t2 (hp_Bc (z := a) rfl b3 t3 hp_Bn)))) (hp_Fc (z := ((-7) + (1 * n + ((-1) * p + 0)))) rfl (by omega) hp_Fn) (hp_Kc (zi := (0 + 0)) (zv := (0 + (1 * n + 0))) k0 rfl rfl (by omega) (by omega) (hp_Kc (zi := (1 + (1 * p + 0))) (zv := (0 + (1 * x + 0))) k1 rfl rfl (by omega) (by omega) hp_Kn)) (hp_La l0 (hp_La l1 (hp_La l2 (hp_Li (z := (0 + (1 * p + 0))) l3 rfl (by omega) hp_Ln)))) (hp_Si (z := (0 + (1 * a + 0))) rfl (by omega) trivial) ?_ ?_
  · intro q hp ys l' st' h' ca sa ha hs hys a1 hfr gZ gL gS
    have ea : ca = 0 := Nat.le_zero.mp ha
    have eb : sa = 0 := Nat.le_zero.mp hs
    subst ea
    subst eb
    rcases List.mem_cons.mp hp with rfl | hp
    · obtain rfl := hp_y0 hys
      obtain ⟨y0, t0, rfl, q0, g0⟩ := hp_gSi (z := (0 + (1 * x + 0))) gS rfl
      obtain ⟨t1, rfl, g1⟩ := hp_gSa g0 (by decide)
      cases hp_gSn g1
      exact e0 l' h' y0 (by omega) a1 hfr (hp_gLa gL (List.mem_of_getElem? (i := 0) rfl) (by decide)) (hp_gLa gL (List.mem_of_getElem? (i := 1) rfl) (by decide)) (hp_gLa gL (List.mem_of_getElem? (i := 2) rfl) (by decide)) (hp_gLi (z := (0 + (1 * p + 0))) gL (List.mem_of_getElem? (i := 3) rfl) rfl (by omega))
    cases hp
  · intro q hq ys v h' hys gS
    cases hq
theorem rq_words2_k : lw_chk ly_Y 1174 3 [(0, 0, 3584), (1, 0, 3584), (2, (-2147483648), 2147483647)] [((-7), [(0, 1), (1, (-1))])] [(0, .inr (.inr (.inl (some 4)))), (1, .inr (.inr (.inl (some 16)))), (2, .inr (.inr (.inl (some 94)))), (3, .inl (0, [(1, 1)]))] [.inl (0, [(2, 1)])] [] [] [(18, ([], 3, [(0, 0, 3584), (1, 0, 3584), (2, (-2147483648), 2147483647)], [], [(0, .inr (.inr (.inl (some 4)))), (1, .inr (.inr (.inl (some 16)))), (2, .inr (.inr (.inl (some 94)))), (3, .inl (7, [(1, 1)]))], [], []))] [] 0 0 = true := by decide +kernel
theorem rq_words2 {cst : am_K} {Φ : am_Q → Prop} {h : am_H} {l : am_L} (gC : ly_gC sx_KK cst) (hY : ∀ d, ly_Yok cst m_cl m_tt m_P m_strs ly_TH ly_Y d) (hy : ly_hy m_tt ly_TH h) (n p a : Int) (x0 : Int32) (hx0 : x0.toInt = (a)) (b0 : 0 ≤ n) (t0 : n ≤ 3584) (b1 : 0 ≤ p) (t1 : p ≤ 3584) (b2 : (-2147483648) ≤ a) (t2 : a ≤ 2147483647) (f0 : 0 ≤ (n - p - 7)) (l0 : hp_a l 0 4) (l1 : hp_a l 1 16) (l2 : hp_a l 2 94) (l3 : hp_i l 3 (p)) (e0 : ∀ (l' : am_L) (h' : am_H), ly_hy m_tt ly_TH h' → ly_fr cst [] h h' → hp_a l' 0 4 → hp_a l' 1 16 → hp_a l' 2 94 → hp_i l' 3 (p + 7) → lw_F cst Φ 18 l' [] h' 0 0) : lw_F cst Φ 1174 l [.int x0] h 0 0 := by
  refine lw_arc gC hY rq_words2_k [n, p, a] rfl hy (hp_Bc (z := n) rfl b0 t0 (hp_Bc (z := p) rfl b1 t1 (hp_Bc (z := a) rfl b2 t2 hp_Bn))) (hp_Fc (z := ((-7) + (1 * n + ((-1) * p + 0)))) rfl (by omega) hp_Fn) hp_Kn (hp_La l0 (hp_La l1 (hp_La l2 (hp_Li (z := (0 + (1 * p + 0))) l3 rfl (by omega) hp_Ln)))) (hp_Si (z := (0 + (1 * a + 0))) rfl (by omega) trivial) ?_ ?_
  · intro q hp ys l' st' h' ca sa ha hs hys a1 hfr gZ gL gS
    have ea : ca = 0 := Nat.le_zero.mp ha
    have eb : sa = 0 := Nat.le_zero.mp hs
    subst ea
    subst eb
    rcases List.mem_cons.mp hp with rfl | hp
    · obtain rfl := hp_y0 hys
      cases hp_gSn gS
      exact e0 l' h' a1 hfr (hp_gLa gL (List.mem_of_getElem? (i := 0) rfl) (by decide)) (hp_gLa gL (List.mem_of_getElem? (i := 1) rfl) (by decide)) (hp_gLa gL (List.mem_of_getElem? (i := 2) rfl) (by decide)) (hp_gLi (z := (7 + (1 * p + 0))) gL (List.mem_of_getElem? (i := 3) rfl) rfl (by omega))
    cases hp
  · intro q hq ys v h' hys gS
    cases hq
theorem lc_words {cst : am_K} {Φ : am_Q → Prop} (gC : ly_gC sx_KK cst) (hY : ∀ d, ly_Yok cst m_cl m_tt m_P m_strs ly_TH ly_Y d) {n p : Int} {h : am_H} {l : am_L} (I : lw_I cst n p h l) (hp7 : p + 7 ≤ n)
    (k : ∀ (h' : am_H) (l' : am_L) (ca sa : Nat), ca ≤ 19 → sa ≤ 261 → lw_I cst n (p + 7) h' l' → lw_F cst Φ 18 l' [] h' ca sa) : lw_F cst Φ 1155 l [] h 0 0 := by
  obtain ⟨hy, k0, n0, n1, p0, p1, ⟨t, s, k2, k3, et, s0, s1⟩, ⟨r, kr, r0, r1⟩, k4, k5, l0, l1, l2, l3, ⟨v0, vk0, vm0, vb0, vt0⟩, ⟨v1, vk1, vm1, vb1, vt1⟩, ⟨v2, vk2, vm2, vb2, vt2⟩, er0, er1, er2, er3, er4, er5⟩ := I
  obtain ⟨x, kx⟩ := lw_elem (i := p + 1) gC k0 (by omega) (by omega)
  have c46 : hp_C cst m_strs (46) := ⟨gC, lw_strs, fun d _ => hY d⟩
  have c47 : hp_C cst m_strs (47) := ⟨gC, lw_strs, fun d _ => hY d⟩
  have c48 : hp_C cst m_strs (48) := ⟨gC, lw_strs, fun d _ => hY d⟩
  have c49 : hp_C cst m_strs (49) := ⟨gC, lw_strs, fun d _ => hY d⟩
  refine rq_words0 gC hY hy n p x.toInt n0 n1 p0 (by omega) x.le_toInt x.toInt_le (by omega) k0 kx l0 l1 l2 l3 (fun l1' h1 a0 e0 u1 f1 g0 g1 g2 g3 => ?_)
  have T0 : tp_H cst h1 h1 := tp_mv er0 hy u1 hy u1 f1 f1 rfl rfl
  obtain ⟨nN, vN⟩ : ∃ nN : Nat, v0 = (nN : Int) := ⟨v0.toNat, by omega⟩
  have cc : ∀ d, hp_C cst m_strs d := fun d => ⟨gC, lw_strs, fun d' _ => hY d'⟩
  obtain ⟨q1, hrun, aC, s1', s2', s3', shy, sfr, sP⟩ := go_m (wq_run (D := 48) (xm := a0) (N := nN) (s := s) cc (by decide) u1 (by omega) (by rw [← vN]; exact f1 _ _ _ rfl vk0) s0 s1 (f1 _ _ _ rfl k3) (by have := zr_len (f1 _ _ _ rfl k2); omega) (fun j j0 j1 => f1 _ _ _ rfl (mo_of er3 k3 j j0 j1)) (zr_c u1 (f1 _ _ _ rfl (by rw [← et]; exact k2)))) (fun _ a => go_wq a)
  refine lw_call (pc := 1161) (tg := 138) (na := 2) (c := 0) (ci := 0) (st0 := [.int a0, .ref 16]) (st := []) (av := [.int a0]) (by decide +kernel) u1 rfl rfl rfl (Nat.le_of_ble_eq_true rfl) hrun s2' s3' ?_
  rw [s1']
  have fa : ∀ rg i v, ly_has rg gwq_mods = false → ly_hv cst h rg i = some v → ly_hv cst q1.2.1 rg i = some v := fun rg i v ha e => sfr _ _ _ ha (f1 _ _ _ rfl e)
  refine rq_words1 gC hY shy n p x.toInt aC.toInt aC rfl n0 n1 p0 (by omega) x.le_toInt x.toInt_le aC.le_toInt aC.toInt_le (by omega) (fa _ _ _ rfl k0) (fa _ _ _ rfl kx) g0 g1 g2 g3 (fun l2' h2 b0 d0 u2 f2 o0 o1 o2 o3 => ?_)
  have fb : ∀ rg i v, ly_has rg gwq_mods = false → ly_hv cst h rg i = some v → ly_hv cst h2 rg i = some v := fun rg i v ha e => f2 _ _ _ rfl (fa _ _ _ ha e)
  have T1 : tp_H cst h1 h2 := tp_mv (mc := []) (mm := gwq_mods) T0 u1 u1 u1 u2 (ly_fr_rf h1) (fun rg i v ha e => f2 _ _ _ rfl (sfr rg i v ha e)) rfl rfl
  have Z0 : zr_J cst h1 h2 s := zr_Jmv (mc := []) (mm := gwq_mods) (zr_of er4 k3) f1 fb rfl rfl
  have W0 : wf_J cst h1 h2 s := wf_Jmv (mc := []) (mm := gwq_mods) (wf_of er5 k3) f1 fb rfl rfl
  obtain ⟨sF, sz, tT, enT, kdT, plT, vlT, TT, sA⟩ := sP
  obtain ⟨q2, hrun2, aR, w1', w2', w3', why, wfr, wP⟩ := go_m (wo_run (D := 49) (f := gt_g cst h1 512) (n := (nN : Int)) (xm := b0) (s := s) cc (by decide) u2 TT (by omega) (by omega) (fun x x0 x1 => gs_even T1 u2 x0 (by omega)) (by rw [← vN]; exact fb _ _ _ rfl vm0) s0 s1 (fb _ _ _ rfl (mt_of er2 k3)) (zr_m u2 s1)) (fun _ a => go_wo a)
  refine lw_call (pc := 1171) (tg := 337) (na := 2) (c := 78) (ci := 12) (st0 := [.int b0, .ref 94]) (st := []) (av := [.int b0]) (by decide +kernel) u2 rfl rfl rfl (Nat.le_of_ble_eq_true rfl) hrun2 w2' w3' ?_
  rw [w1']
  obtain ⟨wF, wz, wA⟩ := wP
  rw [e0] at sF sA
  rw [d0] at wF wA
  obtain ⟨ab, W3⟩ := wf_words Z0 W0 s0 s1 sF sA wF wA
  have both : aR.toInt = aC.toInt := ab.symm
  refine rq_words2 gC hY why n p aR.toInt aR rfl n0 n1 p0 (by omega) aR.le_toInt aR.toInt_le (by omega) o0 o1 o2 o3 (fun l3' h3 u3 f3 i0 i1 i2 i3 => ?_)
  have fc : ly_fr cst gwo_mods q1.2.1 h3 := fun rg i v hb e => f3 _ _ _ rfl (wfr _ _ _ hb (f2 _ _ _ rfl e))
  have tt : ∀ rg i v, ly_has rg gwq_mods = false → ly_has rg gwo_mods = false → ly_hv cst h rg i = some v → ly_hv cst h3 rg i = some v := fun rg i v ha hb e => fc _ _ _ hb (fa _ _ _ ha e)
  exact k h3 l3' 0 0 (by omega) (by omega) ⟨u3, tt _ _ _ rfl rfl k0, n0, n1, by omega, by omega, ⟨t, s, tt _ _ _ rfl rfl k2, tt _ _ _ rfl rfl k3, et, s0, s1⟩, ⟨r, tt _ _ _ rfl rfl kr, r0, by omega⟩, tt _ _ _ rfl rfl k4, tt _ _ _ rfl rfl k5, i0, i1, i2, i3, ⟨0, fc _ _ _ rfl sz, f3 _ _ _ rfl wz, by omega, by omega⟩, ⟨v1, tt _ _ _ rfl rfl vk1, tt _ _ _ rfl rfl vm1, vb1, vt1⟩, ⟨v2, tt _ _ _ rfl rfl vk2, tt _ _ _ rfl rfl vm2, vb2, vt2⟩, tp_mv (tp_mv (mc := gwq_mods) (mm := gwq_mods) er0 hy shy hy shy fa fa rfl rfl) shy u3 shy u3 fc fc rfl rfl, LW_mv (p' := p + 7) (LW_mv (p' := p + 7) (ms := gwq_mods) er1 fa rfl rfl vk0 sz (by omega) (by omega)) fc rfl rfl sz (fc _ _ _ rfl sz) (by omega) (by omega), mt_mv (mt_mv (ms := gwq_mods) er2 fa rfl rfl) fc rfl rfl, mo_mv (mo_mv (ms := gwq_mods) er3 fa rfl rfl) fc rfl rfl, zr_mv (zr_mv (mc := gwq_mods) (mm := gwq_mods) er4 fa fa rfl rfl rfl) fc fc rfl rfl rfl, wf_mv ⟨s, fa _ _ _ rfl k3, W3⟩ fc f3 rfl rfl rfl⟩
theorem rq_allege0_k : lw_chk ly_Y 1178 3 [(0, 0, 3584), (1, 0, 3584), (2, (-2147483648), 2147483647)] [((-7), [(0, 1), (1, (-1))])] [(0, .inr (.inr (.inl (some 4)))), (1, .inr (.inr (.inl (some 16)))), (2, .inr (.inr (.inl (some 94)))), (3, .inl (0, [(1, 1)]))] [] [(60000, (0, []), (0, [(0, 1)])), (60001, (1, [(1, 1)]), (0, [(2, 1)]))] [] [(1184, ([], 3, [(0, 0, 3584), (1, 0, 3584), (2, (-2147483648), 2147483647)], [], [(0, .inr (.inr (.inl (some 4)))), (1, .inr (.inr (.inl (some 16)))), (2, .inr (.inr (.inl (some 94)))), (3, .inl (0, [(1, 1)]))], [.inl (0, [(2, 1)]), .inr (.inr (.inl (some 16)))], []))] [] 0 0 = true := by decide +kernel
theorem rq_allege0 {cst : am_K} {Φ : am_Q → Prop} {h : am_H} {l : am_L} (gC : ly_gC sx_KK cst) (hY : ∀ d, ly_Yok cst m_cl m_tt m_P m_strs ly_TH ly_Y d) (hy : ly_hy m_tt ly_TH h) (n p x : Int) (b0 : 0 ≤ n) (t0 : n ≤ 3584) (b1 : 0 ≤ p) (t1 : p ≤ 3584) (b2 : (-2147483648) ≤ x) (t2 : x ≤ 2147483647) (f0 : 0 ≤ (n - p - 7)) (k0 : ly_hv cst h 60000 0 = some (n)) (k1 : ly_hv cst h 60001 (p + 1) = some (x)) (l0 : hp_a l 0 4) (l1 : hp_a l 1 16) (l2 : hp_a l 2 94) (l3 : hp_i l 3 (p)) (e0 : ∀ (l' : am_L) (h' : am_H) (y0 : Int32), y0.toInt = (x) → ly_hy m_tt ly_TH h' → ly_fr cst [] h h' → hp_a l' 0 4 → hp_a l' 1 16 → hp_a l' 2 94 → hp_i l' 3 (p) → lw_F cst Φ 1184 l' [.int y0, .ref 16] h' 0 0) : lw_F cst Φ 1178 l [] h 0 0 := by
  refine lw_arc gC hY rq_allege0_k [n, p, x] rfl hy (hp_Bc (z := n) rfl b0 t0 (hp_Bc (z := p) rfl b1 t1 (hp_Bc (z := x) rfl b2 t2 hp_Bn))) (hp_Fc (z := ((-7) + (1 * n + ((-1) * p + 0)))) rfl (by omega) hp_Fn) (hp_Kc (zi := (0 + 0)) (zv := (0 + (1 * n + 0))) k0 rfl rfl (by omega) (by omega) (hp_Kc (zi := (1 + (1 * p + 0))) (zv := (0 + (1 * x + 0))) k1 rfl rfl (by omega) (by omega) hp_Kn)) (hp_La l0 (hp_La l1 (hp_La l2 (hp_Li (z := (0 + (1 * p + 0))) l3 rfl (by omega) hp_Ln)))) trivial ?_ ?_
  · intro q hp ys l' st' h' ca sa ha hs hys a1 hfr gZ gL gS
    have ea : ca = 0 := Nat.le_zero.mp ha
    have eb : sa = 0 := Nat.le_zero.mp hs
    subst ea
    subst eb
    rcases List.mem_cons.mp hp with rfl | hp
    · obtain rfl := hp_y0 hys
      obtain ⟨y0, t0, rfl, q0, g0⟩ := hp_gSi (z := (0 + (1 * x + 0))) gS rfl
      obtain ⟨t1, rfl, g1⟩ := hp_gSa g0 (by decide)
      cases hp_gSn g1
      exact e0 l' h' y0 (by omega) a1 hfr (hp_gLa gL (List.mem_of_getElem? (i := 0) rfl) (by decide)) (hp_gLa gL (List.mem_of_getElem? (i := 1) rfl) (by decide)) (hp_gLa gL (List.mem_of_getElem? (i := 2) rfl) (by decide)) (hp_gLi (z := (0 + (1 * p + 0))) gL (List.mem_of_getElem? (i := 3) rfl) rfl (by omega))
    cases hp
  · intro q hq ys v h' hys gS
    cases hq
theorem rq_allege1_k : lw_chk ly_Y 1187 4 [(0, 0, 3584), (1, 0, 3584), (2, (-2147483648), 2147483647), (3, (-2147483648), 2147483647)] [((-7), [(0, 1), (1, (-1))])] [(0, .inr (.inr (.inl (some 4)))), (1, .inr (.inr (.inl (some 16)))), (2, .inr (.inr (.inl (some 94)))), (3, .inl (0, [(1, 1)]))] [.inl (0, [(3, 1)])] [(60000, (0, []), (0, [(0, 1)])), (60001, (1, [(1, 1)]), (0, [(2, 1)]))] [] [(1193, ([], 4, [(0, 0, 3584), (1, 0, 3584), (2, (-2147483648), 2147483647), (3, (-2147483648), 2147483647)], [], [(0, .inr (.inr (.inl (some 4)))), (1, .inr (.inr (.inl (some 16)))), (2, .inr (.inr (.inl (some 94)))), (3, .inl (0, [(1, 1)]))], [.inl (0, [(2, 1)]), .inr (.inr (.inl (some 94))), .inl (0, [(3, 1)])], []))] [] 0 0 = true := by decide +kernel
theorem rq_allege1 {cst : am_K} {Φ : am_Q → Prop} {h : am_H} {l : am_L} (gC : ly_gC sx_KK cst) (hY : ∀ d, ly_Yok cst m_cl m_tt m_P m_strs ly_TH ly_Y d) (hy : ly_hy m_tt ly_TH h) (n p x a : Int) (x0 : Int32) (hx0 : x0.toInt = (a)) (b0 : 0 ≤ n) (t0 : n ≤ 3584) (b1 : 0 ≤ p) (t1 : p ≤ 3584) (b2 : (-2147483648) ≤ x) (t2 : x ≤ 2147483647) (b3 : (-2147483648) ≤ a) (t3 : a ≤ 2147483647) (f0 : 0 ≤ (n - p - 7)) (k0 : ly_hv cst h 60000 0 = some (n)) (k1 : ly_hv cst h 60001 (p + 1) = some (x)) (l0 : hp_a l 0 4) (l1 : hp_a l 1 16) (l2 : hp_a l 2 94) (l3 : hp_i l 3 (p)) (e0 : ∀ (l' : am_L) (h' : am_H) (y0 : Int32) (y2 : Int32), y0.toInt = (x) → y2.toInt = (a) → ly_hy m_tt ly_TH h' → ly_fr cst [] h h' → hp_a l' 0 4 → hp_a l' 1 16 → hp_a l' 2 94 → hp_i l' 3 (p) → lw_F cst Φ 1193 l' [.int y0, .ref 94, .int y2] h' 0 0) : lw_F cst Φ 1187 l [.int x0] h 0 0 := by
  refine lw_arc gC hY rq_allege1_k [n, p, x, a] rfl hy (hp_Bc (z := n) rfl b0 t0 (hp_Bc (z := p) rfl b1 t1 (hp_Bc (z := x) rfl b2 t2 (hp_Bc (z := a) rfl b3 t3 hp_Bn)))) (hp_Fc (z := ((-7) + (1 * n + ((-1) * p + 0)))) rfl (by omega) hp_Fn) (hp_Kc (zi := (0 + 0)) (zv := (0 + (1 * n + 0))) k0 rfl rfl (by omega) (by omega) (hp_Kc (zi := (1 + (1 * p + 0))) (zv := (0 + (1 * x + 0))) k1 rfl rfl (by omega) (by omega) hp_Kn)) (hp_La l0 (hp_La l1 (hp_La l2 (hp_Li (z := (0 + (1 * p + 0))) l3 rfl (by omega) hp_Ln)))) (hp_Si (z := (0 + (1 * a + 0))) rfl (by omega) trivial) ?_ ?_
  · intro q hp ys l' st' h' ca sa ha hs hys a1 hfr gZ gL gS
    have ea : ca = 0 := Nat.le_zero.mp ha
    have eb : sa = 0 := Nat.le_zero.mp hs
    subst ea
    subst eb
    rcases List.mem_cons.mp hp with rfl | hp
    · obtain rfl := hp_y0 hys
      obtain ⟨y0, t0, rfl, q0, g0⟩ := hp_gSi (z := (0 + (1 * x + 0))) gS rfl
      obtain ⟨t1, rfl, g1⟩ := hp_gSa g0 (by decide)
      obtain ⟨y2, t2, rfl, q2, g2⟩ := hp_gSi (z := (0 + (1 * a + 0))) g1 rfl
      cases hp_gSn g2
      exact e0 l' h' y0 y2 (by omega) (by omega) a1 hfr (hp_gLa gL (List.mem_of_getElem? (i := 0) rfl) (by decide)) (hp_gLa gL (List.mem_of_getElem? (i := 1) rfl) (by decide)) (hp_gLa gL (List.mem_of_getElem? (i := 2) rfl) (by decide)) (hp_gLi (z := (0 + (1 * p + 0))) gL (List.mem_of_getElem? (i := 3) rfl) rfl (by omega))
    cases hp
  · intro q hq ys v h' hys gS
    cases hq
theorem rq_allege2_k : lw_chk ly_Y 1196 3 [(0, 0, 3584), (1, 0, 3584), (2, (-2147483648), 2147483647)] [((-7), [(0, 1), (1, (-1))])] [(0, .inr (.inr (.inl (some 4)))), (1, .inr (.inr (.inl (some 16)))), (2, .inr (.inr (.inl (some 94)))), (3, .inl (0, [(1, 1)]))] [.inl (0, [(2, 1)]), .inl (0, [(2, 1)])] [] [] [(18, ([], 3, [(0, 0, 3584), (1, 0, 3584), (2, (-2147483648), 2147483647)], [], [(0, .inr (.inr (.inl (some 4)))), (1, .inr (.inr (.inl (some 16)))), (2, .inr (.inr (.inl (some 94)))), (3, .inl (7, [(1, 1)]))], [], []))] [] 0 0 = true := by decide +kernel
theorem rq_allege2 {cst : am_K} {Φ : am_Q → Prop} {h : am_H} {l : am_L} (gC : ly_gC sx_KK cst) (hY : ∀ d, ly_Yok cst m_cl m_tt m_P m_strs ly_TH ly_Y d) (hy : ly_hy m_tt ly_TH h) (n p a : Int) (x0 : Int32) (x1 : Int32) (hx0 : x0.toInt = (a)) (hx1 : x1.toInt = (a)) (b0 : 0 ≤ n) (t0 : n ≤ 3584) (b1 : 0 ≤ p) (t1 : p ≤ 3584) (b2 : (-2147483648) ≤ a) (t2 : a ≤ 2147483647) (f0 : 0 ≤ (n - p - 7)) (l0 : hp_a l 0 4) (l1 : hp_a l 1 16) (l2 : hp_a l 2 94) (l3 : hp_i l 3 (p)) (e0 : ∀ (l' : am_L) (h' : am_H), ly_hy m_tt ly_TH h' → ly_fr cst [] h h' → hp_a l' 0 4 → hp_a l' 1 16 → hp_a l' 2 94 → hp_i l' 3 (p + 7) → lw_F cst Φ 18 l' [] h' 0 0) : lw_F cst Φ 1196 l [.int x0, .int x1] h 0 0 := by
  refine lw_arc gC hY rq_allege2_k [n, p, a] rfl hy (hp_Bc (z := n) rfl b0 t0 (hp_Bc (z := p) rfl b1 t1 (hp_Bc (z := a) rfl b2 t2 hp_Bn))) (hp_Fc (z := ((-7) + (1 * n + ((-1) * p + 0)))) rfl (by omega) hp_Fn) hp_Kn (hp_La l0 (hp_La l1 (hp_La l2 (hp_Li (z := (0 + (1 * p + 0))) l3 rfl (by omega) hp_Ln)))) (hp_Si (z := (0 + (1 * a + 0))) rfl (by omega) (hp_Si (z := (0 + (1 * a + 0))) rfl (by omega) trivial)) ?_ ?_
  · intro q hp ys l' st' h' ca sa ha hs hys a1 hfr gZ gL gS
    have ea : ca = 0 := Nat.le_zero.mp ha
    have eb : sa = 0 := Nat.le_zero.mp hs
    subst ea
    subst eb
    rcases List.mem_cons.mp hp with rfl | hp
    · obtain rfl := hp_y0 hys
      cases hp_gSn gS
      exact e0 l' h' a1 hfr (hp_gLa gL (List.mem_of_getElem? (i := 0) rfl) (by decide)) (hp_gLa gL (List.mem_of_getElem? (i := 1) rfl) (by decide)) (hp_gLa gL (List.mem_of_getElem? (i := 2) rfl) (by decide)) (hp_gLi (z := (7 + (1 * p + 0))) gL (List.mem_of_getElem? (i := 3) rfl) rfl (by omega))
    cases hp
  · intro q hq ys v h' hys gS
    cases hq
theorem lc_allege {cst : am_K} {Φ : am_Q → Prop} (gC : ly_gC sx_KK cst) (hY : ∀ d, ly_Yok cst m_cl m_tt m_P m_strs ly_TH ly_Y d) {n p : Int} {h : am_H} {l : am_L} (I : lw_I cst n p h l) (hp7 : p + 7 ≤ n)
    (k : ∀ (h' : am_H) (l' : am_L) (ca sa : Nat), ca ≤ 19 → sa ≤ 261 → lw_I cst n (p + 7) h' l' → lw_F cst Φ 18 l' [] h' ca sa) : lw_F cst Φ 1178 l [] h 0 0 := by
  obtain ⟨hy, k0, n0, n1, p0, p1, ⟨t, s, k2, k3, et, s0, s1⟩, ⟨r, kr, r0, r1⟩, k4, k5, l0, l1, l2, l3, ⟨v0, vk0, vm0, vb0, vt0⟩, ⟨v1, vk1, vm1, vb1, vt1⟩, ⟨v2, vk2, vm2, vb2, vt2⟩, er0, er1, er2, er3, er4, er5⟩ := I
  obtain ⟨x, kx⟩ := lw_elem (i := p + 1) gC k0 (by omega) (by omega)
  have c46 : hp_C cst m_strs (46) := ⟨gC, lw_strs, fun d _ => hY d⟩
  have c47 : hp_C cst m_strs (47) := ⟨gC, lw_strs, fun d _ => hY d⟩
  have c48 : hp_C cst m_strs (48) := ⟨gC, lw_strs, fun d _ => hY d⟩
  have c49 : hp_C cst m_strs (49) := ⟨gC, lw_strs, fun d _ => hY d⟩
  refine rq_allege0 gC hY hy n p x.toInt n0 n1 p0 (by omega) x.le_toInt x.toInt_le (by omega) k0 kx l0 l1 l2 l3 (fun l1' h1 a0 e0 u1 f1 g0 g1 g2 g3 => ?_)
  have T0 : tp_H cst h1 h1 := tp_mv er0 hy u1 hy u1 f1 f1 rfl rfl
  obtain ⟨nN, vN⟩ : ∃ nN : Nat, v0 = (nN : Int) := ⟨v0.toNat, by omega⟩
  have cc : ∀ d, hp_C cst m_strs d := fun d => ⟨gC, lw_strs, fun d' _ => hY d'⟩
  obtain ⟨q1, hrun, aC, s1', s2', s3', shy, sfr, sP⟩ := go_m (aq_run (D := 48) (xm := a0) (N := nN) (s := s) cc (by decide) u1 (by omega) (by rw [← vN]; exact f1 _ _ _ rfl vk0) s0 s1 (f1 _ _ _ rfl k3) (fun j j0 j1 => f1 _ _ _ rfl (mo_of er3 k3 j j0 j1)) (zr_c u1 (f1 _ _ _ rfl (by rw [← et]; exact k2)))) (fun _ a => go_aq a)
  refine lw_call (pc := 1184) (tg := 141) (na := 2) (c := 0) (ci := 0) (st0 := [.int a0, .ref 16]) (st := []) (av := [.int a0]) (by decide +kernel) u1 rfl rfl rfl (Nat.le_of_ble_eq_true rfl) hrun s2' s3' ?_
  rw [s1']
  have fa : ∀ rg i v, ly_has rg gaq_mods = false → ly_hv cst h rg i = some v → ly_hv cst q1.2.1 rg i = some v := fun rg i v ha e => sfr _ _ _ ha (f1 _ _ _ rfl e)
  refine rq_allege1 gC hY shy n p x.toInt aC.toInt aC rfl n0 n1 p0 (by omega) x.le_toInt x.toInt_le aC.le_toInt aC.toInt_le (by omega) (fa _ _ _ rfl k0) (fa _ _ _ rfl kx) g0 g1 g2 g3 (fun l2' h2 b0 b9 d0 d9 u2 f2 o0 o1 o2 o3 => ?_)
  have fb : ∀ rg i v, ly_has rg gaq_mods = false → ly_hv cst h rg i = some v → ly_hv cst h2 rg i = some v := fun rg i v ha e => f2 _ _ _ rfl (fa _ _ _ ha e)
  have T1 : tp_H cst h1 h2 := tp_mv (mc := []) (mm := gaq_mods) T0 u1 u1 u1 u2 (ly_fr_rf h1) (fun rg i v ha e => f2 _ _ _ rfl (sfr rg i v ha e)) rfl rfl
  have Z0 : zr_J cst h1 h2 s := zr_Jmv (mc := []) (mm := gaq_mods) (zr_of er4 k3) f1 fb rfl rfl
  have W0 : wf_J cst h1 h2 s := wf_Jmv (mc := []) (mm := gaq_mods) (wf_of er5 k3) f1 fb rfl rfl
  obtain ⟨sF, sz, tT, enT, kdT, plT, vlT, TT, sA⟩ := sP
  obtain ⟨q2, hrun2, aR, w1', w2', w3', why, wfr, wP⟩ := go_m (ar_run (D := 49) (f := gt_g cst h1 512) (n := (nN : Int)) (xm := b0) (s := s) cc (by decide) u2 TT (by omega) (by omega) (fun x x0 x1 => gs_even T1 u2 x0 (by omega)) (by rw [← vN]; exact fb _ _ _ rfl vm0) s0 s1 (fb _ _ _ rfl (mt_of er2 k3)) (zr_m u2 s1)) (fun _ a => go_ar a)
  refine lw_call (pc := 1193) (tg := 340) (na := 2) (c := 78) (ci := 12) (st0 := [.int b0, .ref 94]) (st := [.int b9]) (av := [.int b0]) (by decide +kernel) u2 rfl rfl rfl (Nat.le_of_ble_eq_true rfl) hrun2 w2' w3' ?_
  rw [w1']
  obtain ⟨wF, wz, wA⟩ := wP
  rw [e0] at sF sA
  rw [d0] at wF wA
  obtain ⟨ab, W3⟩ := wf_alle Z0 W0 s0 s1 sF sA wF wA
  have both : aR.toInt = aC.toInt := ab.symm
  refine rq_allege2 gC hY why n p aC.toInt aR b9 both d9 n0 n1 p0 (by omega) aC.le_toInt aC.toInt_le (by omega) o0 o1 o2 o3 (fun l3' h3 u3 f3 i0 i1 i2 i3 => ?_)
  have fc : ly_fr cst gar_mods q1.2.1 h3 := fun rg i v hb e => f3 _ _ _ rfl (wfr _ _ _ hb (f2 _ _ _ rfl e))
  have tt : ∀ rg i v, ly_has rg gaq_mods = false → ly_has rg gar_mods = false → ly_hv cst h rg i = some v → ly_hv cst h3 rg i = some v := fun rg i v ha hb e => fc _ _ _ hb (fa _ _ _ ha e)
  exact k h3 l3' 0 0 (by omega) (by omega) ⟨u3, tt _ _ _ rfl rfl k0, n0, n1, by omega, by omega, ⟨t, s, tt _ _ _ rfl rfl k2, tt _ _ _ rfl rfl k3, et, s0, s1⟩, ⟨r, tt _ _ _ rfl rfl kr, r0, by omega⟩, tt _ _ _ rfl rfl k4, tt _ _ _ rfl rfl k5, i0, i1, i2, i3, ⟨0, fc _ _ _ rfl sz, f3 _ _ _ rfl wz, by omega, by omega⟩, ⟨v1, tt _ _ _ rfl rfl vk1, tt _ _ _ rfl rfl vm1, vb1, vt1⟩, ⟨v2, tt _ _ _ rfl rfl vk2, tt _ _ _ rfl rfl vm2, vb2, vt2⟩, tp_mv (tp_mv (mc := gaq_mods) (mm := gaq_mods) er0 hy shy hy shy fa fa rfl rfl) shy u3 shy u3 fc fc rfl rfl, LW_mv (p' := p + 7) (LW_mv (p' := p + 7) (ms := gaq_mods) er1 fa rfl rfl vk0 sz (by omega) (by omega)) fc rfl rfl sz (fc _ _ _ rfl sz) (by omega) (by omega), mt_mv (mt_mv (ms := gaq_mods) er2 fa rfl rfl) fc rfl rfl, mo_mv (mo_mv (ms := gaq_mods) er3 fa rfl rfl) fc rfl rfl, zr_mv (zr_mv (mc := gaq_mods) (mm := gaq_mods) er4 fa fa rfl rfl rfl) fc fc rfl rfl rfl, wf_mv ⟨s, fa _ _ _ rfl k3, W3⟩ fc f3 rfl rfl rfl⟩
theorem rq_mend0_k : lw_chk ly_Y 1224 3 [(0, 0, 3584), (1, 0, 3584), (2, (-2147483648), 2147483647)] [((-7), [(0, 1), (1, (-1))])] [(0, .inr (.inr (.inl (some 4)))), (1, .inr (.inr (.inl (some 16)))), (2, .inr (.inr (.inl (some 94)))), (3, .inl (0, [(1, 1)]))] [] [(60000, (0, []), (0, [(0, 1)])), (60001, (1, [(1, 1)]), (0, [(2, 1)]))] [] [(1230, ([], 3, [(0, 0, 3584), (1, 0, 3584), (2, (-2147483648), 2147483647)], [], [(0, .inr (.inr (.inl (some 4)))), (1, .inr (.inr (.inl (some 16)))), (2, .inr (.inr (.inl (some 94)))), (3, .inl (0, [(1, 1)]))], [.inl (0, [(2, 1)]), .inr (.inr (.inl (some 16)))], []))] [] 0 0 = true := by decide +kernel
theorem rq_mend0 {cst : am_K} {Φ : am_Q → Prop} {h : am_H} {l : am_L} (gC : ly_gC sx_KK cst) (hY : ∀ d, ly_Yok cst m_cl m_tt m_P m_strs ly_TH ly_Y d) (hy : ly_hy m_tt ly_TH h) (n p x : Int) (b0 : 0 ≤ n) (t0 : n ≤ 3584) (b1 : 0 ≤ p) (t1 : p ≤ 3584) (b2 : (-2147483648) ≤ x) (t2 : x ≤ 2147483647) (f0 : 0 ≤ (n - p - 7)) (k0 : ly_hv cst h 60000 0 = some (n)) (k1 : ly_hv cst h 60001 (p + 1) = some (x)) (l0 : hp_a l 0 4) (l1 : hp_a l 1 16) (l2 : hp_a l 2 94) (l3 : hp_i l 3 (p)) (e0 : ∀ (l' : am_L) (h' : am_H) (y0 : Int32), y0.toInt = (x) → ly_hy m_tt ly_TH h' → ly_fr cst [] h h' → hp_a l' 0 4 → hp_a l' 1 16 → hp_a l' 2 94 → hp_i l' 3 (p) → lw_F cst Φ 1230 l' [.int y0, .ref 16] h' 0 0) : lw_F cst Φ 1224 l [] h 0 0 := by
  refine lw_arc gC hY rq_mend0_k [n, p, x] rfl hy (hp_Bc (z := n) rfl b0 t0 (hp_Bc (z := p) rfl b1 t1 (hp_Bc (z := x) rfl b2 t2 hp_Bn))) (hp_Fc (z := ((-7) + (1 * n + ((-1) * p + 0)))) rfl (by omega) hp_Fn) (hp_Kc (zi := (0 + 0)) (zv := (0 + (1 * n + 0))) k0 rfl rfl (by omega) (by omega) (hp_Kc (zi := (1 + (1 * p + 0))) (zv := (0 + (1 * x + 0))) k1 rfl rfl (by omega) (by omega) hp_Kn)) (hp_La l0 (hp_La l1 (hp_La l2 (hp_Li (z := (0 + (1 * p + 0))) l3 rfl (by omega) hp_Ln)))) trivial ?_ ?_
  · intro q hp ys l' st' h' ca sa ha hs hys a1 hfr gZ gL gS
    have ea : ca = 0 := Nat.le_zero.mp ha
    have eb : sa = 0 := Nat.le_zero.mp hs
    subst ea
    subst eb
    rcases List.mem_cons.mp hp with rfl | hp
    · obtain rfl := hp_y0 hys
      obtain ⟨y0, t0, rfl, q0, g0⟩ := hp_gSi (z := (0 + (1 * x + 0))) gS rfl
      obtain ⟨t1, rfl, g1⟩ := hp_gSa g0 (by decide)
      cases hp_gSn g1
      exact e0 l' h' y0 (by omega) a1 hfr (hp_gLa gL (List.mem_of_getElem? (i := 0) rfl) (by decide)) (hp_gLa gL (List.mem_of_getElem? (i := 1) rfl) (by decide)) (hp_gLa gL (List.mem_of_getElem? (i := 2) rfl) (by decide)) (hp_gLi (z := (0 + (1 * p + 0))) gL (List.mem_of_getElem? (i := 3) rfl) rfl (by omega))
    cases hp
  · intro q hq ys v h' hys gS
    cases hq
theorem rq_mend1_k : lw_chk ly_Y 1233 4 [(0, 0, 3584), (1, 0, 3584), (2, (-2147483648), 2147483647), (3, (-2147483648), 2147483647)] [((-7), [(0, 1), (1, (-1))])] [(0, .inr (.inr (.inl (some 4)))), (1, .inr (.inr (.inl (some 16)))), (2, .inr (.inr (.inl (some 94)))), (3, .inl (0, [(1, 1)]))] [.inl (0, [(3, 1)])] [(60000, (0, []), (0, [(0, 1)])), (60001, (1, [(1, 1)]), (0, [(2, 1)]))] [] [(1240, ([], 4, [(0, 0, 3584), (1, 0, 3584), (2, (-2147483648), 2147483647), (3, (-2147483648), 2147483647)], [], [(0, .inr (.inr (.inl (some 4)))), (1, .inr (.inr (.inl (some 16)))), (2, .inr (.inr (.inl (some 94)))), (3, .inl (0, [(1, 1)]))], [.inl (0, [(2, 1)]), .inr (.inr (.inl (some 94)))], []))] [] 0 0 = true := by decide +kernel
theorem rq_mend1 {cst : am_K} {Φ : am_Q → Prop} {h : am_H} {l : am_L} (gC : ly_gC sx_KK cst) (hY : ∀ d, ly_Yok cst m_cl m_tt m_P m_strs ly_TH ly_Y d) (hy : ly_hy m_tt ly_TH h) (n p x a : Int) (x0 : Int32) (hx0 : x0.toInt = (a)) (b0 : 0 ≤ n) (t0 : n ≤ 3584) (b1 : 0 ≤ p) (t1 : p ≤ 3584) (b2 : (-2147483648) ≤ x) (t2 : x ≤ 2147483647) (b3 : (-2147483648) ≤ a) (t3 : a ≤ 2147483647) (f0 : 0 ≤ (n - p - 7)) (k0 : ly_hv cst h 60000 0 = some (n)) (k1 : ly_hv cst h 60001 (p + 1) = some (x)) (l0 : hp_a l 0 4) (l1 : hp_a l 1 16) (l2 : hp_a l 2 94) (l3 : hp_i l 3 (p)) (e0 : ∀ (l' : am_L) (h' : am_H) (y0 : Int32), y0.toInt = (x) → ly_hy m_tt ly_TH h' → ly_fr cst [] h h' → hp_a l' 0 4 → hp_a l' 1 16 → hp_a l' 2 94 → hp_i l' 3 (p) → lw_F cst Φ 1240 l' [.int y0, .ref 94] h' 0 0) : lw_F cst Φ 1233 l [.int x0] h 0 0 := by
  refine lw_arc gC hY rq_mend1_k [n, p, x, a] rfl hy (hp_Bc (z := n) rfl b0 t0 (hp_Bc (z := p) rfl b1 t1 (hp_Bc (z := x) rfl b2 t2 (hp_Bc (z := a) rfl b3 t3 hp_Bn)))) (hp_Fc (z := ((-7) + (1 * n + ((-1) * p + 0)))) rfl (by omega) hp_Fn) (hp_Kc (zi := (0 + 0)) (zv := (0 + (1 * n + 0))) k0 rfl rfl (by omega) (by omega) (hp_Kc (zi := (1 + (1 * p + 0))) (zv := (0 + (1 * x + 0))) k1 rfl rfl (by omega) (by omega) hp_Kn)) (hp_La l0 (hp_La l1 (hp_La l2 (hp_Li (z := (0 + (1 * p + 0))) l3 rfl (by omega) hp_Ln)))) (hp_Si (z := (0 + (1 * a + 0))) rfl (by omega) trivial) ?_ ?_
  · intro q hp ys l' st' h' ca sa ha hs hys a1 hfr gZ gL gS
    have ea : ca = 0 := Nat.le_zero.mp ha
    have eb : sa = 0 := Nat.le_zero.mp hs
    subst ea
    subst eb
    rcases List.mem_cons.mp hp with rfl | hp
    · obtain rfl := hp_y0 hys
      obtain ⟨y0, t0, rfl, q0, g0⟩ := hp_gSi (z := (0 + (1 * x + 0))) gS rfl
      obtain ⟨t1, rfl, g1⟩ := hp_gSa g0 (by decide)
      cases hp_gSn g1
      exact e0 l' h' y0 (by omega) a1 hfr (hp_gLa gL (List.mem_of_getElem? (i := 0) rfl) (by decide)) (hp_gLa gL (List.mem_of_getElem? (i := 1) rfl) (by decide)) (hp_gLa gL (List.mem_of_getElem? (i := 2) rfl) (by decide)) (hp_gLi (z := (0 + (1 * p + 0))) gL (List.mem_of_getElem? (i := 3) rfl) rfl (by omega))
    cases hp
  · intro q hq ys v h' hys gS
    cases hq
theorem rq_mend2_k : lw_chk ly_Y 1243 3 [(0, 0, 3584), (1, 0, 3584), (2, (-2147483648), 2147483647)] [((-7), [(0, 1), (1, (-1))])] [(0, .inr (.inr (.inl (some 4)))), (1, .inr (.inr (.inl (some 16)))), (2, .inr (.inr (.inl (some 94)))), (3, .inl (0, [(1, 1)]))] [.inl (0, [(2, 1)])] [] [] [(18, ([], 3, [(0, 0, 3584), (1, 0, 3584), (2, (-2147483648), 2147483647)], [], [(0, .inr (.inr (.inl (some 4)))), (1, .inr (.inr (.inl (some 16)))), (2, .inr (.inr (.inl (some 94)))), (3, .inl (7, [(1, 1)]))], [], []))] [] 0 0 = true := by decide +kernel
theorem rq_mend2 {cst : am_K} {Φ : am_Q → Prop} {h : am_H} {l : am_L} (gC : ly_gC sx_KK cst) (hY : ∀ d, ly_Yok cst m_cl m_tt m_P m_strs ly_TH ly_Y d) (hy : ly_hy m_tt ly_TH h) (n p a : Int) (x0 : Int32) (hx0 : x0.toInt = (a)) (b0 : 0 ≤ n) (t0 : n ≤ 3584) (b1 : 0 ≤ p) (t1 : p ≤ 3584) (b2 : (-2147483648) ≤ a) (t2 : a ≤ 2147483647) (f0 : 0 ≤ (n - p - 7)) (l0 : hp_a l 0 4) (l1 : hp_a l 1 16) (l2 : hp_a l 2 94) (l3 : hp_i l 3 (p)) (e0 : ∀ (l' : am_L) (h' : am_H), ly_hy m_tt ly_TH h' → ly_fr cst [] h h' → hp_a l' 0 4 → hp_a l' 1 16 → hp_a l' 2 94 → hp_i l' 3 (p + 7) → lw_F cst Φ 18 l' [] h' 0 0) : lw_F cst Φ 1243 l [.int x0] h 0 0 := by
  refine lw_arc gC hY rq_mend2_k [n, p, a] rfl hy (hp_Bc (z := n) rfl b0 t0 (hp_Bc (z := p) rfl b1 t1 (hp_Bc (z := a) rfl b2 t2 hp_Bn))) (hp_Fc (z := ((-7) + (1 * n + ((-1) * p + 0)))) rfl (by omega) hp_Fn) hp_Kn (hp_La l0 (hp_La l1 (hp_La l2 (hp_Li (z := (0 + (1 * p + 0))) l3 rfl (by omega) hp_Ln)))) (hp_Si (z := (0 + (1 * a + 0))) rfl (by omega) trivial) ?_ ?_
  · intro q hp ys l' st' h' ca sa ha hs hys a1 hfr gZ gL gS
    have ea : ca = 0 := Nat.le_zero.mp ha
    have eb : sa = 0 := Nat.le_zero.mp hs
    subst ea
    subst eb
    rcases List.mem_cons.mp hp with rfl | hp
    · obtain rfl := hp_y0 hys
      cases hp_gSn gS
      exact e0 l' h' a1 hfr (hp_gLa gL (List.mem_of_getElem? (i := 0) rfl) (by decide)) (hp_gLa gL (List.mem_of_getElem? (i := 1) rfl) (by decide)) (hp_gLa gL (List.mem_of_getElem? (i := 2) rfl) (by decide)) (hp_gLi (z := (7 + (1 * p + 0))) gL (List.mem_of_getElem? (i := 3) rfl) rfl (by omega))
    cases hp
  · intro q hq ys v h' hys gS
    cases hq
theorem lc_mend {cst : am_K} {Φ : am_Q → Prop} (gC : ly_gC sx_KK cst) (hY : ∀ d, ly_Yok cst m_cl m_tt m_P m_strs ly_TH ly_Y d) {n p : Int} {h : am_H} {l : am_L} (I : lw_I cst n p h l) (hp7 : p + 7 ≤ n)
    (k : ∀ (h' : am_H) (l' : am_L) (ca sa : Nat), ca ≤ 19 → sa ≤ 261 → lw_I cst n (p + 7) h' l' → lw_F cst Φ 18 l' [] h' ca sa) : lw_F cst Φ 1224 l [] h 0 0 := by
  obtain ⟨hy, k0, n0, n1, p0, p1, ⟨t, s, k2, k3, et, s0, s1⟩, ⟨r, kr, r0, r1⟩, k4, k5, l0, l1, l2, l3, ⟨v0, vk0, vm0, vb0, vt0⟩, ⟨v1, vk1, vm1, vb1, vt1⟩, ⟨v2, vk2, vm2, vb2, vt2⟩, er0, er1, er2, er3, er4, er5⟩ := I
  obtain ⟨x, kx⟩ := lw_elem (i := p + 1) gC k0 (by omega) (by omega)
  have c46 : hp_C cst m_strs (46) := ⟨gC, lw_strs, fun d _ => hY d⟩
  have c47 : hp_C cst m_strs (47) := ⟨gC, lw_strs, fun d _ => hY d⟩
  have c48 : hp_C cst m_strs (48) := ⟨gC, lw_strs, fun d _ => hY d⟩
  have c49 : hp_C cst m_strs (49) := ⟨gC, lw_strs, fun d _ => hY d⟩
  refine rq_mend0 gC hY hy n p x.toInt n0 n1 p0 (by omega) x.le_toInt x.toInt_le (by omega) k0 kx l0 l1 l2 l3 (fun l1' h1 a0 e0 u1 f1 g0 g1 g2 g3 => ?_)
  have er1' := er1
  obtain ⟨X, i0, N0, x30, LCh, RAh, kN, N0', pot, wdh⟩ := er1'
  have cc : ∀ d, hp_C cst m_strs d := fun d => ⟨gC, lw_strs, fun d' _ => hY d'⟩
  have LC1 := LC_mv LCh f1 rfl
  have PX : ∀ a (ha : a < X.length), ra_l (X[a]) := fun a ha => (RAh.2 a ha).2.2.2.2.2
  have rc1 := LW_rc RAh x30
  have W1 : wf_J cst h1 h1 s := wf_Jmv (mc := []) (mm := []) (wf_of er5 k3) f1 f1 rfl rfl
  obtain ⟨rd, ry, rs, rwt, rft, rrow, rns, rvs, rB, rC, rM⟩ := wf_at W1 x.toInt
  obtain ⟨q1, hrun, aC, s1', s2', s3', shy, sfr, sP⟩ := go_m (mqx_run (D := 49) (xm := a0) (sz := s) (d := rd) (y := ry) (s := rs) (wt := rwt) (row := rrow) cc (by decide) u1 LC1 x30 (by omega) PX s0 s1 (f1 _ _ _ rfl k3) (fun j j0 j1 => f1 _ _ _ rfl (mo_of er3 k3 j j0 j1)) (zr_c u1 (f1 _ _ _ rfl (by rw [← et]; exact k2))) (fun z0 z1 => by rw [e0] at z0 z1 ⊢; exact ⟨(rC z0 z1).1, (rC z0 z1).2.1, (rC z0 z1).2.2.1, (rC z0 z1).2.2.2.1, (rC z0 z1).2.2.2.2.2.1⟩) rB.1.1 rB.1.2 rB.2.1.1 rB.2.1.2 rB.2.2.1.1 rB.2.2.1.2 rB.2.2.2.1) (fun _ a => go_mq a)
  refine lw_call (pc := 1230) (tg := 147) (na := 2) (c := 0) (ci := 0) (st0 := [.int a0, .ref 16]) (st := []) (av := [.int a0]) (by decide +kernel) u1 rfl rfl rfl (Nat.le_of_ble_eq_true rfl) hrun s2' s3' ?_
  rw [s1']
  have fa : ∀ rg i v, ly_has rg gmq_mods = false → ly_hv cst h rg i = some v → ly_hv cst q1.2.1 rg i = some v := fun rg i v ha e => sfr _ _ _ ha (f1 _ _ _ rfl e)
  refine rq_mend1 gC hY shy n p x.toInt aC.toInt aC rfl n0 n1 p0 (by omega) x.le_toInt x.toInt_le aC.le_toInt aC.toInt_le (by omega) (fa _ _ _ rfl k0) (fa _ _ _ rfl kx) g0 g1 g2 g3 (fun l2' h2 b0 d0 u2 f2 o0 o1 o2 o3 => ?_)
  have fb : ∀ rg i v, ly_has rg gmq_mods = false → ly_hv cst h rg i = some v → ly_hv cst h2 rg i = some v := fun rg i v ha e => f2 _ _ _ rfl (fa _ _ _ ha e)
  have Z0 : zr_J cst h1 h2 s := zr_Jmv (mc := []) (mm := gmq_mods) (zr_of er4 k3) f1 fb rfl rfl
  have W0 : wf_J cst h1 h2 s := wf_Jmv (mc := []) (mm := gmq_mods) (wf_of er5 k3) f1 fb rfl rfl
  have RA2 : rA cst h2 X := rA_k RAh (gk_fr (ms := gmq_mods) (fun rg i v ha e => fb rg i v ha e) rfl rfl) (fb _ _ _ rfl RAh.1)
  have rM2 : 0 ≤ x.toInt → x.toInt < s → wfM cst h2 x.toInt rd ry rs rwt rft rrow rns rvs := fun z0 z1 => wfM_k (rM z0 z1) (fun r i v w e => f2 _ _ _ rfl (sfr _ _ _ (wcM_h w rfl) e))
  obtain ⟨q2, hrun2, aR, w1', w2', w3', why, wfr, wP⟩ := go_m (mr_run (D := 49) (xm := b0) (sz := s) (d := rd) (y := ry) (s := rs) (wt := rwt) (row := rrow) cc (by decide) u2 RA2 x30 wdh s0 s1 (fb _ _ _ rfl (mt_of er2 k3)) (zr_m u2 s1) (fun z0 z1 => by rw [d0] at z0 z1 ⊢; exact ⟨(rM2 z0 z1).1, (rM2 z0 z1).2.1, (rM2 z0 z1).2.2.1, (rM2 z0 z1).2.2.2.1, (rM2 z0 z1).2.2.2.2.2.1⟩) rB.1.1 rB.1.2 rB.2.1.1 rB.2.1.2 rB.2.2.1.1 rB.2.2.1.2 rB.2.2.2.1) (fun _ a => go_mr a)
  refine lw_call (pc := 1240) (tg := 345) (na := 2) (c := 78) (ci := 12) (st0 := [.int b0, .ref 94]) (st := []) (av := [.int b0]) (by decide +kernel) u2 rfl rfl rfl (Nat.le_of_ble_eq_true rfl) hrun2 w2' w3' ?_
  rw [w1']
  obtain ⟨sF, sA⟩ := sP
  obtain ⟨wF, wA⟩ := wP
  rw [e0] at sF sA
  rw [d0] at wF wA
  obtain ⟨ab, W3⟩ := wf_mend Z0 W0 s0 s1 rB.2.2.2.1 sF sA wF wA
  have both : aR.toInt = aC.toInt := ab.symm
  refine rq_mend2 gC hY why n p aR.toInt aR rfl n0 n1 p0 (by omega) aR.le_toInt aR.toInt_le (by omega) o0 o1 o2 o3 (fun l3' h3 u3 f3 i0 i1 i2 i3 => ?_)
  have fc : ly_fr cst gmr_mods q1.2.1 h3 := fun rg i v hb e => f3 _ _ _ rfl (wfr _ _ _ hb (f2 _ _ _ rfl e))
  have tt : ∀ rg i v, ly_has rg gmq_mods = false → ly_has rg gmr_mods = false → ly_hv cst h rg i = some v → ly_hv cst h3 rg i = some v := fun rg i v ha hb e => fc _ _ _ hb (fa _ _ _ ha e)
  exact k h3 l3' 0 0 (by omega) (by omega) ⟨u3, tt _ _ _ rfl rfl k0, n0, n1, by omega, by omega, ⟨t, s, tt _ _ _ rfl rfl k2, tt _ _ _ rfl rfl k3, et, s0, s1⟩, ⟨r, tt _ _ _ rfl rfl kr, r0, by omega⟩, tt _ _ _ rfl rfl k4, tt _ _ _ rfl rfl k5, i0, i1, i2, i3, ⟨v0, tt _ _ _ rfl rfl vk0, tt _ _ _ rfl rfl vm0, vb0, vt0⟩, ⟨v1, tt _ _ _ rfl rfl vk1, tt _ _ _ rfl rfl vm1, vb1, vt1⟩, ⟨v2, tt _ _ _ rfl rfl vk2, tt _ _ _ rfl rfl vm2, vb2, vt2⟩, tp_mv (tp_mv (mc := gmq_mods) (mm := gmq_mods) er0 hy shy hy shy fa fa rfl rfl) shy u3 shy u3 fc fc rfl rfl, LW_mv (p' := p + 7) (LW_mv (p' := p + 7) (ms := gmq_mods) er1 fa rfl rfl vk0 (fa _ _ _ rfl vk0) vb0 (by omega)) fc rfl rfl (fa _ _ _ rfl vk0) (tt _ _ _ rfl rfl vk0) vb0 (by omega), mt_mv (mt_mv (ms := gmq_mods) er2 fa rfl rfl) fc rfl rfl, mo_mv (mo_mv (ms := gmq_mods) er3 fa rfl rfl) fc rfl rfl, zr_mv (zr_mv (mc := gmq_mods) (mm := gmq_mods) er4 fa fa rfl rfl rfl) fc fc rfl rfl rfl, wf_mv ⟨s, fa _ _ _ rfl k3, W3⟩ fc f3 rfl rfl rfl⟩
theorem rq_bill0_k : lw_chk ly_Y 1247 4 [(0, 0, 3584), (1, 0, 3584), (2, (-2147483648), 2147483647), (3, (-2147483648), 2147483647)] [((-7), [(0, 1), (1, (-1))])] [(0, .inr (.inr (.inl (some 4)))), (1, .inr (.inr (.inl (some 16)))), (2, .inr (.inr (.inl (some 94)))), (3, .inl (0, [(1, 1)]))] [] [(60000, (0, []), (0, [(0, 1)])), (60001, (1, [(1, 1)]), (0, [(2, 1)])), (60001, (2, [(1, 1)]), (0, [(3, 1)]))] [] [(1258, ([], 4, [(0, 0, 3584), (1, 0, 3584), (2, (-2147483648), 2147483647), (3, (-2147483648), 2147483647)], [], [(0, .inr (.inr (.inl (some 4)))), (1, .inr (.inr (.inl (some 16)))), (2, .inr (.inr (.inl (some 94)))), (3, .inl (0, [(1, 1)]))], [.inl (0, [(3, 1)]), .inl (0, [(2, 1)]), .inr (.inr (.inl (some 16)))], []))] [] 0 0 = true := by decide +kernel
theorem rq_bill0 {cst : am_K} {Φ : am_Q → Prop} {h : am_H} {l : am_L} (gC : ly_gC sx_KK cst) (hY : ∀ d, ly_Yok cst m_cl m_tt m_P m_strs ly_TH ly_Y d) (hy : ly_hy m_tt ly_TH h) (n p x y : Int) (b0 : 0 ≤ n) (t0 : n ≤ 3584) (b1 : 0 ≤ p) (t1 : p ≤ 3584) (b2 : (-2147483648) ≤ x) (t2 : x ≤ 2147483647) (b3 : (-2147483648) ≤ y) (t3 : y ≤ 2147483647) (f0 : 0 ≤ (n - p - 7)) (k0 : ly_hv cst h 60000 0 = some (n)) (k1 : ly_hv cst h 60001 (p + 1) = some (x)) (k2 : ly_hv cst h 60001 (p + 2) = some (y)) (l0 : hp_a l 0 4) (l1 : hp_a l 1 16) (l2 : hp_a l 2 94) (l3 : hp_i l 3 (p)) (e0 : ∀ (l' : am_L) (h' : am_H) (y0 : Int32) (y1 : Int32), y0.toInt = (y) → y1.toInt = (x) → ly_hy m_tt ly_TH h' → ly_fr cst [] h h' → hp_a l' 0 4 → hp_a l' 1 16 → hp_a l' 2 94 → hp_i l' 3 (p) → lw_F cst Φ 1258 l' [.int y0, .int y1, .ref 16] h' 0 0) : lw_F cst Φ 1247 l [] h 0 0 := by
  refine lw_arc gC hY rq_bill0_k [n, p, x, y] rfl hy (hp_Bc (z := n) rfl b0 t0 (hp_Bc (z := p) rfl b1 t1 (hp_Bc (z := x) rfl b2 t2 (hp_Bc (z := y) rfl b3 t3 hp_Bn)))) (hp_Fc (z := ((-7) + (1 * n + ((-1) * p + 0)))) rfl (by omega) hp_Fn) (hp_Kc (zi := (0 + 0)) (zv := (0 + (1 * n + 0))) k0 rfl rfl (by omega) (by omega) (hp_Kc (zi := (1 + (1 * p + 0))) (zv := (0 + (1 * x + 0))) k1 rfl rfl (by omega) (by omega) (hp_Kc (zi := (2 + (1 * p + 0))) (zv := (0 + (1 * y + 0))) k2 rfl rfl (by omega) (by omega) hp_Kn))) (hp_La l0 (hp_La l1 (hp_La l2 (hp_Li (z := (0 + (1 * p + 0))) l3 rfl (by omega) hp_Ln)))) trivial ?_ ?_
  · intro q hp ys l' st' h' ca sa ha hs hys a1 hfr gZ gL gS
    have ea : ca = 0 := Nat.le_zero.mp ha
    have eb : sa = 0 := Nat.le_zero.mp hs
    subst ea
    subst eb
    rcases List.mem_cons.mp hp with rfl | hp
    · obtain rfl := hp_y0 hys
      obtain ⟨y0, t0, rfl, q0, g0⟩ := hp_gSi (z := (0 + (1 * y + 0))) gS rfl
      obtain ⟨y1, t1, rfl, q1, g1⟩ := hp_gSi (z := (0 + (1 * x + 0))) g0 rfl
      obtain ⟨t2, rfl, g2⟩ := hp_gSa g1 (by decide)
      cases hp_gSn g2
      exact e0 l' h' y0 y1 (by omega) (by omega) a1 hfr (hp_gLa gL (List.mem_of_getElem? (i := 0) rfl) (by decide)) (hp_gLa gL (List.mem_of_getElem? (i := 1) rfl) (by decide)) (hp_gLa gL (List.mem_of_getElem? (i := 2) rfl) (by decide)) (hp_gLi (z := (0 + (1 * p + 0))) gL (List.mem_of_getElem? (i := 3) rfl) rfl (by omega))
    cases hp
  · intro q hq ys v h' hys gS
    cases hq
theorem rq_bill1_k : lw_chk ly_Y 1261 5 [(0, 0, 3584), (1, 0, 3584), (2, (-2147483648), 2147483647), (3, (-2147483648), 2147483647), (4, (-2147483648), 2147483647)] [((-7), [(0, 1), (1, (-1))])] [(0, .inr (.inr (.inl (some 4)))), (1, .inr (.inr (.inl (some 16)))), (2, .inr (.inr (.inl (some 94)))), (3, .inl (0, [(1, 1)]))] [.inl (0, [(4, 1)])] [(60000, (0, []), (0, [(0, 1)])), (60001, (1, [(1, 1)]), (0, [(2, 1)])), (60001, (2, [(1, 1)]), (0, [(3, 1)]))] [] [(1273, ([], 5, [(0, 0, 3584), (1, 0, 3584), (2, (-2147483648), 2147483647), (3, (-2147483648), 2147483647), (4, (-2147483648), 2147483647)], [], [(0, .inr (.inr (.inl (some 4)))), (1, .inr (.inr (.inl (some 16)))), (2, .inr (.inr (.inl (some 94)))), (3, .inl (0, [(1, 1)]))], [.inl (0, [(3, 1)]), .inl (0, [(2, 1)]), .inr (.inr (.inl (some 94)))], []))] [] 0 0 = true := by decide +kernel
theorem rq_bill1 {cst : am_K} {Φ : am_Q → Prop} {h : am_H} {l : am_L} (gC : ly_gC sx_KK cst) (hY : ∀ d, ly_Yok cst m_cl m_tt m_P m_strs ly_TH ly_Y d) (hy : ly_hy m_tt ly_TH h) (n p x y a : Int) (x0 : Int32) (hx0 : x0.toInt = (a)) (b0 : 0 ≤ n) (t0 : n ≤ 3584) (b1 : 0 ≤ p) (t1 : p ≤ 3584) (b2 : (-2147483648) ≤ x) (t2 : x ≤ 2147483647) (b3 : (-2147483648) ≤ y) (t3 : y ≤ 2147483647) (b4 : (-2147483648) ≤ a) (t4 : a ≤ 2147483647) (f0 : 0 ≤ (n - p - 7)) (k0 : ly_hv cst h 60000 0 = some (n)) (k1 : ly_hv cst h 60001 (p + 1) = some (x)) (k2 : ly_hv cst h 60001 (p + 2) = some (y)) (l0 : hp_a l 0 4) (l1 : hp_a l 1 16) (l2 : hp_a l 2 94) (l3 : hp_i l 3 (p)) (e0 : ∀ (l' : am_L) (h' : am_H) (y0 : Int32) (y1 : Int32), y0.toInt = (y) → y1.toInt = (x) → ly_hy m_tt ly_TH h' → ly_fr cst [] h h' → hp_a l' 0 4 → hp_a l' 1 16 → hp_a l' 2 94 → hp_i l' 3 (p) → lw_F cst Φ 1273 l' [.int y0, .int y1, .ref 94] h' 0 0) : lw_F cst Φ 1261 l [.int x0] h 0 0 := by
  refine lw_arc gC hY rq_bill1_k [n, p, x, y, a] rfl hy (hp_Bc (z := n) rfl b0 t0 (hp_Bc (z := p) rfl b1 t1 (hp_Bc (z := x) rfl b2 t2 (hp_Bc (z := y) rfl b3 t3 (hp_Bc (z := a) rfl b4 t4 hp_Bn))))) (hp_Fc (z := ((-7) + (1 * n + ((-1) * p + 0)))) rfl (by omega) hp_Fn) (hp_Kc (zi := (0 + 0)) (zv := (0 + (1 * n + 0))) k0 rfl rfl (by omega) (by omega) (hp_Kc (zi := (1 + (1 * p + 0))) (zv := (0 + (1 * x + 0))) k1 rfl rfl (by omega) (by omega) (hp_Kc (zi := (2 + (1 * p + 0))) (zv := (0 + (1 * y + 0))) k2 rfl rfl (by omega) (by omega) hp_Kn))) (hp_La l0 (hp_La l1 (hp_La l2 (hp_Li (z := (0 + (1 * p + 0))) l3 rfl (by omega) hp_Ln)))) (hp_Si (z := (0 + (1 * a + 0))) rfl (by omega) trivial) ?_ ?_
  · intro q hp ys l' st' h' ca sa ha hs hys a1 hfr gZ gL gS
    have ea : ca = 0 := Nat.le_zero.mp ha
    have eb : sa = 0 := Nat.le_zero.mp hs
    subst ea
    subst eb
    rcases List.mem_cons.mp hp with rfl | hp
    · obtain rfl := hp_y0 hys
      obtain ⟨y0, t0, rfl, q0, g0⟩ := hp_gSi (z := (0 + (1 * y + 0))) gS rfl
      obtain ⟨y1, t1, rfl, q1, g1⟩ := hp_gSi (z := (0 + (1 * x + 0))) g0 rfl
      obtain ⟨t2, rfl, g2⟩ := hp_gSa g1 (by decide)
      cases hp_gSn g2
      exact e0 l' h' y0 y1 (by omega) (by omega) a1 hfr (hp_gLa gL (List.mem_of_getElem? (i := 0) rfl) (by decide)) (hp_gLa gL (List.mem_of_getElem? (i := 1) rfl) (by decide)) (hp_gLa gL (List.mem_of_getElem? (i := 2) rfl) (by decide)) (hp_gLi (z := (0 + (1 * p + 0))) gL (List.mem_of_getElem? (i := 3) rfl) rfl (by omega))
    cases hp
  · intro q hq ys v h' hys gS
    cases hq
theorem rq_bill2_k : lw_chk ly_Y 1276 3 [(0, 0, 3584), (1, 0, 3584), (2, (-2147483648), 2147483647)] [((-7), [(0, 1), (1, (-1))])] [(0, .inr (.inr (.inl (some 4)))), (1, .inr (.inr (.inl (some 16)))), (2, .inr (.inr (.inl (some 94)))), (3, .inl (0, [(1, 1)]))] [.inl (0, [(2, 1)])] [] [] [(18, ([], 3, [(0, 0, 3584), (1, 0, 3584), (2, (-2147483648), 2147483647)], [], [(0, .inr (.inr (.inl (some 4)))), (1, .inr (.inr (.inl (some 16)))), (2, .inr (.inr (.inl (some 94)))), (3, .inl (7, [(1, 1)]))], [], []))] [] 0 0 = true := by decide +kernel
theorem rq_bill2 {cst : am_K} {Φ : am_Q → Prop} {h : am_H} {l : am_L} (gC : ly_gC sx_KK cst) (hY : ∀ d, ly_Yok cst m_cl m_tt m_P m_strs ly_TH ly_Y d) (hy : ly_hy m_tt ly_TH h) (n p a : Int) (x0 : Int32) (hx0 : x0.toInt = (a)) (b0 : 0 ≤ n) (t0 : n ≤ 3584) (b1 : 0 ≤ p) (t1 : p ≤ 3584) (b2 : (-2147483648) ≤ a) (t2 : a ≤ 2147483647) (f0 : 0 ≤ (n - p - 7)) (l0 : hp_a l 0 4) (l1 : hp_a l 1 16) (l2 : hp_a l 2 94) (l3 : hp_i l 3 (p)) (e0 : ∀ (l' : am_L) (h' : am_H), ly_hy m_tt ly_TH h' → ly_fr cst [] h h' → hp_a l' 0 4 → hp_a l' 1 16 → hp_a l' 2 94 → hp_i l' 3 (p + 7) → lw_F cst Φ 18 l' [] h' 0 0) : lw_F cst Φ 1276 l [.int x0] h 0 0 := by
  refine lw_arc gC hY rq_bill2_k [n, p, a] rfl hy (hp_Bc (z := n) rfl b0 t0 (hp_Bc (z := p) rfl b1 t1 (hp_Bc (z := a) rfl b2 t2 hp_Bn))) (hp_Fc (z := ((-7) + (1 * n + ((-1) * p + 0)))) rfl (by omega) hp_Fn) hp_Kn (hp_La l0 (hp_La l1 (hp_La l2 (hp_Li (z := (0 + (1 * p + 0))) l3 rfl (by omega) hp_Ln)))) (hp_Si (z := (0 + (1 * a + 0))) rfl (by omega) trivial) ?_ ?_
  · intro q hp ys l' st' h' ca sa ha hs hys a1 hfr gZ gL gS
    have ea : ca = 0 := Nat.le_zero.mp ha
    have eb : sa = 0 := Nat.le_zero.mp hs
    subst ea
    subst eb
    rcases List.mem_cons.mp hp with rfl | hp
    · obtain rfl := hp_y0 hys
      cases hp_gSn gS
      exact e0 l' h' a1 hfr (hp_gLa gL (List.mem_of_getElem? (i := 0) rfl) (by decide)) (hp_gLa gL (List.mem_of_getElem? (i := 1) rfl) (by decide)) (hp_gLa gL (List.mem_of_getElem? (i := 2) rfl) (by decide)) (hp_gLi (z := (7 + (1 * p + 0))) gL (List.mem_of_getElem? (i := 3) rfl) rfl (by omega))
    cases hp
  · intro q hq ys v h' hys gS
    cases hq
theorem lc_bill {cst : am_K} {Φ : am_Q → Prop} (gC : ly_gC sx_KK cst) (hY : ∀ d, ly_Yok cst m_cl m_tt m_P m_strs ly_TH ly_Y d) {n p : Int} {h : am_H} {l : am_L} (I : lw_I cst n p h l) (hp7 : p + 7 ≤ n)
    (k : ∀ (h' : am_H) (l' : am_L) (ca sa : Nat), ca ≤ 19 → sa ≤ 261 → lw_I cst n (p + 7) h' l' → lw_F cst Φ 18 l' [] h' ca sa) : lw_F cst Φ 1247 l [] h 0 0 := by
  obtain ⟨hy, k0, n0, n1, p0, p1, ⟨t, s, k2, k3, et, s0, s1⟩, ⟨r, kr, r0, r1⟩, k4, k5, l0, l1, l2, l3, ⟨v0, vk0, vm0, vb0, vt0⟩, ⟨v1, vk1, vm1, vb1, vt1⟩, ⟨v2, vk2, vm2, vb2, vt2⟩, er0, er1, er2, er3, er4, er5⟩ := I
  obtain ⟨x, kx⟩ := lw_elem (i := p + 1) gC k0 (by omega) (by omega)
  obtain ⟨y, ky⟩ := lw_elem (i := p + 2) gC k0 (by omega) (by omega)
  have c46 : hp_C cst m_strs (46) := ⟨gC, lw_strs, fun d _ => hY d⟩
  have c47 : hp_C cst m_strs (47) := ⟨gC, lw_strs, fun d _ => hY d⟩
  have c48 : hp_C cst m_strs (48) := ⟨gC, lw_strs, fun d _ => hY d⟩
  have c49 : hp_C cst m_strs (49) := ⟨gC, lw_strs, fun d _ => hY d⟩
  refine rq_bill0 gC hY hy n p x.toInt y.toInt n0 n1 p0 (by omega) x.le_toInt x.toInt_le y.le_toInt y.toInt_le (by omega) k0 kx ky l0 l1 l2 l3 (fun l1' h1 a0 a1 e0 e1 u1 f1 g0 g1 g2 g3 => ?_)
  have er1' := er1
  obtain ⟨X, i0, N0, x30, LCh, RAh, kN, N0', pot, wdh⟩ := er1'
  have cc : ∀ d, hp_C cst m_strs d := fun d => ⟨gC, lw_strs, fun d' _ => hY d'⟩
  have LC1 := LC_mv LCh f1 rfl
  have PX : ∀ a (ha : a < X.length), ra_l (X[a]) := fun a ha => (RAh.2 a ha).2.2.2.2.2
  have rc1 := LW_rc RAh x30
  have W1 : wf_J cst h1 h1 s := wf_Jmv (mc := []) (mm := []) (wf_of er5 k3) f1 f1 rfl rfl
  obtain ⟨rd, ry, rs, rwt, rft, rrow, rns, rvs, rB, rC, rM⟩ := wf_at W1 x.toInt
  obtain ⟨q1, hrun, aC, s1', s2', s3', shy, sfr, sP⟩ := bx_run (D := 36) (xm := a1) (xq := a0) (dy := v1) (sz := s) (d := rd) (y := ry) (s := rs) (wt := rwt) (row := rrow) (ft := rft) (ns := rns) (vs := rvs) cc u1 LC1 x30 (by omega) PX s0 s1 vb1 vt1 (f1 _ _ _ rfl vk1) (f1 _ _ _ rfl k3) (by have := zr_len (f1 _ _ _ rfl k2); omega) (fun j j0 j1 => f1 _ _ _ rfl (mo_of er3 k3 j j0 j1)) (zr_c u1 (f1 _ _ _ rfl (by rw [← et]; exact k2))) (fun z0 z1 => by rw [e1] at z0 z1 ⊢; exact rC z0 z1) rB.1.1 rB.1.2 rB.2.1.1 rB.2.1.2 rB.2.2.1.1 rB.2.2.1.2 rB.2.2.2.1 rB.2.2.2.2
  refine lw_call (pc := 1258) (tg := 152) (na := 3) (c := 0) (ci := 0) (st0 := [.int a0, .int a1, .ref 16]) (st := []) (av := [.int a1, .int a0]) (by decide +kernel) u1 rfl rfl rfl (Nat.le_of_ble_eq_true rfl) hrun s2' s3' ?_
  rw [s1']
  have fa : ∀ rg i v, ly_has rg [7182, 8704, 8960, 9216, 9472, 45319, 60090] = false → ly_hv cst h rg i = some v → ly_hv cst q1.2.1 rg i = some v := fun rg i v ha e => sfr _ _ _ ha (f1 _ _ _ rfl e)
  refine rq_bill1 gC hY shy n p x.toInt y.toInt aC.toInt aC rfl n0 n1 p0 (by omega) x.le_toInt x.toInt_le y.le_toInt y.toInt_le aC.le_toInt aC.toInt_le (by omega) (fa _ _ _ rfl k0) (fa _ _ _ rfl kx) (fa _ _ _ rfl ky) g0 g1 g2 g3 (fun l2' h2 b0 b1 d0 d1 u2 f2 o0 o1 o2 o3 => ?_)
  have fb : ∀ rg i v, ly_has rg [7182, 8704, 8960, 9216, 9472, 45319, 60090] = false → ly_hv cst h rg i = some v → ly_hv cst h2 rg i = some v := fun rg i v ha e => f2 _ _ _ rfl (fa _ _ _ ha e)
  have Z0 : zr_J cst h1 h2 s := zr_Jmv (mc := []) (mm := [7182, 8704, 8960, 9216, 9472, 45319, 60090]) (zr_of er4 k3) f1 fb rfl rfl
  have W0 : wf_J cst h1 h2 s := wf_Jmv (mc := []) (mm := [7182, 8704, 8960, 9216, 9472, 45319, 60090]) (wf_of er5 k3) f1 fb rfl rfl
  have RA2 : rA cst h2 X := rA_k RAh (gk_fr (ms := [7182, 8704, 8960, 9216, 9472, 45319, 60090]) (fun rg i v ha e => fb rg i v ha e) rfl rfl) (fb _ _ _ rfl RAh.1)
  have rM2 : 0 ≤ x.toInt → x.toInt < s → wfM cst h2 x.toInt rd ry rs rwt rft rrow rns rvs := fun z0 z1 => wfM_k (rM z0 z1) (fun r i v w e => f2 _ _ _ rfl (sfr _ _ _ (wcM_h w rfl) e))
  obtain ⟨q2, hrun2, aR, w1', w2', w3', why, wfr, wP⟩ := by_run (D := 36) (xm := b1) (xq := b0) (dy := v1) (sz := s) (d := rd) (y := ry) (s := rs) (wt := rwt) (row := rrow) (ft := rft) (ns := rns) (vs := rvs) cc u2 RA2 x30 wdh PX s0 s1 vb1 vt1 (fb _ _ _ rfl vm1) (fb _ _ _ rfl (mt_of er2 k3)) (zr_m u2 s1) (fun z0 z1 => by rw [d1] at z0 z1 ⊢; exact ⟨(rM2 z0 z1).1, (rM2 z0 z1).2.1, (rM2 z0 z1).2.2.1, (rM2 z0 z1).2.2.2.1, (rM2 z0 z1).2.2.2.2.1, (rM2 z0 z1).2.2.2.2.2.1, fun q => wfM_g ((rM2 z0 z1).2.2.2.2.2.2 q)⟩) rB.1.1 rB.1.2 rB.2.1.1 rB.2.1.2 rB.2.2.1.1 rB.2.2.1.2 rB.2.2.2.1 rB.2.2.2.2
  refine lw_call (pc := 1273) (tg := 347) (na := 3) (c := 78) (ci := 12) (st0 := [.int b0, .int b1, .ref 94]) (st := []) (av := [.int b1, .int b0]) (by decide +kernel) u2 rfl rfl rfl (Nat.le_of_ble_eq_true rfl) hrun2 w2' w3' ?_
  rw [w1']
  rw [e0, e1] at sP
  rw [d0, d1] at wP
  have J3 := zr_bill Z0 sP.1 wP.1 (fun j v e => sfr _ _ _ rfl e) (fun j v e => wfr _ _ _ rfl e)
  have both : aR.toInt = aC.toInt := (bx_u Z0 sP.2 wP.2).symm
  refine rq_bill2 gC hY why n p aR.toInt aR rfl n0 n1 p0 (by omega) aR.le_toInt aR.toInt_le (by omega) o0 o1 o2 o3 (fun l3' h3 u3 f3 i0 i1 i2 i3 => ?_)
  have fc : ly_fr cst [20054, 28160, 30464, 35584, 35840, 60091] q1.2.1 h3 := fun rg i v hb e => f3 _ _ _ rfl (wfr _ _ _ hb (f2 _ _ _ rfl e))
  have tt : ∀ rg i v, ly_has rg [7182, 8704, 8960, 9216, 9472, 45319, 60090] = false → ly_has rg [20054, 28160, 30464, 35584, 35840, 60091] = false → ly_hv cst h rg i = some v → ly_hv cst h3 rg i = some v := fun rg i v ha hb e => fc _ _ _ hb (fa _ _ _ ha e)
  exact k h3 l3' 0 0 (by omega) (by omega) ⟨u3, tt _ _ _ rfl rfl k0, n0, n1, by omega, by omega, ⟨t, s, tt _ _ _ rfl rfl k2, tt _ _ _ rfl rfl k3, et, s0, s1⟩, ⟨r, tt _ _ _ rfl rfl kr, r0, by omega⟩, tt _ _ _ rfl rfl k4, tt _ _ _ rfl rfl k5, i0, i1, i2, i3, ⟨v0, tt _ _ _ rfl rfl vk0, tt _ _ _ rfl rfl vm0, vb0, vt0⟩, ⟨v1, tt _ _ _ rfl rfl vk1, tt _ _ _ rfl rfl vm1, vb1, vt1⟩, ⟨v2, tt _ _ _ rfl rfl vk2, tt _ _ _ rfl rfl vm2, vb2, vt2⟩, tp_mv (tp_mv (mc := [7182, 8704, 8960, 9216, 9472, 45319, 60090]) (mm := [7182, 8704, 8960, 9216, 9472, 45319, 60090]) er0 hy shy hy shy fa fa rfl rfl) shy u3 shy u3 fc fc rfl rfl, LW_mv (p' := p + 7) (LW_mv (p' := p + 7) (ms := [7182, 8704, 8960, 9216, 9472, 45319, 60090]) er1 fa rfl rfl vk0 (fa _ _ _ rfl vk0) vb0 (by omega)) fc rfl rfl (fa _ _ _ rfl vk0) (tt _ _ _ rfl rfl vk0) vb0 (by omega), mt_mv (mt_mv (ms := [7182, 8704, 8960, 9216, 9472, 45319, 60090]) er2 fa rfl rfl) fc rfl rfl, mo_mv (mo_mv (ms := [7182, 8704, 8960, 9216, 9472, 45319, 60090]) er3 fa rfl rfl) fc rfl rfl, zr_mv ⟨s, fa _ _ _ rfl k3, J3⟩ fc f3 rfl rfl rfl, wf_mv (wf_mv (mc := [7182, 8704, 8960, 9216, 9472, 45319, 60090]) (mm := [7182, 8704, 8960, 9216, 9472, 45319, 60090]) er5 fa fa rfl rfl rfl) fc fc rfl rfl rfl⟩
theorem rq_bad0_k : lw_chk ly_Y 1201 3 [(0, 0, 3584), (1, 0, 3584), (2, (-2147483648), 2147483647)] [((-7), [(0, 1), (1, (-1))])] [(0, .inr (.inr (.inl (some 4)))), (1, .inr (.inr (.inl (some 16)))), (2, .inr (.inr (.inl (some 94)))), (3, .inl (0, [(1, 1)]))] [] [(60000, (0, []), (0, [(0, 1)])), (60001, (1, [(1, 1)]), (0, [(2, 1)]))] [] [(1207, ([], 3, [(0, 0, 3584), (1, 0, 3584), (2, (-2147483648), 2147483647)], [], [(0, .inr (.inr (.inl (some 4)))), (1, .inr (.inr (.inl (some 16)))), (2, .inr (.inr (.inl (some 94)))), (3, .inl (0, [(1, 1)]))], [.inl (0, [(2, 1)]), .inr (.inr (.inl (some 16)))], []))] [] 0 0 = true := by decide +kernel
theorem rq_bad0 {cst : am_K} {Φ : am_Q → Prop} {h : am_H} {l : am_L} (gC : ly_gC sx_KK cst) (hY : ∀ d, ly_Yok cst m_cl m_tt m_P m_strs ly_TH ly_Y d) (hy : ly_hy m_tt ly_TH h) (n p x : Int) (b0 : 0 ≤ n) (t0 : n ≤ 3584) (b1 : 0 ≤ p) (t1 : p ≤ 3584) (b2 : (-2147483648) ≤ x) (t2 : x ≤ 2147483647) (f0 : 0 ≤ (n - p - 7)) (k0 : ly_hv cst h 60000 0 = some (n)) (k1 : ly_hv cst h 60001 (p + 1) = some (x)) (l0 : hp_a l 0 4) (l1 : hp_a l 1 16) (l2 : hp_a l 2 94) (l3 : hp_i l 3 (p)) (e0 : ∀ (l' : am_L) (h' : am_H) (y0 : Int32), y0.toInt = (x) → ly_hy m_tt ly_TH h' → ly_fr cst [] h h' → hp_a l' 0 4 → hp_a l' 1 16 → hp_a l' 2 94 → hp_i l' 3 (p) → lw_F cst Φ 1207 l' [.int y0, .ref 16] h' 0 0) : lw_F cst Φ 1201 l [] h 0 0 := by
  refine lw_arc gC hY rq_bad0_k [n, p, x] rfl hy (hp_Bc (z := n) rfl b0 t0 (hp_Bc (z := p) rfl b1 t1 (hp_Bc (z := x) rfl b2 t2 hp_Bn))) (hp_Fc (z := ((-7) + (1 * n + ((-1) * p + 0)))) rfl (by omega) hp_Fn) (hp_Kc (zi := (0 + 0)) (zv := (0 + (1 * n + 0))) k0 rfl rfl (by omega) (by omega) (hp_Kc (zi := (1 + (1 * p + 0))) (zv := (0 + (1 * x + 0))) k1 rfl rfl (by omega) (by omega) hp_Kn)) (hp_La l0 (hp_La l1 (hp_La l2 (hp_Li (z := (0 + (1 * p + 0))) l3 rfl (by omega) hp_Ln)))) trivial ?_ ?_
  · intro q hp ys l' st' h' ca sa ha hs hys a1 hfr gZ gL gS
    have ea : ca = 0 := Nat.le_zero.mp ha
    have eb : sa = 0 := Nat.le_zero.mp hs
    subst ea
    subst eb
    rcases List.mem_cons.mp hp with rfl | hp
    · obtain rfl := hp_y0 hys
      obtain ⟨y0, t0, rfl, q0, g0⟩ := hp_gSi (z := (0 + (1 * x + 0))) gS rfl
      obtain ⟨t1, rfl, g1⟩ := hp_gSa g0 (by decide)
      cases hp_gSn g1
      exact e0 l' h' y0 (by omega) a1 hfr (hp_gLa gL (List.mem_of_getElem? (i := 0) rfl) (by decide)) (hp_gLa gL (List.mem_of_getElem? (i := 1) rfl) (by decide)) (hp_gLa gL (List.mem_of_getElem? (i := 2) rfl) (by decide)) (hp_gLi (z := (0 + (1 * p + 0))) gL (List.mem_of_getElem? (i := 3) rfl) rfl (by omega))
    cases hp
  · intro q hq ys v h' hys gS
    cases hq
theorem rq_bad1_k : lw_chk ly_Y 1210 4 [(0, 0, 3584), (1, 0, 3584), (2, (-2147483648), 2147483647), (3, (-2147483648), 2147483647)] [((-7), [(0, 1), (1, (-1))])] [(0, .inr (.inr (.inl (some 4)))), (1, .inr (.inr (.inl (some 16)))), (2, .inr (.inr (.inl (some 94)))), (3, .inl (0, [(1, 1)]))] [.inl (0, [(3, 1)])] [(60000, (0, []), (0, [(0, 1)])), (60001, (1, [(1, 1)]), (0, [(2, 1)]))] [] [(1217, ([], 4, [(0, 0, 3584), (1, 0, 3584), (2, (-2147483648), 2147483647), (3, (-2147483648), 2147483647)], [], [(0, .inr (.inr (.inl (some 4)))), (1, .inr (.inr (.inl (some 16)))), (2, .inr (.inr (.inl (some 94)))), (3, .inl (0, [(1, 1)]))], [.inl (0, [(2, 1)]), .inr (.inr (.inl (some 94)))], []))] [] 0 0 = true := by decide +kernel
theorem rq_bad1 {cst : am_K} {Φ : am_Q → Prop} {h : am_H} {l : am_L} (gC : ly_gC sx_KK cst) (hY : ∀ d, ly_Yok cst m_cl m_tt m_P m_strs ly_TH ly_Y d) (hy : ly_hy m_tt ly_TH h) (n p x a : Int) (x0 : Int32) (hx0 : x0.toInt = (a)) (b0 : 0 ≤ n) (t0 : n ≤ 3584) (b1 : 0 ≤ p) (t1 : p ≤ 3584) (b2 : (-2147483648) ≤ x) (t2 : x ≤ 2147483647) (b3 : (-2147483648) ≤ a) (t3 : a ≤ 2147483647) (f0 : 0 ≤ (n - p - 7)) (k0 : ly_hv cst h 60000 0 = some (n)) (k1 : ly_hv cst h 60001 (p + 1) = some (x)) (l0 : hp_a l 0 4) (l1 : hp_a l 1 16) (l2 : hp_a l 2 94) (l3 : hp_i l 3 (p)) (e0 : ∀ (l' : am_L) (h' : am_H) (y0 : Int32), y0.toInt = (x) → ly_hy m_tt ly_TH h' → ly_fr cst [] h h' → hp_a l' 0 4 → hp_a l' 1 16 → hp_a l' 2 94 → hp_i l' 3 (p) → lw_F cst Φ 1217 l' [.int y0, .ref 94] h' 0 0) : lw_F cst Φ 1210 l [.int x0] h 0 0 := by
  refine lw_arc gC hY rq_bad1_k [n, p, x, a] rfl hy (hp_Bc (z := n) rfl b0 t0 (hp_Bc (z := p) rfl b1 t1 (hp_Bc (z := x) rfl b2 t2 (hp_Bc (z := a) rfl b3 t3 hp_Bn)))) (hp_Fc (z := ((-7) + (1 * n + ((-1) * p + 0)))) rfl (by omega) hp_Fn) (hp_Kc (zi := (0 + 0)) (zv := (0 + (1 * n + 0))) k0 rfl rfl (by omega) (by omega) (hp_Kc (zi := (1 + (1 * p + 0))) (zv := (0 + (1 * x + 0))) k1 rfl rfl (by omega) (by omega) hp_Kn)) (hp_La l0 (hp_La l1 (hp_La l2 (hp_Li (z := (0 + (1 * p + 0))) l3 rfl (by omega) hp_Ln)))) (hp_Si (z := (0 + (1 * a + 0))) rfl (by omega) trivial) ?_ ?_
  · intro q hp ys l' st' h' ca sa ha hs hys a1 hfr gZ gL gS
    have ea : ca = 0 := Nat.le_zero.mp ha
    have eb : sa = 0 := Nat.le_zero.mp hs
    subst ea
    subst eb
    rcases List.mem_cons.mp hp with rfl | hp
    · obtain rfl := hp_y0 hys
      obtain ⟨y0, t0, rfl, q0, g0⟩ := hp_gSi (z := (0 + (1 * x + 0))) gS rfl
      obtain ⟨t1, rfl, g1⟩ := hp_gSa g0 (by decide)
      cases hp_gSn g1
      exact e0 l' h' y0 (by omega) a1 hfr (hp_gLa gL (List.mem_of_getElem? (i := 0) rfl) (by decide)) (hp_gLa gL (List.mem_of_getElem? (i := 1) rfl) (by decide)) (hp_gLa gL (List.mem_of_getElem? (i := 2) rfl) (by decide)) (hp_gLi (z := (0 + (1 * p + 0))) gL (List.mem_of_getElem? (i := 3) rfl) rfl (by omega))
    cases hp
  · intro q hq ys v h' hys gS
    cases hq
theorem rq_bad2_k : lw_chk ly_Y 1220 3 [(0, 0, 3584), (1, 0, 3584), (2, (-2147483648), 2147483647)] [((-7), [(0, 1), (1, (-1))])] [(0, .inr (.inr (.inl (some 4)))), (1, .inr (.inr (.inl (some 16)))), (2, .inr (.inr (.inl (some 94)))), (3, .inl (0, [(1, 1)]))] [.inl (0, [(2, 1)])] [] [] [(18, ([], 3, [(0, 0, 3584), (1, 0, 3584), (2, (-2147483648), 2147483647)], [], [(0, .inr (.inr (.inl (some 4)))), (1, .inr (.inr (.inl (some 16)))), (2, .inr (.inr (.inl (some 94)))), (3, .inl (7, [(1, 1)]))], [], []))] [] 0 0 = true := by decide +kernel
theorem rq_bad2 {cst : am_K} {Φ : am_Q → Prop} {h : am_H} {l : am_L} (gC : ly_gC sx_KK cst) (hY : ∀ d, ly_Yok cst m_cl m_tt m_P m_strs ly_TH ly_Y d) (hy : ly_hy m_tt ly_TH h) (n p a : Int) (x0 : Int32) (hx0 : x0.toInt = (a)) (b0 : 0 ≤ n) (t0 : n ≤ 3584) (b1 : 0 ≤ p) (t1 : p ≤ 3584) (b2 : (-2147483648) ≤ a) (t2 : a ≤ 2147483647) (f0 : 0 ≤ (n - p - 7)) (l0 : hp_a l 0 4) (l1 : hp_a l 1 16) (l2 : hp_a l 2 94) (l3 : hp_i l 3 (p)) (e0 : ∀ (l' : am_L) (h' : am_H), ly_hy m_tt ly_TH h' → ly_fr cst [] h h' → hp_a l' 0 4 → hp_a l' 1 16 → hp_a l' 2 94 → hp_i l' 3 (p + 7) → lw_F cst Φ 18 l' [] h' 0 0) : lw_F cst Φ 1220 l [.int x0] h 0 0 := by
  refine lw_arc gC hY rq_bad2_k [n, p, a] rfl hy (hp_Bc (z := n) rfl b0 t0 (hp_Bc (z := p) rfl b1 t1 (hp_Bc (z := a) rfl b2 t2 hp_Bn))) (hp_Fc (z := ((-7) + (1 * n + ((-1) * p + 0)))) rfl (by omega) hp_Fn) hp_Kn (hp_La l0 (hp_La l1 (hp_La l2 (hp_Li (z := (0 + (1 * p + 0))) l3 rfl (by omega) hp_Ln)))) (hp_Si (z := (0 + (1 * a + 0))) rfl (by omega) trivial) ?_ ?_
  · intro q hp ys l' st' h' ca sa ha hs hys a1 hfr gZ gL gS
    have ea : ca = 0 := Nat.le_zero.mp ha
    have eb : sa = 0 := Nat.le_zero.mp hs
    subst ea
    subst eb
    rcases List.mem_cons.mp hp with rfl | hp
    · obtain rfl := hp_y0 hys
      cases hp_gSn gS
      exact e0 l' h' a1 hfr (hp_gLa gL (List.mem_of_getElem? (i := 0) rfl) (by decide)) (hp_gLa gL (List.mem_of_getElem? (i := 1) rfl) (by decide)) (hp_gLa gL (List.mem_of_getElem? (i := 2) rfl) (by decide)) (hp_gLi (z := (7 + (1 * p + 0))) gL (List.mem_of_getElem? (i := 3) rfl) rfl (by omega))
    cases hp
  · intro q hq ys v h' hys gS
    cases hq
theorem lc_bad {cst : am_K} {Φ : am_Q → Prop} (gC : ly_gC sx_KK cst) (hY : ∀ d, ly_Yok cst m_cl m_tt m_P m_strs ly_TH ly_Y d) {n p : Int} {h : am_H} {l : am_L} (I : lw_I cst n p h l) (hp7 : p + 7 ≤ n)
    (k : ∀ (h' : am_H) (l' : am_L) (ca sa : Nat), ca ≤ 19 → sa ≤ 261 → lw_I cst n (p + 7) h' l' → lw_F cst Φ 18 l' [] h' ca sa) : lw_F cst Φ 1201 l [] h 0 0 := by
  obtain ⟨hy, k0, n0, n1, p0, p1, ⟨t, s, k2, k3, et, s0, s1⟩, ⟨r, kr, r0, r1⟩, k4, k5, l0, l1, l2, l3, ⟨v0, vk0, vm0, vb0, vt0⟩, ⟨v1, vk1, vm1, vb1, vt1⟩, ⟨v2, vk2, vm2, vb2, vt2⟩, er0, er1, er2, er3, er4, er5⟩ := I
  obtain ⟨x, kx⟩ := lw_elem (i := p + 1) gC k0 (by omega) (by omega)
  have c46 : hp_C cst m_strs (46) := ⟨gC, lw_strs, fun d _ => hY d⟩
  have c47 : hp_C cst m_strs (47) := ⟨gC, lw_strs, fun d _ => hY d⟩
  have c48 : hp_C cst m_strs (48) := ⟨gC, lw_strs, fun d _ => hY d⟩
  have c49 : hp_C cst m_strs (49) := ⟨gC, lw_strs, fun d _ => hY d⟩
  refine rq_bad0 gC hY hy n p x.toInt n0 n1 p0 (by omega) x.le_toInt x.toInt_le (by omega) k0 kx l0 l1 l2 l3 (fun l1' h1 a0 e0 u1 f1 g0 g1 g2 g3 => ?_)
  have er1' := er1
  obtain ⟨X, i0, N0, x30, LCh, RAh, kN, N0', pot, wdh⟩ := er1'
  have cc : ∀ d, hp_C cst m_strs d := fun d => ⟨gC, lw_strs, fun d' _ => hY d'⟩
  have LC1 := LC_mv LCh f1 rfl
  have PX : ∀ a (ha : a < X.length), ra_l (X[a]) := fun a ha => (RAh.2 a ha).2.2.2.2.2
  have rc1 := LW_rc RAh x30
  have W1 : wf_J cst h1 h1 s := wf_Jmv (mc := []) (mm := []) (wf_of er5 k3) f1 f1 rfl rfl
  obtain ⟨rd, ry, rs, rwt, rft, rrow, rns, rvs, rB, rC, rM⟩ := wf_at W1 x.toInt
  obtain ⟨q1, hrun, aC, s1', s2', s3', shy, sfr, sP⟩ := bq_run (D := 36) (xm := a0) (sz := s) (d := rd) (y := ry) (s := rs) (wt := rwt) (row := rrow) (ft := rft) (ns := rns) (vs := rvs) cc u1 LC1 x30 (by omega) PX s0 s1 (f1 _ _ _ rfl k3) (fun j j0 j1 => f1 _ _ _ rfl (mo_of er3 k3 j j0 j1)) (zr_c u1 (f1 _ _ _ rfl (by rw [← et]; exact k2))) rB (fun z0 z1 => by rw [e0] at z0 z1 ⊢; exact rC z0 z1)
  refine lw_call (pc := 1207) (tg := 143) (na := 2) (c := 0) (ci := 0) (st0 := [.int a0, .ref 16]) (st := []) (av := [.int a0]) (by decide +kernel) u1 rfl rfl rfl (Nat.le_of_ble_eq_true rfl) hrun s2' s3' ?_
  rw [s1']
  have fa : ∀ rg i v, ly_has rg [] = false → ly_hv cst h rg i = some v → ly_hv cst q1.2.1 rg i = some v := fun rg i v ha e => sfr _ _ _ ha (f1 _ _ _ rfl e)
  refine rq_bad1 gC hY shy n p x.toInt aC.toInt aC rfl n0 n1 p0 (by omega) x.le_toInt x.toInt_le aC.le_toInt aC.toInt_le (by omega) (fa _ _ _ rfl k0) (fa _ _ _ rfl kx) g0 g1 g2 g3 (fun l2' h2 b0 d0 u2 f2 o0 o1 o2 o3 => ?_)
  have fb : ∀ rg i v, ly_has rg [] = false → ly_hv cst h rg i = some v → ly_hv cst h2 rg i = some v := fun rg i v ha e => f2 _ _ _ rfl (fa _ _ _ ha e)
  have Z0 : zr_J cst h1 h2 s := zr_Jmv (mc := []) (mm := []) (zr_of er4 k3) f1 fb rfl rfl
  have W0 : wf_J cst h1 h2 s := wf_Jmv (mc := []) (mm := []) (wf_of er5 k3) f1 fb rfl rfl
  have RA2 : rA cst h2 X := rA_k RAh (gk_fr (ms := []) (fun rg i v ha e => fb rg i v ha e) rfl rfl) (fb _ _ _ rfl RAh.1)
  have rM2 : 0 ≤ x.toInt → x.toInt < s → wfM cst h2 x.toInt rd ry rs rwt rft rrow rns rvs := fun z0 z1 => wfM_k (rM z0 z1) (fun r i v w e => f2 _ _ _ rfl (sfr _ _ _ (wcM_h w rfl) e))
  obtain ⟨q2, hrun2, aR, w1', w2', w3', why, wfr, wP⟩ := br_run (D := 36) (xm := b0) (sz := s) (d := rd) (y := ry) (s := rs) (wt := rwt) (row := rrow) (ft := rft) (ns := rns) (vs := rvs) cc u2 RA2 x30 wdh PX s0 s1 (fb _ _ _ rfl (mt_of er2 k3)) (zr_m u2 s1) rB (fun z0 z1 => by rw [d0] at z0 z1 ⊢; exact rM2 z0 z1)
  refine lw_call (pc := 1217) (tg := 342) (na := 2) (c := 78) (ci := 12) (st0 := [.int b0, .ref 94]) (st := []) (av := [.int b0]) (by decide +kernel) u2 rfl rfl rfl (Nat.le_of_ble_eq_true rfl) hrun2 w2' w3' ?_
  rw [w1']
  rw [e0] at sP
  rw [d0] at wP
  have both : aR.toInt = aC.toInt := (bp_u Z0 sP wP).symm
  refine rq_bad2 gC hY why n p aR.toInt aR rfl n0 n1 p0 (by omega) aR.le_toInt aR.toInt_le (by omega) o0 o1 o2 o3 (fun l3' h3 u3 f3 i0 i1 i2 i3 => ?_)
  have fc : ly_fr cst [28160] q1.2.1 h3 := fun rg i v hb e => f3 _ _ _ rfl (wfr _ _ _ hb (f2 _ _ _ rfl e))
  have tt : ∀ rg i v, ly_has rg [] = false → ly_has rg [28160] = false → ly_hv cst h rg i = some v → ly_hv cst h3 rg i = some v := fun rg i v ha hb e => fc _ _ _ hb (fa _ _ _ ha e)
  exact k h3 l3' 0 0 (by omega) (by omega) ⟨u3, tt _ _ _ rfl rfl k0, n0, n1, by omega, by omega, ⟨t, s, tt _ _ _ rfl rfl k2, tt _ _ _ rfl rfl k3, et, s0, s1⟩, ⟨r, tt _ _ _ rfl rfl kr, r0, by omega⟩, tt _ _ _ rfl rfl k4, tt _ _ _ rfl rfl k5, i0, i1, i2, i3, ⟨v0, tt _ _ _ rfl rfl vk0, tt _ _ _ rfl rfl vm0, vb0, vt0⟩, ⟨v1, tt _ _ _ rfl rfl vk1, tt _ _ _ rfl rfl vm1, vb1, vt1⟩, ⟨v2, tt _ _ _ rfl rfl vk2, tt _ _ _ rfl rfl vm2, vb2, vt2⟩, tp_mv (tp_mv (mc := []) (mm := []) er0 hy shy hy shy fa fa rfl rfl) shy u3 shy u3 fc fc rfl rfl, LW_mv (p' := p + 7) (LW_mv (p' := p + 7) (ms := []) er1 fa rfl rfl vk0 (fa _ _ _ rfl vk0) vb0 (by omega)) fc rfl rfl (fa _ _ _ rfl vk0) (tt _ _ _ rfl rfl vk0) vb0 (by omega), mt_mv (mt_mv (ms := []) er2 fa rfl rfl) fc rfl rfl, mo_mv (mo_mv (ms := []) er3 fa rfl rfl) fc rfl rfl, zr_mv (zr_mv (mc := []) (mm := []) er4 fa fa rfl rfl rfl) fc fc rfl rfl rfl, wf_mv (wf_mv (mc := []) (mm := []) er5 fa fa rfl rfl rfl) fc fc rfl rfl rfl⟩
theorem rq_crown0_k : lw_chk ly_Y 1027 6 [(0, 0, 3584), (1, 0, 3584), (2, (-2147483648), 2147483647), (3, (-2147483648), 2147483647), (4, (-2147483648), 2147483647), (5, (-2147483648), 2147483647)] [((-7), [(0, 1), (1, (-1))])] [(0, .inr (.inr (.inl (some 4)))), (1, .inr (.inr (.inl (some 16)))), (2, .inr (.inr (.inl (some 94)))), (3, .inl (0, [(1, 1)]))] [] [(60000, (0, []), (0, [(0, 1)])), (60001, (1, [(1, 1)]), (0, [(2, 1)])), (60001, (2, [(1, 1)]), (0, [(3, 1)])), (60001, (3, [(1, 1)]), (0, [(4, 1)])), (60001, (4, [(1, 1)]), (0, [(5, 1)]))] [] [(1048, ([], 6, [(0, 0, 3584), (1, 0, 3584), (2, (-2147483648), 2147483647), (3, (-2147483648), 2147483647), (4, (-2147483648), 2147483647), (5, (-2147483648), 2147483647)], [], [(0, .inr (.inr (.inl (some 4)))), (1, .inr (.inr (.inl (some 16)))), (2, .inr (.inr (.inl (some 94)))), (3, .inl (0, [(1, 1)]))], [.inl (0, [(5, 1)]), .inl (0, [(4, 1)]), .inl (0, [(3, 1)]), .inl (0, [(2, 1)]), .inr (.inr (.inl (some 16)))], []))] [] 0 0 = true := by decide +kernel
theorem rq_crown0 {cst : am_K} {Φ : am_Q → Prop} {h : am_H} {l : am_L} (gC : ly_gC sx_KK cst) (hY : ∀ d, ly_Yok cst m_cl m_tt m_P m_strs ly_TH ly_Y d) (hy : ly_hy m_tt ly_TH h) (n p x y z x4 : Int) (b0 : 0 ≤ n) (t0 : n ≤ 3584) (b1 : 0 ≤ p) (t1 : p ≤ 3584) (b2 : (-2147483648) ≤ x) (t2 : x ≤ 2147483647) (b3 : (-2147483648) ≤ y) (t3 : y ≤ 2147483647) (b4 : (-2147483648) ≤ z) (t4 : z ≤ 2147483647) (b5 : (-2147483648) ≤ x4) (t5 : x4 ≤ 2147483647) (f0 : 0 ≤ (n - p - 7)) (k0 : ly_hv cst h 60000 0 = some (n)) (k1 : ly_hv cst h 60001 (p + 1) = some (x)) (k2 : ly_hv cst h 60001 (p + 2) = some (y)) (k3 : ly_hv cst h 60001 (p + 3) = some (z)) (k4 : ly_hv cst h 60001 (p + 4) = some (x4)) (l0 : hp_a l 0 4) (l1 : hp_a l 1 16) (l2 : hp_a l 2 94) (l3 : hp_i l 3 (p)) (e0 : ∀ (l' : am_L) (h' : am_H) (y0 : Int32) (y1 : Int32) (y2 : Int32) (y3 : Int32), y0.toInt = (x4) → y1.toInt = (z) → y2.toInt = (y) → y3.toInt = (x) → ly_hy m_tt ly_TH h' → ly_fr cst [] h h' → hp_a l' 0 4 → hp_a l' 1 16 → hp_a l' 2 94 → hp_i l' 3 (p) → lw_F cst Φ 1048 l' [.int y0, .int y1, .int y2, .int y3, .ref 16] h' 0 0) : lw_F cst Φ 1027 l [] h 0 0 := by
  refine lw_arc gC hY rq_crown0_k [n, p, x, y, z, x4] rfl hy (hp_Bc (z := n) rfl b0 t0 (hp_Bc (z := p) rfl b1 t1 (hp_Bc (z := x) rfl b2 t2 (hp_Bc (z := y) rfl b3 t3 (hp_Bc (z := z) rfl b4 t4 (hp_Bc (z := x4) rfl b5 t5 hp_Bn)))))) (hp_Fc (z := ((-7) + (1 * n + ((-1) * p + 0)))) rfl (by omega) hp_Fn) (hp_Kc (zi := (0 + 0)) (zv := (0 + (1 * n + 0))) k0 rfl rfl (by omega) (by omega) (hp_Kc (zi := (1 + (1 * p + 0))) (zv := (0 + (1 * x + 0))) k1 rfl rfl (by omega) (by omega) (hp_Kc (zi := (2 + (1 * p + 0))) (zv := (0 + (1 * y + 0))) k2 rfl rfl (by omega) (by omega) (hp_Kc (zi := (3 + (1 * p + 0))) (zv := (0 + (1 * z + 0))) k3 rfl rfl (by omega) (by omega) (hp_Kc (zi := (4 + (1 * p + 0))) (zv := (0 + (1 * x4 + 0))) k4 rfl rfl (by omega) (by omega) hp_Kn))))) (hp_La l0 (hp_La l1 (hp_La l2 (hp_Li (z := (0 + (1 * p + 0))) l3 rfl (by omega) hp_Ln)))) trivial ?_ ?_
  · intro q hp ys l' st' h' ca sa ha hs hys a1 hfr gZ gL gS
    have ea : ca = 0 := Nat.le_zero.mp ha
    have eb : sa = 0 := Nat.le_zero.mp hs
    subst ea
    subst eb
    rcases List.mem_cons.mp hp with rfl | hp
    · obtain rfl := hp_y0 hys
      obtain ⟨y0, t0, rfl, q0, g0⟩ := hp_gSi (z := (0 + (1 * x4 + 0))) gS rfl
      obtain ⟨y1, t1, rfl, q1, g1⟩ := hp_gSi (z := (0 + (1 * z + 0))) g0 rfl
      obtain ⟨y2, t2, rfl, q2, g2⟩ := hp_gSi (z := (0 + (1 * y + 0))) g1 rfl
      obtain ⟨y3, t3, rfl, q3, g3⟩ := hp_gSi (z := (0 + (1 * x + 0))) g2 rfl
      obtain ⟨t4, rfl, g4⟩ := hp_gSa g3 (by decide)
      cases hp_gSn g4
      exact e0 l' h' y0 y1 y2 y3 (by omega) (by omega) (by omega) (by omega) a1 hfr (hp_gLa gL (List.mem_of_getElem? (i := 0) rfl) (by decide)) (hp_gLa gL (List.mem_of_getElem? (i := 1) rfl) (by decide)) (hp_gLa gL (List.mem_of_getElem? (i := 2) rfl) (by decide)) (hp_gLi (z := (0 + (1 * p + 0))) gL (List.mem_of_getElem? (i := 3) rfl) rfl (by omega))
    cases hp
  · intro q hq ys v h' hys gS
    cases hq
theorem rq_crown1_k : lw_chk ly_Y 1051 7 [(0, 0, 3584), (1, 0, 3584), (2, (-2147483648), 2147483647), (3, (-2147483648), 2147483647), (4, (-2147483648), 2147483647), (5, (-2147483648), 2147483647), (6, (-2147483648), 2147483647)] [((-7), [(0, 1), (1, (-1))])] [(0, .inr (.inr (.inl (some 4)))), (1, .inr (.inr (.inl (some 16)))), (2, .inr (.inr (.inl (some 94)))), (3, .inl (0, [(1, 1)]))] [.inl (0, [(6, 1)])] [(60000, (0, []), (0, [(0, 1)])), (60001, (1, [(1, 1)]), (0, [(2, 1)])), (60001, (2, [(1, 1)]), (0, [(3, 1)])), (60001, (3, [(1, 1)]), (0, [(4, 1)])), (60001, (4, [(1, 1)]), (0, [(5, 1)]))] [] [(1073, ([], 7, [(0, 0, 3584), (1, 0, 3584), (2, (-2147483648), 2147483647), (3, (-2147483648), 2147483647), (4, (-2147483648), 2147483647), (5, (-2147483648), 2147483647), (6, (-2147483648), 2147483647)], [], [(0, .inr (.inr (.inl (some 4)))), (1, .inr (.inr (.inl (some 16)))), (2, .inr (.inr (.inl (some 94)))), (3, .inl (0, [(1, 1)]))], [.inl (0, [(5, 1)]), .inl (0, [(4, 1)]), .inl (0, [(3, 1)]), .inl (0, [(2, 1)]), .inr (.inr (.inl (some 94)))], []))] [] 0 0 = true := by decide +kernel
theorem rq_crown1 {cst : am_K} {Φ : am_Q → Prop} {h : am_H} {l : am_L} (gC : ly_gC sx_KK cst) (hY : ∀ d, ly_Yok cst m_cl m_tt m_P m_strs ly_TH ly_Y d) (hy : ly_hy m_tt ly_TH h) (n p x y z x4 a : Int) (x0 : Int32) (hx0 : x0.toInt = (a)) (b0 : 0 ≤ n) (t0 : n ≤ 3584) (b1 : 0 ≤ p) (t1 : p ≤ 3584) (b2 : (-2147483648) ≤ x) (t2 : x ≤ 2147483647) (b3 : (-2147483648) ≤ y) (t3 : y ≤ 2147483647) (b4 : (-2147483648) ≤ z) (t4 : z ≤ 2147483647) (b5 : (-2147483648) ≤ x4) (t5 : x4 ≤ 2147483647) (b6 : (-2147483648) ≤ a) (t6 : a ≤ 2147483647) (f0 : 0 ≤ (n - p - 7)) (k0 : ly_hv cst h 60000 0 = some (n)) (k1 : ly_hv cst h 60001 (p + 1) = some (x)) (k2 : ly_hv cst h 60001 (p + 2) = some (y)) (k3 : ly_hv cst h 60001 (p + 3) = some (z)) (k4 : ly_hv cst h 60001 (p + 4) = some (x4)) (l0 : hp_a l 0 4) (l1 : hp_a l 1 16) (l2 : hp_a l 2 94) (l3 : hp_i l 3 (p)) (e0 : ∀ (l' : am_L) (h' : am_H) (y0 : Int32) (y1 : Int32) (y2 : Int32) (y3 : Int32), y0.toInt = (x4) → y1.toInt = (z) → y2.toInt = (y) → y3.toInt = (x) → ly_hy m_tt ly_TH h' → ly_fr cst [] h h' → hp_a l' 0 4 → hp_a l' 1 16 → hp_a l' 2 94 → hp_i l' 3 (p) → lw_F cst Φ 1073 l' [.int y0, .int y1, .int y2, .int y3, .ref 94] h' 0 0) : lw_F cst Φ 1051 l [.int x0] h 0 0 := by
  refine lw_arc gC hY rq_crown1_k [n, p, x, y, z, x4, a] rfl hy (hp_Bc (z := n) rfl b0 t0 (hp_Bc (z := p) rfl b1 t1 (hp_Bc (z := x) rfl b2 t2 (hp_Bc (z := y) rfl b3 t3 (hp_Bc (z := z) rfl b4 t4 (hp_Bc (z := x4) rfl b5 t5 (hp_Bc (z := a) rfl b6 t6 hp_Bn))))))) (hp_Fc (z := ((-7) + (1 * n + ((-1) * p + 0)))) rfl (by omega) hp_Fn) (hp_Kc (zi := (0 + 0)) (zv := (0 + (1 * n + 0))) k0 rfl rfl (by omega) (by omega) (hp_Kc (zi := (1 + (1 * p + 0))) (zv := (0 + (1 * x + 0))) k1 rfl rfl (by omega) (by omega) (hp_Kc (zi := (2 + (1 * p + 0))) (zv := (0 + (1 * y + 0))) k2 rfl rfl (by omega) (by omega) (hp_Kc (zi := (3 + (1 * p + 0))) (zv := (0 + (1 * z + 0))) k3 rfl rfl (by omega) (by omega) (hp_Kc (zi := (4 + (1 * p + 0))) (zv := (0 + (1 * x4 + 0))) k4 rfl rfl (by omega) (by omega) hp_Kn))))) (hp_La l0 (hp_La l1 (hp_La l2 (hp_Li (z := (0 + (1 * p + 0))) l3 rfl (by omega) hp_Ln)))) (hp_Si (z := (0 + (1 * a + 0))) rfl (by omega) trivial) ?_ ?_
  · intro q hp ys l' st' h' ca sa ha hs hys a1 hfr gZ gL gS
    have ea : ca = 0 := Nat.le_zero.mp ha
    have eb : sa = 0 := Nat.le_zero.mp hs
    subst ea
    subst eb
    rcases List.mem_cons.mp hp with rfl | hp
    · obtain rfl := hp_y0 hys
      obtain ⟨y0, t0, rfl, q0, g0⟩ := hp_gSi (z := (0 + (1 * x4 + 0))) gS rfl
      obtain ⟨y1, t1, rfl, q1, g1⟩ := hp_gSi (z := (0 + (1 * z + 0))) g0 rfl
      obtain ⟨y2, t2, rfl, q2, g2⟩ := hp_gSi (z := (0 + (1 * y + 0))) g1 rfl
      obtain ⟨y3, t3, rfl, q3, g3⟩ := hp_gSi (z := (0 + (1 * x + 0))) g2 rfl
      obtain ⟨t4, rfl, g4⟩ := hp_gSa g3 (by decide)
      cases hp_gSn g4
      exact e0 l' h' y0 y1 y2 y3 (by omega) (by omega) (by omega) (by omega) a1 hfr (hp_gLa gL (List.mem_of_getElem? (i := 0) rfl) (by decide)) (hp_gLa gL (List.mem_of_getElem? (i := 1) rfl) (by decide)) (hp_gLa gL (List.mem_of_getElem? (i := 2) rfl) (by decide)) (hp_gLi (z := (0 + (1 * p + 0))) gL (List.mem_of_getElem? (i := 3) rfl) rfl (by omega))
    cases hp
  · intro q hq ys v h' hys gS
    cases hq
theorem rq_crown2_k : lw_chk ly_Y 1076 3 [(0, 0, 3584), (1, 0, 3584), (2, (-2147483648), 2147483647)] [((-7), [(0, 1), (1, (-1))])] [(0, .inr (.inr (.inl (some 4)))), (1, .inr (.inr (.inl (some 16)))), (2, .inr (.inr (.inl (some 94)))), (3, .inl (0, [(1, 1)]))] [.inl (0, [(2, 1)])] [] [] [(18, ([], 3, [(0, 0, 3584), (1, 0, 3584), (2, (-2147483648), 2147483647)], [], [(0, .inr (.inr (.inl (some 4)))), (1, .inr (.inr (.inl (some 16)))), (2, .inr (.inr (.inl (some 94)))), (3, .inl (7, [(1, 1)]))], [], []))] [] 0 0 = true := by decide +kernel
theorem rq_crown2 {cst : am_K} {Φ : am_Q → Prop} {h : am_H} {l : am_L} (gC : ly_gC sx_KK cst) (hY : ∀ d, ly_Yok cst m_cl m_tt m_P m_strs ly_TH ly_Y d) (hy : ly_hy m_tt ly_TH h) (n p a : Int) (x0 : Int32) (hx0 : x0.toInt = (a)) (b0 : 0 ≤ n) (t0 : n ≤ 3584) (b1 : 0 ≤ p) (t1 : p ≤ 3584) (b2 : (-2147483648) ≤ a) (t2 : a ≤ 2147483647) (f0 : 0 ≤ (n - p - 7)) (l0 : hp_a l 0 4) (l1 : hp_a l 1 16) (l2 : hp_a l 2 94) (l3 : hp_i l 3 (p)) (e0 : ∀ (l' : am_L) (h' : am_H), ly_hy m_tt ly_TH h' → ly_fr cst [] h h' → hp_a l' 0 4 → hp_a l' 1 16 → hp_a l' 2 94 → hp_i l' 3 (p + 7) → lw_F cst Φ 18 l' [] h' 0 0) : lw_F cst Φ 1076 l [.int x0] h 0 0 := by
  refine lw_arc gC hY rq_crown2_k [n, p, a] rfl hy (hp_Bc (z := n) rfl b0 t0 (hp_Bc (z := p) rfl b1 t1 (hp_Bc (z := a) rfl b2 t2 hp_Bn))) (hp_Fc (z := ((-7) + (1 * n + ((-1) * p + 0)))) rfl (by omega) hp_Fn) hp_Kn (hp_La l0 (hp_La l1 (hp_La l2 (hp_Li (z := (0 + (1 * p + 0))) l3 rfl (by omega) hp_Ln)))) (hp_Si (z := (0 + (1 * a + 0))) rfl (by omega) trivial) ?_ ?_
  · intro q hp ys l' st' h' ca sa ha hs hys a1 hfr gZ gL gS
    have ea : ca = 0 := Nat.le_zero.mp ha
    have eb : sa = 0 := Nat.le_zero.mp hs
    subst ea
    subst eb
    rcases List.mem_cons.mp hp with rfl | hp
    · obtain rfl := hp_y0 hys
      cases hp_gSn gS
      exact e0 l' h' a1 hfr (hp_gLa gL (List.mem_of_getElem? (i := 0) rfl) (by decide)) (hp_gLa gL (List.mem_of_getElem? (i := 1) rfl) (by decide)) (hp_gLa gL (List.mem_of_getElem? (i := 2) rfl) (by decide)) (hp_gLi (z := (7 + (1 * p + 0))) gL (List.mem_of_getElem? (i := 3) rfl) rfl (by omega))
    cases hp
  · intro q hq ys v h' hys gS
    cases hq
theorem lc_crown {cst : am_K} {Φ : am_Q → Prop} (gC : ly_gC sx_KK cst) (hY : ∀ d, ly_Yok cst m_cl m_tt m_P m_strs ly_TH ly_Y d) {n p : Int} {h : am_H} {l : am_L} (I : lw_I cst n p h l) (hp7 : p + 7 ≤ n)
    (k : ∀ (h' : am_H) (l' : am_L) (ca sa : Nat), ca ≤ 19 → sa ≤ 261 → lw_I cst n (p + 7) h' l' → lw_F cst Φ 18 l' [] h' ca sa) : lw_F cst Φ 1027 l [] h 0 0 := by
  obtain ⟨hy, k0, n0, n1, p0, p1, ⟨t, s, k2, k3, et, s0, s1⟩, ⟨r, kr, r0, r1⟩, k4, k5, l0, l1, l2, l3, ⟨v0, vk0, vm0, vb0, vt0⟩, ⟨v1, vk1, vm1, vb1, vt1⟩, ⟨v2, vk2, vm2, vb2, vt2⟩, er0, er1, er2, er3, er4, er5⟩ := I
  obtain ⟨x, kx⟩ := lw_elem (i := p + 1) gC k0 (by omega) (by omega)
  obtain ⟨y, ky⟩ := lw_elem (i := p + 2) gC k0 (by omega) (by omega)
  obtain ⟨z, kz⟩ := lw_elem (i := p + 3) gC k0 (by omega) (by omega)
  obtain ⟨x4, kx4⟩ := lw_elem (i := p + 4) gC k0 (by omega) (by omega)
  have c46 : hp_C cst m_strs (46) := ⟨gC, lw_strs, fun d _ => hY d⟩
  have c47 : hp_C cst m_strs (47) := ⟨gC, lw_strs, fun d _ => hY d⟩
  have c48 : hp_C cst m_strs (48) := ⟨gC, lw_strs, fun d _ => hY d⟩
  have c49 : hp_C cst m_strs (49) := ⟨gC, lw_strs, fun d _ => hY d⟩
  refine rq_crown0 gC hY hy n p x.toInt y.toInt z.toInt x4.toInt n0 n1 p0 (by omega) x.le_toInt x.toInt_le y.le_toInt y.toInt_le z.le_toInt z.toInt_le x4.le_toInt x4.toInt_le (by omega) k0 kx ky kz kx4 l0 l1 l2 l3 (fun l1' h1 a0 a1 a2 a3 e0 e1 e2 e3 u1 f1 g0 g1 g2 g3 => ?_)
  have T0 : tp_H cst h1 h1 := tp_mv er0 hy u1 hy u1 f1 f1 rfl rfl
  obtain ⟨nN, vN⟩ : ∃ nN : Nat, v0 = (nN : Int) := ⟨v0.toNat, by omega⟩
  have cc : ∀ d, hp_C cst m_strs d := fun d => ⟨gC, lw_strs, fun d' _ => hY d'⟩
  obtain ⟨q1, hrun, tT, enT, kdT, plT, vlT, TT, ⟨aC, s1', sA⟩, s2', s3', shy, sfr, sP⟩ := ncc_run (D := 49) (xp := a3) (xs := a2) (xy := a1) (xd := a0) (N := nN) (u := v2) (g := v1) (s := s) cc (by decide) u1 (by omega) (by rw [← vN]; exact f1 _ _ _ rfl vk0) vb2 vt2 (f1 _ _ _ rfl vk2) vb1 vt1 (f1 _ _ _ rfl vk1) s0 s1 (f1 _ _ _ rfl k3) (f1 _ _ _ rfl (by rw [← et]; exact k2))
  refine lw_callc (pc := 1048) (tg := 131) (na := 5) (c := 0) (ci := 0) (st0 := [.int a0, .int a1, .int a2, .int a3, .ref 16]) (st := []) (av := [.int a3, .int a2, .int a1, .int a0]) (by decide +kernel) u1 rfl rfl rfl (Nat.le_of_ble_eq_true rfl) hrun ?_
  rw [s1']
  refine lw_shift ?_
  have fa : ∀ rg i v, ly_has rg ng_mc = false → ly_hv cst h rg i = some v → ly_hv cst q1.2.1 rg i = some v := fun rg i v ha e => sfr _ _ _ ha (f1 _ _ _ rfl e)
  refine rq_crown1 gC hY shy n p x.toInt y.toInt z.toInt x4.toInt aC.toInt aC rfl n0 n1 p0 (by omega) x.le_toInt x.toInt_le y.le_toInt y.toInt_le z.le_toInt z.toInt_le x4.le_toInt x4.toInt_le aC.le_toInt aC.toInt_le (by omega) (fa _ _ _ rfl k0) (fa _ _ _ rfl kx) (fa _ _ _ rfl ky) (fa _ _ _ rfl kz) (fa _ _ _ rfl kx4) g0 g1 g2 g3 (fun l2' h2 b0 b1 b2 b3 d0 d1 d2 d3 u2 f2 o0 o1 o2 o3 => ?_)
  have fb : ∀ rg i v, ly_has rg ng_mc = false → ly_hv cst h rg i = some v → ly_hv cst h2 rg i = some v := fun rg i v ha e => f2 _ _ _ rfl (fa _ _ _ ha e)
  have T1 : tp_H cst h1 h2 := tp_mv (mc := []) (mm := ng_mc) T0 u1 u1 u1 u2 (ly_fr_rf h1) (fun rg i v ha e => f2 _ _ _ rfl (sfr rg i v ha e)) rfl rfl
  have Z0 : zr_J cst h1 h2 s := zr_Jmv (mc := []) (mm := ng_mc) (zr_of er4 k3) f1 fb rfl rfl
  have W0 : wf_J cst h1 h2 s := wf_Jmv (mc := []) (mm := ng_mc) (wf_of er5 k3) f1 fb rfl rfl
  obtain ⟨q2, hrun2, aR, w1', w2', w3', why, wfr, wP⟩ := nxc_run (D := 49) (xp := b3) (xs := b2) (xy := b1) (xd := b0) (f := gt_g cst h1 512) (n := (nN : Int)) (u := v2) (g := v1) (s := s) cc (by decide) u2 TT (by omega) (by omega) (fun x x0 x1 => gs_even T1 u2 x0 (by omega)) (by rw [← vN]; exact fb _ _ _ rfl vm0) vb2 vt2 (fb _ _ _ rfl vm2) vb1 vt1 (fb _ _ _ rfl vm1) s0 s1 (fb _ _ _ rfl (mt_of er2 k3))
  refine lw_call (pc := 1073) (tg := 334) (na := 5) (c := 78) (ci := 12) (st0 := [.int b0, .int b1, .int b2, .int b3, .ref 94]) (st := []) (av := [.int b3, .int b2, .int b1, .int b0]) (by decide +kernel) u2 rfl rfl rfl (Nat.le_of_ble_eq_true rfl) hrun2 w2' w3' ?_
  rw [w1']
  obtain ⟨sz, sC⟩ := sP
  obtain ⟨wz, wA, wM⟩ := wP
  rw [e0, e1, e2, e3] at sA sC
  rw [d0, d1, d2, d3] at wA wM
  have both : aR.toInt = aC.toInt := (ngA_u sA wA).symm
  obtain ⟨t2, s2, kt2, ks2, km2, ee2, s20, s21⟩ := mt_two9 s0 s1 (fun z => z.2.2) sC wM
  have W3 := wf_new W0 s0 s1 (fun z => z.2.2) (fun _ => ⟨sw_b TT, ⟨x4.le_toInt, x4.toInt_le⟩, ⟨y.le_toInt, y.toInt_le⟩, Or.inl rfl, Or.inl rfl⟩) sfr sC wfr wM
  have Z3 := zr_new Iff.rfl Z0 (fun _ => ⟨fun _ => rfl, fun _ => rfl⟩) (fun rg j v hr e => by rcases hr with rfl | rfl <;> exact sfr _ _ _ rfl e) (fun z => ⟨(sC.1 z).1, (sC.1 z).2.2.2.1, (sC.1 z).2.2.2.2.1⟩) (fun z => (sC.2 z).1) (fun rg j v hr ne e => wM.2.2 rg j v (by omega) ne e) (fun z => ⟨(wM.1 z).2.1, (wM.1 z).2.2.1⟩)
  refine rq_crown2 gC hY why n p aR.toInt aR rfl n0 n1 p0 (by omega) aR.le_toInt aR.toInt_le (by omega) o0 o1 o2 o3 (fun l3' h3 u3 f3 i0 i1 i2 i3 => ?_)
  have fc : ly_fr cst ng_mm q1.2.1 h3 := fun rg i v hb e => f3 _ _ _ rfl (wfr _ _ _ hb (f2 _ _ _ rfl e))
  have tt : ∀ rg i v, ly_has rg ng_mc = false → ly_has rg ng_mm = false → ly_hv cst h rg i = some v → ly_hv cst h3 rg i = some v := fun rg i v ha hb e => fc _ _ _ hb (fa _ _ _ ha e)
  exact lw_back (k h3 l3' (q1.2.2.1 + 0) (q1.2.2.2 + 0) s2' s3' ⟨u3, tt _ _ _ rfl rfl k0, n0, n1, by omega, by omega, ⟨t2, s2, fc _ _ _ rfl kt2, fc _ _ _ rfl ks2, ee2, s20, s21⟩, ⟨r, tt _ _ _ rfl rfl kr, r0, by omega⟩, tt _ _ _ rfl rfl k4, tt _ _ _ rfl rfl k5, i0, i1, i2, i3, ⟨0, fc _ _ _ rfl sz, f3 _ _ _ rfl wz, by omega, by omega⟩, ⟨v1, tt _ _ _ rfl rfl vk1, tt _ _ _ rfl rfl vm1, vb1, vt1⟩, ⟨v2, tt _ _ _ rfl rfl vk2, tt _ _ _ rfl rfl vm2, vb2, vt2⟩, tp_mv (tp_mv (mc := ng_mc) (mm := ng_mc) er0 hy shy hy shy fa fa rfl rfl) shy u3 shy u3 fc fc rfl rfl, LW_mv (p' := p + 7) (LW_mv (p' := p + 7) (ms := ng_mc) er1 fa rfl rfl vk0 sz (by omega) (by omega)) fc rfl rfl sz (fc _ _ _ rfl sz) (by omega) (by omega), ⟨s2, fc _ _ _ rfl ks2, f3 _ _ _ rfl km2⟩, mo_mv (mo_two9 er3 k3 (fun j v e => fa _ _ _ rfl e) sC) fc rfl rfl, zr_mv Z3 fc f3 rfl rfl rfl, wf_mv W3 fc f3 rfl rfl rfl⟩)
theorem rq_plea0_k : lw_chk ly_Y 1080 8 [(0, 0, 3584), (1, 0, 3584), (2, (-2147483648), 2147483647), (3, (-2147483648), 2147483647), (4, (-2147483648), 2147483647), (5, (-2147483648), 2147483647), (6, (-2147483648), 2147483647), (7, (-2147483648), 2147483647)] [((-7), [(0, 1), (1, (-1))])] [(0, .inr (.inr (.inl (some 4)))), (1, .inr (.inr (.inl (some 16)))), (2, .inr (.inr (.inl (some 94)))), (3, .inl (0, [(1, 1)]))] [] [(60000, (0, []), (0, [(0, 1)])), (60001, (1, [(1, 1)]), (0, [(2, 1)])), (60001, (2, [(1, 1)]), (0, [(3, 1)])), (60001, (3, [(1, 1)]), (0, [(4, 1)])), (60001, (4, [(1, 1)]), (0, [(5, 1)])), (60001, (5, [(1, 1)]), (0, [(6, 1)])), (60001, (6, [(1, 1)]), (0, [(7, 1)]))] [] [(1112, ([], 8, [(0, 0, 3584), (1, 0, 3584), (2, (-2147483648), 2147483647), (3, (-2147483648), 2147483647), (4, (-2147483648), 2147483647), (5, (-2147483648), 2147483647), (6, (-2147483648), 2147483647), (7, (-2147483648), 2147483647)], [], [(0, .inr (.inr (.inl (some 4)))), (1, .inr (.inr (.inl (some 16)))), (2, .inr (.inr (.inl (some 94)))), (3, .inl (0, [(1, 1)]))], [.inl (0, [(7, 1)]), .inl (0, [(6, 1)]), .inl (0, [(5, 1)]), .inl (0, [(4, 1)]), .inl (0, [(3, 1)]), .inl (0, [(2, 1)]), .inr (.inr (.inl (some 16)))], []))] [] 0 0 = true := by decide +kernel
theorem rq_plea0 {cst : am_K} {Φ : am_Q → Prop} {h : am_H} {l : am_L} (gC : ly_gC sx_KK cst) (hY : ∀ d, ly_Yok cst m_cl m_tt m_P m_strs ly_TH ly_Y d) (hy : ly_hy m_tt ly_TH h) (n p x y z x4 x5 x6 : Int) (b0 : 0 ≤ n) (t0 : n ≤ 3584) (b1 : 0 ≤ p) (t1 : p ≤ 3584) (b2 : (-2147483648) ≤ x) (t2 : x ≤ 2147483647) (b3 : (-2147483648) ≤ y) (t3 : y ≤ 2147483647) (b4 : (-2147483648) ≤ z) (t4 : z ≤ 2147483647) (b5 : (-2147483648) ≤ x4) (t5 : x4 ≤ 2147483647) (b6 : (-2147483648) ≤ x5) (t6 : x5 ≤ 2147483647) (b7 : (-2147483648) ≤ x6) (t7 : x6 ≤ 2147483647) (f0 : 0 ≤ (n - p - 7)) (k0 : ly_hv cst h 60000 0 = some (n)) (k1 : ly_hv cst h 60001 (p + 1) = some (x)) (k2 : ly_hv cst h 60001 (p + 2) = some (y)) (k3 : ly_hv cst h 60001 (p + 3) = some (z)) (k4 : ly_hv cst h 60001 (p + 4) = some (x4)) (k5 : ly_hv cst h 60001 (p + 5) = some (x5)) (k6 : ly_hv cst h 60001 (p + 6) = some (x6)) (l0 : hp_a l 0 4) (l1 : hp_a l 1 16) (l2 : hp_a l 2 94) (l3 : hp_i l 3 (p)) (e0 : ∀ (l' : am_L) (h' : am_H) (y0 : Int32) (y1 : Int32) (y2 : Int32) (y3 : Int32) (y4 : Int32) (y5 : Int32), y0.toInt = (x6) → y1.toInt = (x5) → y2.toInt = (x4) → y3.toInt = (z) → y4.toInt = (y) → y5.toInt = (x) → ly_hy m_tt ly_TH h' → ly_fr cst [] h h' → hp_a l' 0 4 → hp_a l' 1 16 → hp_a l' 2 94 → hp_i l' 3 (p) → lw_F cst Φ 1112 l' [.int y0, .int y1, .int y2, .int y3, .int y4, .int y5, .ref 16] h' 0 0) : lw_F cst Φ 1080 l [] h 0 0 := by
  refine lw_arc gC hY rq_plea0_k [n, p, x, y, z, x4, x5, x6] rfl hy (hp_Bc (z := n) rfl b0 t0 (hp_Bc (z := p) rfl b1 t1 (hp_Bc (z := x) rfl b2 t2 (hp_Bc (z := y) rfl b3 t3 (hp_Bc (z := z) rfl b4 t4 (hp_Bc (z := x4) rfl b5 t5 (hp_Bc (z := x5) rfl b6 t6 (hp_Bc (z := x6) rfl b7 t7 hp_Bn)))))))) (hp_Fc (z := ((-7) + (1 * n + ((-1) * p + 0)))) rfl (by omega) hp_Fn) (hp_Kc (zi := (0 + 0)) (zv := (0 + (1 * n + 0))) k0 rfl rfl (by omega) (by omega) (hp_Kc (zi := (1 + (1 * p + 0))) (zv := (0 + (1 * x + 0))) k1 rfl rfl (by omega) (by omega) (hp_Kc (zi := (2 + (1 * p + 0))) (zv := (0 + (1 * y + 0))) k2 rfl rfl (by omega) (by omega) (hp_Kc (zi := (3 + (1 * p + 0))) (zv := (0 + (1 * z + 0))) k3 rfl rfl (by omega) (by omega) (hp_Kc (zi := (4 + (1 * p + 0))) (zv := (0 + (1 * x4 + 0))) k4 rfl rfl (by omega) (by omega) (hp_Kc (zi := (5 + (1 * p + 0))) (zv := (0 + (1 * x5 + 0))) k5 rfl rfl (by omega) (by omega) (hp_Kc (zi := (6 + (1 * p + 0))) (zv := (0 + (1 * x6 + 0))) k6 rfl rfl (by omega) (by omega) hp_Kn))))))) (hp_La l0 (hp_La l1 (hp_La l2 (hp_Li (z := (0 + (1 * p + 0))) l3 rfl (by omega) hp_Ln)))) trivial ?_ ?_
  · intro q hp ys l' st' h' ca sa ha hs hys a1 hfr gZ gL gS
    have ea : ca = 0 := Nat.le_zero.mp ha
    have eb : sa = 0 := Nat.le_zero.mp hs
    subst ea
    subst eb
    rcases List.mem_cons.mp hp with rfl | hp
    · obtain rfl := hp_y0 hys
      obtain ⟨y0, t0, rfl, q0, g0⟩ := hp_gSi (z := (0 + (1 * x6 + 0))) gS rfl
      obtain ⟨y1, t1, rfl, q1, g1⟩ := hp_gSi (z := (0 + (1 * x5 + 0))) g0 rfl
      obtain ⟨y2, t2, rfl, q2, g2⟩ := hp_gSi (z := (0 + (1 * x4 + 0))) g1 rfl
      obtain ⟨y3, t3, rfl, q3, g3⟩ := hp_gSi (z := (0 + (1 * z + 0))) g2 rfl
      obtain ⟨y4, t4, rfl, q4, g4⟩ := hp_gSi (z := (0 + (1 * y + 0))) g3 rfl
      obtain ⟨y5, t5, rfl, q5, g5⟩ := hp_gSi (z := (0 + (1 * x + 0))) g4 rfl
      obtain ⟨t6, rfl, g6⟩ := hp_gSa g5 (by decide)
      cases hp_gSn g6
      exact e0 l' h' y0 y1 y2 y3 y4 y5 (by omega) (by omega) (by omega) (by omega) (by omega) (by omega) a1 hfr (hp_gLa gL (List.mem_of_getElem? (i := 0) rfl) (by decide)) (hp_gLa gL (List.mem_of_getElem? (i := 1) rfl) (by decide)) (hp_gLa gL (List.mem_of_getElem? (i := 2) rfl) (by decide)) (hp_gLi (z := (0 + (1 * p + 0))) gL (List.mem_of_getElem? (i := 3) rfl) rfl (by omega))
    cases hp
  · intro q hq ys v h' hys gS
    cases hq
theorem rq_plea1_k : lw_chk ly_Y 1115 9 [(0, 0, 3584), (1, 0, 3584), (2, (-2147483648), 2147483647), (3, (-2147483648), 2147483647), (4, (-2147483648), 2147483647), (5, (-2147483648), 2147483647), (6, (-2147483648), 2147483647), (7, (-2147483648), 2147483647), (8, (-2147483648), 2147483647)] [((-7), [(0, 1), (1, (-1))])] [(0, .inr (.inr (.inl (some 4)))), (1, .inr (.inr (.inl (some 16)))), (2, .inr (.inr (.inl (some 94)))), (3, .inl (0, [(1, 1)]))] [.inl (0, [(8, 1)])] [(60000, (0, []), (0, [(0, 1)])), (60001, (1, [(1, 1)]), (0, [(2, 1)])), (60001, (2, [(1, 1)]), (0, [(3, 1)])), (60001, (3, [(1, 1)]), (0, [(4, 1)])), (60001, (4, [(1, 1)]), (0, [(5, 1)])), (60001, (5, [(1, 1)]), (0, [(6, 1)])), (60001, (6, [(1, 1)]), (0, [(7, 1)]))] [] [(1148, ([], 9, [(0, 0, 3584), (1, 0, 3584), (2, (-2147483648), 2147483647), (3, (-2147483648), 2147483647), (4, (-2147483648), 2147483647), (5, (-2147483648), 2147483647), (6, (-2147483648), 2147483647), (7, (-2147483648), 2147483647), (8, (-2147483648), 2147483647)], [], [(0, .inr (.inr (.inl (some 4)))), (1, .inr (.inr (.inl (some 16)))), (2, .inr (.inr (.inl (some 94)))), (3, .inl (0, [(1, 1)]))], [.inl (0, [(7, 1)]), .inl (0, [(6, 1)]), .inl (0, [(5, 1)]), .inl (0, [(4, 1)]), .inl (0, [(3, 1)]), .inl (0, [(2, 1)]), .inr (.inr (.inl (some 94)))], []))] [] 0 0 = true := by decide +kernel
theorem rq_plea1 {cst : am_K} {Φ : am_Q → Prop} {h : am_H} {l : am_L} (gC : ly_gC sx_KK cst) (hY : ∀ d, ly_Yok cst m_cl m_tt m_P m_strs ly_TH ly_Y d) (hy : ly_hy m_tt ly_TH h) (n p x y z x4 x5 x6 a : Int) (x0 : Int32) (hx0 : x0.toInt = (a)) (b0 : 0 ≤ n) (t0 : n ≤ 3584) (b1 : 0 ≤ p) (t1 : p ≤ 3584) (b2 : (-2147483648) ≤ x) (t2 : x ≤ 2147483647) (b3 : (-2147483648) ≤ y) (t3 : y ≤ 2147483647) (b4 : (-2147483648) ≤ z) (t4 : z ≤ 2147483647) (b5 : (-2147483648) ≤ x4) (t5 : x4 ≤ 2147483647) (b6 : (-2147483648) ≤ x5) (t6 : x5 ≤ 2147483647) (b7 : (-2147483648) ≤ x6) (t7 : x6 ≤ 2147483647) (b8 : (-2147483648) ≤ a) (t8 : a ≤ 2147483647) (f0 : 0 ≤ (n - p - 7)) (k0 : ly_hv cst h 60000 0 = some (n)) (k1 : ly_hv cst h 60001 (p + 1) = some (x)) (k2 : ly_hv cst h 60001 (p + 2) = some (y)) (k3 : ly_hv cst h 60001 (p + 3) = some (z)) (k4 : ly_hv cst h 60001 (p + 4) = some (x4)) (k5 : ly_hv cst h 60001 (p + 5) = some (x5)) (k6 : ly_hv cst h 60001 (p + 6) = some (x6)) (l0 : hp_a l 0 4) (l1 : hp_a l 1 16) (l2 : hp_a l 2 94) (l3 : hp_i l 3 (p)) (e0 : ∀ (l' : am_L) (h' : am_H) (y0 : Int32) (y1 : Int32) (y2 : Int32) (y3 : Int32) (y4 : Int32) (y5 : Int32), y0.toInt = (x6) → y1.toInt = (x5) → y2.toInt = (x4) → y3.toInt = (z) → y4.toInt = (y) → y5.toInt = (x) → ly_hy m_tt ly_TH h' → ly_fr cst [] h h' → hp_a l' 0 4 → hp_a l' 1 16 → hp_a l' 2 94 → hp_i l' 3 (p) → lw_F cst Φ 1148 l' [.int y0, .int y1, .int y2, .int y3, .int y4, .int y5, .ref 94] h' 0 0) : lw_F cst Φ 1115 l [.int x0] h 0 0 := by
  refine lw_arc gC hY rq_plea1_k [n, p, x, y, z, x4, x5, x6, a] rfl hy (hp_Bc (z := n) rfl b0 t0 (hp_Bc (z := p) rfl b1 t1 (hp_Bc (z := x) rfl b2 t2 (hp_Bc (z := y) rfl b3 t3 (hp_Bc (z := z) rfl b4 t4 (hp_Bc (z := x4) rfl b5 t5 (hp_Bc (z := x5) rfl b6 t6 (hp_Bc (z := x6) rfl b7 t7 (hp_Bc (z := a) rfl b8 t8 hp_Bn))))))))) (hp_Fc (z := ((-7) + (1 * n + ((-1) * p + 0)))) rfl (by omega) hp_Fn) (hp_Kc (zi := (0 + 0)) (zv := (0 + (1 * n + 0))) k0 rfl rfl (by omega) (by omega) (hp_Kc (zi := (1 + (1 * p + 0))) (zv := (0 + (1 * x + 0))) k1 rfl rfl (by omega) (by omega) (hp_Kc (zi := (2 + (1 * p + 0))) (zv := (0 + (1 * y + 0))) k2 rfl rfl (by omega) (by omega) (hp_Kc (zi := (3 + (1 * p + 0))) (zv := (0 + (1 * z + 0))) k3 rfl rfl (by omega) (by omega) (hp_Kc (zi := (4 + (1 * p + 0))) (zv := (0 + (1 * x4 + 0))) k4 rfl rfl (by omega) (by omega) (hp_Kc (zi := (5 + (1 * p + 0))) (zv := (0 + (1 * x5 + 0))) k5 rfl rfl (by omega) (by omega) (hp_Kc (zi := (6 + (1 * p + 0))) (zv := (0 + (1 * x6 + 0))) k6 rfl rfl (by omega) (by omega) hp_Kn))))))) (hp_La l0 (hp_La l1 (hp_La l2 (hp_Li (z := (0 + (1 * p + 0))) l3 rfl (by omega) hp_Ln)))) (hp_Si (z := (0 + (1 * a + 0))) rfl (by omega) trivial) ?_ ?_
  · intro q hp ys l' st' h' ca sa ha hs hys a1 hfr gZ gL gS
    have ea : ca = 0 := Nat.le_zero.mp ha
    have eb : sa = 0 := Nat.le_zero.mp hs
    subst ea
    subst eb
    rcases List.mem_cons.mp hp with rfl | hp
    · obtain rfl := hp_y0 hys
      obtain ⟨y0, t0, rfl, q0, g0⟩ := hp_gSi (z := (0 + (1 * x6 + 0))) gS rfl
      obtain ⟨y1, t1, rfl, q1, g1⟩ := hp_gSi (z := (0 + (1 * x5 + 0))) g0 rfl
      obtain ⟨y2, t2, rfl, q2, g2⟩ := hp_gSi (z := (0 + (1 * x4 + 0))) g1 rfl
      obtain ⟨y3, t3, rfl, q3, g3⟩ := hp_gSi (z := (0 + (1 * z + 0))) g2 rfl
      obtain ⟨y4, t4, rfl, q4, g4⟩ := hp_gSi (z := (0 + (1 * y + 0))) g3 rfl
      obtain ⟨y5, t5, rfl, q5, g5⟩ := hp_gSi (z := (0 + (1 * x + 0))) g4 rfl
      obtain ⟨t6, rfl, g6⟩ := hp_gSa g5 (by decide)
      cases hp_gSn g6
      exact e0 l' h' y0 y1 y2 y3 y4 y5 (by omega) (by omega) (by omega) (by omega) (by omega) (by omega) a1 hfr (hp_gLa gL (List.mem_of_getElem? (i := 0) rfl) (by decide)) (hp_gLa gL (List.mem_of_getElem? (i := 1) rfl) (by decide)) (hp_gLa gL (List.mem_of_getElem? (i := 2) rfl) (by decide)) (hp_gLi (z := (0 + (1 * p + 0))) gL (List.mem_of_getElem? (i := 3) rfl) rfl (by omega))
    cases hp
  · intro q hq ys v h' hys gS
    cases hq
theorem rq_plea2_k : lw_chk ly_Y 1151 3 [(0, 0, 3584), (1, 0, 3584), (2, (-2147483648), 2147483647)] [((-7), [(0, 1), (1, (-1))])] [(0, .inr (.inr (.inl (some 4)))), (1, .inr (.inr (.inl (some 16)))), (2, .inr (.inr (.inl (some 94)))), (3, .inl (0, [(1, 1)]))] [.inl (0, [(2, 1)])] [] [] [(18, ([], 3, [(0, 0, 3584), (1, 0, 3584), (2, (-2147483648), 2147483647)], [], [(0, .inr (.inr (.inl (some 4)))), (1, .inr (.inr (.inl (some 16)))), (2, .inr (.inr (.inl (some 94)))), (3, .inl (7, [(1, 1)]))], [], []))] [] 0 0 = true := by decide +kernel
theorem rq_plea2 {cst : am_K} {Φ : am_Q → Prop} {h : am_H} {l : am_L} (gC : ly_gC sx_KK cst) (hY : ∀ d, ly_Yok cst m_cl m_tt m_P m_strs ly_TH ly_Y d) (hy : ly_hy m_tt ly_TH h) (n p a : Int) (x0 : Int32) (hx0 : x0.toInt = (a)) (b0 : 0 ≤ n) (t0 : n ≤ 3584) (b1 : 0 ≤ p) (t1 : p ≤ 3584) (b2 : (-2147483648) ≤ a) (t2 : a ≤ 2147483647) (f0 : 0 ≤ (n - p - 7)) (l0 : hp_a l 0 4) (l1 : hp_a l 1 16) (l2 : hp_a l 2 94) (l3 : hp_i l 3 (p)) (e0 : ∀ (l' : am_L) (h' : am_H), ly_hy m_tt ly_TH h' → ly_fr cst [] h h' → hp_a l' 0 4 → hp_a l' 1 16 → hp_a l' 2 94 → hp_i l' 3 (p + 7) → lw_F cst Φ 18 l' [] h' 0 0) : lw_F cst Φ 1151 l [.int x0] h 0 0 := by
  refine lw_arc gC hY rq_plea2_k [n, p, a] rfl hy (hp_Bc (z := n) rfl b0 t0 (hp_Bc (z := p) rfl b1 t1 (hp_Bc (z := a) rfl b2 t2 hp_Bn))) (hp_Fc (z := ((-7) + (1 * n + ((-1) * p + 0)))) rfl (by omega) hp_Fn) hp_Kn (hp_La l0 (hp_La l1 (hp_La l2 (hp_Li (z := (0 + (1 * p + 0))) l3 rfl (by omega) hp_Ln)))) (hp_Si (z := (0 + (1 * a + 0))) rfl (by omega) trivial) ?_ ?_
  · intro q hp ys l' st' h' ca sa ha hs hys a1 hfr gZ gL gS
    have ea : ca = 0 := Nat.le_zero.mp ha
    have eb : sa = 0 := Nat.le_zero.mp hs
    subst ea
    subst eb
    rcases List.mem_cons.mp hp with rfl | hp
    · obtain rfl := hp_y0 hys
      cases hp_gSn gS
      exact e0 l' h' a1 hfr (hp_gLa gL (List.mem_of_getElem? (i := 0) rfl) (by decide)) (hp_gLa gL (List.mem_of_getElem? (i := 1) rfl) (by decide)) (hp_gLa gL (List.mem_of_getElem? (i := 2) rfl) (by decide)) (hp_gLi (z := (7 + (1 * p + 0))) gL (List.mem_of_getElem? (i := 3) rfl) rfl (by omega))
    cases hp
  · intro q hq ys v h' hys gS
    cases hq
theorem lc_plea {cst : am_K} {Φ : am_Q → Prop} (gC : ly_gC sx_KK cst) (hY : ∀ d, ly_Yok cst m_cl m_tt m_P m_strs ly_TH ly_Y d) {n p : Int} {h : am_H} {l : am_L} (I : lw_I cst n p h l) (hp7 : p + 7 ≤ n)
    (k : ∀ (h' : am_H) (l' : am_L) (ca sa : Nat), ca ≤ 19 → sa ≤ 261 → lw_I cst n (p + 7) h' l' → lw_F cst Φ 18 l' [] h' ca sa) : lw_F cst Φ 1080 l [] h 0 0 := by
  obtain ⟨hy, k0, n0, n1, p0, p1, ⟨t, s, k2, k3, et, s0, s1⟩, ⟨r, kr, r0, r1⟩, k4, k5, l0, l1, l2, l3, ⟨v0, vk0, vm0, vb0, vt0⟩, ⟨v1, vk1, vm1, vb1, vt1⟩, ⟨v2, vk2, vm2, vb2, vt2⟩, er0, er1, er2, er3, er4, er5⟩ := I
  obtain ⟨x, kx⟩ := lw_elem (i := p + 1) gC k0 (by omega) (by omega)
  obtain ⟨y, ky⟩ := lw_elem (i := p + 2) gC k0 (by omega) (by omega)
  obtain ⟨z, kz⟩ := lw_elem (i := p + 3) gC k0 (by omega) (by omega)
  obtain ⟨x4, kx4⟩ := lw_elem (i := p + 4) gC k0 (by omega) (by omega)
  obtain ⟨x5, kx5⟩ := lw_elem (i := p + 5) gC k0 (by omega) (by omega)
  obtain ⟨x6, kx6⟩ := lw_elem (i := p + 6) gC k0 (by omega) (by omega)
  have c46 : hp_C cst m_strs (46) := ⟨gC, lw_strs, fun d _ => hY d⟩
  have c47 : hp_C cst m_strs (47) := ⟨gC, lw_strs, fun d _ => hY d⟩
  have c48 : hp_C cst m_strs (48) := ⟨gC, lw_strs, fun d _ => hY d⟩
  have c49 : hp_C cst m_strs (49) := ⟨gC, lw_strs, fun d _ => hY d⟩
  refine rq_plea0 gC hY hy n p x.toInt y.toInt z.toInt x4.toInt x5.toInt x6.toInt n0 n1 p0 (by omega) x.le_toInt x.toInt_le y.le_toInt y.toInt_le z.le_toInt z.toInt_le x4.le_toInt x4.toInt_le x5.le_toInt x5.toInt_le x6.le_toInt x6.toInt_le (by omega) k0 kx ky kz kx4 kx5 kx6 l0 l1 l2 l3 (fun l1' h1 a0 a1 a2 a3 a4 a5 e0 e1 e2 e3 e4 e5 u1 f1 g0 g1 g2 g3 => ?_)
  have T0 : tp_H cst h1 h1 := tp_mv er0 hy u1 hy u1 f1 f1 rfl rfl
  obtain ⟨nN, vN⟩ : ∃ nN : Nat, v0 = (nN : Int) := ⟨v0.toNat, by omega⟩
  have cc : ∀ d, hp_C cst m_strs d := fun d => ⟨gC, lw_strs, fun d' _ => hY d'⟩
  obtain ⟨q1, hrun, tT, enT, kdT, plT, vlT, TT, ⟨aC, s1', sA⟩, s2', s3', shy, sfr, sP⟩ := ncp_run (D := 49) (xp := a5) (xq := a4) (xs := a3) (xy := a2) (xd := a1) (xw := a0) (N := nN) (u := v2) (g := v1) (s := s) cc (by decide) u1 (by omega) (by rw [← vN]; exact f1 _ _ _ rfl vk0) vb2 vt2 (f1 _ _ _ rfl vk2) vb1 vt1 (f1 _ _ _ rfl vk1) s0 s1 (f1 _ _ _ rfl k3) (f1 _ _ _ rfl (by rw [← et]; exact k2))
  refine lw_callc (pc := 1112) (tg := 137) (na := 7) (c := 0) (ci := 0) (st0 := [.int a0, .int a1, .int a2, .int a3, .int a4, .int a5, .ref 16]) (st := []) (av := [.int a5, .int a4, .int a3, .int a2, .int a1, .int a0]) (by decide +kernel) u1 rfl rfl rfl (Nat.le_of_ble_eq_true rfl) hrun ?_
  rw [s1']
  refine lw_shift ?_
  have fa : ∀ rg i v, ly_has rg ng_mc = false → ly_hv cst h rg i = some v → ly_hv cst q1.2.1 rg i = some v := fun rg i v ha e => sfr _ _ _ ha (f1 _ _ _ rfl e)
  refine rq_plea1 gC hY shy n p x.toInt y.toInt z.toInt x4.toInt x5.toInt x6.toInt aC.toInt aC rfl n0 n1 p0 (by omega) x.le_toInt x.toInt_le y.le_toInt y.toInt_le z.le_toInt z.toInt_le x4.le_toInt x4.toInt_le x5.le_toInt x5.toInt_le x6.le_toInt x6.toInt_le aC.le_toInt aC.toInt_le (by omega) (fa _ _ _ rfl k0) (fa _ _ _ rfl kx) (fa _ _ _ rfl ky) (fa _ _ _ rfl kz) (fa _ _ _ rfl kx4) (fa _ _ _ rfl kx5) (fa _ _ _ rfl kx6) g0 g1 g2 g3 (fun l2' h2 b0 b1 b2 b3 b4 b5 d0 d1 d2 d3 d4 d5 u2 f2 o0 o1 o2 o3 => ?_)
  have fb : ∀ rg i v, ly_has rg ng_mc = false → ly_hv cst h rg i = some v → ly_hv cst h2 rg i = some v := fun rg i v ha e => f2 _ _ _ rfl (fa _ _ _ ha e)
  have T1 : tp_H cst h1 h2 := tp_mv (mc := []) (mm := ng_mc) T0 u1 u1 u1 u2 (ly_fr_rf h1) (fun rg i v ha e => f2 _ _ _ rfl (sfr rg i v ha e)) rfl rfl
  have Z0 : zr_J cst h1 h2 s := zr_Jmv (mc := []) (mm := ng_mc) (zr_of er4 k3) f1 fb rfl rfl
  have W0 : wf_J cst h1 h2 s := wf_Jmv (mc := []) (mm := ng_mc) (wf_of er5 k3) f1 fb rfl rfl
  obtain ⟨q2, hrun2, aR, w1', w2', w3', why, wfr, wP⟩ := nxp_run (D := 49) (xp := b5) (xq := b4) (xs := b3) (xy := b2) (xd := b1) (xw := b0) (f := gt_g cst h1 512) (n := (nN : Int)) (u := v2) (g := v1) (s := s) cc (by decide) u2 TT (by omega) (by omega) (fun x x0 x1 => gs_even T1 u2 x0 (by omega)) (by rw [← vN]; exact fb _ _ _ rfl vm0) vb2 vt2 (fb _ _ _ rfl vm2) vb1 vt1 (fb _ _ _ rfl vm1) s0 s1 (fb _ _ _ rfl (mt_of er2 k3))
  refine lw_call (pc := 1148) (tg := 336) (na := 7) (c := 78) (ci := 12) (st0 := [.int b0, .int b1, .int b2, .int b3, .int b4, .int b5, .ref 94]) (st := []) (av := [.int b5, .int b4, .int b3, .int b2, .int b1, .int b0]) (by decide +kernel) u2 rfl rfl rfl (Nat.le_of_ble_eq_true rfl) hrun2 w2' w3' ?_
  rw [w1']
  obtain ⟨sz, sC⟩ := sP
  obtain ⟨wz, wA, wM⟩ := wP
  rw [e0, e1, e2, e3, e4, e5] at sA sC
  rw [d0, d1, d2, d3, d4, d5] at wA wM
  have both : aR.toInt = aC.toInt := (ngA_u sA wA).symm
  obtain ⟨t2, s2, kt2, ks2, km2, ee2, s20, s21⟩ := mt_two9 s0 s1 (fun z => z.2.2) sC wM
  have W3 := wf_new W0 s0 s1 (fun z => z.2.2) (fun _ => ⟨sw_b TT, ⟨x5.le_toInt, x5.toInt_le⟩, ⟨z.le_toInt, z.toInt_le⟩, Or.inl rfl, Or.inl rfl⟩) sfr sC wfr wM
  have Z3 := zr_new Iff.rfl Z0 (fun z => ⟨fun e => by have := z.1.1; omega, fun e => by omega⟩) (fun rg j v hr e => by rcases hr with rfl | rfl <;> exact sfr _ _ _ rfl e) (fun z => ⟨(sC.1 z).1, (sC.1 z).2.2.2.1, (sC.1 z).2.2.2.2.1⟩) (fun z => (sC.2 z).1) (fun rg j v hr ne e => wM.2.2 rg j v (by omega) ne e) (fun z => ⟨(wM.1 z).2.1, (wM.1 z).2.2.1⟩)
  refine rq_plea2 gC hY why n p aR.toInt aR rfl n0 n1 p0 (by omega) aR.le_toInt aR.toInt_le (by omega) o0 o1 o2 o3 (fun l3' h3 u3 f3 i0 i1 i2 i3 => ?_)
  have fc : ly_fr cst ng_mm q1.2.1 h3 := fun rg i v hb e => f3 _ _ _ rfl (wfr _ _ _ hb (f2 _ _ _ rfl e))
  have tt : ∀ rg i v, ly_has rg ng_mc = false → ly_has rg ng_mm = false → ly_hv cst h rg i = some v → ly_hv cst h3 rg i = some v := fun rg i v ha hb e => fc _ _ _ hb (fa _ _ _ ha e)
  exact lw_back (k h3 l3' (q1.2.2.1 + 0) (q1.2.2.2 + 0) s2' s3' ⟨u3, tt _ _ _ rfl rfl k0, n0, n1, by omega, by omega, ⟨t2, s2, fc _ _ _ rfl kt2, fc _ _ _ rfl ks2, ee2, s20, s21⟩, ⟨r, tt _ _ _ rfl rfl kr, r0, by omega⟩, tt _ _ _ rfl rfl k4, tt _ _ _ rfl rfl k5, i0, i1, i2, i3, ⟨0, fc _ _ _ rfl sz, f3 _ _ _ rfl wz, by omega, by omega⟩, ⟨v1, tt _ _ _ rfl rfl vk1, tt _ _ _ rfl rfl vm1, vb1, vt1⟩, ⟨v2, tt _ _ _ rfl rfl vk2, tt _ _ _ rfl rfl vm2, vb2, vt2⟩, tp_mv (tp_mv (mc := ng_mc) (mm := ng_mc) er0 hy shy hy shy fa fa rfl rfl) shy u3 shy u3 fc fc rfl rfl, LW_mv (p' := p + 7) (LW_mv (p' := p + 7) (ms := ng_mc) er1 fa rfl rfl vk0 sz (by omega) (by omega)) fc rfl rfl sz (fc _ _ _ rfl sz) (by omega) (by omega), ⟨s2, fc _ _ _ rfl ks2, f3 _ _ _ rfl km2⟩, mo_mv (mo_two9 er3 k3 (fun j v e => fa _ _ _ rfl e) sC) fc rfl rfl, zr_mv Z3 fc f3 rfl rfl rfl, wf_mv W3 fc f3 rfl rfl rfl⟩)
