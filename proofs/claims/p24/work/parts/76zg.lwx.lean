/-! PRINTED by wip/p2/hp_lw.py: the law of class and reference -/
/-- a run of class's act leaves the owners' words -/
theorem xg_one {cst : am_K} {strs : List Nat} (cc : ∀ d, hp_C cst strs d) {h : am_H} (hy : ly_hy m_tt ly_TH h) {xd xs : Int32} (g : ly_hv cst h 60010 0 = some 1) {r : am_Q} (hr : am_Run cst m_cl m_tt m_P strs sx_bi 50 70 [.ref 16, .int xd, .int xs] h r) : ly_hv cst r.2.1 60010 0 = some 1 := by
  obtain ⟨M_9, hM_9, hl⟩ := hp_M (mi := 70) (k := 3) (by decide +kernel)
  have C_9 := (cc 50).2.2 50 (Nat.le_refl _) 70 [lyc373] lyc373 rfl (List.mem_singleton.mpr rfl)
  have gZ : ly_gZ cst (hp_nu [xd.toInt, xs.toInt, 1]) (3, [(0, (-2147483648), 2147483647), (1, (-2147483648), 2147483647), (2, 1, 1)], [], [(60010, (0, []), (0, [(2, 1)]))]) h := ⟨fun k hk => List.getElem?_eq_none (by show 3 ≤ k; exact hk), hp_Bc (z := xd.toInt) rfl xd.le_toInt xd.toInt_le (hp_Bc (z := xs.toInt) rfl xs.le_toInt xs.toInt_le (hp_Bc (z := 1) rfl (by decide) (by decide) hp_Bn)), hp_Fn, hp_Kc (zi := (0 + 0)) (zv := (0 + (1 * 1 + 0))) g rfl rfl rfl rfl hp_Kn⟩
  have gL : ly_gL (hp_nu [xd.toInt, xs.toInt, 1]) h.length [(0, .inr (.inr (.inl (some 16)))), (1, .inl (0, [(0, 1)])), (2, .inl (0, [(1, 1)]))] (lv_args 0 [.ref 16, .int xd, .int xs]) := hp_La rfl (hp_Li (z := (0 + (1 * xd.toInt + 0))) ⟨xd, rfl, rfl⟩ rfl (by omega) (hp_Li (z := (0 + (1 * xs.toInt + 0))) ⟨xs, rfl, rfl⟩ rfl (by omega) hp_Ln))
  obtain ⟨r', hrun', -, -, -, -, -, p_9, hp, ν', q1_9, q2_9, -⟩ := C_9 (hp_nu [xd.toInt, xs.toInt, 1]) [.ref 16, .int xd, .int xs] h 8 M_9 hM_9 hl hy gZ gL (ly_ev_c _ 8) (by decide)
  have e_9 := am_Run_det 50 70 _ _ _ _ hr hrun'
  rw [e_9]
  have hp : p_9 ∈ ([([(1, 0, (0, [])), (2, 60010, (0, []))], 5, [(0, (-2147483648), 2147483647), (1, (-2147483648), 2147483647), (2, 1, 1), (3, (-3), 29), (4, 1, 1)], [], [], [.inl (0, [(3, 1)])], [(257, (0, []), (0, [])), (60010, (0, []), (0, [(4, 1)]))])] : List ly_P) := hp
  have q1_9 : ∀ k, k < 3 → ν' k = hp_nu [xd.toInt, xs.toInt, 1] k := q1_9
  rcases List.mem_cons.mp hp with rfl | hp
  · obtain ⟨ys, hys, rfl⟩ := hp_ext (n := 3) (xs := [xd.toInt, xs.toInt, 1]) rfl (by decide) q1_9 q2_9
    obtain ⟨w_9, v_9, rfl⟩ := hp_y2 hys
    have bv_9 := hp_gB (k := 4) (z := v_9) q2_9.2.1 (List.mem_of_getElem? (i := 4) rfl) rfl
    exact hp_gK (zi := (0 + 0)) (zv := (0 + (1 * v_9 + 0))) q2_9.2.2.2 (List.mem_of_getElem? (i := 1) rfl) rfl rfl rfl (by omega)
  · cases hp
theorem xg_two {cst : am_K} {strs : List Nat} (cc : ∀ d, hp_C cst strs d) {h : am_H} (hy : ly_hy m_tt ly_TH h) {xd xs : Int32} (g : ly_hv cst h 60020 0 = some 1) {r : am_Q} (hr : am_Run cst m_cl m_tt m_P strs sx_bi 50 297 [.ref 94, .int xd, .int xs] h r) : ly_hv cst r.2.1 60020 0 = some 1 := by
  obtain ⟨M_9, hM_9, hl⟩ := hp_M (mi := 297) (k := 3) (by decide +kernel)
  have C_9 := (cc 50).2.2 50 (Nat.le_refl _) 297 [lyc214] lyc214 rfl (List.mem_singleton.mpr rfl)
  have gZ : ly_gZ cst (hp_nu [xd.toInt, xs.toInt, 1]) (3, [(0, (-2147483648), 2147483647), (1, (-2147483648), 2147483647), (2, 1, 1)], [], [(60020, (0, []), (0, [(2, 1)]))]) h := ⟨fun k hk => List.getElem?_eq_none (by show 3 ≤ k; exact hk), hp_Bc (z := xd.toInt) rfl xd.le_toInt xd.toInt_le (hp_Bc (z := xs.toInt) rfl xs.le_toInt xs.toInt_le (hp_Bc (z := 1) rfl (by decide) (by decide) hp_Bn)), hp_Fn, hp_Kc (zi := (0 + 0)) (zv := (0 + (1 * 1 + 0))) g rfl rfl rfl rfl hp_Kn⟩
  have gL : ly_gL (hp_nu [xd.toInt, xs.toInt, 1]) h.length [(0, .inr (.inr (.inl (some 94)))), (1, .inl (0, [(0, 1)])), (2, .inl (0, [(1, 1)]))] (lv_args 0 [.ref 94, .int xd, .int xs]) := hp_La rfl (hp_Li (z := (0 + (1 * xd.toInt + 0))) ⟨xd, rfl, rfl⟩ rfl (by omega) (hp_Li (z := (0 + (1 * xs.toInt + 0))) ⟨xs, rfl, rfl⟩ rfl (by omega) hp_Ln))
  obtain ⟨r', hrun', -, -, -, -, -, p_9, hp, ν', q1_9, q2_9, -⟩ := C_9 (hp_nu [xd.toInt, xs.toInt, 1]) [.ref 94, .int xd, .int xs] h 36 M_9 hM_9 hl hy gZ gL (ly_ev_c _ 36) (by decide)
  have e_9 := am_Run_det 50 297 _ _ _ _ hr hrun'
  rw [e_9]
  have hp : p_9 ∈ ([([(1, 0, (0, [])), (2, 60020, (0, []))], 5, [(0, (-2147483648), 2147483647), (1, (-2147483648), 2147483647), (2, 1, 1), (3, (-3), 29), (4, 1, 1)], [], [], [.inl (0, [(3, 1)])], [(19969, (0, []), (0, [])), (60020, (0, []), (0, [(4, 1)]))])] : List ly_P) := hp
  have q1_9 : ∀ k, k < 3 → ν' k = hp_nu [xd.toInt, xs.toInt, 1] k := q1_9
  rcases List.mem_cons.mp hp with rfl | hp
  · obtain ⟨ys, hys, rfl⟩ := hp_ext (n := 3) (xs := [xd.toInt, xs.toInt, 1]) rfl (by decide) q1_9 q2_9
    obtain ⟨w_9, v_9, rfl⟩ := hp_y2 hys
    have bv_9 := hp_gB (k := 4) (z := v_9) q2_9.2.1 (List.mem_of_getElem? (i := 4) rfl) rfl
    exact hp_gK (zi := (0 + 0)) (zv := (0 + (1 * v_9 + 0))) q2_9.2.2.2 (List.mem_of_getElem? (i := 1) rfl) rfl rfl rfl (by omega)
  · cases hp
def wD (C : List cl) : Prop := ∀ x ∈ C, 7 ≤ x.1 → x.1 ≤ 13 → x.2.1 = 0
theorem bo_it {c : Prop} [Decidable c] {f : Int × Nat} {x y : Nat × Int × Int × List Int} (h : (if c then (Sum.inl f : (Int × Nat) ⊕ (Nat × Int × Int × List Int)) else Sum.inr x) = Sum.inr y) : x = y := by
  by_cases q : c
  · rw [if_pos q] at h
    cases h
  · rw [if_neg q] at h
    exact Sum.inr.inj h
theorem bo_dq {kd vl : Int → Int} {t : Nat} {A k d : Int} {b e : Nat} {d' n : Int} {L : List Int} (k16 : k ≠ 16) (h : bo kd vl t A k d b = .inr (e, d', n, L)) : d' = d := by
  unfold bo at h
  split at h
  · split at h
    · cases h
    · split at h
      · cases h
      · cases h
        rfl
  split at h
  · split at h
    · cases h
    · split at h
      · cases h
      · cases h
        rfl
  try rw [if_neg k16] at h
  split at h
  · split at h
    · cases h
    · have hq := bo_it h
      cases hq
      rfl
  · cases h
    rfl
set_option maxRecDepth 8000 in
theorem tx_w {kd vl : Int → Int} {t : Nat} {A : Int} : ∀ (F a : Nat) (C C' : List cl), wD C → tx kd vl t A F a C = .inr C' → wD C' := by
  intro F
  induction F with
  | zero =>
    intro a C C' w_9 h_9
    cases h_9
  | succ F ih_9 =>
    intro a C C' w_9 h_9
    rw [tx] at h_9
    split at h_9
    · cases h_9
      exact w_9
    split at h_9
    · cases h_9
    split at h_9
    · cases h_9
    split at h_9
    · cases h_9
    split at h_9
    · cases h_9
    split at h_9
    · cases h_9
    split at h_9
    · cases h_9
    rename_i e_9 d_9 n_9 L_9 hb_9
    split at h_9
    · cases h_9
    refine ih_9 _ _ _ (fun x_9 hx => ?_) h_9
    rcases List.mem_append.mp hx with hx | hx
    · exact w_9 x_9 hx
    · have ex_9 := List.mem_singleton.mp hx
      subst ex_9
      intro k7_9 k13
      have k7_9 : 7 ≤ kf (ak kd vl t a) := k7_9
      have k13 : kf (ak kd vl t a) ≤ 13 := k13
      have k16 : ak kd vl t a ≠ 16 := fun e16_9 => by
        rw [e16_9] at k13
        exact absurd k13 (by decide)
      have hd_9 := bo_dq k16 hb_9
      rw [if_neg (by omega)] at hd_9
      exact hd_9
/-- all clauses of the acts -/
def fX (X : List rX) : List cl := X.flatMap fun x => x.2.2.1
theorem fX_ap (X : List rX) (x : rX) : fX (X ++ [x]) = fX X ++ x.2.2.1 := by
  unfold fX
  rw [List.flatMap_append, List.flatMap_singleton]
set_option maxRecDepth 8000 in
theorem fX_len : ∀ (X : List rX), (∀ i (hi : i < X.length), (X[i]).2.2.1.length ≤ 40) → (fX X).length ≤ 40 * X.length
  | [], _ => Nat.le_refl _
  | x :: X, h => by
    show (x.2.2.1 ++ fX X).length ≤ 40 * (X.length + 1)
    rw [List.length_append]
    have a : x.2.2.1.length ≤ 40 := h 0 (Nat.zero_lt_succ _)
    have b := fX_len X (fun i hi => h (i + 1) (Nat.succ_lt_succ hi))
    omega
set_option maxRecDepth 8000 in
theorem fX_tk : ∀ (X Y : List rX) (i : Nat), i ≤ X.length → (X ++ Y).take i = X.take i
  | [], Y, i, h => by
    have e : i = 0 := Nat.le_zero.mp h
    subst e
    rfl
  | x :: X, Y, 0, h => rfl
  | x :: X, Y, i + 1, h => by
    show x :: (X ++ Y).take i = x :: X.take i
    rw [fX_tk X Y i (Nat.le_of_succ_le_succ h)]
set_option maxRecDepth 8000 in
theorem fX_tl : ∀ (X : List rX), X.take X.length = X
  | [] => rfl
  | x :: X => by
    show x :: X.take X.length = x :: X
    rw [fX_tl X]
/-- the acts of the class -/
def LC (cst : am_K) (h : am_H) (X : List rX) (i0 : List Int) : Prop := laS cst h (X.length : Int) i0 (fX X) ∧ (∀ i (hi : i < X.length), ly_hv cst h 3840 (i : Int) = some (X[i]).1 ∧ ly_hv cst h 4096 (i : Int) = some (X[i]).2.1) ∧ (∀ i : Nat, i ≤ X.length → ly_hv cst h 4352 (i : Int) = some ((fX (X.take i)).length : Int)) ∧ fn_N cst h 6912 0 jwl ∧ fn_N cst h 6656 0 cwl
theorem LC_mv {cst : am_K} {h h' : am_H} {X : List rX} {i0 : List Int} {ms : List Nat} (L : LC cst h X i0) (fr : ly_fr cst ms h h') (q : [3584, 3588, 3594, 3596, 3840, 4096, 4352, 4608, 4864, 5120, 5632, 5888, 6656, 6912, 5376].all (fun x => !ly_has x ms) = true) : LC cst h' X i0 := by
  simp only [List.all_cons, List.all_nil, Bool.and_true, Bool.and_eq_true, Bool.not_eq_true'] at q
  obtain ⟨q0, q1_9, q2_9, q3_9, q4_9, q5_9, q6_9, q7_9, q8_9, q9_9, q10_9, q11_9, q12_9, q13_9, q14_9⟩ := q
  obtain ⟨S_9, a_9, b_9, c_9, d_9⟩ := L
  exact ⟨laS_mv S_9 fr q0 q6_9 (by simp only [List.all_cons, List.all_nil, Bool.and_true, Bool.and_eq_true, Bool.not_eq_true']; exact ⟨q1_9, q7_9, q8_9, q9_9, q10_9, q0, q6_9, q14_9⟩) (by simp only [List.all_cons, List.all_nil, Bool.and_true, Bool.and_eq_true, Bool.not_eq_true']; exact ⟨q2_9, q3_9, q11_9⟩), fun i_9 hi_9 => ⟨fr _ _ _ q4_9 (a_9 i_9 hi_9).1, fr _ _ _ q5_9 (a_9 i_9 hi_9).2⟩, fun i_9 hi_9 => fr _ _ _ q6_9 (b_9 i_9 hi_9), fn_mv c_9 fr q13_9, fn_mv d_9 fr q12_9⟩
/-- the law of both; of the items and the tape as much as the calls so far can have brought -/
def LW (cst : am_K) (h : am_H) (p : Int) : Prop := ∃ (X : List rX) (i0 : List Int) (N : Int), X.length ≤ 30 ∧ LC cst h X i0 ∧ rA cst h X ∧ ly_hv cst h 257 0 = some N ∧ 0 ≤ N ∧ 7 * ((i0.length : Int) + N) ≤ 20 * p ∧ ∀ a (ha : a < X.length), wD (X[a]).2.2.1
theorem LW_mv {cst : am_K} {h h' : am_H} {p p' v w : Int} {ms : List Nat} (I : LW cst h p) (fr : ly_fr cst ms h h') (q1 : [3584, 3588, 3594, 3596, 3840, 4096, 4352, 4608, 4864, 5120, 5632, 5888, 6656, 6912, 5376].all (fun x => !ly_has x ms) = true) (q2 : [19989, 22784, 23040, 23296, 23552, 23808, 24064, 24320, 24576, 24832, 25088, 25344, 25600, 25856, 26112, 26368, 26624, 26880, 27136].all (fun x => !ly_has x ms) = true) (kv : ly_hv cst h 257 0 = some v) (kw : ly_hv cst h' 257 0 = some w) (w0 : 0 ≤ w) (pw : 7 * w + 20 * p ≤ 7 * v + 20 * p') : LW cst h' p' := by
  obtain ⟨X_9, i0_9, N_9, a_9, b_9, c_9, d_9, e_9, f_9, g_9⟩ := I
  rw [kv] at d_9
  cases d_9
  have q2' := q2
  simp only [List.all_cons, List.all_nil, Bool.and_true, Bool.and_eq_true, Bool.not_eq_true'] at q2
  refine ⟨X_9, i0_9, w, a_9, LC_mv b_9 fr q1, rA_k c_9 ⟨fun r_9 hr i_9 u_9 _ ee => fr _ _ _ ?_ ee, fun p hp j_9 u_9 _ ee => fr _ _ _ ?_ ee⟩ (fr _ _ _ q2.1 c_9.1), kw, w0, by omega, g_9⟩
  · have z_9 := List.all_eq_true.mp q2' r_9 (by simp only [List.mem_cons, List.mem_nil_iff, or_false] at hr ⊢; rcases hr with rfl | rfl | rfl <;> simp)
    simpa using z_9
  · have z_9 := List.all_eq_true.mp q2' p.1 (by
      simp only [gk_L, List.mem_cons, List.mem_nil_iff, or_false] at hp
      rcases hp with rfl | rfl | rfl | rfl | rfl | rfl | rfl | rfl | rfl | rfl | rfl | rfl | rfl | rfl | rfl <;> decide)
    simpa using z_9
set_option maxRecDepth 8000 in
/-- an act of both -/
theorem LW_act {cst : am_K} {h1 h2 q1 q2 : am_H} {X : List rX} {i0 : List Int} {pl : Int → Int} {t : Nat} {n d s e a b : Int} {res : (Int × Nat) ⊕ List cl} (x30 : X.length ≤ 30) (n0 : 0 ≤ n) (wd : ∀ a (ha : a < X.length), wD (X[a]).2.2.1) (wr : ∀ C, res = .inr C → wD C) (L : LC cst h1 X i0) (fr : ly_fr cst ac_mods h1 q1) (A : ac_P cst h1 q1 (X.length : Int) i0 (fX X) pl t n res d s e a) (B : ra_P cst h2 q2 X pl t n res d s e b) : b = a ∧ ∃ X' i0', X'.length ≤ 30 ∧ LC cst q1 X' i0' ∧ rA cst q2 X' ∧ (i0'.length : Int) ≤ (i0.length : Int) + n ∧ ∀ a (ha : a < X'.length), wD (X'[a]).2.2.1 := by
  obtain ⟨S_9, La_9, Lb, Lc_9, Ld⟩ := L
  have same_9 : laS cst q1 (X.length : Int) i0 (fX X) → arw cst h1 q1 → LC cst q1 X i0 := fun S' r_9 => ⟨S', fun i_9 hi_9 => ⟨r_9.1 _ _ (La_9 i_9 hi_9).1, r_9.2.1 _ _ (La_9 i_9 hi_9).2⟩, fun i_9 hi_9 => r_9.2.2 _ _ (Lb i_9 hi_9), fn_mv Lc_9 fr rfl, fn_mv Ld fr rfl⟩
  by_cases ok_9 : ac_ok (X.length : Int) d s e
  rotate_left
  · obtain ⟨a1_9, a2, a3, -⟩ := A.1 ok_9
    obtain ⟨b1, b2, -⟩ := B.1 ok_9
    exact ⟨by rw [a1_9, b1], X, i0, x30, same_9 a2 a3, b2, by omega, wd⟩
  have A2 := A.2 ok_9
  have B2 := B.2 ok_9
  cases hr : res with
  | inl q_9 =>
    obtain ⟨k_9, c_9⟩ := q_9
    obtain ⟨a1_9, a2, a3, -⟩ := A2.1 k_9 c_9 hr
    obtain ⟨b1, b2, -⟩ := B2.1 k_9 c_9 hr
    exact ⟨by rw [a1_9, b1], X, i0, x30, same_9 a2 a3, b2, by omega, wd⟩
  | inr C =>
    obtain ⟨-, -, -, a4, -, a5, a6⟩ := A2.2 C hr
    obtain ⟨-, -, b5, b6⟩ := B2.2 C hr
    by_cases z_9 : X.length = 30
    · obtain ⟨a1_9, a2, a3⟩ := a5 (by omega)
      obtain ⟨b1, b2⟩ := b5 z_9
      exact ⟨by rw [a1_9, b1], X, i0, x30, same_9 a2 a3, b2, by omega, wd⟩
    · obtain ⟨a1_9, a2, a3, a7, a8⟩ := a6 (by omega)
      obtain ⟨b1, Z_9, T, S', W_9, b2⟩ := b6 z_9
      have len1 : (X ++ [((d, s, C, Z_9, T, S', W_9) : rX)]).length = X.length + 1 := by rw [List.length_append, List.length_singleton]
      refine ⟨by rw [a1_9, b1], X ++ [(d, s, C, Z_9, T, S', W_9)], i0 ++ cit C, by omega, ⟨?_, fun i_9 hi_9 => ?_, fun i_9 hi_9 => ?_, fn_mv Lc_9 fr rfl, fn_mv Ld fr rfl⟩, b2, by rw [List.length_append]; omega, fun i_9 hi_9 => ?_⟩
      · rw [len1, fX_ap]
        exact a2
      · rw [len1] at hi_9
        by_cases y_9 : i_9 < X.length
        · rw [List.getElem_append_left y_9]
          exact ⟨a3.2 _ _ (by omega) (La_9 i_9 y_9).1, a7.2 _ _ (by omega) (La_9 i_9 y_9).2⟩
        · have ei : i_9 = X.length := by omega
          subst ei
          rw [List.getElem_append_right (Nat.le_refl _)]
          simp only [Nat.sub_self, List.getElem_singleton]
          exact ⟨a3.1, a7.1⟩
      · rw [len1] at hi_9
        by_cases y_9 : i_9 ≤ X.length
        · rw [fX_tk X _ i_9 y_9]
          exact a8.2 _ _ (by omega) (Lb i_9 y_9)
        · have ei : i_9 = X.length + 1 := by omega
          subst ei
          have tl' : (X ++ [((d, s, C, Z_9, T, S', W_9) : rX)]).take (X.length + 1) = X ++ [(d, s, C, Z_9, T, S', W_9)] := by
            rw [← len1]
            exact fX_tl _
          rw [tl', fX_ap]
          exact a8.1
      · rw [len1] at hi_9
        by_cases y_9 : i_9 < X.length
        · rw [List.getElem_append_left y_9]
          exact wd i_9 y_9
        · have ei : i_9 = X.length := by omega
          subst ei
          rw [List.getElem_append_right (Nat.le_refl _)]
          simp only [Nat.sub_self, List.getElem_singleton]
          exact wr C hr
theorem LW_rc {cst : am_K} {h : am_H} {X : List rX} (R : rA cst h X) (x30 : X.length ≤ 30) : ((fX X).length : Int) ≤ 1200 := by
  have z_9 := fX_len X (fun i_9 hi_9 => (R.2 i_9 hi_9).2.2.2.2.2.2.1)
  omega
/-- the last act's first day, in both -/
theorem LW_ke {cst : am_K} {h1 h2 : am_H} {X : List rX} {i0 : List Int} (hy : ly_hy m_tt ly_TH h1) (L : LC cst h1 X i0) (R : rA cst h2 X) (x30 : X.length ≤ 30) : ∃ e : Int, ((X.length : Int) ≠ 0 → ly_hv cst h1 3840 ((X.length : Int) - 1) = some e ∧ -2147483648 ≤ e ∧ e ≤ 2147483647) ∧ (X.length ≠ 0 → ly_hv cst h2 22784 ((X.length : Int) - 1) = some e ∧ -2147483648 ≤ e ∧ e ≤ 2147483647) := by
  by_cases z_9 : X.length = 0
  · exact ⟨0, fun y_9 => by omega, fun y_9 => by omega⟩
  · have hi_9 : X.length - 1 < X.length := by omega
    have a_9 := (L.2.1 (X.length - 1) hi_9).1
    have b_9 := (R.2 (X.length - 1) hi_9).1.1
    have ec : ((X.length - 1 : Nat) : Int) = (X.length : Int) - 1 := by omega
    rw [ec] at a_9 b_9
    obtain ⟨v_9, kv, v0_9, v1_9⟩ := hp_row (cst := cst) (i := (X.length : Int) - 1) hy (show ly_ths ly_TH 15 = some (.inl (.int, 30, -2147483648, 2147483647)) from rfl) (by omega) (by omega)
    have kv : ly_hv cst h1 3840 ((X.length : Int) - 1) = some v_9 := kv
    rw [a_9] at kv
    have ev_9 := Option.some.inj kv
    exact ⟨(X[X.length - 1]' hi_9).1, fun _ => ⟨a_9, by omega, by omega⟩, fun _ => ⟨b_9, by omega, by omega⟩⟩
theorem fd_le {cst : am_K} {q1 : am_H} {n w : Int} {P Q : Prop} (C : (1181 ≤ n → ly_hv cst q1 257 0 = some n ∧ P) ∧ (n ≤ 1180 → ly_hv cst q1 257 0 = some (n + 20) ∧ Q)) (k : ly_hv cst q1 257 0 = some w) : w ≤ n + 20 := by
  by_cases z_9 : n ≤ 1180
  · have y_9 := (C.2 z_9).1
    rw [k] at y_9
    have := Option.some.inj y_9
    omega
  · have y_9 := (C.1 (by omega)).1
    rw [k] at y_9
    have := Option.some.inj y_9
    omega
theorem rA_f3 {cst : am_K} {h h' : am_H} {X : List rX} (R : rA cst h X) (fr : ly_fr cst [] h h') : rA cst h' X := rA_k R (gk_fr fr rfl rfl) (fr _ _ _ rfl R.1)
/-- nothing is told -/
theorem LW_0 {cst : am_K} {h : am_H} (hy : ly_hy m_tt ly_TH h) (k1 : ly_hv cst h 3584 0 = some 0) (k2 : ly_hv cst h 3588 0 = some 0) (k3 : ly_hv cst h 3594 0 = some 0) (k4 : ly_hv cst h 3596 0 = some 0) (k5 : ly_hv cst h 19989 0 = some 0) (k6 : ly_hv cst h 257 0 = some 0) (z1 : ∀ i v, ly_hv cst h (256 * 17) i = some v → v = 0) (z2 : ∀ i v, ly_hv cst h (256 * 22) i = some v → v = 0) (w1 : ∀ i, 0 ≤ i → i < ((jwl.length : Nat) : Int) → ly_hv cst h (256 * 27) i = some (jwl.getD i.toNat 0)) (w2 : ∀ i, 0 ≤ i → i < ((cwl.length : Nat) : Int) → ly_hv cst h (256 * 26) i = some (cwl.getD i.toNat 0)) : LW cst h 0 := by
  have nil : ∀ (q_9 : Nat) (o : Int), fn_N cst h q_9 o [] := fun q_9 o k_9 hk => absurd hk (Nat.not_lt_zero _)
  have r1_9 : ly_hv cst h 4352 0 = some 0 := by
    obtain ⟨v, kv, -⟩ := hp_row (cst := cst) (i := 0) hy (show ly_ths ly_TH 17 = some (.inl (.int, 31, 0, 1240)) from rfl) (by decide) (by decide)
    rw [z1 0 v kv] at kv
    exact kv
  have r2 : ly_hv cst h 5632 0 = some 0 := by
    obtain ⟨v, kv, -⟩ := hp_row (cst := cst) (i := 0) hy (show ly_ths ly_TH 22 = some (.inl (.int, 1241, 0, 10240)) from rfl) (by decide) (by decide)
    rw [z2 0 v kv] at kv
    exact kv
  have wj : ∀ (L_9 : List Int) (r_9 : Nat), (∀ i, 0 ≤ i → i < ((L_9.length : Nat) : Int) → ly_hv cst h r_9 i = some (L_9.getD i.toNat 0)) → fn_N cst h r_9 0 L_9 := fun L_9 r_9 w_9 k_9 hk => by
    rw [Int.zero_add, w_9 (k_9 : Int) (by omega) (by omega), show ((k_9 : Int)).toNat = k_9 from rfl, List.getD_eq_getElem?_getD, List.getElem?_eq_getElem hk]
    rfl
  refine ⟨[], [], 0, Nat.zero_le _, ⟨⟨k1, r1_9, ⟨k2, nil _ _, nil _ _, nil _ _, fun k_9 hk => ?_, rfl, ⟨0, k1, r1_9, fun j_9 hj => absurd hj (Nat.not_lt_zero _)⟩⟩, ⟨k3, k4, nil _ _⟩⟩, fun i hi_9 => absurd hi_9 (Nat.not_lt_zero _), fun i hi_9 => ?_, wj jwl 6912 w1, wj cwl 6656 w2⟩, ⟨k5, fun i hi_9 => absurd hi_9 (Nat.not_lt_zero _)⟩, k6, Int.le_refl 0, by decide, fun a_9 ha_9 => absurd ha_9 (Nat.not_lt_zero _)⟩
  · have e_9 : k_9 = 0 := Nat.le_zero.mp (Nat.le_of_lt_succ hk)
    subst e_9
    exact r2
  · have e_9 : i = 0 := Nat.le_zero.mp hi_9
    subst e_9
    exact r1_9
