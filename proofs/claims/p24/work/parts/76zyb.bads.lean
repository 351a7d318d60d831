/-! PRINTED by wip/p2/hp_bads.py: indictmentFault, badOf -/
/-- what is wrong with an indictment -/
def bdP (X : List rX) (d y s wt ft : Int) (row ns vs : List Int) (v : Int) : Prop := (¬ (wt = 1 ∧ ft = 1) ∧ v = 100) ∨ ((wt = 1 ∧ ft = 1) ∧ ((noF X 0 d y s ∧ v = 200) ∨ ∃ (a j : Nat) (ha : a < X.length) (hj : j < (X[a]).2.2.1.length), inF X 0 d y s a j ∧ ((∃ (a' j' : Nat) (ha' : a' < X.length) (hj' : j' < (X[a']).2.2.1.length), inF X 1 d y s a' j' ∧ wn9 ((X[a']).2.2.1[j']).2.2.2 row 0 < ((X[a']).2.2.1[j']).2.2.2.length ∧ v = 300 + (wn9 ((X[a']).2.2.1[j']).2.2.2 row 0 : Int)) ∨ ((noF X 1 d y s ∨ ∃ (a' j' : Nat) (ha' : a' < X.length) (hj' : j' < (X[a']).2.2.1.length), inF X 1 d y s a' j' ∧ ((X[a']).2.2.1[j']).2.2.2.length ≤ wn9 ((X[a']).2.2.1[j']).2.2.2 row 0) ∧ ∃ b : Int32, mbs (mq ns vs ((X[a]).2.2.1[j]).2.2.2 ([], 0, 0, -20004)).1 b ∧ v = if wlk ((X[a]).2.2.1[j]) b = -1 then 0 else 400 + wlk ((X[a]).2.2.1[j]) b))))
theorem bdP_u {X : List rX} {d y s wt ft : Int} {row ns vs : List Int} {v v' : Int} (A : bdP X d y s wt ft row ns vs v) (B : bdP X d y s wt ft row ns vs v') : v = v' := by
  rcases A with ⟨n1_9, e1_9⟩ | ⟨t1_9, A⟩
  · rcases B with ⟨n2_9, e2_9⟩ | ⟨t2_9, B⟩
    · rw [e1_9, e2_9]
    · exact absurd t2_9 n1_9
  rcases B with ⟨n2_9, e2_9⟩ | ⟨-, B⟩
  · exact absurd t1_9 n2_9
  rcases A with ⟨n1_9, e1_9⟩ | ⟨a_9, j_9, ha_9, hj, f1_9, A⟩
  · rcases B with ⟨n2_9, e2_9⟩ | ⟨a2, j2_9, ha2, hj2, f2_9, B⟩
    · rw [e1_9, e2_9]
    · exact absurd f2_9.1 (n1_9 a2 j2_9)
  rcases B with ⟨n2_9, e2_9⟩ | ⟨a2, j2_9, ha2, hj2, f2_9, B⟩
  · exact absurd f1_9.1 (n2_9 a_9 j_9)
  obtain ⟨z1, z2⟩ := inF_u f1_9 f2_9
  subst z1
  subst z2
  rcases A with ⟨a3, j3_9, ha3, hj3, f3_9, l3, e3_9⟩ | ⟨A1, b_9, m1_9, e3_9⟩
  · rcases B with ⟨a4, j4_9, ha4, hj4, f4_9, l4, e4_9⟩ | ⟨B1, -⟩
    · obtain ⟨z1, z2⟩ := inF_u f3_9 f4_9
      subst z1
      subst z2
      rw [e3_9, e4_9]
    · rcases B1 with n_9 | ⟨a4, j4_9, ha4, hj4, f4_9, l4⟩
      · exact absurd f3_9.1 (n_9 a3 j3_9)
      · obtain ⟨z1, z2⟩ := inF_u f3_9 f4_9
        subst z1
        subst z2
        omega
  rcases B with ⟨a4, j4_9, ha4, hj4, f4_9, l4, e4_9⟩ | ⟨-, b_9', m2_9, e4_9⟩
  · rcases A1 with n_9 | ⟨a3, j3_9, ha3, hj3, f3_9, l3⟩
    · exact absurd f4_9.1 (n_9 a4 j4_9)
    · obtain ⟨z1, z2⟩ := inF_u f3_9 f4_9
      subst z1
      subst z2
      omega
  have eb := mbs_u m1_9 m2_9
  subst eb
  rw [e3_9, e4_9]
/-- indictmentFault -/
theorem if_run {cst : am_K} {strs : List Nat} {D : Nat} {h0 : am_H} (cc : ∀ d, hp_C cst strs d) (hy : ly_hy m_tt ly_TH h0) {X : List rX} {i0 : List Int} (I : LC cst h0 X i0) (x30 : X.length ≤ 30) (g12 : (fX X).length ≤ 1240) (P : ∀ a_9 (ha_9 : a_9 < X.length), ra_l (X[a_9])) {m : Nat} (m1 : (m : Int) ≤ 99) (hm : 177 + 19 * (m + 1) ≤ h0.length) {d y s : Int} (kd : ly_hv cst h0 45312 (m : Int) = some d) (ky : ly_hv cst h0 45317 (m : Int) = some y) (ks : ly_hv cst h0 45315 (m : Int) = some s) (d0 : -9223372036854775808 ≤ d) (d1 : d ≤ 9223372036854775807) (y0 : -2147483648 ≤ y) (y1 : y ≤ 2147483647) (s0 : -2147483648 ≤ s) (s1 : s ≤ 2147483647) {wt ft : Int} (kw : ly_hv cst h0 45571 (m : Int) = some wt) (kf : ly_hv cst h0 46339 (m : Int) = some ft) (bw : wt = 0 ∨ wt = 1) (bf : ft = 0 ∨ ft = 1) {row ns vs : List Int} (R9 : wt = 1 → wR cst h0 (m : Int) row) (RF9 : ft = 1 → rFm cst h0 (m : Int) ns vs) :
    ∃ r_9, am_Run cst m_cl m_tt m_P strs sx_bi (D + 13) 144 [.ref 44, .ref (16 + (177 + 19 * m + 0))] h0 r_9 ∧ (fun r_9 : am_Q => ∃ w_9 : Int32, r_9.1 = some (.int w_9) ∧ r_9.2.2.1 = 0 ∧ r_9.2.2.2 = 0 ∧ ly_hy m_tt ly_TH r_9.2.1 ∧ ly_fr cst [] h0 r_9.2.1 ∧ bdP X d y s wt ft row ns vs w_9.toInt) r_9 := by
  obtain ⟨M_9, hM_9, hl⟩ := hp_M (mi := 144) (k := 2) (by decide +kernel)
  have c_9 : hp_C cst strs (D + 12) := cc _
  have go_9 : hp_F cst strs (fun r_9 : am_Q => ∃ w_9 : Int32, r_9.1 = some (.int w_9) ∧ r_9.2.2.1 = 0 ∧ r_9.2.2.2 = 0 ∧ ly_hy m_tt ly_TH r_9.2.1 ∧ ly_fr cst [] h0 r_9.2.1 ∧ bdP X d y s wt ft row ns vs w_9.toInt) (D + 12) M_9 0 (lv_args 0 [.ref 44, .ref (16 + (177 + 19 * m + 0))]) [] h0 := by
    by_cases zw : wt = 0
    · rw [zw] at kw
      exact if0 c_9 hM_9 (by omega) hy (m : Int) (by omega) m1 kw rfl ⟨m, rfl, rfl, hm⟩ (fun h2 v_9 hv u1_9 u2_9 u3 => ⟨v_9, rfl, rfl, rfl, u1_9, u2_9, Or.inl ⟨fun z_9 => by have := z_9.1; omega, hv⟩⟩)
    have zw : wt = 1 := by omega
    rw [zw] at kw
    by_cases zf : ft = 0
    · rw [zf] at kf
      exact if1 c_9 hM_9 (by omega) hy (m : Int) (by omega) m1 kw kf rfl ⟨m, rfl, rfl, hm⟩ (fun h2 v_9 hv u1_9 u2_9 u3 => ⟨v_9, rfl, rfl, rfl, u1_9, u2_9, Or.inl ⟨fun z_9 => by have := z_9.2; omega, hv⟩⟩)
    have zf : ft = 1 := by omega
    rw [zf] at kf
    have R_9 := R9 zw
    have RF := RF9 zf
    refine if2 c_9 hM_9 (by omega) hy (m : Int) d y s (by omega) m1 d0 d1 y0 y1 s0 s1 kw kf kd ky ks rfl ⟨m, rfl, rfl, hm⟩ (fun l1 h1 z0 z1 z2 z3 e0_9 e1_9 e2_9 e3_9 u1_9 u2_9 u3 g0 g1 => ?_)
    obtain ⟨r_9, hrun, w_9, r1_9, r2, r3, rhy, rfr, rres⟩ := fo_run (D := D + 9) cc (by omega) u1_9 (LC_mv I u2_9 rfl) x30 g12 (k := 0) (d := d) (y := y) (s := s) (by decide) (by decide) (xk := z3) (xd := z2) (xy := z1) (xs := z0) e3_9 e2_9 e1_9 e0_9
    refine hp_call (mi := 144) (pc := 40) (tg := 53) (na := 5) (c := 14) (ci := 3) (st0 := [.int z0, .int z1, .long z2, .int z3, .ref 30]) (st := []) (av := [.int z3, .long z2, .int z1, .int z0]) hM_9 (by decide +kernel) u1_9 rfl rfl rfl (by decide) hrun r2 r3 ?_
    rw [r1_9]
    have F2 : ly_fr cst [] h0 r_9.2.1 := ly_fr_tr u2_9 rfr
    have g1' := hp_mlm g1 (hp_len2 rfr rfl)
    rcases rres with ⟨a_9, j_9, hf, ew⟩ | ⟨nf_9, ew⟩
    rotate_left
    · exact if3 c_9 hM_9 (by omega) rhy (m : Int) w_9 ew (by omega) m1 g0 g1' (fun h3 v_9 hv v1_9 v2 v3 => ⟨v_9, rfl, rfl, rfl, v1_9, ly_fr_tr F2 v2, Or.inr ⟨⟨zw, zf⟩, Or.inl ⟨nf_9, hv⟩⟩⟩)
    obtain ⟨⟨ha_9, -, ⟨hj, -⟩, -⟩, -⟩ := id hf
    have le_9 := fX_le X a_9 ha_9
    obtain ⟨V, S2, bv_9, mt_9, fi, z_9, hz, x1_9, x2_9, x3, H1_9, H2_9, -⟩ := dd_of P hf ha_9 hj
    obtain ⟨ct1, ct2⟩ := cnt4_v V H1_9.1
    refine if4 c_9 hM_9 (by omega) rhy (m : Int) (((fX (X.take a_9)).length : Int) + (j_9 : Int)) w_9 ew (by omega) m1 (by omega) (by omega) g0 g1' (fun l3 h3 y9 p0_9 p1_9 v1_9 v2 v3 n0_9 n1_9 n2_9 => ?_)
    have ym : y9 = m := by omega
    rw [ym]
    have F3 : ly_fr cst [] h0 h3 := ly_fr_tr F2 v2
    have hm3 : 177 + 19 * (m + 1) ≤ h3.length := by have := hp_len2 F3 rfl; omega
    obtain ⟨rW, hrunW, wW, a1_9, a2, a3, ahy, afr, ares⟩ := wh_run (D := D + 8) cc (by omega) v1_9 (LC_mv I F3 rfl) x30 g12 P m1 hm3 (F3 _ _ _ rfl kd) (F3 _ _ _ rfl ky) (F3 _ _ _ rfl ks) d0 d1 y0 y1 s0 s1 (wR_mv R_9 F3 rfl rfl)
    refine hp_call (mi := 144) (pc := 55) (tg := 145) (na := 2) (c := 28) (ci := 5) (st0 := [.ref (16 + (177 + 19 * m + 0)), .ref 44]) (st := []) (av := [.ref (16 + (177 + 19 * m + 0))]) hM_9 (by decide +kernel) v1_9 rfl rfl rfl (by decide) hrunW a2 a3 ?_
    rw [a1_9]
    have F4 : ly_fr cst [] h0 rW.2.1 := ly_fr_tr F3 afr
    have n1_9' := hp_mlm n1_9 (hp_len2 afr rfl)
    have tail_9 : wW.toInt = -1 → (noF X 1 d y s ∨ ∃ (a_9' j_9' : Nat) (ha_9' : a_9' < X.length) (hj' : j_9' < (X[a_9']).2.2.1.length), inF X 1 d y s a_9' j_9' ∧ ((X[a_9']).2.2.1[j_9']).2.2.2.length ≤ wn9 ((X[a_9']).2.2.1[j_9']).2.2.2 row 0) → hp_F cst strs (fun r_9 : am_Q => ∃ w_9 : Int32, r_9.1 = some (.int w_9) ∧ r_9.2.2.1 = 0 ∧ r_9.2.2.2 = 0 ∧ ly_hy m_tt ly_TH r_9.2.1 ∧ ly_fr cst [] h0 r_9.2.1 ∧ bdP X d y s wt ft row ns vs w_9.toInt) (D + 12) M_9 58 l3 [.int wW] rW.2.1 := by
      intro eW alt
      refine if6 c_9 hM_9 (by omega) ahy (m : Int) (((fX (X.take a_9)).length : Int) + (j_9 : Int)) wW eW (by omega) m1 (by omega) (by omega) n0_9 n1_9' n2_9 (fun l5 h5 y9 q1_9 q3_9 f0_9 f1_9 f2_9 f3_9 t1_9 t2_9 t3_9 o0_9 o1 o2 => ?_)
      have ym : y9 = m := by omega
      rw [ym]
      have F5 : ly_fr cst [] h0 h5 := ly_fr_tr F4 t2_9
      have hm5 : 177 + 19 * (m + 1) ≤ h5.length := by have := hp_len2 F5 rfl; omega
      have I5 : cI cst h5 (((fX (X.take a_9)).length : Int) + (j_9 : Int)) ((X[a_9]).2.2.1[j_9]).2.2.2 := cI_of t1_9 (LC_mv I F5 rfl) g12 ha_9 hj
      have I5v : cI cst h5 (((fX (X.take a_9)).length : Int) + (j_9 : Int)) (qv_e V) := by rw [← x1_9]; exact I5
      obtain ⟨r8, hrun8, b8, c1_9, c2_9, c3_9, chy, cfr, mb8⟩ := xtm_run (D := D + 9) cc (by omega) t1_9 m1 (rFm_mv RF F5 rfl rfl rfl) hm5 I5 (by rw [x1_9]; exact ct2) (by rw [x1_9, ct1]; have := H1_9.2.1; have := H1_9.2.2.1; omega) rfl (xc := q1_9) f2_9
      refine hp_call (mi := 144) (pc := 84) (tg := 123) (na := 3) (c := 14) (ci := 3) (st0 := [.ref (16 + (177 + 19 * m + 4)), .int q1_9, .ref 30]) (st := [.int q3_9, .ref 30]) (av := [.int q1_9, .ref (16 + (177 + 19 * m + 4))]) hM_9 (by decide +kernel) t1_9 rfl rfl rfl (Nat.le_of_ble_eq_true rfl) hrun8 c2_9 c3_9 ?_
      rw [c1_9]
      have F8 : ly_fr cst [] h0 r8.2.1 := ly_fr_tr F5 cfr
      have kn8 : ly_hv cst r8.2.1 5120 (((fX (X.take a_9)).length : Int) + (j_9 : Int)) = some (mt_9 : Int) := by
        have y := (cl_at I ha_9 hj rfl).2.2
        rw [Int.natCast_add, x2_9] at y
        exact F8 _ _ _ rfl y
      obtain ⟨rA', hrunA, wA', g1', g2', g3_9', ghy, gfr, ewA⟩ := lk_run9 (D := D + 10) cc (by omega) chy (cI_mv I5v cfr rfl rfl rfl) H1_9 kn8 (xc := q3_9) (me := b8) f3_9
      refine hp_call (mi := 144) (pc := 87) (tg := 128) (na := 3) (c := 14) (ci := 3) (st0 := [.int b8, .int q3_9, .ref 30]) (st := []) (av := [.int q3_9, .int b8]) hM_9 (by decide +kernel) chy rfl rfl rfl (by decide) hrunA g2' g3_9' ?_
      rw [g1']
      rw [wlk_v H1_9 x1_9 x2_9 b8] at ewA
      have FA : ly_fr cst [] h0 rA'.2.1 := ly_fr_tr F8 gfr
      have o1' := hp_mlm o1 (Nat.le_trans (hp_len2 cfr rfl) (hp_len2 gfr rfl))
      have lb : wlk ((X[a_9]).2.2.1[j_9]) b8 = -1 ∨ (0 ≤ wlk ((X[a_9]).2.2.1[j_9]) b8 ∧ wlk ((X[a_9]).2.2.1[j_9]) b8 ≤ 99) := by
        rw [← wlk_v H1_9 x1_9 x2_9 b8]
        exact lcks_b _ _ H1_9.2.2.1
      rcases lb with zz9 | zz9
      · rw [zz9] at ewA
        exact if8 c_9 hM_9 (by omega) ghy (m : Int) wA' ewA (by omega) m1 o0_9 o1' (fun h7 v_9 hv e1_9 e2_9 e3_9 => ⟨v_9, rfl, rfl, rfl, e1_9, ly_fr_tr FA e2_9, Or.inr ⟨⟨zw, zf⟩, Or.inr ⟨a_9, j_9, ha_9, hj, hf, Or.inr ⟨alt, b8, mb8, by rw [if_pos zz9]; exact hv⟩⟩⟩⟩)
      · exact if9 c_9 hM_9 (by omega) ghy (m : Int) (wlk ((X[a_9]).2.2.1[j_9]) b8) wA' ewA (by omega) m1 zz9.1 zz9.2 o0_9 o1' (fun h7 v_9 hv e1_9 e2_9 e3_9 => ⟨v_9, rfl, rfl, rfl, e1_9, ly_fr_tr FA e2_9, Or.inr ⟨⟨zw, zf⟩, Or.inr ⟨a_9, j_9, ha_9, hj, hf, Or.inr ⟨alt, b8, mb8, by rw [if_neg (by omega)]; omega⟩⟩⟩⟩)
    rcases ares with ⟨a_9', j_9', ha_9', hj', hf', eW⟩ | ⟨nf_9', eW⟩
    · obtain ⟨⟨_, -, ⟨_, e1_9', -⟩, -⟩, -⟩ := id hf'
      obtain ⟨p1_9, -, -, -, -, -, p7_9⟩ := P a_9' ha_9'
      obtain ⟨-, w8, -⟩ := (p7_9 j_9' hj' (by omega)).2 e1_9'
      unfold wh_A at eW
      by_cases q_9 : wn9 ((X[a_9']).2.2.1[j_9']).2.2.2 row 0 < ((X[a_9']).2.2.1[j_9']).2.2.2.length
      · rw [if_pos q_9] at eW
        exact if5 c_9 hM_9 (by omega) ahy (m : Int) (((fX (X.take a_9)).length : Int) + (j_9 : Int)) (wn9 ((X[a_9']).2.2.1[j_9']).2.2.2 row 0 : Int) wW eW (by omega) m1 (by omega) (by omega) (by omega) (by omega) n0_9 n1_9' n2_9 (fun h5 v_9 hv t1_9 t2_9 t3_9 => ⟨v_9, rfl, rfl, rfl, t1_9, ly_fr_tr F4 t2_9, Or.inr ⟨⟨zw, zf⟩, Or.inr ⟨a_9, j_9, ha_9, hj, hf, Or.inl ⟨a_9', j_9', ha_9', hj', hf', q_9, by omega⟩⟩⟩⟩)
      · rw [if_neg q_9] at eW
        exact tail_9 eW (Or.inr ⟨a_9', j_9', ha_9', hj', hf', by omega⟩)
    · exact tail_9 eW (Or.inl nf_9')
  obtain ⟨n_9', r_9, hgo, w_9, r1_9, r2, r3, r4⟩ := go_9
  simp only [Nat.zero_add] at r2 r3
  exact ⟨r_9, Or.inr ⟨M_9, n_9', hM_9, hl, hgo⟩, w_9, r1_9, r2, r3, r4⟩
/-- the words of a_9 clause, in the reference -/
theorem wL_of {cst : am_K} {h : am_H} {X : List rX} (hy : ly_hy m_tt ly_TH h) (R : rA cst h X) (x30 : X.length ≤ 30) {a j : Nat} (ha : a < X.length) (hj : j < (X[a]).2.2.1.length) (e1 : ((X[a]).2.2.1[j]).1 = 1) : ∃ t_9 : Int, wL cst h (40 * (a : Int) + (j : Int)) (a : Int) t_9 ((X[a]).2.2.1[j]).2.2.2 := by
  obtain ⟨p1_9, p2_9, p3_9, p4_9, p5_9, p6_9, p7_9⟩ := (R.2 a ha).2.2.2.2.2
  have hz : j < (X[a]).2.2.2.1.length := by omega
  obtain ⟨w1_9, w8, A_9, B_9, eS, eA_9⟩ := (p7_9 j hj hz).2 e1
  obtain ⟨-, -, -, -, c5_9, -⟩ := (R.2 a ha).2.1
  have k5_9 : ly_hv cst h 24320 (40 * (a : Int) + (j : Int)) = some (A_9.length : Int) := by
    have y_9 := c5_9 j (by rw [List.length_map]; exact hz)
    rw [List.getElem_map, ← eA_9] at y_9
    exact y_9
  have k8_9 : ly_hv cst h 24576 (40 * (a : Int) + (j : Int)) = some ((X[a]).2.2.1[j].2.2.2.length : Int) := by
    have y_9 := (rc_at R ha hj).2.2.2
    rw [show rz_m ((X[a]).2.2.1[j]) = ((X[a]).2.2.1[j]).2.2.1 from if_pos (by rw [e1]; decide), w1_9] at y_9
    exact y_9
  have l3 := congrArg List.length eS
  rw [List.length_append, List.length_append] at l3
  refine ⟨(A_9.length : Int), by omega, by omega, by omega, by omega, by omega, by omega, w8, q40 (by omega), k8_9, k5_9, fun k_9 hk => ?_⟩
  have hk' : A_9.length + k_9 < (X[a]).2.2.2.2.2.2.length := by omega
  have ek : (X[a]).2.2.2.2.2.2[A_9.length + k_9] = ((X[a]).2.2.1[j]).2.2.2[k_9] := by
    have z_9 : (X[a]).2.2.2.2.2.2[A_9.length + k_9]? = some (((X[a]).2.2.1[j]).2.2.2[k_9]) := by
      rw [eS, List.append_assoc, List.getElem?_append_right (Nat.le_add_right _ _), Nat.add_sub_cancel_left, List.getElem?_append_left hk, List.getElem?_eq_getElem hk]
    rw [List.getElem?_eq_getElem hk'] at z_9
    exact Option.some.inj z_9
  have y_9 := (R.2 a ha).2.2.2.2.1 (A_9.length + k_9) hk'
  rw [ek, Int.natCast_add, ← Int.add_assoc] at y_9
  obtain ⟨v_9, kv, v0_9, v1_9⟩ := hp_rowj (cst := cst) (i := 330 * (a : Int) + (A_9.length : Int) + (k_9 : Int)) hy (show ly_ths ly_TH 106 = some (.inl (.long, 10230, 0, 0)) from rfl) (by omega) (by omega)
  have kv : ly_hv cst h 27136 (330 * (a : Int) + (A_9.length : Int) + (k_9 : Int)) = some v_9 := kv
  have ev_9 := Option.some.inj (y_9.symm.trans kv)
  have v0_9 : -9223372036854775808 ≤ v_9 := v0_9
  have v1_9 : v_9 ≤ 9223372036854775807 := v1_9
  exact ⟨y_9, by omega, by omega⟩
/-- badOf -/
theorem bko_run {cst : am_K} {strs : List Nat} {D : Nat} {h0 : am_H} (cc : ∀ d, hp_C cst strs d) (hy : ly_hy m_tt ly_TH h0) {X : List rX} (R : rA cst h0 X) (x30 : X.length ≤ 30) (wd : ∀ a_9 (ha_9 : a_9 < X.length), wD (X[a_9]).2.2.1) (P : ∀ a_9 (ha_9 : a_9 < X.length), ra_l (X[a_9])) {m : Nat} (m1 : (m : Int) ≤ 99) {d y s : Int} (kd : ly_hv cst h0 30208 (m : Int) = some d) (ky : ly_hv cst h0 29696 (m : Int) = some y) (ks : ly_hv cst h0 29184 (m : Int) = some s) (d0 : -9223372036854775808 ≤ d) (d1 : d ≤ 9223372036854775807) (y0 : -2147483648 ≤ y) (y1 : y ≤ 2147483647) (s0 : -2147483648 ≤ s) (s1 : s ≤ 2147483647) {wt ft : Int} (kw : ly_hv cst h0 33536 (m : Int) = some wt) (kf : ly_hv cst h0 33792 (m : Int) = some ft) (bw : wt = 0 ∨ wt = 1) (bf : ft = 0 ∨ ft = 1) {row ns vs : List Int} (R9 : wt = 1 → wM cst h0 (m : Int) row) (RF9 : ft = 1 → rG cst h0 (2 * (m : Int)) ns vs) {xm : Int32} (em : xm.toInt = (m : Int)) :
    ∃ r_9, am_Run cst m_cl m_tt m_P strs sx_bi (D + 13) 343 [.ref 94, .int xm] h0 r_9 ∧ (fun r_9 : am_Q => ∃ w_9 : Int32, r_9.1 = some (.int w_9) ∧ r_9.2.2.1 = 0 ∧ r_9.2.2.2 = 0 ∧ ly_hy m_tt ly_TH r_9.2.1 ∧ ly_fr cst [28160] h0 r_9.2.1 ∧ bdP X d y s wt ft row ns vs w_9.toInt) r_9 := by
  obtain ⟨M_9, hM_9, hl⟩ := hp_M (mi := 343) (k := 2) (by decide +kernel)
  have c_9 : hp_C cst strs (D + 12) := cc _
  have go_9 : hp_F cst strs (fun r_9 : am_Q => ∃ w_9 : Int32, r_9.1 = some (.int w_9) ∧ r_9.2.2.1 = 0 ∧ r_9.2.2.2 = 0 ∧ ly_hy m_tt ly_TH r_9.2.1 ∧ ly_fr cst [28160] h0 r_9.2.1 ∧ bdP X d y s wt ft row ns vs w_9.toInt) (D + 12) M_9 0 (lv_args 0 [.ref 94, .int xm]) [] h0 := by
    by_cases zw : wt = 0
    · rw [zw] at kw
      exact bko0 c_9 hM_9 (by omega) hy (m : Int) (by omega) m1 kw rfl ⟨xm, rfl, em⟩ (fun h2 v_9 hv u1_9 u2_9 u3 => ⟨v_9, rfl, rfl, rfl, u1_9, hp_sub2 rfl u2_9, Or.inl ⟨fun z_9 => by have := z_9.1; omega, hv⟩⟩)
    have zw : wt = 1 := by omega
    rw [zw] at kw
    by_cases zf : ft = 0
    · rw [zf] at kf
      exact bko1 c_9 hM_9 (by omega) hy (m : Int) (by omega) m1 kw kf rfl ⟨xm, rfl, em⟩ (fun h2 v_9 hv u1_9 u2_9 u3 => ⟨v_9, rfl, rfl, rfl, u1_9, hp_sub2 rfl u2_9, Or.inl ⟨fun z_9 => by have := z_9.2; omega, hv⟩⟩)
    have zf : ft = 1 := by omega
    rw [zf] at kf
    have RW := R9 zw
    have RG_9 := RF9 zf
    refine bko2 c_9 hM_9 (by omega) hy (m : Int) d y s (by omega) m1 d0 d1 y0 y1 s0 s1 kw kf kd ky ks rfl ⟨xm, rfl, em⟩ (fun l1 h1 z0 z1 z2 z3 e0_9 e1_9 e2_9 e3_9 u1_9 u2_9 u3 g0 g1 => ?_)
    have RA1 : rA cst h1 X := rA_k R (gk_fr u2_9 rfl rfl) (u2_9 _ _ _ rfl R.1)
    obtain ⟨r_9, hrun, w_9, r1_9, r2, r3, rhy, rfr, rres⟩ := lo_run (D := D + 8) cc (by omega) u1_9 RA1 x30 wd (y := y) (s := s) (k := 0) (d := d) (by omega) (by omega) (xk := z3) (xd := z2) (xy := z1) (xs := z0) e3_9 e2_9 e1_9 e0_9
    refine hp_call (mi := 343) (pc := 41) (tg := 284) (na := 5) (c := 78) (ci := 12) (st0 := [.int z0, .int z1, .long z2, .int z3, .ref 94]) (st := []) (av := [.int z3, .long z2, .int z1, .int z0]) hM_9 (by decide +kernel) u1_9 rfl rfl rfl (by decide) hrun r2 r3 ?_
    rw [r1_9]
    have F2 : ly_fr cst [] h0 r_9.2.1 := ly_fr_tr u2_9 rfr
    rw [show dz 0 d = d from if_pos (by decide)] at rres
    rcases rres with ⟨a_9, j_9, hf, ew⟩ | ⟨nf_9, ew⟩
    rotate_left
    · exact bko3 c_9 hM_9 (by omega) rhy (m : Int) w_9 ew (by omega) m1 g0 g1 (fun h3 v_9 hv v1_9 v2 v3 => ⟨v_9, rfl, rfl, rfl, v1_9, hp_sub2 rfl (ly_fr_tr F2 v2), Or.inr ⟨⟨zw, zf⟩, Or.inl ⟨nf_9, hv⟩⟩⟩)
    obtain ⟨⟨ha_9, -, ⟨hj, -⟩, -⟩, -⟩ := id hf
    have lA := (rc_ln R ha_9).2
    refine bko4 c_9 hM_9 (by omega) rhy (m : Int) d y s (40 * (a_9 : Int) + (j_9 : Int)) w_9 ew (by omega) m1 d0 d1 y0 y1 s0 s1 (by omega) (by omega) (F2 _ _ _ rfl kd) (F2 _ _ _ rfl ky) (F2 _ _ _ rfl ks) g0 g1 (fun l3 h3 z0 z1 z2 z3 e0_9 e1_9 e2_9 e3_9 v1_9 v2 v3 n0_9 n1_9 n2_9 => ?_)
    have F3 : ly_fr cst [] h0 h3 := ly_fr_tr F2 v2
    have RA3 : rA cst h3 X := rA_k R (gk_fr F3 rfl rfl) (F3 _ _ _ rfl R.1)
    obtain ⟨rW, hrunW, wW, a1_9, a2, a3, ahy, afr, ares⟩ := lo_run (D := D + 8) cc (by omega) v1_9 RA3 x30 wd (y := y) (s := s) (k := 1) (d := d) (by omega) (by omega) (xk := z3) (xd := z2) (xy := z1) (xs := z0) e3_9 e2_9 e1_9 e0_9
    refine hp_call (mi := 343) (pc := 74) (tg := 284) (na := 5) (c := 78) (ci := 12) (st0 := [.int z0, .int z1, .long z2, .int z3, .ref 94]) (st := []) (av := [.int z3, .long z2, .int z1, .int z0]) hM_9 (by decide +kernel) v1_9 rfl rfl rfl (by decide) hrunW a2 a3 ?_
    rw [a1_9]
    have F4 : ly_fr cst [] h0 rW.2.1 := ly_fr_tr F3 afr
    rw [show dz 1 d = d from if_pos (by decide)] at ares
    have tail_9 : (noF X 1 d y s ∨ ∃ (a_9' j_9' : Nat) (ha_9' : a_9' < X.length) (hj' : j_9' < (X[a_9']).2.2.1.length), inF X 1 d y s a_9' j_9' ∧ ((X[a_9']).2.2.1[j_9']).2.2.2.length ≤ wn9 ((X[a_9']).2.2.1[j_9']).2.2.2 row 0) → ∀ (l5 : am_L) (h5 : am_H) (q0 q1_9 q3_9 : Int32), q0.toInt = 2 * (m : Int) → q1_9.toInt = 40 * (a_9 : Int) + (j_9 : Int) → q3_9.toInt = 40 * (a_9 : Int) + (j_9 : Int) → ly_hy m_tt ly_TH h5 → ly_fr cst [] h0 h5 → hp_a l5 0 94 → hp_i l5 1 (m : Int) → hp_i l5 2 (40 * (a_9 : Int) + (j_9 : Int)) → hp_F cst strs (fun r_9 : am_Q => ∃ w_9 : Int32, r_9.1 = some (.int w_9) ∧ r_9.2.2.1 = 0 ∧ r_9.2.2.2 = 0 ∧ ly_hy m_tt ly_TH r_9.2.1 ∧ ly_fr cst [28160] h0 r_9.2.1 ∧ bdP X d y s wt ft row ns vs w_9.toInt) (D + 12) M_9 174 l5 [.int q0, .int q1_9, .ref 94, .int q3_9, .ref 94] h5 := by
      intro alt l5 h5 q0 q1_9 q3_9 f0_9 f1_9 f3_9 t1_9 F5 o0_9 o1 o2
      obtain ⟨V, S2, bv_9, mt_9, fi, z_9, hz, x1_9, x2_9, x3, H1_9, H2_9, zf', zz, zl, hT_9, zS, hS_9⟩ := dd_of P hf ha_9 hj
      have b820 := (P a_9 ha_9).2.2.2.2.1
      obtain ⟨-, -, -, -, c5_9, c6_9, c7_9⟩ := (R.2 a_9 ha_9).2.1
      have k5_9 : ly_hv cst h0 24320 (40 * (a_9 : Int) + (j_9 : Int)) = some (fi : Int) := by
        have y := c5_9 j_9 (by rw [List.length_map]; exact hz)
        rw [List.getElem_map, zf'] at y
        exact y
      have k6_9 : ly_hv cst h0 24832 (40 * (a_9 : Int) + (j_9 : Int)) = some (z_9 : Int) := by
        have y := c6_9 j_9 (by rw [List.length_map]; exact hz)
        rw [List.getElem_map, zz] at y
        exact y
      have k7_9 : ly_hv cst h0 25088 (40 * (a_9 : Int) + (j_9 : Int)) = some (S2.length : Int) := by
        have y := c7_9 j_9 (by rw [List.length_map]; exact hz)
        rw [List.getElem_map, zl] at y
        exact y
      have k8_9 : ly_hv cst h0 24576 (40 * (a_9 : Int) + (j_9 : Int)) = some (mt_9 : Int) := by
        have y := (rc_at R ha_9 hj).2.2.2
        rw [show rz_m ((X[a_9]).2.2.1[j_9]) = ((X[a_9]).2.2.1[j_9]).2.2.1 from if_pos (by rw [x3]; decide), x2_9] at y
        exact y
      have rowS : fn_N cst h0 26880 (820 * (a_9 : Int) + (z_9 : Int)) S2 := fun k_9 hk => by
        obtain ⟨hk', ek⟩ := hS_9 k_9 hk
        have y := (R.2 a_9 ha_9).2.2.2.1 (z_9 + k_9) hk'
        rw [ek, Int.natCast_add, ← Int.add_assoc] at y
        exact y
      have zN : z_9 + S2.length ≤ 820 := by omega
      have RA5 : rA cst h5 X := rA_k R (gk_fr F5 rfl rfl) (F5 _ _ _ rfl R.1)
      obtain ⟨a9, e9_9⟩ := mq_v ns vs V [] 0 H1_9.1
      have eP : (qv_t V).map (tst ns vs) = (mq ns vs ((X[a_9]).2.2.1[j_9]).2.2.2 ([], 0, 0, -20004)).1 := by
        rw [x1_9, e9_9]
        rfl
      obtain ⟨rD, hrunD, b8, c1_9, c2_9, c3_9, chy, cfr, mb8⟩ := mo_run (D := D + 9) cc (by omega) t1_9 RA5 x30 ha_9 (by omega) (F5 _ _ _ rfl k5_9) (F5 _ _ _ rfl k8_9) H1_9.2.2.1 H1_9.2.1 hT_9 (qw_t9 V H1_9.1) (q := 2 * (m : Int)) (by omega) (by omega) (rG_mv RG_9 F5 rfl rfl rfl) eP (xc := q1_9) (xq := q0) f1_9 f0_9
      refine hp_call (mi := 343) (pc := 174) (tg := 328) (na := 3) (c := 78) (ci := 12) (st0 := [.int q0, .int q1_9, .ref 94]) (st := [.int q3_9, .ref 94]) (av := [.int q1_9, .int q0]) hM_9 (by decide +kernel) t1_9 rfl rfl rfl (Nat.le_of_ble_eq_true rfl) hrunD c2_9 c3_9 ?_
      rw [c1_9]
      have F8 : ly_fr cst [] h0 rD.2.1 := ly_fr_tr F5 cfr
      obtain ⟨rG', hrunG, wG, g1', g2', g3_9', ghy, gfr, ewG⟩ := lf_run (D := D + 10) cc (by omega) chy H2_9 (a := a_9) (j := j_9) (by omega) (by omega) (F8 _ _ _ rfl k8_9) (F8 _ _ _ rfl k7_9) (F8 _ _ _ rfl k6_9) zN (fn_mv rowS F8 rfl) (xc := q3_9) (me := b8) f3_9
      refine hp_call (mi := 343) (pc := 177) (tg := 331) (na := 3) (c := 78) (ci := 12) (st0 := [.int b8, .int q3_9, .ref 94]) (st := []) (av := [.int q3_9, .int b8]) hM_9 (by decide +kernel) chy rfl rfl rfl (by decide) hrunG g2' g3_9' ?_
      rw [g1']
      rw [wlk_v H1_9 x1_9 x2_9 b8] at ewG
      have FA : ly_fr cst [28160] h0 rG'.2.1 := ly_fr_tr (hp_sub2 rfl F8) gfr
      have lb : wlk ((X[a_9]).2.2.1[j_9]) b8 = -1 ∨ (0 ≤ wlk ((X[a_9]).2.2.1[j_9]) b8 ∧ wlk ((X[a_9]).2.2.1[j_9]) b8 ≤ 99) := by
        rw [← wlk_v H1_9 x1_9 x2_9 b8]
        exact lcks_b _ _ H1_9.2.2.1
      rcases lb with zz9 | zz9
      · rw [zz9] at ewG
        exact bkoD c_9 hM_9 (by omega) ghy (m : Int) wG ewG (by omega) m1 o0_9 o1 (fun h7 v_9 hv e1_9 e2_9 e3_9 => ⟨v_9, rfl, rfl, rfl, e1_9, ly_fr_tr FA (hp_sub2 rfl e2_9), Or.inr ⟨⟨zw, zf⟩, Or.inr ⟨a_9, j_9, ha_9, hj, hf, Or.inr ⟨alt, b8, mb8, by rw [if_pos zz9]; exact hv⟩⟩⟩⟩)
      · exact bkoE c_9 hM_9 (by omega) ghy (m : Int) (wlk ((X[a_9]).2.2.1[j_9]) b8) wG ewG (by omega) m1 zz9.1 zz9.2 o0_9 o1 (fun h7 v_9 hv e1_9 e2_9 e3_9 => ⟨v_9, rfl, rfl, rfl, e1_9, ly_fr_tr FA (hp_sub2 rfl e2_9), Or.inr ⟨⟨zw, zf⟩, Or.inr ⟨a_9, j_9, ha_9, hj, hf, Or.inr ⟨alt, b8, mb8, by rw [if_neg (by omega)]; omega⟩⟩⟩⟩)
    rcases ares with ⟨a_9', j_9', hf', eW⟩ | ⟨nf_9', eW⟩
    rotate_left
    · exact bko6 c_9 hM_9 (by omega) ahy (m : Int) (40 * (a_9 : Int) + (j_9 : Int)) wW eW (by omega) m1 (by omega) (by omega) n0_9 n1_9 n2_9 (fun l5 h5 q0 q1_9 q3_9 f0_9 f1_9 f3_9 t1_9 t2_9 t3_9 o0_9 o1 o2 => tail_9 (Or.inl nf_9') l5 h5 q0 q1_9 q3_9 f0_9 f1_9 f3_9 t1_9 (ly_fr_tr F4 t2_9) o0_9 o1 o2)
    obtain ⟨⟨ha_9', -, ⟨hj', e1_9', -⟩, -⟩, -⟩ := id hf'
    have lA' := (rc_ln R ha_9').2
    refine bko5 c_9 hM_9 (by omega) ahy (m : Int) (40 * (a_9 : Int) + (j_9 : Int)) (40 * (a_9' : Int) + (j_9' : Int)) wW eW (by omega) m1 (by omega) (by omega) (by omega) (by omega) n0_9 n1_9 n2_9 (fun l5 h5 t1_9 t2_9 t3_9 o0_9 o1 o2 o3_9 o4_9 o5_9 => ?_)
    have F5 : ly_fr cst [] h0 h5 := ly_fr_tr F4 t2_9
    have RA5 : rA cst h5 X := rA_k R (gk_fr F5 rfl rfl) (F5 _ _ _ rfl R.1)
    obtain ⟨tt, L5_9⟩ := wL_of t1_9 RA5 x30 ha_9' hj' e1_9'
    have sm := rn9_wn ((X[a_9']).2.2.1[j_9']).2.2.2 row 0 (Nat.zero_le _)
    rw [List.drop_zero] at sm
    exact br_lp c_9 hM_9 (by omega) (by omega) m1 (by omega) (by omega) (wM_mv RW F5 rfl rfl) L5_9 (fun v_9 h7 k_9 ek hv e1_9 e2_9 => ⟨v_9, rfl, rfl, rfl, e1_9, hp_sub2 rfl (ly_fr_tr F5 e2_9), Or.inr ⟨⟨zw, zf⟩, Or.inr ⟨a_9, j_9, ha_9, hj, hf, Or.inl ⟨a_9', j_9', ha_9', hj', hf', by
        rw [ek] at sm
        by_cases q_9 : wn9 ((X[a_9']).2.2.1[j_9']).2.2.2 row 0 < ((X[a_9']).2.2.1[j_9']).2.2.2.length
        · rw [if_pos q_9] at sm
          have := Option.some.inj sm
          exact ⟨q_9, by omega⟩
        · rw [if_neg q_9] at sm
          cases sm⟩⟩⟩⟩) (fun l7 h7 q0 q1_9 q3_9 en f0_9 f1_9 f3_9 e1_9 e2_9 p0_9 p1_9 p2_9 => tail_9 (Or.inr ⟨a_9', j_9', ha_9', hj', hf', by
        rw [en] at sm
        by_cases q_9 : wn9 ((X[a_9']).2.2.1[j_9']).2.2.2 row 0 < ((X[a_9']).2.2.1[j_9']).2.2.2.length
        · rw [if_pos q_9] at sm
          cases sm
        · omega⟩) l7 h7 q0 q1_9 q3_9 f0_9 f1_9 f3_9 e1_9 (ly_fr_tr F5 e2_9) p0_9 p1_9 p2_9) ((X[a_9']).2.2.1[j_9']).2.2.2.length h5 l5 0 0 (by omega) (Nat.zero_le _) t1_9 (ly_fr_rf _) (by rw [List.drop_zero, List.drop_zero]) o0_9 o1 o2 o3_9 o4_9 o5_9
  obtain ⟨n_9', r_9, hgo, w_9, r1_9, r2, r3, r4⟩ := go_9
  simp only [Nat.zero_add] at r2 r3
  exact ⟨r_9, Or.inr ⟨M_9, n_9', hM_9, hl, hgo⟩, w_9, r1_9, r2, r3, r4⟩
