/-! PRINTED by wip/p2/hp_rowst.py: clear and add of a matter's Row -/
/-- all stands but the Row at B of the matter m, and the regions L -/
def mfr (cst : am_K) (B : Nat) (m : Int) (L : List Nat) (h h' : am_H) : Prop := ∀ (r : Nat) (i v : Int), ly_has r L = false → (r = B + 2 ∨ r = B + 3 → i ≠ m) → (r = B + 256 ∨ r = B + 512 → ¬ (32 * m ≤ i ∧ i < 32 * m + 32)) → ly_hv cst h r i = some v → ly_hv cst h' r i = some v
theorem mfr_tr {cst : am_K} {B : Nat} {m : Int} {L : List Nat} {h h1 h2 : am_H} (a : mfr cst B m L h h1) (b : mfr cst B m L h1 h2) : mfr cst B m L h h2 := fun r_9 i_9 v_9 q_9 x_9 y_9 e_9 => b r_9 i_9 v_9 q_9 x_9 y_9 (a r_9 i_9 v_9 q_9 x_9 y_9 e_9)
theorem mfr_L {cst : am_K} {B : Nat} {m : Int} {L : List Nat} {h h' : am_H} (f : ly_fr cst L h h') : mfr cst B m L h h' := fun r_9 i_9 v_9 q_9 _ _ e_9 => f r_9 i_9 v_9 q_9 e_9
theorem mfr_sub {cst : am_K} {B : Nat} {m : Int} {L L' : List Nat} {h h' : am_H} (q : L.all (fun r_9 => ly_has r_9 L') = true) (a : mfr cst B m L h h') : mfr cst B m L' h h' := fun r_9 i_9 v_9 hr x_9 y_9 e_9 => a r_9 i_9 v_9 (by
  cases hh : ly_has r_9 L with
  | false => rfl
  | true =>
    unfold ly_has at hh
    obtain ⟨w_9, hw, hwe⟩ := List.any_eq_true.mp hh
    have := List.all_eq_true.mp q w_9 hw
    rw [Nat.eq_of_beq_eq_true hwe] at this
    rw [this] at hr
    cases hr) x_9 y_9 e_9
theorem mfr_p2 {cst : am_K} {B : Nat} {m v : Int} {L : List Nat} {h h' : am_H} (p : hp_put cst (B + 2) m v h h') : mfr cst B m L h h' := fun r_9 i_9 u_9 _ x_9 _ e_9 => by
  rw [p.2 r_9 i_9 (if z : r_9 = B + 2 then Or.inr (x_9 (Or.inl z)) else Or.inl z)]
  exact e_9
theorem mfr_p3 {cst : am_K} {B : Nat} {m v : Int} {L : List Nat} {h h' : am_H} (p : hp_put cst (B + 3) m v h h') : mfr cst B m L h h' := fun r_9 i_9 u_9 _ x_9 _ e_9 => by
  rw [p.2 r_9 i_9 (if z : r_9 = B + 3 then Or.inr (x_9 (Or.inr z)) else Or.inl z)]
  exact e_9
theorem mfr_pn {cst : am_K} {B : Nat} {m k v : Int} {L : List Nat} {h h' : am_H} (p : hp_put cst (B + 256) (32 * m + k) v h h') (k0 : 0 ≤ k) (k1 : k < 32) : mfr cst B m L h h' := fun r_9 i_9 u_9 _ _ y_9 e_9 => by
  rw [p.2 r_9 i_9 (if z : r_9 = B + 256 then Or.inr (fun w_9 => y_9 (Or.inl z) ⟨by omega, by omega⟩) else Or.inl z)]
  exact e_9
theorem mfr_pv {cst : am_K} {B : Nat} {m k v : Int} {L : List Nat} {h h' : am_H} (p : hp_put cst (B + 512) (32 * m + k) v h h') (k0 : 0 ≤ k) (k1 : k < 32) : mfr cst B m L h h' := fun r_9 i_9 u_9 _ _ y_9 e_9 => by
  rw [p.2 r_9 i_9 (if z : r_9 = B + 512 then Or.inr (fun w_9 => y_9 (Or.inr z) ⟨by omega, by omega⟩) else Or.inl z)]
  exact e_9
theorem mfr_len {cst : am_K} {B : Nat} {m : Int} {L : List Nat} {h h' : am_H} (a : mfr cst B m L h h') (q : ly_has 60002 L = false) (b : B < 59000) : h.length ≤ h'.length := by
  have k_9 : ly_hv cst h 60002 0 = some (h.length : Int) := by
    rw [ly_hv0 (by decide)]
    unfold ly_h0
    rw [if_neg (by decide), if_neg (by decide), if_pos rfl, if_pos rfl]
  have k2_9 := a _ _ _ q (fun z_9 => by omega) (fun z_9 => by omega) k_9
  rw [ly_hv0 (by decide)] at k2_9
  unfold ly_h0 at k2_9
  rw [if_neg (by decide), if_neg (by decide), if_pos rfl, if_pos rfl] at k2_9
  have k3_9 := Option.some.inj k2_9
  omega
/-- clear -/
theorem rc1_run {cst : am_K} {strs : List Nat} {D : Nat} {h0 : am_H} (cc : ∀ d_9, hp_C cst strs d_9) (hD : 1 ≤ D) (hy : ly_hy m_tt ly_TH h0) {m : Nat} (m1 : (m : Int) ≤ 99) (hm : 177 + 19 * (m + 1) ≤ h0.length) :
    ∃ r_9, am_Run cst m_cl m_tt m_P strs sx_bi (D + 1) 60 [.ref (16 + (177 + 19 * m + 1))] h0 r_9 ∧ (fun r_9 : am_Q => r_9.1 = none ∧ r_9.2.2.1 = 0 ∧ r_9.2.2.2 = 0 ∧ ly_hy m_tt ly_TH r_9.2.1 ∧ mfr cst 45568 (m : Int) [] h0 r_9.2.1 ∧ ly_hv cst r_9.2.1 45570 (m : Int) = some 0 ∧ ly_hv cst r_9.2.1 45571 (m : Int) = some 0) r_9 := by
  obtain ⟨M_9, hM_9, hl⟩ := hp_M (mi := 60) (k := 1) (by decide +kernel)
  have c_9 : hp_C cst strs D := cc _
  have go_9 : hp_F cst strs (fun r_9 : am_Q => r_9.1 = none ∧ r_9.2.2.1 = 0 ∧ r_9.2.2.2 = 0 ∧ ly_hy m_tt ly_TH r_9.2.1 ∧ mfr cst 45568 (m : Int) [] h0 r_9.2.1 ∧ ly_hv cst r_9.2.1 45570 (m : Int) = some 0 ∧ ly_hv cst r_9.2.1 45571 (m : Int) = some 0) D M_9 0 (lv_args 0 [.ref (16 + (177 + 19 * m + 1))]) [] h0 := by
    refine q1c0 c_9 hM_9 (by omega) hy (m : Int) (by omega) m1 ⟨m, rfl, rfl, hm⟩ (fun l1 h1 z0 z1 e0_9 e1_9 el u1_9 u2_9 u3 g0 => ?_)
    have ym : z1 = m := by omega
    rw [ym] at el
    rw [ym]
    refine hp_mpf (ci := 6) (kf := 2) (lo := 0) (hi := 28) hM_9 (by decide +kernel) u1_9 rfl rfl (by decide) rfl rfl el (by omega) (by omega) (fun h2 w1_9 w2_9 w3_9 => ?_)
    have w3_9 : hp_put cst 45570 (m : Int) z0.toInt h1 h2 := w3_9
    refine q1c1 c_9 hM_9 (by omega) w1_9 (m : Int) (by omega) m1 (by rw [w2_9]; exact g0) (fun l3 h3 z3 z4 e3_9 e4_9 el3 v1_9 v2 v3 n0_9 => ?_)
    have ym3 : z4 = m := by omega
    rw [ym3] at el3
    rw [ym3]
    have ez : z3 = 0 := Int32.toInt_inj.mp (show z3.toInt = (0 : Int32).toInt from e3_9)
    rw [ez]
    refine hp_mpf (ci := 6) (kf := 3) (lo := 0) (hi := 1) hM_9 (by decide +kernel) v1_9 rfl rfl (by decide) rfl rfl el3 (by decide) (by decide) (fun h4 x1_9 x2_9 x3 => ?_)
    have x3 : hp_put cst 45571 (m : Int) (0 : Int32).toInt h3 h4 := x3
    have k2_9 := w3_9.1
    rw [e0_9] at k2_9
    refine q1c2 c_9 hM_9 (by omega) x1_9 (m : Int) (by omega) m1 (by rw [x2_9]; exact n0_9) (fun h5 t1_9 t2_9 t3_9 => ⟨rfl, rfl, rfl, t1_9, mfr_tr (mfr_L u2_9) (mfr_tr (mfr_p2 (B := 45568) w3_9) (mfr_tr (mfr_L v2) (mfr_tr (mfr_p3 (B := 45568) x3) (mfr_L t2_9)))), ?_, t2_9 _ _ _ rfl x3.1⟩)
    refine t2_9 _ _ _ rfl ?_
    rw [x3.2 _ _ (Or.inl (by decide))]
    exact v2 _ _ _ rfl k2_9
  obtain ⟨n_9', r_9, hgo, r1_9, r2, r3, r4⟩ := go_9
  simp only [Nat.zero_add] at r2 r3
  exact ⟨r_9, Or.inr ⟨M_9, n_9', hM_9, hl, hgo⟩, r1_9, r2, r3, r4⟩
/-- add -/
theorem ra1_run {cst : am_K} {strs : List Nat} {D : Nat} {h0 : am_H} (cc : ∀ d_9, hp_C cst strs d_9) (hD : 1 ≤ D) (hy : ly_hy m_tt ly_TH h0) {m : Nat} (m1 : (m : Int) ≤ 99) (hm : 177 + 19 * (m + 1) ≤ h0.length) {ns vs : List Int} (nl : ns.length < 28) (lv : vs.length = ns.length) (kz : ly_hv cst h0 45570 (m : Int) = some (ns.length : Int)) (A : fn_N cst h0 45824 (32 * (m : Int)) ns) (A' : fn_N cst h0 46080 (32 * (m : Int)) vs) {xv : Int64} {xw : Int32} {v w : Int} (ev : xv.toInt = v) (ew : xw.toInt = w) (w0 : 0 ≤ w) (w1 : w ≤ 9999) :
    ∃ r_9, am_Run cst m_cl m_tt m_P strs sx_bi (D + 1) 122 [.ref (16 + (177 + 19 * m + 1)), .long xv, .int xw] h0 r_9 ∧ (fun r_9 : am_Q => ∃ a_9 : Int32, r_9.1 = some (.int a_9) ∧ r_9.2.2.1 = 0 ∧ r_9.2.2.2 = 0 ∧ ly_hy m_tt ly_TH r_9.2.1 ∧ mfr cst 45568 (m : Int) [] h0 r_9.2.1 ∧ ly_hv cst r_9.2.1 45570 (m : Int) = some ((ns ++ [v]).length : Int) ∧ fn_N cst r_9.2.1 45824 (32 * (m : Int)) (ns ++ [v]) ∧ fn_N cst r_9.2.1 46080 (32 * (m : Int)) (vs ++ [w]) ∧ ∀ u_9, ly_hv cst h0 45571 (m : Int) = some u_9 → ly_hv cst r_9.2.1 45571 (m : Int) = some u_9) r_9 := by
  obtain ⟨M_9, hM_9, hl⟩ := hp_M (mi := 122) (k := 4) (by decide +kernel)
  have c_9 : hp_C cst strs D := cc _
  have v0_9 : -9223372036854775808 ≤ v := by rw [← ev]; exact xv.le_toInt
  have v1_9 : v ≤ 9223372036854775807 := by rw [← ev]; exact xv.toInt_le
  have go_9 : hp_F cst strs (fun r_9 : am_Q => ∃ a_9 : Int32, r_9.1 = some (.int a_9) ∧ r_9.2.2.1 = 0 ∧ r_9.2.2.2 = 0 ∧ ly_hy m_tt ly_TH r_9.2.1 ∧ mfr cst 45568 (m : Int) [] h0 r_9.2.1 ∧ ly_hv cst r_9.2.1 45570 (m : Int) = some ((ns ++ [v]).length : Int) ∧ fn_N cst r_9.2.1 45824 (32 * (m : Int)) (ns ++ [v]) ∧ fn_N cst r_9.2.1 46080 (32 * (m : Int)) (vs ++ [w]) ∧ ∀ u_9, ly_hv cst h0 45571 (m : Int) = some u_9 → ly_hv cst r_9.2.1 45571 (m : Int) = some u_9) D M_9 0 (lv_args 0 [.ref (16 + (177 + 19 * m + 1)), .long xv, .int xw]) [] h0 := by
    refine q1a0 c_9 hM_9 (by omega) hy (m : Int) v w (ns.length : Int) (by omega) m1 v0_9 v1_9 w0 w1 (by omega) (by omega) kz ⟨m, rfl, rfl, hm⟩ ⟨xv, rfl, ev⟩ ⟨xw, rfl, ew⟩ (fun l1 h1 z0 z1 z2 e0_9 e1_9 e2_9 el u1_9 u2_9 u3 k1_9 g0 g1 g3_9 => ?_)
    have ym : z2 = m := by omega
    rw [ym] at el
    rw [ym]
    refine hp_mpj (j := 2) (n := 28) hM_9 (by decide +kernel) u1_9 rfl (by decide) (by decide) rfl el (by omega) (by omega) (fun h2 y1 y2 y3 => ?_)
    rw [e0_9, e1_9] at y3
    have y3 : hp_put cst 45824 (32 * (m : Int) + (ns.length : Int)) v h1 h2 := y3
    refine q1a1 c_9 hM_9 (by omega) y1 (m : Int) v w (ns.length : Int) (by omega) m1 v0_9 v1_9 w0 w1 (by omega) (by omega) (by rw [y3.2 _ _ (Or.inl (by decide))]; exact k1_9) (by rw [y2]; exact g0) g1 g3_9 (fun l3 h3 z3 z4 z5 e3_9 e4_9 e5_9 el3 o1 o2 o3_9 k3_9 n0_9 n1_9 n3_9 => ?_)
    have ym3 : z5 = m := by omega
    rw [ym3] at el3
    rw [ym3]
    refine hp_mpi (j := 3) (n := 28) (lo := -2147483648) (hi := 2147483647) hM_9 (by decide +kernel) o1 rfl (by decide) (by decide) rfl el3 (by omega) (by omega) (by omega) (by omega) (fun h4 x1_9 x2_9 x3 => ?_)
    rw [e3_9, e4_9] at x3
    have x3 : hp_put cst 46080 (32 * (m : Int) + (ns.length : Int)) w h3 h4 := x3
    refine q1a2 c_9 hM_9 (by omega) x1_9 (m : Int) (ns.length : Int) (by omega) m1 (by omega) (by omega) (by rw [x3.2 _ _ (Or.inl (by decide))]; exact k3_9) (by rw [x2_9]; exact n0_9) (fun l5 h5 z6 z7 e6_9 e7_9 el5 t1_9 t2_9 t3_9 p0_9 => ?_)
    have ym5 : z7 = m := by omega
    rw [ym5] at el5
    rw [ym5]
    refine hp_mpf (ci := 6) (kf := 2) (lo := 0) (hi := 28) hM_9 (by decide +kernel) t1_9 rfl rfl (by decide) rfl rfl el5 (by omega) (by omega) (fun h6 s1_9 s2_9 s3_9 => ?_)
    rw [e6_9] at s3_9
    have s3_9 : hp_put cst 45570 (m : Int) ((ns.length : Int) + 1) h5 h6 := s3_9
    refine q1a3 c_9 hM_9 (by omega) s1_9 (m : Int) (by omega) m1 (by rw [s2_9]; exact p0_9) (fun h7 a_9 ha_9 r1_9 r2 r3 => ⟨a_9, rfl, rfl, rfl, r1_9, mfr_tr (mfr_L u2_9) (mfr_tr (mfr_pn (B := 45568) y3 (by omega) (by omega)) (mfr_tr (mfr_L o2) (mfr_tr (mfr_pv (B := 45568) x3 (by omega) (by omega)) (mfr_tr (mfr_L t2_9) (mfr_tr (mfr_p2 (B := 45568) s3_9) (mfr_L r2)))))), ?_, ?_, ?_, ?_⟩)
    · have z_9 := r2 _ _ _ rfl s3_9.1
      rw [List.length_append, List.length_singleton]
      exact z_9
    · have B1 := fn_put (fn_mv A u2_9 rfl) y3
      have B2 := fn_mv B1 o2 rfl
      have B3 : fn_N cst h4 45824 (32 * (m : Int)) (ns ++ [v]) := fun k_9 hk => by rw [x3.2 _ _ (Or.inl (by decide))]; exact B2 k_9 hk
      have B4 := fn_mv B3 t2_9 rfl
      have B5 : fn_N cst h6 45824 (32 * (m : Int)) (ns ++ [v]) := fun k_9 hk => by rw [s3_9.2 _ _ (Or.inl (by decide))]; exact B4 k_9 hk
      exact fn_mv B5 r2 rfl
    · have B1 : fn_N cst h2 46080 (32 * (m : Int)) vs := fun k_9 hk => by rw [y3.2 _ _ (Or.inl (by decide))]; exact u2_9 _ _ _ rfl (A' k_9 hk)
      have B2 := fn_mv B1 o2 rfl
      rw [← lv] at x3
      have B3 := fn_mv (fn_put B2 x3) t2_9 rfl
      have B5 : fn_N cst h6 46080 (32 * (m : Int)) (vs ++ [w]) := fun k_9 hk => by rw [s3_9.2 _ _ (Or.inl (by decide))]; exact B3 k_9 hk
      exact fn_mv B5 r2 rfl
    · intro u_9 eu
      refine r2 _ _ _ rfl ?_
      rw [s3_9.2 _ _ (Or.inl (by decide))]
      refine t2_9 _ _ _ rfl ?_
      rw [x3.2 _ _ (Or.inl (by decide))]
      refine o2 _ _ _ rfl ?_
      rw [y3.2 _ _ (Or.inl (by decide))]
      exact u2_9 _ _ _ rfl eu
  obtain ⟨n_9', r_9, hgo, a_9, r1_9, r2, r3, r4⟩ := go_9
  simp only [Nat.zero_add] at r2 r3
  exact ⟨r_9, Or.inr ⟨M_9, n_9', hM_9, hl, hgo⟩, a_9, r1_9, r2, r3, r4⟩
/-- clear -/
theorem rc4_run {cst : am_K} {strs : List Nat} {D : Nat} {h0 : am_H} (cc : ∀ d_9, hp_C cst strs d_9) (hD : 1 ≤ D) (hy : ly_hy m_tt ly_TH h0) {m : Nat} (m1 : (m : Int) ≤ 99) (hm : 177 + 19 * (m + 1) ≤ h0.length) :
    ∃ r_9, am_Run cst m_cl m_tt m_P strs sx_bi (D + 1) 60 [.ref (16 + (177 + 19 * m + 4))] h0 r_9 ∧ (fun r_9 : am_Q => r_9.1 = none ∧ r_9.2.2.1 = 0 ∧ r_9.2.2.2 = 0 ∧ ly_hy m_tt ly_TH r_9.2.1 ∧ mfr cst 46336 (m : Int) [] h0 r_9.2.1 ∧ ly_hv cst r_9.2.1 46338 (m : Int) = some 0 ∧ ly_hv cst r_9.2.1 46339 (m : Int) = some 0) r_9 := by
  obtain ⟨M_9, hM_9, hl⟩ := hp_M (mi := 60) (k := 1) (by decide +kernel)
  have c_9 : hp_C cst strs D := cc _
  have go_9 : hp_F cst strs (fun r_9 : am_Q => r_9.1 = none ∧ r_9.2.2.1 = 0 ∧ r_9.2.2.2 = 0 ∧ ly_hy m_tt ly_TH r_9.2.1 ∧ mfr cst 46336 (m : Int) [] h0 r_9.2.1 ∧ ly_hv cst r_9.2.1 46338 (m : Int) = some 0 ∧ ly_hv cst r_9.2.1 46339 (m : Int) = some 0) D M_9 0 (lv_args 0 [.ref (16 + (177 + 19 * m + 4))]) [] h0 := by
    refine q4c0 c_9 hM_9 (by omega) hy (m : Int) (by omega) m1 ⟨m, rfl, rfl, hm⟩ (fun l1 h1 z0 z1 e0_9 e1_9 el u1_9 u2_9 u3 g0 => ?_)
    have ym : z1 = m := by omega
    rw [ym] at el
    rw [ym]
    refine hp_mpf (ci := 6) (kf := 2) (lo := 0) (hi := 20) hM_9 (by decide +kernel) u1_9 rfl rfl (by decide) rfl rfl el (by omega) (by omega) (fun h2 w1_9 w2_9 w3_9 => ?_)
    have w3_9 : hp_put cst 46338 (m : Int) z0.toInt h1 h2 := w3_9
    refine q4c1 c_9 hM_9 (by omega) w1_9 (m : Int) (by omega) m1 (by rw [w2_9]; exact g0) (fun l3 h3 z3 z4 e3_9 e4_9 el3 v1_9 v2 v3 n0_9 => ?_)
    have ym3 : z4 = m := by omega
    rw [ym3] at el3
    rw [ym3]
    have ez : z3 = 0 := Int32.toInt_inj.mp (show z3.toInt = (0 : Int32).toInt from e3_9)
    rw [ez]
    refine hp_mpf (ci := 6) (kf := 3) (lo := 0) (hi := 1) hM_9 (by decide +kernel) v1_9 rfl rfl (by decide) rfl rfl el3 (by decide) (by decide) (fun h4 x1_9 x2_9 x3 => ?_)
    have x3 : hp_put cst 46339 (m : Int) (0 : Int32).toInt h3 h4 := x3
    have k2_9 := w3_9.1
    rw [e0_9] at k2_9
    refine q4c2 c_9 hM_9 (by omega) x1_9 (m : Int) (by omega) m1 (by rw [x2_9]; exact n0_9) (fun h5 t1_9 t2_9 t3_9 => ⟨rfl, rfl, rfl, t1_9, mfr_tr (mfr_L u2_9) (mfr_tr (mfr_p2 (B := 46336) w3_9) (mfr_tr (mfr_L v2) (mfr_tr (mfr_p3 (B := 46336) x3) (mfr_L t2_9)))), ?_, t2_9 _ _ _ rfl x3.1⟩)
    refine t2_9 _ _ _ rfl ?_
    rw [x3.2 _ _ (Or.inl (by decide))]
    exact v2 _ _ _ rfl k2_9
  obtain ⟨n_9', r_9, hgo, r1_9, r2, r3, r4⟩ := go_9
  simp only [Nat.zero_add] at r2 r3
  exact ⟨r_9, Or.inr ⟨M_9, n_9', hM_9, hl, hgo⟩, r1_9, r2, r3, r4⟩
/-- add -/
theorem ra4_run {cst : am_K} {strs : List Nat} {D : Nat} {h0 : am_H} (cc : ∀ d_9, hp_C cst strs d_9) (hD : 1 ≤ D) (hy : ly_hy m_tt ly_TH h0) {m : Nat} (m1 : (m : Int) ≤ 99) (hm : 177 + 19 * (m + 1) ≤ h0.length) {ns vs : List Int} (nl : ns.length < 20) (lv : vs.length = ns.length) (kz : ly_hv cst h0 46338 (m : Int) = some (ns.length : Int)) (A : fn_N cst h0 46592 (32 * (m : Int)) ns) (A' : fn_N cst h0 46848 (32 * (m : Int)) vs) {xv : Int64} {xw : Int32} {v w : Int} (ev : xv.toInt = v) (ew : xw.toInt = w) (w0 : 0 ≤ w) (w1 : w ≤ 9999) :
    ∃ r_9, am_Run cst m_cl m_tt m_P strs sx_bi (D + 1) 122 [.ref (16 + (177 + 19 * m + 4)), .long xv, .int xw] h0 r_9 ∧ (fun r_9 : am_Q => ∃ a_9 : Int32, r_9.1 = some (.int a_9) ∧ r_9.2.2.1 = 0 ∧ r_9.2.2.2 = 0 ∧ ly_hy m_tt ly_TH r_9.2.1 ∧ mfr cst 46336 (m : Int) [] h0 r_9.2.1 ∧ ly_hv cst r_9.2.1 46338 (m : Int) = some ((ns ++ [v]).length : Int) ∧ fn_N cst r_9.2.1 46592 (32 * (m : Int)) (ns ++ [v]) ∧ fn_N cst r_9.2.1 46848 (32 * (m : Int)) (vs ++ [w]) ∧ ∀ u_9, ly_hv cst h0 46339 (m : Int) = some u_9 → ly_hv cst r_9.2.1 46339 (m : Int) = some u_9) r_9 := by
  obtain ⟨M_9, hM_9, hl⟩ := hp_M (mi := 122) (k := 4) (by decide +kernel)
  have c_9 : hp_C cst strs D := cc _
  have v0_9 : -9223372036854775808 ≤ v := by rw [← ev]; exact xv.le_toInt
  have v1_9 : v ≤ 9223372036854775807 := by rw [← ev]; exact xv.toInt_le
  have go_9 : hp_F cst strs (fun r_9 : am_Q => ∃ a_9 : Int32, r_9.1 = some (.int a_9) ∧ r_9.2.2.1 = 0 ∧ r_9.2.2.2 = 0 ∧ ly_hy m_tt ly_TH r_9.2.1 ∧ mfr cst 46336 (m : Int) [] h0 r_9.2.1 ∧ ly_hv cst r_9.2.1 46338 (m : Int) = some ((ns ++ [v]).length : Int) ∧ fn_N cst r_9.2.1 46592 (32 * (m : Int)) (ns ++ [v]) ∧ fn_N cst r_9.2.1 46848 (32 * (m : Int)) (vs ++ [w]) ∧ ∀ u_9, ly_hv cst h0 46339 (m : Int) = some u_9 → ly_hv cst r_9.2.1 46339 (m : Int) = some u_9) D M_9 0 (lv_args 0 [.ref (16 + (177 + 19 * m + 4)), .long xv, .int xw]) [] h0 := by
    refine q4a0 c_9 hM_9 (by omega) hy (m : Int) v w (ns.length : Int) (by omega) m1 v0_9 v1_9 w0 w1 (by omega) (by omega) kz ⟨m, rfl, rfl, hm⟩ ⟨xv, rfl, ev⟩ ⟨xw, rfl, ew⟩ (fun l1 h1 z0 z1 z2 e0_9 e1_9 e2_9 el u1_9 u2_9 u3 k1_9 g0 g1 g3_9 => ?_)
    have ym : z2 = m := by omega
    rw [ym] at el
    rw [ym]
    refine hp_mpj (j := 5) (n := 20) hM_9 (by decide +kernel) u1_9 rfl (by decide) (by decide) rfl el (by omega) (by omega) (fun h2 y1 y2 y3 => ?_)
    rw [e0_9, e1_9] at y3
    have y3 : hp_put cst 46592 (32 * (m : Int) + (ns.length : Int)) v h1 h2 := y3
    refine q4a1 c_9 hM_9 (by omega) y1 (m : Int) v w (ns.length : Int) (by omega) m1 v0_9 v1_9 w0 w1 (by omega) (by omega) (by rw [y3.2 _ _ (Or.inl (by decide))]; exact k1_9) (by rw [y2]; exact g0) g1 g3_9 (fun l3 h3 z3 z4 z5 e3_9 e4_9 e5_9 el3 o1 o2 o3_9 k3_9 n0_9 n1_9 n3_9 => ?_)
    have ym3 : z5 = m := by omega
    rw [ym3] at el3
    rw [ym3]
    refine hp_mpi (j := 6) (n := 20) (lo := -2147483648) (hi := 2147483647) hM_9 (by decide +kernel) o1 rfl (by decide) (by decide) rfl el3 (by omega) (by omega) (by omega) (by omega) (fun h4 x1_9 x2_9 x3 => ?_)
    rw [e3_9, e4_9] at x3
    have x3 : hp_put cst 46848 (32 * (m : Int) + (ns.length : Int)) w h3 h4 := x3
    refine q4a2 c_9 hM_9 (by omega) x1_9 (m : Int) (ns.length : Int) (by omega) m1 (by omega) (by omega) (by rw [x3.2 _ _ (Or.inl (by decide))]; exact k3_9) (by rw [x2_9]; exact n0_9) (fun l5 h5 z6 z7 e6_9 e7_9 el5 t1_9 t2_9 t3_9 p0_9 => ?_)
    have ym5 : z7 = m := by omega
    rw [ym5] at el5
    rw [ym5]
    refine hp_mpf (ci := 6) (kf := 2) (lo := 0) (hi := 20) hM_9 (by decide +kernel) t1_9 rfl rfl (by decide) rfl rfl el5 (by omega) (by omega) (fun h6 s1_9 s2_9 s3_9 => ?_)
    rw [e6_9] at s3_9
    have s3_9 : hp_put cst 46338 (m : Int) ((ns.length : Int) + 1) h5 h6 := s3_9
    refine q4a3 c_9 hM_9 (by omega) s1_9 (m : Int) (by omega) m1 (by rw [s2_9]; exact p0_9) (fun h7 a_9 ha_9 r1_9 r2 r3 => ⟨a_9, rfl, rfl, rfl, r1_9, mfr_tr (mfr_L u2_9) (mfr_tr (mfr_pn (B := 46336) y3 (by omega) (by omega)) (mfr_tr (mfr_L o2) (mfr_tr (mfr_pv (B := 46336) x3 (by omega) (by omega)) (mfr_tr (mfr_L t2_9) (mfr_tr (mfr_p2 (B := 46336) s3_9) (mfr_L r2)))))), ?_, ?_, ?_, ?_⟩)
    · have z_9 := r2 _ _ _ rfl s3_9.1
      rw [List.length_append, List.length_singleton]
      exact z_9
    · have B1 := fn_put (fn_mv A u2_9 rfl) y3
      have B2 := fn_mv B1 o2 rfl
      have B3 : fn_N cst h4 46592 (32 * (m : Int)) (ns ++ [v]) := fun k_9 hk => by rw [x3.2 _ _ (Or.inl (by decide))]; exact B2 k_9 hk
      have B4 := fn_mv B3 t2_9 rfl
      have B5 : fn_N cst h6 46592 (32 * (m : Int)) (ns ++ [v]) := fun k_9 hk => by rw [s3_9.2 _ _ (Or.inl (by decide))]; exact B4 k_9 hk
      exact fn_mv B5 r2 rfl
    · have B1 : fn_N cst h2 46848 (32 * (m : Int)) vs := fun k_9 hk => by rw [y3.2 _ _ (Or.inl (by decide))]; exact u2_9 _ _ _ rfl (A' k_9 hk)
      have B2 := fn_mv B1 o2 rfl
      rw [← lv] at x3
      have B3 := fn_mv (fn_put B2 x3) t2_9 rfl
      have B5 : fn_N cst h6 46848 (32 * (m : Int)) (vs ++ [w]) := fun k_9 hk => by rw [s3_9.2 _ _ (Or.inl (by decide))]; exact B3 k_9 hk
      exact fn_mv B5 r2 rfl
    · intro u_9 eu
      refine r2 _ _ _ rfl ?_
      rw [s3_9.2 _ _ (Or.inl (by decide))]
      refine t2_9 _ _ _ rfl ?_
      rw [x3.2 _ _ (Or.inl (by decide))]
      refine o2 _ _ _ rfl ?_
      rw [y3.2 _ _ (Or.inl (by decide))]
      exact u2_9 _ _ _ rfl eu
  obtain ⟨n_9', r_9, hgo, a_9, r1_9, r2, r3, r4⟩ := go_9
  simp only [Nat.zero_add] at r2 r3
  exact ⟨r_9, Or.inr ⟨M_9, n_9', hM_9, hl, hgo⟩, a_9, r1_9, r2, r3, r4⟩

