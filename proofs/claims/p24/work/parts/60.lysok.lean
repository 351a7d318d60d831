/-! all instructions of the linear machine -/
section LY8
variable {cst : am_K} {cl : List vw_C} {tt : List (List FieldType)} {TH : List (List ly_T)} {mods : List Nat} {K : sx_K} {ν : ly_N} {I : Instr} {X : am_X} {pc pc1 : Nat} {Z : ly_Z} {l l1 : ly_L} {l' : am_L} {st : List ly_V} {st' : List Value} {h' : am_H} {ss : List ly_S}
theorem ly_hp0 {c : ClassFile.Cond} {a : Int32} : sx_hp c a 0 ↔ sx_holds c a.toInt 0 := by
  rw [← sx_hp_iff]
  exact Iff.rfl
theorem ly_hp2 {c : ClassFile.Cond} {a b : Int32} : sx_hp c a b ↔ sx_holds c (a.toInt - b.toInt) 0 := by
  rw [← sx_hp_iff]
  cases c <;> simp only [sx_holds] <;> omega
set_option maxHeartbeats 8000000 in
theorem ly_s_ok {f : ly_Hd} (hs : ly_s I = some f) (hf : f K tt TH mods cl X pc Z l st = some ss) (gC : ly_gC K cst) (gZ : ly_gZ cst ν Z h') (gL : ly_gL ν h'.length l l') (gS : ly_gS ν h'.length st st') (hy : ly_hy tt TH h') : ly_ok1 cst cl tt TH mods ν I X pc l' st' h' ss := by
  have gB := gZ.2.1
  cases I with
  | iconst n =>
    cases hs
    exact ly_psh_ok hf gZ gL gS hy (fun v hv => by
      cases hv
      exact ⟨_, ⟨_, rfl, by rw [ly_ev_c, Int32.toInt_ofInt, sx_w_eq]⟩, rfl⟩)
  | bipush n =>
    cases hs
    refine ly_psh_ok hf gZ gL gS hy (fun v hv => ?_)
    cases hc : (sx_le (-128) n && sx_le n 127) with
    | false => rw [hc] at hv; cases hv
    | true =>
      rw [hc] at hv
      cases hv
      rw [Bool.and_eq_true, sx_le_iff, sx_le_iff] at hc
      refine ⟨_, ⟨_, rfl, ?_⟩, rfl⟩
      rw [ly_ev_c, Int8.toInt_toInt32, Int8.toInt_ofInt]
      congr 1
      exact (Int.bmod_eq_of_le (by show -((256 : Int) / 2) ≤ n; omega) (by show n < ((256 : Int) + 1) / 2; omega)).symm
  | sipush n =>
    cases hs
    refine ly_psh_ok hf gZ gL gS hy (fun v hv => ?_)
    cases hc : (sx_le (-32768) n && sx_le n 32767) with
    | false => rw [hc] at hv; cases hv
    | true =>
      rw [hc] at hv
      cases hv
      rw [Bool.and_eq_true, sx_le_iff, sx_le_iff] at hc
      refine ⟨_, ⟨_, rfl, ?_⟩, rfl⟩
      rw [ly_ev_c, Int16.toInt_toInt32, Int16.toInt_ofInt]
      congr 1
      exact (Int.bmod_eq_of_le (by show -((65536 : Int) / 2) ≤ n; omega) (by show n < ((65536 : Int) + 1) / 2; omega)).symm
  | lconst n =>
    cases hs
    cases hf
    refine ly_one_ok rfl gZ gL ⟨⟨_, rfl, ?_⟩, gS⟩ hy
    rw [ly_ev_c]
    congr 1
    match n with
    | 0 => rfl
    | 1 => rfl
  | aconst_null =>
    cases hs
    cases hf
    exact ly_one_ok (t1 := .null :: st') rfl gZ gL ⟨rfl, gS⟩ hy
  | ldc i =>
    cases hs
    simp only at hf
    cases h0' : Nat.beq X.1 0 with
    | true =>
      rw [h0'] at hf
      simp only [cond_true] at hf
      refine ly_psh_ok hf gZ gL gS hy (fun v hv => ?_)
      cases hv
      refine ⟨.int (Int32.ofInt X.2.2), ⟨_, rfl, by rw [ly_ev_c, Int32.toInt_ofInt, sx_w_eq]⟩, ?_⟩
      simp only [am_s, if_pos (sx_beqn.mp h0')]
    | false =>
      rw [h0'] at hf
      simp only [cond_false] at hf
      cases h1 : Nat.blt X.2.1 16 with
      | false => rw [h1] at hf; cases hf
      | true =>
        rw [h1] at hf
        cases hf
        exact ly_one_ok (t1 := .ref X.2.1 :: st') (by simp only [am_s, if_neg (sx_beq_neg h0'), if_pos (sx_blt.mp h1)]) gZ gL ⟨Or.inl rfl, gS⟩ hy
  | ldc_w i =>
    cases hs
    simp only at hf
    cases h0' : Nat.beq X.1 0 with
    | true =>
      rw [h0'] at hf
      simp only [cond_true] at hf
      refine ly_psh_ok hf gZ gL gS hy (fun v hv => ?_)
      cases hv
      refine ⟨.int (Int32.ofInt X.2.2), ⟨_, rfl, by rw [ly_ev_c, Int32.toInt_ofInt, sx_w_eq]⟩, ?_⟩
      simp only [am_s, if_pos (sx_beqn.mp h0')]
    | false =>
      rw [h0'] at hf
      simp only [cond_false] at hf
      cases h1 : Nat.blt X.2.1 16 with
      | false => rw [h1] at hf; cases hf
      | true =>
        rw [h1] at hf
        cases hf
        exact ly_one_ok (t1 := .ref X.2.1 :: st') (by simp only [am_s, if_neg (sx_beq_neg h0'), if_pos (sx_blt.mp h1)]) gZ gL ⟨Or.inl rfl, gS⟩ hy
  | ldc2_w i =>
    cases hs
    simp only at hf
    cases hc : (sx_le ly_mn X.2.2 && sx_le X.2.2 ly_mx) with
    | false => rw [hc] at hf; cases hf
    | true =>
      rw [hc] at hf
      cases hf
      rw [Bool.and_eq_true, sx_le_iff, sx_le_iff] at hc
      refine ly_one_ok rfl gZ gL ⟨⟨_, rfl, ?_⟩, gS⟩ hy
      rw [ly_ev_c, Int64.toInt_ofInt]
      congr 1
      exact (ly_bm64 hc.1 hc.2).symm
  | getstatic i =>
    cases hs
    cases hf
    obtain ⟨-, -, -, kf⟩ := gC
    cases h8 : Nat.blt X.2.1 8 with
    | true =>
      have := sx_blt.mp h8
      exact ly_one_ok (t1 := .ref X.2.1 :: st') (by simp only [am_s, am_sv, if_pos this, am_lowv, decide_eq_true_eq, if_pos (show X.2.1 < 16 by omega)]) gZ gL ⟨Or.inl rfl, gS⟩ hy
    | false =>
      have h8' := sx_blt_neg h8
      cases h9 : Nat.beq X.2.1 8 with
      | true =>
        have := sx_beqn.mp h9
        exact ly_one_ok (t1 := .int 1 :: st') (by simp only [am_s, am_sv, if_neg h8', if_pos this, am_lowv, if_true]) gZ gL ⟨⟨1, rfl, ly_ev_c ν 1⟩, gS⟩ hy
      | false =>
        have h9' := sx_beq_neg h9
        have hl : am_lowv cst.2.2 = true := by
          rcases kf with e | e
          · rw [e]; rfl
          · rw [e]; rfl
        refine ly_one_ok (t1 := cst.2.2 :: st') (by simp only [am_s, am_sv, if_neg h8', if_neg h9', hl, if_true]) gZ gL ⟨?_, gS⟩ hy
        rcases kf with e | e
        · exact Or.inl e
        · exact Or.inr ⟨rfl, e⟩
  | iload i =>
    cases hs
    exact ly_load_ok hf gZ gL gS hy (fun v w hv g e => by
      obtain ⟨n, rfl⟩ := ly_g_isI g hv
      simp only [am_s, e])
  | iload_n i =>
    cases hs
    exact ly_load_ok hf gZ gL gS hy (fun v w hv g e => by
      obtain ⟨n, rfl⟩ := ly_g_isI g hv
      simp only [am_s, e])
  | lload i =>
    cases hs
    exact ly_load_ok hf gZ gL gS hy (fun v w hv g e => by
      obtain ⟨n, rfl⟩ := ly_g_isJ g hv
      simp only [am_s, e])
  | lload_n i =>
    cases hs
    exact ly_load_ok hf gZ gL gS hy (fun v w hv g e => by
      obtain ⟨n, rfl⟩ := ly_g_isJ g hv
      simp only [am_s, e])
  | aload i =>
    cases hs
    exact ly_load_ok hf gZ gL gS hy (fun v w hv g e => by
      rcases ly_g_isA g hv with ⟨a, rfl⟩ | rfl <;> simp only [am_s, e])
  | aload_n i =>
    cases hs
    exact ly_load_ok hf gZ gL gS hy (fun v w hv g e => by
      rcases ly_g_isA g hv with ⟨a, rfl⟩ | rfl <;> simp only [am_s, e])
  | istore i =>
    cases hs
    exact ly_sto_ok (g' := fun w => am_st1 i w l') hf gZ gS hy (fun v w g => ly_gL_st1 gL g) (fun v w t hv g => by
      obtain ⟨n, rfl⟩ := ly_g_isI g hv
      rfl)
  | istore_n i =>
    cases hs
    exact ly_sto_ok (g' := fun w => am_st1 i w l') hf gZ gS hy (fun v w g => ly_gL_st1 gL g) (fun v w t hv g => by
      obtain ⟨n, rfl⟩ := ly_g_isI g hv
      rfl)
  | lstore i =>
    cases hs
    exact ly_sto_ok (g' := fun w => am_st2 i w l') hf gZ gS hy (fun v w g => ly_gL_st2 gL g) (fun v w t hv g => by
      obtain ⟨n, rfl⟩ := ly_g_isJ g hv
      rfl)
  | lstore_n i =>
    cases hs
    exact ly_sto_ok (g' := fun w => am_st2 i w l') hf gZ gS hy (fun v w g => ly_gL_st2 gL g) (fun v w t hv g => by
      obtain ⟨n, rfl⟩ := ly_g_isJ g hv
      rfl)
  | astore i =>
    cases hs
    exact ly_sto_ok (g' := fun w => am_st1 i w l') hf gZ gS hy (fun v w g => ly_gL_st1 gL g) (fun v w t hv g => by
      rcases ly_g_isA g hv with ⟨a, rfl⟩ | rfl <;> rfl)
  | astore_n i =>
    cases hs
    exact ly_sto_ok (g' := fun w => am_st1 i w l') hf gZ gS hy (fun v w g => ly_gL_st1 gL g) (fun v w t hv g => by
      rcases ly_g_isA g hv with ⟨a, rfl⟩ | rfl <;> rfl)
  | iinc i n =>
    cases hs
    simp only at hf
    split at hf
    case h_2 => cases hf
    rename_i x hx
    split at hf
    case h_2 => cases hf
    rename_i Z1 pc1 l1 v1 hp
    cases hf
    obtain ⟨w, e, gw⟩ := ly_gL_get gL hx
    obtain ⟨a, rfl, ea⟩ := gw
    have gn : ly_ev ν (sx_w n, []) = some (Int32.ofInt n).toInt := by rw [ly_ev_c, Int32.toInt_ofInt, sx_w_eq]
    unfold ly_psh at hp
    split at hp
    · rename_i v hv
      rw [ly_vf_eq] at hp
      cases hp
      have gr := ly_add_r (len := h'.length) gB ea gn
      rw [Option.some.inj hv] at gr
      exact ly_one_ok (by simp only [am_s, e]) gZ (ly_gL_st1 gL gr) gS hy
    · rename_i p hv
      have gr := ly_add_r (len := h'.length) gB ea gn
      rw [Option.some.inj hv] at gr
      obtain ⟨y, ey, p1, p2⟩ := gr
      cases ey
      simp only [ly_I_eq] at hp
      cases hc : sx_eq p.1 p.2 with
      | true =>
        rw [hc] at hp
        cases hp
        have := sx_eq_iff.mp hc
        refine ly_one_ok (by simp only [am_s, e]) gZ (ly_gL_st1 gL ⟨a + Int32.ofInt n, rfl, ?_⟩) gS hy
        rw [ly_ev_c]
        congr 1
        omega
      | false =>
        rw [hc] at hp
        simp only [cond_false] at hp
        obtain ⟨m, B, F, K⟩ := Z
        simp only [sx_N_eq] at hp
        cases hp
        have hl : ly_le ν (ly_up ν m (a + Int32.ofInt n).toInt) := ly_up_le (gZ.1 m (Nat.le_refl m))
        refine ⟨_, List.mem_singleton.mpr rfl, ly_up ν m (a + Int32.ofInt n).toInt, (pc + 3, am_st1 i (.int (a + Int32.ofInt n)) l', st', h'), by simp only [am_s, e], hl, ly_gZ_up (p := (p.1, p.2)) gZ p1 p2, rfl, ly_gL_st1 (ly_gL_le hl (Nat.le_refl _) gL) ⟨_, rfl, ly_ev_sym (ly_up_n m _)⟩, ly_gS_le hl (Nat.le_refl _) gS, hy, ly_fr_rf h', rfl⟩
    · cases hp
  | iadd => cases hs; exact ly_bin_ok hf gZ gL gS hy (fun a b x y ha hb => ly_add_r gB ha hb) (fun x y t e => by rw [e]; rfl)
  | isub => cases hs; exact ly_bin_ok hf gZ gL gS hy (fun a b x y ha hb => ly_sub_r gB ha hb) (fun x y t e => by rw [e]; rfl)
  | imul => cases hs; exact ly_bin_ok hf gZ gL gS hy (fun a b x y ha hb => ly_mul_r gB ha hb) (fun x y t e => by rw [e]; rfl)
  | idiv =>
    cases hs
    simp only at hf
    split at hf
    case h_2 => cases hf
    rename_i y st0
    split at hf
    case h_2 => cases hf
    rename_i q hq
    cases hc : sx_le 1 q.1 with
    | false => rw [hc] at hf; cases hf
    | true =>
      rw [hc] at hf
      have hc := sx_le_iff.mp hc
      obtain ⟨y', t1, e1, gy, -⟩ := ly_gS_cons gS
      obtain ⟨y0, ey0, ey⟩ := gy
      obtain ⟨z, hz, q1, -⟩ := ly_iv_ok gB hq
      rw [ey] at hz
      cases hz
      simp only [cond_true] at hf
      split at hf
      · rename_i xe pe ce ste hdv
        unfold ly_dv at hdv
        split at hdv
        case h_2 => cases hdv
        rename_i ye xe' st2 hst
        split at hdv
        case h_2 => cases hdv
        rename_i cc pp h1 h2 h3
        cases hcc : Nat.ble cc 1000 with
        | false => rw [hcc] at hdv; cases hdv
        | true =>
          rw [hcc] at hdv
          cases hdv
          rw [sx_ble] at hcc
          cases hst
          obtain ⟨y2, t2, e2, gy2, gS2⟩ := ly_gS_cons gS
          obtain ⟨x2, t3, e3, gx2, gS3⟩ := ly_gS_cons gS2
          obtain ⟨x0, rfl, ex⟩ := gx2
          rw [e1, ey0] at e2
          cases e2
          have hyc := ly_con_ok gB h2
          rw [ey] at hyc
          have hyc : y0.toInt = (ce : Int) := Option.some.inj hyc
          obtain ⟨z3, hz3, b1, b2⟩ := ly_iv_ok gB h3
          rw [ex] at hz3
          cases hz3
          have hn : ¬ y0 = 0 := fun e0 => by
            rw [e0] at q1
            have : (0 : Int32).toInt = 0 := rfl
            omega
          have er := ly_div_r (x := x0) (y := y0) pe (.ofNat ce, .ofNat ce) b1 b2 (by show (ce : Int) ≤ _; omega) (by show _ ≤ (ce : Int); omega)
          refine ly_rd_ok (zi := x0.toInt) (x := x0 / y0) hf gZ gL gS3 hy ex ?_ er.1 er.2 ?_
          · unfold ly_hv
            rw [if_neg (by omega), if_neg (by omega), if_neg (by omega), if_neg (by omega), if_pos (by omega), show 62000 + ce - 62000 = ce by omega]
            congr 1
            rw [ly_div_i (by omega), hyc]
          · rw [e1, ey0, e3]
            simp only [am_s, if_neg hn]
      refine ly_bin_ok hf gZ gL gS hy (fun a b x y ha hb => ly_op_r gB ha hb (fun p q => ly_div_r p q)) (fun x y t e => ?_)
      rw [e1, ey0] at e
      cases e
      have hn : ¬ y0 = 0 := fun e0 => by
        rw [e0] at q1
        have : (0 : Int32).toInt = 0 := rfl
        omega
      rw [e1, ey0]
      simp only [am_s, if_neg hn]
  | irem =>
    cases hs
    simp only at hf
    split at hf
    case h_2 => cases hf
    rename_i y st0
    split at hf
    case h_2 => cases hf
    rename_i q hq
    cases hc : sx_le 1 q.1 with
    | false => rw [hc] at hf; cases hf
    | true =>
      rw [hc] at hf
      have hc := sx_le_iff.mp hc
      obtain ⟨y', t1, e1, gy, -⟩ := ly_gS_cons gS
      obtain ⟨y0, ey0, ey⟩ := gy
      obtain ⟨z, hz, q1, -⟩ := ly_iv_ok gB hq
      rw [ey] at hz
      cases hz
      refine ly_bin_ok (F := fun x y => x - x / y * y) hf gZ gL gS hy (fun a b x y ha hb => ly_op_r gB ha hb (fun p q p1 _ q1 q2 => ly_rem_r p q p1 q1 q2)) (fun x y t e => ?_)
      rw [e1, ey0] at e
      cases e
      have hn : ¬ y0 = 0 := fun e0 => by
        rw [e0] at q1
        have : (0 : Int32).toInt = 0 := rfl
        omega
      rw [e1, ey0]
      simp only [am_s, if_neg hn]
  | iand =>
    cases hs
    simp only at hf
    split at hf
    · rename_i xe ke me ste hmk
      unfold ly_mk at hmk
      split at hmk
      case h_2 => cases hmk
      rename_i ye xe' st2
      split at hmk
      case h_2 => cases hmk
      rename_i c0 h1 h2
      obtain ⟨y2, t2, rfl, gy2, gS2⟩ := ly_gS_cons gS
      obtain ⟨x2, t3, rfl, gx2, gS3⟩ := ly_gS_cons gS2
      obtain ⟨x0, rfl, ex⟩ := gx2
      obtain ⟨y0, rfl, ey⟩ := gy2
      have hyc := ly_con_ok gB h2
      rw [ey] at hyc
      have hyc : y0.toInt = c0 := Option.some.inj hyc
      have am := ly_and_m x0
      cases hc : sx_eq c0 255 with
      | true =>
        rw [hc] at hmk
        cases hmk
        have e255 : y0 = 255 := Int32.toInt_inj.mp (by rw [hyc, sx_eq_iff.mp hc]; rfl)
        subst e255
        refine ly_rd_ok (zi := x0.toInt) (x := x0 &&& 255) hf gZ gL gS3 hy ex ?_ (by rw [am.1]; exact Int.emod_nonneg _ (by decide)) (by rw [am.1]; show _ ≤ (255 : Int); have := Int.emod_lt_of_pos x0.toInt (show (0 : Int) < 256 by decide); omega) rfl
        unfold ly_hv
        rw [if_neg (by decide), if_neg (by decide), if_neg (by decide), if_neg (by decide), if_neg (by decide), am.1]
        rfl
      | false =>
        rw [hc] at hmk
        simp only [cond_false] at hmk
        cases hc1 : sx_eq c0 1 with
        | false => rw [hc1] at hmk; cases hmk
        | true =>
          rw [hc1] at hmk
          cases hmk
          have e1 : y0 = 1 := Int32.toInt_inj.mp (by rw [hyc, sx_eq_iff.mp hc1]; rfl)
          subst e1
          refine ly_rd_ok (zi := x0.toInt) (x := x0 &&& 1) hf gZ gL gS3 hy ex ?_ (by rw [am.2]; exact Int.emod_nonneg _ (by decide)) (by rw [am.2]; show _ ≤ (1 : Int); have := Int.emod_lt_of_pos x0.toInt (show (0 : Int) < 2 by decide); omega) rfl
          unfold ly_hv
          rw [if_neg (by decide), if_neg (by decide), if_neg (by decide), if_neg (by decide), if_neg (by decide), am.2]
          rfl
    · exact ly_bin_ok hf gZ gL gS hy (fun a b x y ha hb => ly_op_r gB ha hb (fun p q => ly_and_r p q)) (fun x y t e => by rw [e]; rfl)
  | ior => cases hs; exact ly_bin_ok hf gZ gL gS hy (fun a b x y ha hb => ly_op_r gB ha hb (fun p q _ _ _ _ => ly_top _)) (fun x y t e => by rw [e]; rfl)
  | ixor => cases hs; exact ly_bin_ok hf gZ gL gS hy (fun a b x y ha hb => ly_op_r gB ha hb (fun p q _ _ _ _ => ly_top _)) (fun x y t e => by rw [e]; rfl)
  | ishl => cases hs; exact ly_bin_ok (F := fun x y => x <<< (y &&& 31)) hf gZ gL gS hy (fun a b x y ha hb => ly_op_r gB ha hb (fun p q _ _ _ _ => ly_top _)) (fun x y t e => by rw [e]; rfl)
  | ishr =>
    cases hs
    simp only at hf
    split at hf
    · rename_i xe pe ce ste hsh
      unfold ly_sh at hsh
      split at hsh
      case h_2 => cases hsh
      rename_i ye xe' st2
      split at hsh
      case h_2 => cases hsh
      rename_i cc pp h1 h2 h3
      cases hcc : (sx_le 0 pp.1 && Nat.ble cc 9) with
      | false => rw [hcc] at hsh; cases hsh
      | true =>
        rw [hcc] at hsh
        cases hsh
        rw [Bool.and_eq_true, sx_le_iff, sx_ble] at hcc
        obtain ⟨y2, t2, rfl, gy2, gS2⟩ := ly_gS_cons gS
        obtain ⟨x2, t3, rfl, gx2, gS3⟩ := ly_gS_cons gS2
        obtain ⟨x0, rfl, ex⟩ := gx2
        obtain ⟨y0, rfl, ey⟩ := gy2
        have hyc := ly_con_ok gB h2
        rw [ey] at hyc
        have hyc : y0.toInt = (ce : Int) := Option.some.inj hyc
        have ey0 : y0 = Int32.ofNat ce := Int32.toInt_inj.mp (by rw [hyc, sx_ofNat (by omega)])
        subst ey0
        obtain ⟨z3, hz3, b1, b2⟩ := ly_iv_ok gB h3
        rw [ex] at hz3
        cases hz3
        have sd := ly_shr_d (x := x0) (c := ce) (by omega) hcc.2
        have hp : 2 ^ ce ≤ 512 := by
          have := Nat.pow_le_pow_right (show 0 < 2 by decide) hcc.2
          exact this
        have hp0 : 0 < 2 ^ ce := Nat.two_pow_pos ce
        have y0n : (Int32.ofNat (2 ^ ce)).toInt = ((2 ^ ce : Nat) : Int) := sx_ofNat (by omega)
        have er := ly_div_r (x := x0) (y := Int32.ofNat (2 ^ ce)) pe (.ofNat (2 ^ ce), .ofNat (2 ^ ce)) b1 b2 (by rw [y0n]; exact Int.le_refl _) (by rw [y0n]; exact Int.le_refl _)
        rw [ly_div_i (by rw [y0n]; omega), y0n, Int.tdiv_eq_ediv_of_nonneg (by omega), ← sd] at er
        refine ly_rd_ok (zi := x0.toInt) (x := x0 >>> (Int32.ofNat ce &&& 31)) hf gZ gL gS3 hy ex ?_ er.1 er.2 rfl
        unfold ly_hv
        rw [if_neg (by omega), if_neg (by omega), if_neg (by omega), if_neg (by omega), if_pos (by omega), show 62000 + 2 ^ ce - 62000 = 2 ^ ce by omega, sd, Int.tdiv_eq_ediv_of_nonneg (by omega)]
    · exact ly_bin_ok (F := fun x y => x >>> (y &&& 31)) hf gZ gL gS hy (fun a b x y ha hb => ly_op_r gB ha hb (fun p q p1 p2 _ _ => ly_shr_r p q p1 p2)) (fun x y t e => by rw [e]; rfl)
  | iushr => cases hs; exact ly_bin_ok (F := fun x y => (x.toUInt32 >>> (y.toUInt32 &&& Int32.toUInt32 31)).toInt32) hf gZ gL gS hy (fun a b x y ha hb => ly_op_r gB ha hb (fun p q _ _ _ _ => ly_top _)) (fun x y t e => by rw [e]; rfl)
  | ladd => cases hs; exact ly_binj_ok (F := fun x y => x + y) hf gZ gL gS hy (fun a b e x y he ha hb => by cases he; exact ⟨_, ly_add_ok ha hb, Int64.toInt_add x y⟩) (fun x y t e => by rw [e]; rfl)
  | lsub => cases hs; exact ly_binj_ok (F := fun x y => x - y) hf gZ gL gS hy (fun a b e x y he ha hb => by cases he; exact ⟨_, ly_sub_ok ha hb, Int64.toInt_sub x y⟩) (fun x y t e => by rw [e]; rfl)
  | lmul =>
    cases hs
    refine ly_binj_ok (F := fun x y => x * y) hf gZ gL gS hy (fun a b e x y he ha hb => ?_) (fun x y t e => by rw [e]; rfl)
    unfold ly_mulj at he
    split at he
    · rename_i c hc
      cases he
      have := ly_con_ok gB hc
      rw [ha] at this
      cases this
      exact ⟨_, ly_scl_ok hb, Int64.toInt_mul x y⟩
    · split at he
      · rename_i c hc
        cases he
        have := ly_con_ok gB hc
        rw [hb] at this
        cases this
        refine ⟨_, ly_scl_ok ha, ?_⟩
        rw [Int.mul_comm]
        exact Int64.toInt_mul x y
      · cases he
  | lcmp =>
    cases hs
    simp only at hf
    split at hf
    case h_2 => cases hf
    rename_i y x st0
    obtain ⟨y', t1, rfl, gy, gS1⟩ := ly_gS_cons gS
    obtain ⟨x', t2, rfl, gx, gS2⟩ := ly_gS_cons gS1
    obtain ⟨y0, rfl, ey⟩ := gy
    obtain ⟨x0, rfl, ex⟩ := gx
    exact ly_cmp_ok hf gZ gL gS2 hy (ly_sub_ok ex ey) rfl
  | i2l =>
    cases hs
    simp only at hf
    split at hf
    case h_2 => cases hf
    rename_i e st0
    obtain ⟨x', t2, rfl, gx, gS2⟩ := ly_gS_cons gS
    obtain ⟨x0, rfl, ex⟩ := gx
    cases hf
    exact ly_one_ok rfl gZ gL ⟨⟨_, rfl, by rw [ex, Int32.toInt_toInt64]⟩, gS2⟩ hy
  | l2i =>
    cases hs
    simp only at hf
    split at hf
    case h_2 => cases hf
    rename_i e st0
    obtain ⟨x', t2, rfl, gx, gS2⟩ := ly_gS_cons gS
    obtain ⟨x0, rfl, ex⟩ := gx
    refine ly_psh_ok hf gZ gL gS2 hy (fun r hr => ?_)
    cases hr
    refine ⟨_, ?_, rfl⟩
    unfold ly_ex
    split
    · rename_i p hp
      cases hc : (sx_le sx_min p.1 && sx_le p.2 sx_max) with
      | false => exact ⟨_, rfl, ly_top _⟩
      | true =>
        rw [Bool.and_eq_true, sx_le_iff, sx_le_iff] at hc
        obtain ⟨z, hz, b1, b2⟩ := ly_iv_ok gB hp
        rw [ex] at hz
        cases hz
        refine ⟨_, rfl, ?_⟩
        rw [ex, Int64.toInt_toInt32]
        congr 1
        exact (sx_bm (by omega) (by omega)).symm
    · exact ⟨_, rfl, ly_top _⟩
  | i2c => cases hs; exact ly_un_ok (F := fun x => (x.toUInt32 % 65536).toInt32) hf gZ gL gS hy (fun a x ha => ly_op1_r gB ha (ly_i2c_r x).1 (ly_i2c_r x).2) (fun x t e => by rw [e]; rfl)
  | i2b => cases hs; exact ly_un_ok (F := fun x => x.toInt8.toInt32) hf gZ gL gS hy (fun a x ha => ly_op1_r gB ha (ly_i2b_r x).1 (ly_i2b_r x).2) (fun x t e => by rw [e]; rfl)
  | pop =>
    cases hs
    simp only at hf
    split at hf
    case h_2 => cases hf
    rename_i v st0
    obtain ⟨w, t, rfl, gv, gS1⟩ := ly_gS_cons gS
    cases hc : Nat.beq (ly_cat v) 1 with
    | false => rw [hc] at hf; cases hf
    | true =>
      rw [hc] at hf
      cases hf
      exact ly_one_ok (by simp only [am_s, ly_g_cat gv, sx_beqn.mp hc, if_true]) gZ gL gS1 hy
  | dup =>
    cases hs
    simp only at hf
    split at hf
    case h_2 => cases hf
    rename_i v st0
    obtain ⟨w, t, rfl, gv, gS1⟩ := ly_gS_cons gS
    cases hc : Nat.beq (ly_cat v) 1 with
    | false => rw [hc] at hf; cases hf
    | true =>
      rw [hc] at hf
      cases hf
      exact ly_one_ok (t1 := w :: w :: t) (by simp only [am_s, ly_g_cat gv, sx_beqn.mp hc, if_true]) gZ gL ⟨gv, gv, gS1⟩ hy
  | dup2 =>
    cases hs
    simp only at hf
    split at hf
    case h_2 => cases hf
    rename_i v v2 st0
    obtain ⟨w, t, rfl, gv, gS1⟩ := ly_gS_cons gS
    obtain ⟨w2, t2, rfl, gv2, gS2⟩ := ly_gS_cons gS1
    cases hc : (Nat.beq (ly_cat v) 1 && Nat.beq (ly_cat v2) 1) with
    | false => rw [hc] at hf; cases hf
    | true =>
      rw [hc] at hf
      cases hf
      rw [Bool.and_eq_true] at hc
      exact ly_one_ok (t1 := w :: w2 :: w :: w2 :: t2) (by simp only [am_s, ly_g_cat gv, ly_g_cat gv2, sx_beqn.mp hc.1, sx_beqn.mp hc.2, and_self, if_true]) gZ gL ⟨gv, gv2, gv, gv2, gS2⟩ hy
  | goto off =>
    cases hs
    simp only at hf
    cases hj : sx_jump pc off with
    | false => rw [hj] at hf; cases hf
    | true =>
      rw [hj] at hf
      cases hf
      exact ly_one_ok (by simp only [am_s, sx_jump_ok hj]) gZ gL gS hy
  | ifCond c off =>
    cases hs
    simp only at hf
    split at hf
    case h_2 => cases hf
    rename_i x st0
    obtain ⟨x', t, rfl, gx, gS1⟩ := ly_gS_cons gS
    obtain ⟨a, rfl, ea⟩ := gx
    have hh := ly_hp0 (c := c) (a := a)
    cases c
    · exact ly_fork_ok (b := a = 0) hf gZ gL gS1 hy ea hh rfl
    · exact ly_fork_ok (b := ¬ a = 0) hf gZ gL gS1 hy ea hh rfl
    · exact ly_fork_ok (b := a < 0) hf gZ gL gS1 hy ea hh rfl
    · exact ly_fork_ok (b := 0 ≤ a) hf gZ gL gS1 hy ea hh rfl
    · exact ly_fork_ok (b := 0 < a) hf gZ gL gS1 hy ea hh rfl
    · exact ly_fork_ok (b := a ≤ 0) hf gZ gL gS1 hy ea hh rfl
  | if_icmp c off =>
    cases hs
    simp only at hf
    split at hf
    case h_2 => cases hf
    rename_i y x st0
    obtain ⟨y', t, rfl, gy, gS1⟩ := ly_gS_cons gS
    obtain ⟨x', t2, rfl, gx, gS2⟩ := ly_gS_cons gS1
    obtain ⟨a, rfl, ea⟩ := gx
    obtain ⟨b, rfl, eb⟩ := gy
    have hh := ly_hp2 (c := c) (a := a) (b := b)
    have ee := ly_sub_ok ea eb
    cases c
    · exact ly_fork_ok (b := a = b) hf gZ gL gS2 hy ee hh rfl
    · exact ly_fork_ok (b := ¬ a = b) hf gZ gL gS2 hy ee hh rfl
    · exact ly_fork_ok (b := a < b) hf gZ gL gS2 hy ee hh rfl
    · exact ly_fork_ok (b := b ≤ a) hf gZ gL gS2 hy ee hh rfl
    · exact ly_fork_ok (b := b < a) hf gZ gL gS2 hy ee hh rfl
    · exact ly_fork_ok (b := a ≤ b) hf gZ gL gS2 hy ee hh rfl
  | ifnull off =>
    cases hs
    simp only at hf
    split at hf
    · rename_i a st0
      obtain ⟨w, t, rfl, gv, gS1⟩ := ly_gS_cons gS
      cases h7 : Nat.beq a 7 with
      | true => rw [h7] at hf; cases hf
      | false =>
        rw [h7] at hf
        cases hf
        rw [ly_g_ref gv (sx_beq_neg h7)]
        exact ly_one_ok rfl gZ gL gS1 hy
    · rename_i q st0
      obtain ⟨w, t, rfl, gv, gS1⟩ := ly_gS_cons gS
      cases hf
      obtain ⟨-, z, -, ew, -⟩ := gv
      rw [ew]
      exact ly_one_ok rfl gZ gL gS1 hy
    · rename_i st0
      obtain ⟨w, t, rfl, gv, gS1⟩ := ly_gS_cons gS
      cases hj : sx_jump pc off with
      | false => rw [hj] at hf; cases hf
      | true =>
        rw [hj] at hf
        cases hf
        rw [show w = .null from gv]
        exact ly_one_ok (by simp only [am_s, sx_jump_ok hj]) gZ gL gS1 hy
    · cases hf
  | ifnonnull off =>
    cases hs
    simp only at hf
    split at hf
    · rename_i st0
      obtain ⟨w, t, rfl, gv, gS1⟩ := ly_gS_cons gS
      cases hf
      rw [show w = .null from gv]
      exact ly_one_ok rfl gZ gL gS1 hy
    · rename_i q st0
      obtain ⟨w, t, rfl, gv, gS1⟩ := ly_gS_cons gS
      cases hj : sx_jump pc off with
      | false => rw [hj] at hf; cases hf
      | true =>
        rw [hj] at hf
        cases hf
        obtain ⟨-, z, -, ew, -⟩ := gv
        rw [ew]
        exact ly_one_ok (by simp only [am_s, sx_jump_ok hj]) gZ gL gS1 hy
    · rename_i a st0
      obtain ⟨w, t, rfl, gv, gS1⟩ := ly_gS_cons gS
      cases h7 : Nat.beq a 7 with
      | true => rw [h7] at hf; cases hf
      | false =>
        rw [h7] at hf
        cases hj : sx_jump pc off with
        | false => rw [hj] at hf; cases hf
        | true =>
          rw [hj] at hf
          cases hf
          rw [ly_g_ref gv (sx_beq_neg h7)]
          exact ly_one_ok (by simp only [am_s, sx_jump_ok hj]) gZ gL gS1 hy
    · cases hf
  | tableswitch dflt lo hi offs =>
    cases hs
    simp only at hf
    split at hf
    case h_2 => cases hf
    rename_i x st0
    obtain ⟨x', t, rfl, gx, gS1⟩ := ly_gS_cons gS
    obtain ⟨n, rfl, en⟩ := gx
    cases hc : (sx_jump pc dflt && (offs.toList.all (sx_jump pc) && sx_eq (Int.add lo (.ofNat offs.toList.length)) (Int.add hi 1))) with
    | false => rw [hc] at hf; cases hf
    | true =>
      rw [hc] at hf
      cases hf
      rw [Bool.and_eq_true, Bool.and_eq_true, sx_eq_iff] at hc
      obtain ⟨hd, ha, hlen⟩ := hc
      have hlen : lo + (offs.toList.length : Int) = hi + 1 := hlen
      by_cases h1 : n.toInt < lo
      · obtain ⟨Z1, e1, g1⟩ := ly_cn_ok (c := .lt) gZ (ly_sub_ok en (ly_ev_c ν lo)) (show n.toInt - lo < 0 by omega)
        refine ly_ok1_in (fun q hq => List.mem_append_right _ (List.mem_append_left _ (ly_goto_in e1 hq))) (ly_one_ok ?_ g1 gL gS1 hy)
        simp only [am_s, if_pos (show n.toInt < lo ∨ hi < n.toInt from Or.inl h1), sx_jump_ok hd]
      · by_cases h2 : hi < n.toInt
        · obtain ⟨Z1, e1, g1⟩ := ly_cn_ok (c := .gt) gZ (ly_sub_ok en (ly_ev_c ν hi)) (show 0 < n.toInt - hi by omega)
          refine ly_ok1_in (fun q hq => List.mem_append_right _ (List.mem_append_right _ (ly_goto_in e1 hq))) (ly_one_ok ?_ g1 gL gS1 hy)
          simp only [am_s, if_pos (show n.toInt < lo ∨ hi < n.toInt from Or.inr h2), sx_jump_ok hd]
        · have hk : (n.toInt - lo).toNat < offs.toList.length := by omega
          have hg := List.getElem?_eq_getElem hk
          have ek : lo + (((n.toInt - lo).toNat : Nat) : Int) = n.toInt := by omega
          have hj := List.all_eq_true.mp ha _ (List.mem_of_getElem? hg)
          obtain ⟨Z1, e1, g1⟩ := ly_cn_ok (c := .eq) gZ (ly_sub_ok en (ly_ev_c ν (lo + (((n.toInt - lo).toNat : Nat) : Int)))) (show n.toInt - _ = 0 by omega)
          refine ly_ok1_in (fun q hq => List.mem_append_left _ (ly_sw_in hg e1 (List.mem_singleton.mp hq))) (ly_one_ok ?_ g1 gL gS1 hy)
          have e2 : offs[(n.toInt - lo).toNat]? = some offs.toList[(n.toInt - lo).toNat] := by
            rw [← Array.getElem?_toList]
            exact hg
          simp only [am_s, if_neg (show ¬ (n.toInt < lo ∨ hi < n.toInt) by omega), e2, sx_jump_ok hj]
  | getfield i =>
    cases hs
    simp only at hf
    split at hf
    case h_2 => cases hf
    rename_i v st0
    obtain ⟨w, t, rfl, gv, gS1⟩ := ly_gS_cons gS
    split at hf
    · rename_i c i0 ci fs hob
      obtain ⟨a, b, zi, vs, rfl, ei, hx, hlen, hfs, hhv, -, hR, hc196⟩ := ly_ob_ok (cst := cst) hy gv hob
      cases hc : (Nat.beq ci X.1 && (sx_eq X.2.2 0 && Nat.blt X.2.1 256)) with
      | false => rw [hc] at hf; cases hf
      | true =>
        rw [hc] at hf
        simp only [cond_true] at hf
        rw [Bool.and_eq_true, Bool.and_eq_true, sx_beqn, sx_eq_iff, sx_blt] at hc
        have e16 : ¬ 16 + a < 16 := by omega
        have e17 : 16 + a - 16 = a := by omega
        have go : ∀ u, vs[X.2.1]? = some u → am_s cst cl tt (.getfield i) X pc l' (.ref (16 + a) :: t) h' = some (pc + 3, l', u :: t, h') := fun u hu => by
          simp only [am_s, if_neg e16, e17, hx, if_pos (show ci = X.1 ∧ X.2.2 = 0 from ⟨hc.1, hc.2.1⟩), hu]
        split at hf
        · rename_i p hp
          obtain ⟨u, hu, x, rfl, p1, p2⟩ := hfs _ _ hp
          refine ly_rd_ok hf gZ gL gS1 hy ei ?_ p1 p2 (go _ hu)
          rw [ly_hv0 (by omega), hhv _ hc.2.2]
          simp only [ly_hm, hu]
        · rename_i u0 hp
          obtain ⟨u, hu, x, rfl⟩ := hfs _ _ hp
          refine ly_rdj_ok hf gZ gL gS1 hy ei ?_ (go _ hu)
          rw [ly_hv0 (by omega), hhv _ hc.2.2]
          simp only [ly_hm, hu]
        · rename_i o hp
          obtain ⟨u, hu, gu⟩ := hfs _ _ hp
          cases hf
          refine ly_one_ok (go _ hu) gZ gL ⟨?_, gS1⟩ hy
          match o, gu with
          | none, gu => exact gu
          | some a, gu => exact Or.inl gu
        · rename_i j hp
          obtain ⟨u, hu, gu⟩ := hfs _ _ hp
          split at hf
          case h_2 => cases hf
          rename_i j0 e
          cases hj : Nat.blt j 19 with
          | false => rw [hj] at hf; cases hf
          | true =>
            rw [hj] at hf
            cases hf
            obtain ⟨z, ez, eb, hz⟩ := hR _ _ rfl
            refine ly_one_ok (go _ hu) gZ gL ⟨⟨sx_blt.mp hj, z, ez, ?_, hz⟩, gS1⟩ hy
            rw [show u = .ref (16 + (b + j)) from gu, eb]
        · cases hf
    · split at hf
      case h_2 => cases hf
      rename_i a hob
      cases hb : (Nat.ble 8 a && Nat.blt a 12) with
      | false => rw [hb] at hf; cases hf
      | true =>
        rw [hb] at hf
        simp only [cond_true] at hf
        rw [Bool.and_eq_true, sx_ble, sx_blt] at hb
        have ew := ly_g_ref gv (by omega)
        subst ew
        have hlen := gC.2.2.1
        have ha' : a < 16 := by omega
        have hcond : 8 ≤ a ∧ a < 12 ∧ a - 8 < cst.2.1.length := ⟨hb.1, hb.2, by omega⟩
        cases h1 : sx_eq X.2.2 1 with
        | true =>
          rw [h1] at hf
          cases hf
          exact ly_one_ok (t1 := .ref (a + 4) :: t) (by simp only [am_s, if_pos ha', if_pos hcond, if_pos (sx_eq_iff.mp h1)]) gZ gL ⟨Or.inl rfl, gS1⟩ hy
        | false =>
          rw [h1] at hf
          simp only [cond_false] at hf
          have e1 : ¬ X.2.2 = 1 := fun e => by
            rw [sx_eq_iff.mpr e] at h1
            cases h1
          cases h2 : sx_eq X.2.2 2 with
          | false => rw [h2] at hf; cases hf
          | true =>
            rw [h2] at hf
            cases hf
            exact ly_one_ok (t1 := .int 0 :: t) (by simp only [am_s, if_pos ha', if_pos hcond, if_neg e1, if_pos (sx_eq_iff.mp h2)]) gZ gL ⟨⟨0, rfl, ly_ev_c ν 0⟩, gS1⟩ hy
  | putfield i =>
    cases hs
    simp only at hf
    split at hf
    case h_2 => cases hf
    rename_i v a0 st0
    obtain ⟨w, t1, rfl, gv, gS1⟩ := ly_gS_cons gS
    obtain ⟨r, t, rfl, ga, gS2⟩ := ly_gS_cons gS1
    split at hf
    case h_2 => cases hf
    rename_i c i0 ci fs hob
    obtain ⟨a, b, zi, vs, rfl, ei, hx, hlen, hfs, hhv, hset, -, hc196⟩ := ly_ob_ok (cst := cst) hy ga hob
    cases hc : (Nat.beq ci X.1 && Nat.blt X.2.1 256) with
    | false => rw [hc] at hf; cases hf
    | true =>
      rw [hc] at hf
      simp only [cond_true] at hf
      rw [Bool.and_eq_true, sx_beqn, sx_blt] at hc
      have e16 : ¬ 16 + a < 16 := by omega
      have e17 : 16 + a - 16 = a := by omega
      have hset1 : ∀ u, X.2.1 < vs.length → ∀ k', k' ≠ X.2.1 → (vs.set X.2.1 u)[k']? = vs[k']? := fun u _ k' hk => List.getElem?_set_ne (Ne.symm hk)
      split at hf
      · rename_i p e hp
        obtain ⟨u, hu, -⟩ := hfs _ _ hp
        have hl := (List.getElem?_eq_some_iff.mp hu).1
        obtain ⟨x, rfl, ex⟩ := gv
        have hfit : ∀ ty, (tt.getD ci [])[X.2.1]? = some ty → am_fit ty (.int x) = true → am_s cst cl tt (.putfield i) X pc l' (.int x :: .ref (16 + a) :: t) h' = some (pc + 3, l', t, h'.set a (.inr (ci, vs.set X.2.1 (.int x)))) := by
          intro ty hty hfit
          have hgd : (tt.getD ci []).getD X.2.1 .char = ty := by
            rw [List.getD_eq_getElem?_getD, hty]
            rfl
          simp only [am_s, if_neg e16, e17, hx, if_pos (show ci = X.1 ∧ X.2.1 < vs.length from ⟨hc.1, hl⟩), hgd, hfit, if_true]
        have fin : ∀ Z1, ly_wr mods Z (256 * c + X.2.1) i0 p e = some Z1 → (∀ ty, (tt.getD ci [])[X.2.1]? = some ty → p.1 ≤ x.toInt → x.toInt ≤ p.2 → am_fit ty (.int x) = true) → (∃ ty, (tt.getD ci [])[X.2.1]? = some ty) → ly_ok1 cst cl tt TH mods ν (.putfield i) X pc l' (.int x :: .ref (16 + a) :: t) h' [(Z1, pc + 3, l, st0)] := by
          intro Z1 hw hft ⟨ty, hty⟩
          obtain ⟨⟨p1, p2⟩, hZ⟩ := ly_wr_ok (by omega) gZ ei ex hw
          obtain ⟨hy1, hv1, hv2⟩ := hset X.2.1 (vs.set X.2.1 (.int x)) hc.2 (by rw [List.length_set]) (hset1 _ hl) (fun f hf' => by
            rw [hp] at hf'
            cases hf'
            exact ⟨_, List.getElem?_set_self hl, x, rfl, p1, p2⟩)
          rw [show ly_hm (some (.inr (ci, vs.set X.2.1 (.int x)))) X.2.1 = some x.toInt by simp only [ly_hm, List.getElem?_set_self hl]] at hv1
          obtain ⟨gZ1, fr1⟩ := hZ _ hv1 hv2
          exact ly_two_ok (hfit ty hty (hft ty hty p1 p2)) gZ1 gL gS2 hy1 fr1 (by rw [List.length_set])
        split at hf
        · rename_i hty
          simp only [cond_true] at hf
          split at hf
          case h_2 => cases hf
          rename_i Z1 hw
          cases hf
          exact fin Z1 hw (fun ty hty' _ _ => by rw [hty] at hty'; cases hty'; rfl) ⟨_, hty⟩
        · rename_i hty
          cases h01 : (sx_le 0 p.1 && sx_le p.2 1) with
          | false => rw [h01] at hf; cases hf
          | true =>
            rw [h01] at hf
            simp only [cond_true] at hf
            rw [Bool.and_eq_true, sx_le_iff, sx_le_iff] at h01
            split at hf
            case h_2 => cases hf
            rename_i Z1 hw
            cases hf
            refine fin Z1 hw (fun ty hty' p1 p2 => ?_) ⟨_, hty⟩
            rw [hty] at hty'
            cases hty'
            have : x.toInt = 0 ∨ x.toInt = 1 := by omega
            simp only [am_fit, Bool.or_eq_true, beq_iff_eq]
            rcases this with e | e
            · exact Or.inl (Int32.toInt_inj.mp e)
            · exact Or.inr (Int32.toInt_inj.mp e)
        · cases hf
      · rename_i u1 u2 hp
        obtain ⟨u, hu, x0, rfl⟩ := hfs _ _ hp
        have hl := (List.getElem?_eq_some_iff.mp hu).1
        obtain ⟨x, rfl, ex⟩ := gv
        split at hf
        case h_2 => cases hf
        rename_i hty
        split at hf
        case h_2 => cases hf
        rename_i Z1 hw
        cases hf
        have hgd : (tt.getD ci []).getD X.2.1 .char = .long := by
          rw [List.getD_eq_getElem?_getD, hty]
          rfl
        obtain ⟨-, hZ⟩ := ly_wr_ok (by omega) gZ ei ex hw
        obtain ⟨hy1, hv1, hv2⟩ := hset X.2.1 (vs.set X.2.1 (.long x)) hc.2 (by rw [List.length_set]) (hset1 _ hl) (fun f hf' => by
          rw [hp] at hf'
          cases hf'
          exact ⟨_, List.getElem?_set_self hl, x, rfl⟩)
        rw [show ly_hm (some (.inr (ci, vs.set X.2.1 (.long x)))) X.2.1 = some x.toInt by simp only [ly_hm, List.getElem?_set_self hl]] at hv1
        obtain ⟨gZ1, fr1⟩ := hZ _ hv1 hv2
        refine ly_two_ok ?_ gZ1 gL gS2 hy1 fr1 (by rw [List.length_set])
        simp only [am_s, if_neg e16, e17, hx, if_pos (show ci = X.1 ∧ X.2.1 < vs.length from ⟨hc.1, hl⟩), hgd, am_fit, if_true]
      · cases hf
  | arraylength =>
    cases hs
    simp only at hf
    split at hf
    case h_2 => cases hf
    rename_i v st0
    obtain ⟨w, t, rfl, gv, gS1⟩ := ly_gS_cons gS
    split at hf
    · rename_i oc ty n p hr
      obtain ⟨-, a, c, rfl, hx, -⟩ := ly_row_ok hy gv hr
      have e16 : ¬ 16 + a < 16 := by omega
      have e17 : 16 + a - 16 = a := by omega
      cases hb : Nat.ble n 60000000 with
      | false => rw [hb] at hf; cases hf
      | true =>
        rw [hb] at hf
        simp only [cond_true] at hf
        refine ly_psh_ok hf gZ gL gS1 hy (fun r hr => ?_)
        cases hr
        exact ⟨.int (Int32.ofNat n), ⟨_, rfl, by rw [ly_ev_c, sx_ofNat (sx_ble.mp hb)]; rfl⟩, by simp only [am_s, if_neg e16, e17, hx]⟩
    · split at hf
      case h_2 => cases hf
      rename_i a hr
      obtain ⟨k1, ⟨S, s1, s2⟩, -, -⟩ := gC
      cases h4 : Nat.beq a 4 with
      | true =>
        have e4 := sx_beqn.mp h4
        subst e4
        rw [h4] at hf
        simp only [cond_true] at hf
        have ew := ly_g_ref gv (by decide)
        subst ew
        have el : (Int32.ofNat S.length).toInt = (S.length : Int) := sx_ofNat (by omega)
        have e12 : ¬ 12 ≤ 4 := by decide
        refine ly_rd_ok (x := Int32.ofNat S.length) hf gZ gL gS1 hy (ly_ev_c ν 0) (by rw [el]; exact ly_hv_len s1) (by rw [el]; exact Int.natCast_nonneg _) (by rw [el]; show (S.length : Int) ≤ 3584; omega) ?_
        simp only [am_s, if_pos (show 4 < 16 by decide), if_neg e12, s1]
      | false =>
        rw [h4] at hf
        simp only [cond_false] at hf
        split at hf
        case h_2 => cases hf
        rename_i r hr'
        cases hb : Nat.ble r.length 60000000 with
        | false => rw [hb] at hf; cases hf
        | true =>
          rw [hb] at hf
          simp only [cond_true] at hf
          have hb' := sx_ble.mp hb
          have fin : ∀ L : List Int32, L.map Int32.toInt = r → ly_g ν h'.length (.inl (.ofNat r.length, [])) (.int (Int32.ofNat L.length)) := by
            intro L e
            have : L.length = r.length := by rw [← e, List.length_map]
            rw [this]
            exact ⟨_, rfl, by rw [ly_ev_c, sx_ofNat hb']; rfl⟩
          refine ly_psh_ok hf gZ gL gS1 hy (fun q hq => ?_)
          cases hq
          obtain ⟨-, ⟨l8, L, e, em⟩ | ⟨l12, l16, L, e, em⟩⟩ := k1 a r hr'
          · have ew := ly_g_ref gv (by omega)
            subst ew
            exact ⟨_, fin L em, by simp only [am_s, if_pos (show a < 16 by omega), if_neg (show ¬ 12 ≤ a by omega), e]⟩
          · have ew := ly_g_ref gv (by omega)
            subst ew
            exact ⟨_, fin L em, by simp only [am_s, if_pos l16, if_pos l12, e]⟩
  | iaload =>
    cases hs
    refine ly_rload_ok hf gC gZ gL gS hy (fun ty hty => ?_) (fun _ => ?_) (fun a x L t e ha hlow hL hneg => ?_) (fun a ty n f0 x t e hty hx hneg => ?_)
    · cases ty <;> simp [sx_tI] at hty ⊢
    · cases h7 : sx_get 7 K with
      | none => rfl
      | some r => obtain ⟨-, ⟨l4, -⟩ | ⟨l12, -⟩⟩ := gC.1 7 r h7 <;> omega
    · rw [e]
      have h8 := sx_blt.mp hlow
      rcases hL with ⟨-, e⟩ | ⟨e12, -⟩
      · simp only [am_s, if_pos ha, e, if_neg hneg]
      · omega
    · rw [e]
      cases ty <;> simp [sx_tI] at hty
      simp only [am_s, if_neg (show ¬ 16 + a < 16 by omega), show 16 + a - 16 = a by omega, hx, if_neg hneg]
  | baload =>
    cases hs
    refine ly_rload_ok hf gC gZ gL gS hy (fun ty hty => ?_) (fun h12 => ?_) (fun a x L t e ha hlow hL hneg => ?_) (fun a ty n f0 x t e hty hx hneg => ?_)
    · cases ty <;> simp [sx_tB] at hty ⊢
    · cases h12
    · rw [e]
      have h12 := sx_ble.mp hlow
      rcases hL with ⟨e8, -⟩ | ⟨-, -, e⟩
      · omega
      · simp only [am_s, if_pos ha, if_pos h12, e, if_neg hneg]
    · rw [e]
      cases ty <;> simp [sx_tB] at hty
      · simp only [am_s, if_neg (show ¬ 16 + a < 16 by omega), show 16 + a - 16 = a by omega, hx, if_neg hneg]
      · simp only [am_s, if_neg (show ¬ 16 + a < 16 by omega), show 16 + a - 16 = a by omega, hx, if_neg hneg]
  | laload =>
    cases hs
    simp only at hf
    split at hf
    case h_2 => cases hf
    rename_i i0 v st0
    obtain ⟨i', t1, rfl, gi, gS1⟩ := ly_gS_cons gS
    obtain ⟨w, t, rfl, gv, gS2⟩ := ly_gS_cons gS1
    split at hf
    · rename_i c0 ty n p hr
      obtain ⟨hty, a, c, rfl, hx, gT, -, h1, -⟩ := ly_row_ok (lo := p.1) (hi := p.2) hy gv hr
      obtain ⟨rfl, hlt⟩ := h1 c0 rfl
      split at hf
      case h_2 => cases hf
      rename_i e he
      obtain ⟨rfl, x, rfl, hneg, hxn, ex⟩ := ly_idx_ok gZ gi he
      obtain ⟨c', ec, gc⟩ := gT
      cases ec
      cases ty <;> simp [sx_tJ] at hty
      obtain ⟨f0, rfl⟩ := gc
      refine ly_rdj_ok (zi := (x.toNatClampNeg : Int)) (x := f0 x.toNatClampNeg) hf gZ gL gS2 hy ex ?_ (by simp only [am_s, if_neg (show ¬ 16 + c0 < 16 by omega), show 16 + c0 - 16 = c0 by omega, hx, if_neg hneg])
      have := ly_h0_of1 (cst := cst) (h := h') (c := c0) (k := 0) (i := (x.toNatClampNeg : Int)) hlt (by decide)
      rw [Nat.add_zero] at this
      rw [ly_hv0 (by omega), this, hx]
      simp only [ly_hs, Int.toNat_natCast]
      rw [if_pos ⟨trivial, Int.natCast_nonneg _, hxn⟩]
    · rename_i ty n p hr
      obtain ⟨hty, a, c, rfl, hx, gT, -, -, h2⟩ := ly_row_ok (lo := p.1) (hi := p.2) hy gv hr
      obtain ⟨j, z, xe, rfl, hj, ez, ea⟩ := h2 rfl
      split at hf
      case h_2 => cases hf
      rename_i e he
      obtain ⟨-, x, rfl, hneg, hxn, ex⟩ := ly_idx_ok gZ gi he
      split at hf
      case h_2 => cases hf
      rename_i r0 ix hmr
      obtain ⟨j0, hn, rfl, eix⟩ := ly_mr_ok hmr ez ex
      obtain ⟨c', ec, gc⟩ := gT
      cases ec
      cases ty <;> simp [sx_tJ] at hty
      obtain ⟨f0, rfl⟩ := gc
      refine ly_rdj_ok (zi := 32 * (z : Int) + (x.toNatClampNeg : Int)) (x := f0 x.toNatClampNeg) hf gZ gL gS2 hy eix ?_ (by simp only [am_s, if_neg (show ¬ 16 + a < 16 by omega), show 16 + a - 16 = a by omega, hx, if_neg hneg])
      rw [ea] at hx
      rw [ly_hv0 (by omega), ly_h0_a hj j0 (by omega) hx]
      simp only [ly_hs, Int.toNat_natCast]
      rw [if_pos ⟨trivial, Int.natCast_nonneg _, hxn⟩]
    · cases hf
  | aaload =>
    cases hs
    simp only at hf
    split at hf
    case h_2 => cases hf
    rename_i i0 v st0
    obtain ⟨i', t1, rfl, gi, gS1⟩ := ly_gS_cons gS
    obtain ⟨w, t, rfl, gv, gS2⟩ := ly_gS_cons gS1
    split at hf
    case h_2 => cases hf
    rename_i c0 ty n p hr
    obtain ⟨hty, a, c, rfl, hx, gT, -, h1, -⟩ := ly_row_ok (lo := p.1) (hi := p.2) hy gv hr
    obtain ⟨rfl, hlt⟩ := h1 c0 rfl
    split at hf
    case h_2 => cases hf
    rename_i e he
    obtain ⟨-, x, rfl, hneg, hxn, ex⟩ := ly_idx_ok gZ gi he
    obtain ⟨c', ec, gc⟩ := gT
    cases ec
    cases ty <;> simp [ly_tO] at hty
    obtain ⟨f0, rfl, hj⟩ := gc
    have go : am_s cst cl tt .aaload X pc l' (.int x :: .ref (16 + c0) :: t) h' = some (pc + 1, l', va_rf (f0 x.toNatClampNeg) :: t, h') := by
      simp only [am_s, if_neg (show ¬ 16 + c0 < 16 by omega), show 16 + c0 - 16 = c0 by omega, hx, if_neg hneg]
    cases hk : Z.2.2.2.any (fun q => Nat.beq q.1 (256 * c0) && (ly_eq q.2.1 e && ly_eq q.2.2 (1, []))) with
    | true =>
      rw [hk] at hf
      cases hf
      obtain ⟨q, hq, hb⟩ := List.any_eq_true.mp hk
      simp only [Bool.and_eq_true, sx_beqn] at hb
      obtain ⟨b1, b2, b3⟩ := hb
      obtain ⟨qi, qv, q1, q2, q3⟩ := gZ.2.2.2 q hq
      rw [ly_eq_eq b2, ex] at q1
      rw [ly_eq_eq b3, ly_ev_c] at q2
      cases q1
      cases q2
      rw [b1, ly_hv0 (by omega)] at q3
      have of1 := ly_h0_of1 (cst := cst) (h := h') (c := c0) (k := 0) (i := (x.toNatClampNeg : Int)) hlt (by decide)
      rw [Nat.add_zero] at of1
      rw [of1, hx] at q3
      simp only [ly_hs, Int.toNat_natCast] at q3
      rcases hj _ hxn with e0 | ⟨e0, hz⟩
      · rw [e0] at q3
        simp at q3
      · rw [e0] at go
        refine ly_one_ok (s1 := .inr (.inr (.inr (0, e))) :: st0) go gZ gL ⟨⟨by decide, x.toNatClampNeg, ex, ?_, hz⟩, gS2⟩ hy
        show Value.ref _ = Value.ref _
        rw [Nat.add_zero]
    | false =>
      rw [hk] at hf
      cases hf
      rcases hj _ hxn with e0 | ⟨e0, hz⟩
      · rw [e0] at go
        exact ly_ok1_in (fun q hq => by rw [List.mem_singleton.mp hq]; exact List.mem_cons_self) (ly_one_ok (s1 := .inr (.inr (.inl none)) :: st0) go gZ gL ⟨rfl, gS2⟩ hy)
      · rw [e0] at go
        refine ly_ok1_in (fun q hq => by rw [List.mem_singleton.mp hq]; exact List.mem_cons_of_mem _ List.mem_cons_self) (ly_one_ok (s1 := .inr (.inr (.inr (0, e))) :: st0) go gZ gL ⟨⟨by decide, x.toNatClampNeg, ex, ?_, hz⟩, gS2⟩ hy)
        show Value.ref _ = Value.ref _
        rw [Nat.add_zero]
  | iastore =>
    cases hs
    simp only at hf
    split at hf
    case h_2 => cases hf
    rename_i v i0 a0 st0
    obtain ⟨w, t0, rfl, gv, gS0⟩ := ly_gS_cons gS
    obtain ⟨i', t1, rfl, gi, gS1⟩ := ly_gS_cons gS0
    obtain ⟨r, t, rfl, ga, gS2⟩ := ly_gS_cons gS1
    obtain ⟨xv, rfl, ev⟩ := gv
    split at hf
    · rename_i c0 ty n p hr
      obtain ⟨hty, a, c, rfl, hx, gT, hset, h1, -⟩ := ly_row_ok (lo := p.1) (hi := p.2) hy ga hr
      obtain ⟨rfl, hlt⟩ := h1 c0 rfl
      split at hf
      case h_2 => cases hf
      rename_i e he
      obtain ⟨-, x, rfl, hneg, hxn, ex⟩ := ly_idx_ok gZ gi he
      split at hf
      case h_2 => cases hf
      rename_i Z1 hw
      cases hf
      obtain ⟨c', ec, gc⟩ := gT
      cases ec
      cases ty <;> simp [sx_tI] at hty
      obtain ⟨f0, rfl, b⟩ := gc
      obtain ⟨⟨p1, p2⟩, hZ⟩ := ly_wr_ok (by omega) gZ ex ev hw
      obtain ⟨hv1, hv2⟩ := ly_h0_row (cst := cst) (x := xv) hlt hx hxn
      obtain ⟨gZ1, fr1⟩ := hZ _ hv1 hv2
      refine ly_two_ok (h1 := h'.set c0 (.inl (.int, n, .inl (upd f0 x.toNatClampNeg xv)))) ?_ gZ1 gL gS2 (hset _ ⟨_, rfl, _, rfl, fun j hj => ?_⟩) fr1 (by rw [List.length_set])
      · simp only [am_s, if_neg (show ¬ 16 + c0 < 16 by omega), show 16 + c0 - 16 = c0 by omega, hx, if_neg hneg]
      · unfold upd
        by_cases ej : j = x.toNatClampNeg
        · rw [if_pos ej]; exact ⟨p1, p2⟩
        · rw [if_neg ej]; exact b j hj
    · rename_i ty n p hr
      obtain ⟨hty, a, c, rfl, hx, gT, hset, -, h2⟩ := ly_row_ok (lo := p.1) (hi := p.2) hy ga hr
      split at hf
      case h_2 => cases hf
      rename_i e he
      obtain ⟨-, x, rfl, hneg, hxn, ex⟩ := ly_idx_ok gZ gi he
      obtain ⟨j, z, xe, rfl, hj, ez, ea⟩ := h2 rfl
      split at hf
      case h_2 => cases hf
      rename_i r0 ix hmr
      obtain ⟨j0, hn, rfl, eix⟩ := ly_mr_ok hmr ez ex
      split at hf
      case h_2 => cases hf
      rename_i Z1 hw
      cases hf
      obtain ⟨c', ec, gc⟩ := gT
      cases ec
      cases ty <;> simp [sx_tI] at hty
      obtain ⟨f0, rfl, b⟩ := gc
      obtain ⟨⟨p1, p2⟩, hZ⟩ := ly_wr_ok (by omega) gZ eix ev hw
      subst ea
      obtain ⟨hv1, hv2⟩ := ly_h0_row2 (cst := cst) (x := xv) hj j0 hn hx hxn
      obtain ⟨gZ1, fr1⟩ := hZ _ hv1 hv2
      refine ly_two_ok (h1 := h'.set (177 + 19 * z + j) (.inl (.int, n, .inl (upd f0 x.toNatClampNeg xv)))) ?_ gZ1 gL gS2 (hset _ ⟨_, rfl, _, rfl, fun j hj => ?_⟩) fr1 (by rw [List.length_set])
      · simp only [am_s, if_neg (show ¬ 16 + (177 + 19 * z + j) < 16 by omega), show 16 + (177 + 19 * z + j) - 16 = 177 + 19 * z + j by omega, hx, if_neg hneg]
      · unfold upd
        by_cases ej : j = x.toNatClampNeg
        · rw [if_pos ej]; exact ⟨p1, p2⟩
        · rw [if_neg ej]; exact b j hj
    · cases hf
  | bastore =>
    cases hs
    simp only at hf
    split at hf
    case h_2 => cases hf
    rename_i v i0 a0 st0
    obtain ⟨w, t0, rfl, gv, gS0⟩ := ly_gS_cons gS
    obtain ⟨i', t1, rfl, gi, gS1⟩ := ly_gS_cons gS0
    obtain ⟨r, t, rfl, ga, gS2⟩ := ly_gS_cons gS1
    obtain ⟨xv, rfl, ev⟩ := gv
    split at hf
    case h_2 => cases hf
    rename_i c0 ty n p hr
    obtain ⟨hty, a, c, rfl, hx, gT, hset, h1, -⟩ := ly_row_ok (lo := p.1) (hi := p.2) hy ga hr
    obtain ⟨rfl, hlt⟩ := h1 c0 rfl
    split at hf
    case h_2 => cases hf
    rename_i e he
    obtain ⟨-, x, rfl, hneg, hxn, ex⟩ := ly_idx_ok gZ gi he
    obtain ⟨c', ec, gc⟩ := gT
    cases ec
    have fin : ∀ (ty : FieldType) (f0 : Nat → Int32) (y : Int32), h'[c0]? = some (.inl (ty, n, .inl f0)) → (∀ j, j < n → p.1 ≤ (f0 j).toInt ∧ (f0 j).toInt ≤ p.2) → p.1 ≤ y.toInt → y.toInt ≤ p.2 → (ty = .byte ∨ ty = .boolean) →
        (∀ c', ly_gT tt h'.length 0 (.inl (ty, n, p.1, p.2)) (.inl (ty, n, c')) → ly_hy tt TH (h'.set c0 (.inl (ty, n, c')))) →
        am_s cst cl tt .bastore X pc l' (.int xv :: .int x :: .ref (16 + c0) :: t) h' = some (pc + 1, l', t, h'.set c0 (.inl (ty, n, .inl (upd f0 x.toNatClampNeg y)))) → (ly_nar ty Z.2.1 v = true → y = xv) → (match (bif ly_nar ty Z.2.1 v then ly_wr mods Z (256 * c0) e p v else ly_drop mods Z (256 * c0)) with
          | some Z => some [(Z, pc + 1, l, st0)]
          | none => none) = some ss → ly_ok1 cst cl tt TH mods ν .bastore X pc l' (.int xv :: .int x :: .ref (16 + c0) :: t) h' ss := by
      intro ty f0 y hx b y1 y2 hty hset go hnar hd
      split at hd
      case h_2 => cases hd
      rename_i Z1 hw
      cases hd
      obtain ⟨hv1, hv2⟩ := ly_h0_row (cst := cst) (x := y) hlt hx hxn
      have hZf : ly_gZ cst ν Z1 (h'.set c0 (.inl (ty, n, .inl (upd f0 x.toNatClampNeg y)))) ∧ ly_fr cst mods h' (h'.set c0 (.inl (ty, n, .inl (upd f0 x.toNatClampNeg y)))) := by
        cases hn : ly_nar ty Z.2.1 v with
        | false =>
          rw [hn] at hw
          exact ly_drop_ok (by omega) gZ hw _ (fun r' i' hr' => hv2 r' i' (Or.inl hr'))
        | true =>
          rw [hn] at hw
          obtain ⟨-, hZ⟩ := ly_wr_ok (by omega) gZ ex ev hw
          exact hZ _ (by rw [hv1, hnar hn]) hv2
      obtain ⟨gZ1, fr1⟩ := hZf
      refine ly_two_ok go gZ1 gL gS2 (hset _ ?_) fr1 (by rw [List.length_set])
      have : ∀ j, j < n → p.1 ≤ (upd f0 x.toNatClampNeg y j).toInt ∧ (upd f0 x.toNatClampNeg y j).toInt ≤ p.2 := fun j hj => by
        unfold upd
        by_cases ej : j = x.toNatClampNeg
        · rw [if_pos ej]; exact ⟨y1, y2⟩
        · rw [if_neg ej]; exact b j hj
      rcases hty with rfl | rfl
      · exact ⟨_, rfl, _, rfl, this⟩
      · exact ⟨_, rfl, _, rfl, this⟩
    cases ty <;> simp [sx_tB] at hty
    · obtain ⟨f0, rfl, b⟩ := gc
      simp only at hf
      cases hc : (sx_le p.1 (-128) && sx_le 127 p.2) with
      | false => rw [hc] at hf; cases hf
      | true =>
        rw [hc] at hf
        rw [Bool.and_eq_true, sx_le_iff, sx_le_iff] at hc
        have := ly_nar_b xv
        exact fin .byte f0 (vp_nar .byte xv) hx b (by omega) (by omega) (Or.inl rfl) hset (by simp only [am_s, if_neg (show ¬ 16 + c0 < 16 by omega), show 16 + c0 - 16 = c0 by omega, hx, if_neg hneg]) (fun hn => ly_nar_ok gB hn ev) hf
    · obtain ⟨f0, rfl, b⟩ := gc
      simp only at hf
      cases hc : (sx_le p.1 0 && sx_le 1 p.2) with
      | false => rw [hc] at hf; cases hf
      | true =>
        rw [hc] at hf
        rw [Bool.and_eq_true, sx_le_iff, sx_le_iff] at hc
        have := ly_nar_z xv
        exact fin .boolean f0 (vp_nar .boolean xv) hx b (by omega) (by omega) (Or.inr rfl) hset (by simp only [am_s, if_neg (show ¬ 16 + c0 < 16 by omega), show 16 + c0 - 16 = c0 by omega, hx, if_neg hneg]) (fun hn => ly_nar_ok gB hn ev) hf
  | lastore =>
    cases hs
    simp only at hf
    split at hf
    case h_2 => cases hf
    rename_i v0 i0 a0 st0
    obtain ⟨w, t0, rfl, gv, gS0⟩ := ly_gS_cons gS
    obtain ⟨i', t1, rfl, gi, gS1⟩ := ly_gS_cons gS0
    obtain ⟨r, t, rfl, ga, gS2⟩ := ly_gS_cons gS1
    obtain ⟨xv, rfl, ev⟩ := gv
    split at hf
    · rename_i c0 ty n p hr
      obtain ⟨hty, a, c, rfl, hx, gT, hset, h1, -⟩ := ly_row_ok (lo := p.1) (hi := p.2) hy ga hr
      obtain ⟨rfl, hlt⟩ := h1 c0 rfl
      split at hf
      case h_2 => cases hf
      rename_i e he
      obtain ⟨-, x, rfl, hneg, hxn, ex⟩ := ly_idx_ok gZ gi he
      split at hf
      case h_2 => cases hf
      rename_i Z1 hw
      cases hf
      obtain ⟨c', ec, gc⟩ := gT
      cases ec
      cases ty <;> simp [sx_tJ] at hty
      obtain ⟨f0, rfl⟩ := gc
      obtain ⟨-, hZ⟩ := ly_wr_ok (by omega) gZ ex ev hw
      obtain ⟨hv1, hv2⟩ := ly_h0_rowj (cst := cst) (x := xv) hlt hx hxn
      obtain ⟨gZ1, fr1⟩ := hZ _ hv1 hv2
      refine ly_two_ok (h1 := h'.set c0 (.inl (.long, n, .inr (.inl (vp_updL f0 x.toNatClampNeg xv))))) ?_ gZ1 gL gS2 (hset _ ⟨_, rfl, _, rfl⟩) fr1 (by rw [List.length_set])
      simp only [am_s, if_neg (show ¬ 16 + c0 < 16 by omega), show 16 + c0 - 16 = c0 by omega, hx, if_neg hneg]
    · rename_i ty n p hr
      obtain ⟨hty, a, c, rfl, hx, gT, hset, -, h2⟩ := ly_row_ok (lo := p.1) (hi := p.2) hy ga hr
      obtain ⟨j, z, xe, rfl, hj, ez, ea⟩ := h2 rfl
      split at hf
      case h_2 => cases hf
      rename_i e he
      obtain ⟨-, x, rfl, hneg, hxn, ex⟩ := ly_idx_ok gZ gi he
      split at hf
      case h_2 => cases hf
      rename_i r0 ix hmr
      obtain ⟨j0, hn, rfl, eix⟩ := ly_mr_ok hmr ez ex
      split at hf
      case h_2 => cases hf
      rename_i Z1 hw
      cases hf
      obtain ⟨c', ec, gc⟩ := gT
      cases ec
      cases ty <;> simp [sx_tJ] at hty
      obtain ⟨f0, rfl⟩ := gc
      obtain ⟨-, hZ⟩ := ly_wr_ok (by omega) gZ eix ev hw
      subst ea
      obtain ⟨hv1, hv2⟩ := ly_h0_rowj2 (cst := cst) (x := xv) hj j0 hn hx hxn
      obtain ⟨gZ1, fr1⟩ := hZ _ hv1 hv2
      refine ly_two_ok (h1 := h'.set (177 + 19 * z + j) (.inl (.long, n, .inr (.inl (vp_updL f0 x.toNatClampNeg xv))))) ?_ gZ1 gL gS2 (hset _ ⟨_, rfl, _, rfl⟩) fr1 (by rw [List.length_set])
      simp only [am_s, if_neg (show ¬ 16 + (177 + 19 * z + j) < 16 by omega), show 16 + (177 + 19 * z + j) - 16 = 177 + 19 * z + j by omega, hx, if_neg hneg]
    · cases hf
  | aastore =>
    cases hs
    simp only at hf
    split at hf
    case h_2 => cases hf
    rename_i e' i0 a0 st0
    obtain ⟨w, t0, rfl, gv, gS0⟩ := ly_gS_cons gS
    obtain ⟨i', t1, rfl, gi, gS1⟩ := ly_gS_cons gS0
    obtain ⟨r, t, rfl, ga, gS2⟩ := ly_gS_cons gS1
    split at hf
    case h_2 => cases hf
    rename_i c0 C n p ci fs hr hm
    obtain ⟨-, a, c, rfl, hx, gT, hset, h1, -⟩ := ly_row_ok (lo := p.1) (hi := p.2) hy ga hr
    obtain ⟨rfl, hlt⟩ := h1 c0 rfl
    split at hf
    case h_2 => cases hf
    rename_i e r0 he hr0
    obtain ⟨-, x, rfl, hneg, hxn, ex⟩ := ly_idx_ok gZ gi he
    cases hc : ((ly_eq e e' && decide (C = r0.1)) && (ly_dg (256 * c0)).isEmpty) with
    | false => rw [hc] at hf; cases hf
    | true =>
      rw [hc] at hf
      cases hf
      rw [Bool.and_eq_true, Bool.and_eq_true, decide_eq_true_eq] at hc
      have hdg := List.isEmpty_iff.mp hc.2
      have hc := hc.1
      have ee := ly_eq_eq hc.1
      subst ee
      obtain ⟨-, z, ez, rfl, hz⟩ := gv
      rw [ex] at ez
      have ezx : x.toNatClampNeg = z := by
        simp only [Option.some.injEq] at ez
        omega
      subst ezx
      obtain ⟨y, hy0, gy⟩ := hy.2.2 _ _ _ hz hm
      obtain ⟨vs, rfl, -⟩ := gy
      obtain ⟨c', ec, gc⟩ := gT
      cases ec
      obtain ⟨f0, rfl, hj⟩ := gc
      have hl := (List.getElem?_eq_some_iff.mp hx).1
      have hne : ∀ r', r' ≠ 256 * c0 → ∀ i', ly_h0 cst (h'.set c0 (.inl (.object C, n, .inr (.inr (.inr (.inr (va_up f0 x.toNatClampNeg (some (16 + (177 + 19 * x.toNatClampNeg + 0)))))))))) r' i' = ly_h0 cst h' r' i' := fun r' hr' i' => ly_h0_set1 hlt hx (fun er => by
        simp only [ly_hs]
        rw [if_neg (fun q => hr' (by have := q.1; omega)), if_neg (fun q => hr' (by have := q.1; omega))])
      have o2 : ∀ i' : Int, ly_h0 cst (h'.set c0 (.inl (.object C, n, .inr (.inr (.inr (.inr (va_up f0 x.toNatClampNeg (some (16 + (177 + 19 * x.toNatClampNeg + 0)))))))))) (256 * c0) i' = ly_hs (some (.inl (.object C, n, .inr (.inr (.inr (.inr (va_up f0 x.toNatClampNeg (some (16 + (177 + 19 * x.toNatClampNeg + 0)))))))))) 0 i' := fun i' => by
        exact (ly_h0_of1 (cst := cst) (c := c0) (k := 0) (i := i') hlt (by decide)).trans (by rw [List.getElem?_set_self hl])
      have mono : ∀ r' i' v', ly_hv cst h' r' i' = some v' → ly_hv cst (h'.set c0 (.inl (.object C, n, .inr (.inr (.inr (.inr (va_up f0 x.toNatClampNeg (some (16 + (177 + 19 * x.toNatClampNeg + 0)))))))))) r' i' = some v' := by
        intro r' i' v' ev
        by_cases er : r' = 256 * c0
        · subst er
          rw [ly_hv0 (by omega)] at ev ⊢
          have o1 := ly_h0_of1 (cst := cst) (h := h') (c := c0) (k := 0) (i := i') hlt (by decide)
          rw [Nat.add_zero] at o1
          rw [o1, hx] at ev
          rw [o2 i']
          simp only [ly_hs] at ev ⊢
          by_cases q : True ∧ 0 ≤ i' ∧ i'.toNat < n ∧ (f0 i'.toNat).isSome = true
          · rw [if_pos q] at ev
            rw [if_pos ⟨trivial, q.2.1, q.2.2.1, by
              by_cases ej : i'.toNat = x.toNatClampNeg
              · rw [ej, va_up_self]
                rfl
              · rw [va_up_ne _ _ ej]
                exact q.2.2.2⟩]
            exact ev
          · rw [if_neg q] at ev
            cases ev
        · rw [ly_hv_but (r := 256 * c0) (by omega) hne er (by rw [hdg]; rfl)]
          exact ev
      have new : ly_hv cst (h'.set c0 (.inl (.object C, n, .inr (.inr (.inr (.inr (va_up f0 x.toNatClampNeg (some (16 + (177 + 19 * x.toNatClampNeg + 0)))))))))) (256 * c0) (x.toNatClampNeg : Int) = some 1 := by
        rw [ly_hv0 (by omega), o2]
        simp only [ly_hs, Int.toNat_natCast]
        rw [if_pos ⟨trivial, Int.natCast_nonneg _, hxn, by rw [va_up_self]; rfl⟩]
      refine ly_two_ok (h1 := h'.set c0 (.inl (.object C, n, .inr (.inr (.inr (.inr (va_up f0 x.toNatClampNeg (some (16 + (177 + 19 * x.toNatClampNeg + 0)))))))))) ?_ ⟨gZ.1, gZ.2.1, gZ.2.2.1, fun q hq => (List.mem_cons.mp hq).elim (fun eq => by
          subst eq
          exact ⟨(x.toNatClampNeg : Int), 1, ex, ly_ev_c ν 1, new⟩) (fun hq => by
          obtain ⟨qa, qb, q1, q2, q3⟩ := gZ.2.2.2 q hq
          exact ⟨qa, qb, q1, q2, mono _ _ _ q3⟩)⟩ gL gS2 (hset _ ⟨_, rfl, _, rfl, fun j hj' => ?_⟩) (fun r' i' v' _ ev => mono r' i' v' ev) (by rw [List.length_set])
      · simp only [am_s, if_neg (show ¬ 16 + c0 < 16 by omega), show 16 + c0 - 16 = c0 by omega, hx, if_neg hneg, if_neg (show ¬ 16 + (177 + 19 * x.toNatClampNeg + 0) < 16 by omega), show 16 + (177 + 19 * x.toNatClampNeg + 0) - 16 = 177 + 19 * x.toNatClampNeg + 0 by omega, hy0, hr0, if_pos hc.2]
      · by_cases ej : j = x.toNatClampNeg
        · rw [ej, va_up_self]
          exact Or.inr ⟨by rw [Nat.add_zero], hz⟩
        · rw [va_up_ne _ _ ej]
          exact hj j hj'
  | _ => cases hs
end LY8
