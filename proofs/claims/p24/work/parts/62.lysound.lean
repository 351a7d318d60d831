/-! steps and runs of the linear machine are the abstract machine's -/
def ly_Post (cst : am_K) (tt : List (List FieldType)) (TH : List (List ly_T)) (n0 : Nat) (ν0 : ly_N) (h0 : am_H) (exs : List ly_P) (mods : List Nat) (cc cs : Nat) (r : am_Q) : Prop :=
  r.2.2.1 ≤ cc ∧ r.2.2.2 ≤ cs ∧ ly_hy tt TH r.2.1 ∧ ly_fr cst mods h0 r.2.1 ∧ h0.length ≤ r.2.1.length ∧ ∃ p ∈ exs, ∃ ν' : ly_N, (∀ k, k < n0 → ν' k = ν0 k) ∧ ly_gZ cst ν' (ly_PZ p) r.2.1 ∧ ly_gS ν' r.2.1.length p.2.2.2.2.2.1 r.1.toList
/-- a contract that is kept at a depth -/
def ly_Cok (cst : am_K) (cl : List vw_C) (tt : List (List FieldType)) (P : List am_M) (strs : List Nat) (TH : List (List ly_T)) (mi : Nat) (y : ly_C) (d : Nat) : Prop :=
  ∀ (ν : ly_N) (av : List Value) (h : am_H) (zd : Int) (M : am_M), P[mi]? = some M → (lg_sl av).length ≤ M.2.2.1 → ly_hy tt TH h → ly_gZ cst ν (ly_PZ y.1) h → ly_gL ν h.length y.1.2.2.2.2.1 (lv_args 0 av) → ly_ev ν y.2.2.2.1 = some zd → zd ≤ (d : Int) →
    ∃ r : am_Q, am_Run cst cl tt P strs sx_bi d mi av h r ∧ ly_Post cst tt TH y.1.2.1 ν h y.2.1 y.2.2.1 y.2.2.2.2.1 y.2.2.2.2.2 r
def ly_Yok (cst : am_K) (cl : List vw_C) (tt : List (List FieldType)) (P : List am_M) (strs : List Nat) (TH : List (List ly_T)) (Y : List (List (List ly_C))) (d : Nat) : Prop :=
  ∀ mi ys y, sx_ch 16 mi Y = some ys → y ∈ ys → ly_Cok cst cl tt P strs TH mi y d
def ly_gFr (ν : ly_N) (len : Nat) (PL : List am_M) (f : ly_Fr) (f' : sx_Cf) : Prop := sx_mok PL f.1 f'.1 ∧ f.2.1 = f'.2.1 ∧ ly_gL ν len f.2.2.1 f'.2.2.1 ∧ ly_gS ν len f.2.2.2 f'.2.2.2
def ly_gFrs (ν : ly_N) (len : Nat) (PL : List am_M) : List ly_Fr → List sx_Cf → Prop
  | [], [] => True
  | f :: fs, g :: gs => ly_gFr ν len PL f g ∧ ly_gFrs ν len PL fs gs
  | _, _ => False
def ly_gO (ν : ly_N) (len : Nat) (v : Option ly_V) (w : Option Value) : Prop := ly_gS ν len v.toList w.toList
section LY10
variable {cst : am_K} {cl : List vw_C} {tt : List (List FieldType)} {P PL : List am_M} {strs : List Nat} {TH : List (List ly_T)} {ν : ly_N} {len : Nat} {Z : ly_Z} {h' : am_H}
theorem ly_gFr_le {ν' : ly_N} {len' : Nat} (hl : ly_le ν ν') (hn : len ≤ len') {f : ly_Fr} {f' : sx_Cf} (g : ly_gFr ν len PL f f') : ly_gFr ν' len' PL f f' := ⟨g.1, g.2.1, ly_gL_le hl hn g.2.2.1, ly_gS_le hl hn g.2.2.2⟩
theorem ly_gFrs_le {ν' : ly_N} {len' : Nat} (hl : ly_le ν ν') (hn : len ≤ len') : ∀ {fs : List ly_Fr} {fs' : List sx_Cf}, ly_gFrs ν len PL fs fs' → ly_gFrs ν' len' PL fs fs'
  | [], [], _ => trivial
  | _ :: _, _ :: _, g => ⟨ly_gFr_le hl hn g.1, ly_gFrs_le hl hn g.2⟩
theorem ly_char {n : Int32} (h1 : 0 ≤ n.toInt) (h2 : n.toInt ≤ 65535) : n.toUInt32.toUInt16.toUInt32.toInt32 = n := by
  obtain ⟨-, hx⟩ := ly_nat h1
  have e2 : n.toUInt32.toUInt16.toUInt32.toInt32.toBitVec.toNat = n.toBitVec.toNat % 65536 := by
    have : n.toUInt32.toUInt16.toUInt32.toNat = n.toUInt32.toNat % 65536 := by simp
    exact this
  refine Int32.toBitVec_inj.mp (BitVec.eq_of_toNat_eq ?_)
  rw [e2]
  omega
theorem ly_r_ok {ret : Option FieldType} {I : Instr} {st : List ly_V} {st' : List Value} {v : Option ly_V} (gB : ly_gB ν Z.2.1) (gS : ly_gS ν len st st') (h : ly_r ret I Z st = some v) : ∃ v', am_r ret I st' = some v' ∧ ly_gO ν len v v' := by
  have rng : ∀ {e : ly_e} {p : Int × Int} {n : Int32}, ly_ev ν e = some n.toInt → ly_iv Z.2.1 e = some p → p.1 ≤ n.toInt ∧ n.toInt ≤ p.2 := by
    intro e p n he hp
    obtain ⟨z, hz, b⟩ := ly_iv_ok gB hp
    rw [he] at hz
    cases hz
    exact b
  unfold ly_r at h
  split at h
  · obtain ⟨w, t, rfl, gv, gt⟩ := ly_gS_cons gS
    cases ly_gS_nil gt
    cases h
    obtain ⟨n, rfl, en⟩ := gv
    exact ⟨some (.int n), rfl, ⟨n, rfl, en⟩, trivial⟩
  · obtain ⟨w, t, rfl, gv, gt⟩ := ly_gS_cons gS
    cases ly_gS_nil gt
    obtain ⟨n, rfl, en⟩ := gv
    split at h
    case h_2 => cases h
    rename_i p hp
    cases hc : (sx_le 0 p.1 && sx_le p.2 1) with
    | false => rw [hc] at h; cases h
    | true =>
      rw [hc] at h
      cases h
      rw [Bool.and_eq_true, sx_le_iff, sx_le_iff] at hc
      have b := rng en hp
      have e : n = 0 ∨ n = 1 := by
        have : n.toInt = 0 ∨ n.toInt = 1 := by omega
        rcases this with e | e
        · exact Or.inl (Int32.toInt_inj.mp e)
        · exact Or.inr (Int32.toInt_inj.mp e)
      exact ⟨some (.int n), by simp only [am_r, if_pos e], ⟨n, rfl, en⟩, trivial⟩
  · obtain ⟨w, t, rfl, gv, gt⟩ := ly_gS_cons gS
    cases ly_gS_nil gt
    obtain ⟨n, rfl, en⟩ := gv
    split at h
    case h_2 => cases h
    rename_i p hp
    cases hc : (sx_le (-128) p.1 && sx_le p.2 127) with
    | false => rw [hc] at h; cases h
    | true =>
      rw [hc] at h
      cases h
      rw [Bool.and_eq_true, sx_le_iff, sx_le_iff] at hc
      have b := rng en hp
      have e := (ly_i2b_r n).2 (by omega) (by omega)
      exact ⟨some (.int n), by simp only [am_r, if_pos e], ⟨n, rfl, en⟩, trivial⟩
  · obtain ⟨w, t, rfl, gv, gt⟩ := ly_gS_cons gS
    cases ly_gS_nil gt
    obtain ⟨n, rfl, en⟩ := gv
    split at h
    case h_2 => cases h
    rename_i p hp
    cases hc : (sx_le 0 p.1 && sx_le p.2 65535) with
    | false => rw [hc] at h; cases h
    | true =>
      rw [hc] at h
      cases h
      rw [Bool.and_eq_true, sx_le_iff, sx_le_iff] at hc
      have b := rng en hp
      have e := ly_char (n := n) (by omega) (by omega)
      exact ⟨some (.int n), by simp only [am_r, if_pos e], ⟨n, rfl, en⟩, trivial⟩
  · obtain ⟨w, t, rfl, gv, gt⟩ := ly_gS_cons gS
    cases ly_gS_nil gt
    cases h
    obtain ⟨n, rfl, en⟩ := gv
    exact ⟨some (.long n), by simp only [am_r, if_true], ⟨n, rfl, en⟩, trivial⟩
  · obtain ⟨w, t, rfl, gv, gt⟩ := ly_gS_cons gS
    cases ly_gS_nil gt
    cases h
    rcases ly_g_isA gv rfl with ⟨a, rfl⟩ | rfl
    · exact ⟨_, rfl, gv, trivial⟩
    · exact ⟨_, rfl, gv, trivial⟩
  · obtain ⟨w, t, rfl, gv, gt⟩ := ly_gS_cons gS
    cases ly_gS_nil gt
    cases h
    rcases ly_g_isA gv rfl with ⟨a, rfl⟩ | rfl
    · exact ⟨_, rfl, gv, trivial⟩
    · exact ⟨_, rfl, gv, trivial⟩
  · cases ly_gS_nil gS
    cases h
    exact ⟨none, by simp only [am_r, if_true], trivial⟩
  · cases h
theorem ly_isref_ok {v : ly_V} {w : Value} (h : ly_isref v = true) (g : ly_g ν len v w) : ∃ a, w = .ref a := by
  match v, h, g with
  | .inr (.inr (.inl (some a))), h, g =>
    have : a ≠ 7 := fun e => by subst e; cases h
    exact ⟨a, ly_g_ref g this⟩
  | .inr (.inr (.inr (j, e))), h, g =>
    obtain ⟨-, z, -, ew, -⟩ := g
    exact ⟨_, ew⟩
theorem ly_rcvs_ok {I : Instr} {X : am_X} {m : sx_M} {M : am_M} {st : List ly_V} {st' : List Value} (hstr : ∀ a, 8 ≤ a → a < 12 → a ∈ strs) (gS : ly_gS ν h'.length st st') (hy : ly_hy tt TH h')
    (hM : P[X.1]? = some M) (h98 : m.2.1 < 98 → ∃ r : vw_C, cl[m.2.1]? = some r ∧ r.1 = M.1.cls) (h99 : m.2.1 = 99 → M.1.cls = "java/lang/String") (hx0 : X.2.2 = 0) (hle : X.2.1 ≤ st.length) (hcat : ly_cats (st.drop X.2.1) ≤ 8) (h : ly_rcvs I TH m (st.take X.2.1).reverse = true) : am_c cl P strs I X st' h' := by
  have g1 := ly_gS_rev (ly_gS_take X.2.1 gS)
  refine ⟨by rw [ly_gS_len gS]; exact hle, by rw [ly_gS_cats (ly_gS_drop X.2.1 gS)]; exact hcat, hx0, ?_⟩
  unfold ly_rcvs at h
  split at h
  · trivial
  · rename_i i
    split at h
    · rename_i v As hAs
      rw [hAs] at g1
      obtain ⟨w, ws, e, gv, -⟩ := ly_gS_cons g1
      refine ⟨w, ws, M, e, hM, ?_⟩
      unfold ly_rcv at h
      split at h
      · rename_i a
        cases ha : Nat.blt a 16 with
        | true =>
          rw [ha] at h
          simp only [cond_true, Bool.and_eq_true, sx_beqn, sx_ble, sx_blt] at h
          have ew := ly_g_ref gv (by omega)
          exact ⟨a, ew, Or.inr ⟨sx_blt.mp ha, hstr a h.2.1 h.2.2, h99 h.1⟩⟩
        | false =>
          have ha' := sx_blt_neg ha
          rw [ha] at h
          simp only [cond_false] at h
          have ew := ly_g_ref gv (by omega)
          split at h
          · rename_i ci fs ht
            simp only [Bool.and_eq_true, sx_beqn, sx_blt] at h
            obtain ⟨x, hx, gx⟩ := hy.2.1 _ _ ht
            obtain ⟨vs, rfl, -⟩ := gx
            obtain ⟨r, hr, hr1⟩ := h98 h.2
            refine ⟨a, ew, Or.inl ⟨ha', ci, vs, r, hx, ?_, hr1⟩⟩
            rw [h.1]
            exact hr
          · cases h
      · rename_i j e0
        split at h
        · rename_i ci fs ht
          simp only [Bool.and_eq_true, sx_beqn, sx_blt] at h
          obtain ⟨-, z, -, ew, hz⟩ := gv
          obtain ⟨x, hx, gx⟩ := hy.2.2 _ _ _ hz ht
          obtain ⟨vs, rfl, -⟩ := gx
          obtain ⟨r, hr, hr1⟩ := h98 h.2
          refine ⟨16 + (177 + 19 * z + j), ew, Or.inl ⟨Nat.not_lt.mpr (Nat.le_add_right 16 _), ci, vs, r, ?_, ?_, hr1⟩⟩
          · rw [show 16 + (177 + 19 * z + j) - 16 = 177 + 19 * z + j by omega]
            exact hx
          · rw [h.1]
            exact hr
        · cases h
      · cases h
    · cases h
  · rename_i i
    split at h
    · rename_i v As hAs
      rw [hAs] at g1
      obtain ⟨w, ws, e, gv, -⟩ := ly_gS_cons g1
      obtain ⟨a, rfl⟩ := ly_isref_ok h gv
      exact ⟨a, ws, e⟩
    · cases h
  · cases h
theorem ly_copy_ok {mods : List Nat} {I : Instr} {X : am_X} {st st1 : List ly_V} {st' : List Value} {Z1 : ly_Z} (gZ : ly_gZ cst ν Z h') (gS : ly_gS ν h'.length st st') (hy : ly_hy tt TH h') (h : ly_copy TH mods I X Z st = some (Z1, st1)) :
    ∃ st1' h1', am_copy I X st' h' = some (st1', h1') ∧ ly_gS ν h'.length st1 st1' ∧ ly_gZ cst ν Z1 h1' ∧ ly_hy tt TH h1' ∧ ly_fr cst mods h' h1' ∧ h1'.length = h'.length := by
  unfold ly_copy at h
  split at h
  case h_2 => cases h
  rename_i i n dp b sp a st0
  obtain ⟨n', t1, rfl, gn, gS1⟩ := ly_gS_cons gS
  obtain ⟨dp', t2, rfl, gdp, gS2⟩ := ly_gS_cons gS1
  obtain ⟨b', t3, rfl, gb, gS3⟩ := ly_gS_cons gS2
  obtain ⟨sp', t4, rfl, gsp, gS4⟩ := ly_gS_cons gS3
  obtain ⟨a', t5, rfl, ga, gS5⟩ := ly_gS_cons gS4
  cases hc : (sx_eq X.2.2 2 && (Nat.ble (ly_cats st0) 8 && (Nat.ble 16 a && Nat.ble 16 b))) with
  | false => rw [hc] at h; cases h
  | true =>
    rw [hc] at h
    simp only [cond_true] at h
    simp only [Bool.and_eq_true, sx_eq_iff, sx_ble] at hc
    obtain ⟨c1, c2, c3, c4⟩ := hc
    split at h
    case h_2 => cases h
    rename_i n dp sp na pa nb pb hn hdp hsp ta tb
    cases hd : (Nat.beq n na && (Nat.beq n nb && (Nat.beq dp 0 && (Nat.beq sp 0 && (sx_le pb.1 pa.1 && sx_le pa.2 pb.2))))) with
    | false => rw [hd] at h; cases h
    | true =>
      rw [hd] at h
      simp only [cond_true] at h
      simp only [Bool.and_eq_true, sx_beqn, sx_le_iff] at hd
      obtain ⟨d1, d2, d3, d4, d5, d6⟩ := hd
      split at h
      case h_2 => cases h
      rename_i Z2 hw
      cases h
      obtain ⟨nn, rfl, en⟩ := gn
      obtain ⟨nd, rfl, ed⟩ := gdp
      obtain ⟨ns, rfl, es⟩ := gsp
      have ewa := ly_g_ref ga (by omega)
      have ewb := ly_g_ref gb (by omega)
      subst ewa
      subst ewb
      have fa := ly_con_ok gZ.2.1 hn
      have fd := ly_con_ok gZ.2.1 hdp
      have fs := ly_con_ok gZ.2.1 hsp
      rw [en] at fa
      rw [ed] at fd
      rw [es] at fs
      have q1 : nn.toInt = (n : Int) := Option.some.inj fa
      have q2 : nd.toInt = (dp : Int) := Option.some.inj fd
      have q3 : ns.toInt = (sp : Int) := Option.some.inj fs
      have r1 : nn.toNatClampNeg = n := by show nn.toInt.toNat = n; omega
      have r2 : nd.toNatClampNeg = 0 := by show nd.toInt.toNat = 0; omega
      have r3 : ns.toNatClampNeg = 0 := by show ns.toInt.toNat = 0; omega
      have z : (0 : Int32).toInt = 0 := rfl
      have neg : ∀ {q : Int32}, 0 ≤ q.toInt → ¬ q < 0 := by
        intro q e hq
        have := Int32.lt_iff_toInt_lt.mp hq
        omega
      obtain ⟨xa, hxa, cca, rfl, f, rfl, hfa⟩ := hy.2.1 _ _ ta
      obtain ⟨xb, hxb, ccb, rfl, g, rfl, hgb⟩ := hy.2.1 _ _ tb
      have hlt := ly_ths_lt tb
      have hs : (t5.map fun v => v.category).sum ≤ 8 := by rw [ly_gS_cats gS5]; exact c2
      have hneg : ¬ (a < 16 ∨ b < 16 ∨ nn < 0 ∨ nd < 0 ∨ ns < 0 ∨ ¬ (t5.map fun v => v.category).sum ≤ 8) := by
        rintro (h | h | h | h | h | h)
        · omega
        · omega
        · exact neg (by omega) h
        · exact neg (by omega) h
        · exact neg (by omega) h
        · exact h hs
      have hr : ns.toNatClampNeg + nn.toNatClampNeg ≤ na ∧ nd.toNatClampNeg + nn.toNatClampNeg ≤ nb := by
        rw [r1, r2, r3]
        omega
      have hv2 : ∀ r' i', r' ≠ 256 * (b - 16) → ly_h0 cst (h'.set (b - 16) (.inl (.int, nb, .inl (va_cpy f g ns.toNatClampNeg nd.toNatClampNeg nn.toNatClampNeg)))) r' i' = ly_h0 cst h' r' i' := fun r' i' hr' => by
        refine ly_h0_set1 hlt hxb (fun er => ?_)
        simp only [ly_hs]
        rw [if_neg (by omega), if_neg (by omega)]
      obtain ⟨gZ1, fr1⟩ := ly_drop_ok (by omega) gZ hw _ hv2
      refine ⟨t5, _, by simp only [am_copy, if_pos c1, if_neg hneg, hxa, hxb, if_pos hr], gS5, gZ1, ly_hy_set1 hy hlt (fun t ht => ?_), fr1, by rw [List.length_set]⟩
      rw [tb] at ht
      cases ht
      refine ⟨_, rfl, _, rfl, fun j hj => ?_⟩
      rw [r1, r2, r3]
      have e : va_cpy f g 0 0 n j = f j := by
        unfold va_cpy
        rw [if_pos (by omega)]
        congr 1
        omega
      rw [e]
      have := hfa j (by omega)
      exact ⟨Int.le_trans d5 this.1, Int.le_trans this.2 d6⟩
end LY10
section LY11
variable {cst : am_K} {cl : List vw_C} {tt : List (List FieldType)} {P PL : List am_M} {strs : List Nat} {TH : List (List ly_T)} {K0 : sx_K} {T : List (List sx_M)} {Y : List (List (List ly_C))} {mods : List Nat} {De : ly_e} {n0 : Nat} {pts : List (Nat × ly_P × ly_e)} {exs : List ly_P} {mu : Option ly_e} {cc cs pcc pcs : Nat}
variable {ν0 : ly_N} {h0 : am_H} {D : Nat} {Φ : am_Q → Prop}
/-- a point of a run, and the abstract machine's -/
def ly_Inv (cst : am_K) (tt : List (List FieldType)) (PL : List am_M) (TH : List (List ly_T)) (mods : List Nat) (n0 : Nat) (ν0 : ly_N) (h0 : am_H) (D : Nat) (g : ly_G) (ν : ly_N) (f' : sx_Cf) (fs' : List sx_Cf) (h' : am_H) (ca sa : Nat) : Prop :=
  (∀ k, k < n0 → ν k = ν0 k) ∧ ly_gZ cst ν g.2.2.2.1 h' ∧ ly_hy tt TH h' ∧ ly_fr cst mods h0 h' ∧ h0.length ≤ h'.length ∧ ly_gFr ν h'.length PL g.2.1 f' ∧ ly_gFrs ν h'.length PL g.2.2.1 fs' ∧ g.1 = g.2.2.1.length ∧ g.1 ≤ D ∧ ca ≤ g.2.2.2.2.1 ∧ sa ≤ g.2.2.2.2.2
def ly_next (cst : am_K) (cl : List vw_C) (tt : List (List FieldType)) (P PL : List am_M) (strs : List Nat) (TH : List (List ly_T)) (mods : List Nat) (n0 : Nat) (ν0 : ly_N) (h0 : am_H) (D : Nat) (Φ : am_Q → Prop) (ν : ly_N) (gs : List ly_G) (goal : Prop) : Prop :=
  ∃ g1 ∈ gs, ∃ (ν1 : ly_N) (f1 : sx_Cf) (fs1 : List sx_Cf) (h1 : am_H) (ca1 sa1 : Nat), ly_le ν ν1 ∧ ly_Inv cst tt PL TH mods n0 ν0 h0 D g1 ν1 f1 fs1 h1 ca1 sa1 ∧ (sx_Fin cst cl tt P strs Φ fs1 (D - g1.1) f1 h1 ca1 sa1 → goal)
theorem ly_pre_le {ν ν1 : ly_N} (hd : ∀ k, k < n0 → ∃ z, ν0 k = some z) (hp : ∀ k, k < n0 → ν k = ν0 k) (hl : ly_le ν ν1) : ∀ k, k < n0 → ν1 k = ν0 k := fun k hk => by
  obtain ⟨z, hz⟩ := hd k hk
  have := hp k hk
  rw [hz] at this ⊢
  exact hl k z this
theorem ly_outs_mem {k : Nat} {m : sx_M} {pc : Nat} {l : ly_L} {st : List ly_V} {fs : List ly_Fr} {ms : List Nat} {Z : ly_Z} {θ : List ly_e} {c s : Nat} {p : ly_P} : ∀ {ps : List ly_P} {gs : List ly_G}, ly_outs k m pc l st fs ms Z θ c s ps = some gs → p ∈ ps → ∃ Z' vs, ly_app ms Z θ p = some (Z', vs) ∧ (k, (m, pc, l, vs ++ st), fs, Z', c, s) ∈ gs
  | [], _, _, hp => by cases hp
  | q :: ps, gs, ho, hp => by
    unfold ly_outs at ho
    split at ho
    case h_2 => cases ho
    rename_i Z' vs gs' h1 h2
    cases ho
    rcases List.mem_cons.mp hp with rfl | hp
    · exact ⟨Z', vs, h1, List.mem_cons_self⟩
    · obtain ⟨Z2, vs2, e1, e2⟩ := ly_outs_mem h2 hp
      exact ⟨Z2, vs2, e1, List.mem_cons_of_mem _ e2⟩
theorem ly_try_ok {k : Nat} {Z : ly_Z} {L : ly_L} {Z' : ly_Z} {θ : List ly_e} {y : ly_C} : ∀ {ys : List ly_C}, ly_try TH mods De k Z L ys = some (Z', θ, y) → y ∈ ys ∧ ly_mt TH Z L [] [] y.1 = some (Z', θ) ∧ ∃ d, ly_sb θ y.2.2.2.1 = some d ∧ ly_gs Z'.2.1 Z'.2.2.1 (ly_sub (ly_add (Int.sub (-1) (.ofNat k), []) De) d) = true ∧ ∀ r ∈ y.2.2.1, ly_has r mods = true
  | [], ht => by cases ht
  | y0 :: ys, ht => by
    have rest : ly_try TH mods De k Z L ys = some (Z', θ, y) → _ := fun h => by
      obtain ⟨a, b⟩ := ly_try_ok h
      exact (⟨List.mem_cons_of_mem y0 a, b⟩ : y ∈ y0 :: ys ∧ _)
    unfold ly_try at ht
    split at ht
    · rename_i Z1 θ1 hm
      split at ht
      · rename_i d hd
        cases hc : (ly_gs Z1.2.1 Z1.2.2.1 (ly_sub (ly_add (Int.sub (-1) (.ofNat k), []) De) d) && y0.2.2.1.all (fun r => ly_has r mods)) with
        | false =>
          rw [hc] at ht
          exact rest ht
        | true =>
          rw [hc] at ht
          cases ht
          rw [Bool.and_eq_true] at hc
          exact ⟨List.mem_cons_self, hm, d, hd, hc.1, fun r hr => List.all_eq_true.mp hc.2 r hr⟩
      · exact rest ht
    · exact rest ht
theorem ly_stepc_ok {I : Instr} {X : am_X} {pc k c s ca sa : Nat} {m : sx_M} {M : am_M} {l : ly_L} {st : List ly_V} {fs : List ly_Fr} {Z : ly_Z} {gs : List ly_G} {ν : ly_N} {l' : am_L} {st' : List Value} {fs' : List sx_Cf} {h' : am_H} {zD : Int}
    (hd0 : ∀ k, k < n0 → ∃ z, ν0 k = some z) (hT : sx_tok cl P PL T) (hstr : ∀ a, 8 ≤ a → a < 12 → a ∈ strs) (hY : ∀ d, d ≤ D → ly_Yok cst cl tt P strs TH Y d) (hDe : ∀ ν, (∀ k, k < n0 → ν k = ν0 k) → ly_ev ν De = some zD) (hzD : zD ≤ (D : Int) + 1)
    (hfind : am_find pc M.2.2.2.2 = some (I, X)) (inv : ly_Inv cst tt PL TH mods n0 ν0 h0 D (k, (m, pc, l, st), fs, Z, c, s) ν (M, pc, l', st') fs' h' ca sa)
    (hs : ly_stepc T TH Y mods De I X pc k m l st fs Z c s = some gs) : ly_next cst cl tt P PL strs TH mods n0 ν0 h0 D Φ ν gs (sx_Fin cst cl tt P strs Φ fs' (D - k) (M, pc, l', st') h' ca sa) := by
  obtain ⟨ipre, iZ, ihy, ifr, ilen, iF, iFs, ik, ikD, ica, isa⟩ := inv
  simp only at iZ ik ikD ica isa iFs
  obtain ⟨hm, -, gL, gS⟩ := iF
  simp only at gL gS hm
  unfold ly_stepc at hs
  cases hx0 : sx_eq X.2.2 0 with
  | true =>
    have ex0 := sx_eq_iff.mp hx0
    rw [hx0] at hs
    simp only [cond_true] at hs
    split at hs
    case h_2 => cases hs
    rename_i m' hm'
    cases hc : (Nat.beq m'.1 X.1 && (Nat.ble X.2.1 st.length && (ly_rcvs I TH m' (st.take X.2.1).reverse && (Nat.ble (ly_cats (st.drop X.2.1)) 8 && Nat.ble (ly_cats (st.take X.2.1).reverse) m'.2.2.1)))) with
    | false => rw [hc] at hs; cases hs
    | true =>
      rw [hc] at hs
      simp only [cond_true] at hs
      simp only [Bool.and_eq_true, sx_beqn, sx_ble] at hc
      obtain ⟨c0, c2, c3, c4, c5⟩ := hc
      obtain ⟨M', hM', hmok, hml, h98, h99⟩ := hT _ _ hm' c0
      have hcc := ly_rcvs_ok hstr gS ihy hM' h98 h99 ex0 c2 c4 c3
      have g1 := ly_gS_rev (ly_gS_take X.2.1 gS)
      split at hs
      · rename_i Z' θ y ht
        obtain ⟨hmem, hmt, d, hd, hge, hsub⟩ := ly_try_ok ht
        have hys : ∃ ys, sx_ch 16 X.1 Y = some ys ∧ y ∈ ys := by
          cases hq : sx_ch 16 X.1 Y with
          | none => rw [hq] at hmem; cases hmem
          | some ys => rw [hq] at hmem; exact ⟨ys, rfl, hmem⟩
        obtain ⟨ys, hys, hmem⟩ := hys
        obtain ⟨ν1, hl1, gZ1, dfd1, -, hlen1, gZt, gLt, -⟩ := ly_mt_ok (st := []) (st' := []) ihy iZ (ly_gL_args 0 g1) trivial (fun t ht => by cases ht) hmt
        obtain ⟨zd, hzd, hzd'⟩ := ly_sb_ok dfd1 hd
        have pre1 := ly_pre_le hd0 ipre hl1
        have b := ly_gs_ok gZ1.2.1 gZ1.2.2.1 hge (ly_sub_ok (ly_add_ok (ly_ev_c ν1 _) (hDe ν1 pre1)) hzd)
        have en : Int.sub (-1) (Int.ofNat k) = -1 - (k : Int) := rfl
        rw [en] at b
        obtain ⟨r, hrun, r1, r2, rhy, rfr, rlen, p, hp, ν', hpre', gZp, gSp⟩ := hY (D - k) (by omega) X.1 ys y hys hmem (ly_th ν1 θ) (st'.take X.2.1).reverse h' zd M' hM' (by rw [ly_cats_sl g1, ← hml]; exact c5) ihy gZt gLt hzd' (by omega)
        obtain ⟨Z2, vs, happ, hgs⟩ := ly_outs_mem hs hp
        obtain ⟨ν2, hl2, gZ2, gS2⟩ := ly_app_ok gZ1 dfd1 rfr (fun k hk => hpre' k (by rw [← hlen1]; exact hk)) gZp gSp happ
        have hl12 := ly_le_tr hl1 hl2
        refine ⟨_, hgs, ν2, (M, pc + 3, l', r.1.toList ++ st'.drop X.2.1), fs', r.2.1, ca + r.2.2.1, sa + r.2.2.2, hl12, ⟨ly_pre_le hd0 ipre hl12, gZ2, rhy, ly_fr_tr ifr (fun r' i' v' hr' ev => rfr r' i' v' ?_ ev), Nat.le_trans ilen rlen, ⟨hm, rfl, ly_gL_le hl12 rlen gL, ly_gS_app gS2 (ly_gS_le hl12 rlen (ly_gS_drop _ gS))⟩, ly_gFrs_le hl12 rlen iFs, ik, ikD, Nat.add_le_add ica r1, Nat.add_le_add isa r2⟩, fun hF => ?_⟩
        · cases hh : ly_has r' y.2.2.1 with
          | false => rfl
          | true =>
            unfold ly_has at hh
            obtain ⟨q, hq, hqe⟩ := List.any_eq_true.mp hh
            rw [← sx_beqn.mp hqe, hsub q hq] at hr'
            cases hr'
        · exact sx_Fin_pre (dc := r.2.2.1) (ds := r.2.2.2) (f1 := (M, pc + 3, l', r.1.toList ++ st'.drop X.2.1)) (fun n2 q hgo2 => ⟨n2 + 1, I, X, hfind, Or.inr (Or.inr (Or.inr (Or.inl ⟨r, q, hcc, hrun, hgo2, rfl⟩)))⟩) hF
      · cases hg : ly_gs Z.2.1 Z.2.2.1 (ly_add (Int.sub (-2) (.ofNat k), []) De) with
        | false => rw [hg] at hs; cases hs
        | true =>
          rw [hg] at hs
          cases hs
          have b := ly_gs_ok iZ.2.1 iZ.2.2.1 hg (ly_add_ok (ly_ev_c ν _) (hDe ν ipre))
          have en : Int.sub (-2) (Int.ofNat k) = -2 - (k : Int) := rfl
          rw [en] at b
          refine ⟨_, List.mem_singleton.mpr rfl, ν, (M', 0, lv_args 0 (st'.take X.2.1).reverse, []), (M, pc + 3, l', st'.drop X.2.1) :: fs', h', ca, sa, ly_le_rf ν, ⟨ipre, iZ, ihy, ifr, ilen, ⟨hmok, rfl, ly_gL_args 0 g1, trivial⟩, ⟨⟨hm, rfl, gL, ly_gS_drop _ gS⟩, iFs⟩, by simp only [List.length_cons]; omega, by show k + 1 ≤ D; omega, ica, isa⟩, fun hF => ?_⟩
          obtain ⟨n, r, hgo, hF⟩ := hF
          simp only at hgo hF
          have ed : D - (k + 1) + 1 = D - k := by omega
          rw [ed] at hF
          refine sx_Fin_pre (dc := r.2.2.1) (ds := r.2.2.2) (f1 := (M, pc + 3, l', r.1.toList ++ st'.drop X.2.1)) (fun n2 q hgo2 => ⟨n2 + 1, I, X, hfind, Or.inr (Or.inr (Or.inr (Or.inl ⟨r, q, hcc, ?_, hgo2, rfl⟩)))⟩) hF
          rw [← ed]
          exact Or.inr ⟨M', n, hM', by rw [ly_cats_sl g1, ← hml]; exact c5, hgo⟩
  | false =>
    rw [hx0] at hs
    simp only [cond_false] at hs
    split at hs
    case h_2 => cases hs
    rename_i Z1 st1 hst
    cases hs
    obtain ⟨st1', h1', e, gs1, gZ1, hy1, fr1, hl1⟩ := ly_copy_ok iZ gS ihy hst
    refine ⟨_, List.mem_singleton.mpr rfl, ν, (M, pc + 3, l', st1'), fs', h1', ca, sa, ly_le_rf ν, ⟨ipre, gZ1, hy1, ly_fr_tr ifr fr1, by rw [hl1]; exact ilen, ⟨hm, rfl, by rw [hl1]; exact gL, by rw [hl1]; exact gs1⟩, by rw [hl1]; exact iFs, ik, ikD, ica, isa⟩, fun hF => sx_Fin_step rfl (fun n r hgo => ⟨I, X, hfind, Or.inr (Or.inr (Or.inr (Or.inr (Or.inr ⟨st1', h1', e, hgo⟩))))⟩) hF⟩
end LY11
