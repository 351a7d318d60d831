/-! every instruction of the linear machine is the abstract machine's -/
/-- constants: rows by address, the script, the texts, a reference that is only handed on -/
def ly_gC (K : sx_K) (cst : am_K) : Prop :=
  (∀ a r, sx_get a K = some r → a ≠ 4 ∧ ((a < 4 ∧ ∃ L : List Int32, cst.1[a]? = some L ∧ L.map Int32.toInt = r) ∨ (12 ≤ a ∧ a < 16 ∧ ∃ L : List Int32, cst.2.1[a - 12]? = some L ∧ L.map Int32.toInt = r))) ∧
  (∃ L : List Int32, cst.1[4]? = some L ∧ L.length ≤ 3584) ∧ cst.2.1.length = 4 ∧ (cst.2.2 = .ref 7 ∨ cst.2.2 = .null)
section LY6
variable {cst : am_K} {cl : List vw_C} {tt : List (List FieldType)} {TH : List (List ly_T)} {mods : List Nat} {K : sx_K} {ν : ly_N} {I : Instr} {X : am_X} {pc pc1 : Nat} {Z : ly_Z} {l l1 : ly_L} {l' : am_L} {st : List ly_V} {st' : List Value} {h' : am_H} {ss : List ly_S}
/-- one of the states behind an instruction is as the abstract machine's -/
def ly_ok1 (cst : am_K) (cl : List vw_C) (tt : List (List FieldType)) (TH : List (List ly_T)) (mods : List Nat) (ν : ly_N) (I : Instr) (X : am_X) (pc : Nat) (l' : am_L) (st' : List Value) (h' : am_H) (ss : List ly_S) : Prop :=
  ∃ q ∈ ss, ∃ (ν1 : ly_N) (F : am_F), am_s cst cl tt I X pc l' st' h' = some F ∧ ly_le ν ν1 ∧ ly_gZ cst ν1 q.1 F.2.2.2 ∧ q.2.1 = F.1 ∧ ly_gL ν1 h'.length q.2.2.1 F.2.1 ∧ ly_gS ν1 h'.length q.2.2.2 F.2.2.1 ∧ ly_hy tt TH F.2.2.2 ∧ ly_fr cst mods h' F.2.2.2 ∧ F.2.2.2.length = h'.length
theorem ly_ok1_in {ss ss2 : List ly_S} (hsub : ∀ q ∈ ss, q ∈ ss2) (g : ly_ok1 cst cl tt TH mods ν I X pc l' st' h' ss) : ly_ok1 cst cl tt TH mods ν I X pc l' st' h' ss2 := by
  obtain ⟨q, hq, r⟩ := g
  exact ⟨q, hsub q hq, r⟩
theorem ly_one_ok {s1 : List ly_V} {m1 : am_L} {t1 : List Value} (e : am_s cst cl tt I X pc l' st' h' = some (pc1, m1, t1, h')) (gZ : ly_gZ cst ν Z h') (gL : ly_gL ν h'.length l1 m1) (gS : ly_gS ν h'.length s1 t1) (hy : ly_hy tt TH h') : ly_ok1 cst cl tt TH mods ν I X pc l' st' h' [(Z, pc1, l1, s1)] :=
  ⟨_, List.mem_singleton.mpr rfl, ν, _, e, ly_le_rf ν, gZ, rfl, gL, gS, hy, ly_fr_rf h', rfl⟩
theorem ly_two_ok {s1 : List ly_V} {t1 : List Value} {h1 : am_H} {Z1 : ly_Z} (e : am_s cst cl tt I X pc l' st' h' = some (pc1, l', t1, h1)) (gZ : ly_gZ cst ν Z1 h1) (gL : ly_gL ν h'.length l l') (gS : ly_gS ν h'.length s1 t1) (hy : ly_hy tt TH h1) (fr : ly_fr cst mods h' h1) (hl : h1.length = h'.length) : ly_ok1 cst cl tt TH mods ν I X pc l' st' h' [(Z1, pc1, l, s1)] :=
  ⟨_, List.mem_singleton.mpr rfl, ν, _, e, ly_le_rf ν, gZ, rfl, gL, gS, hy, fr, hl⟩
theorem ly_psh_ok {o : Option ly_R} {st1 : List Value} (hf : ly_psh Z pc1 l o st = some ss) (gZ : ly_gZ cst ν Z h') (gL : ly_gL ν h'.length l l') (gS : ly_gS ν h'.length st st1) (hy : ly_hy tt TH h')
    (k : ∀ r, o = some r → ∃ w, ly_gR ν h'.length r w ∧ am_s cst cl tt I X pc l' st' h' = some (pc1, l', w :: st1, h')) : ly_ok1 cst cl tt TH mods ν I X pc l' st' h' ss := by
  unfold ly_psh at hf
  split at hf
  · rename_i v
    rw [ly_vf_eq] at hf
    cases hf
    obtain ⟨w, gw, e⟩ := k _ rfl
    exact ly_one_ok e gZ gL ⟨gw, gS⟩ hy
  · rename_i p
    obtain ⟨w, gw, e⟩ := k _ rfl
    obtain ⟨x, rfl, p1, p2⟩ := gw
    simp only [ly_I_eq] at hf
    cases hc : sx_eq p.1 p.2 with
    | true =>
      rw [hc] at hf
      cases hf
      have := sx_eq_iff.mp hc
      refine ly_one_ok e gZ gL ⟨⟨x, rfl, ?_⟩, gS⟩ hy
      rw [ly_ev_c]
      congr 1
      omega
    | false =>
      rw [hc] at hf
      simp only [cond_false] at hf
      obtain ⟨n, B, F, K⟩ := Z
      simp only [sx_N_eq] at hf
      cases hf
      have hl : ly_le ν (ly_up ν n x.toInt) := ly_up_le (gZ.1 n (Nat.le_refl n))
      exact ⟨_, List.mem_singleton.mpr rfl, ly_up ν n x.toInt, _, e, hl, ly_gZ_up (p := (p.1, p.2)) gZ p1 p2, rfl, ly_gL_le hl (Nat.le_refl _) gL, ⟨⟨x, rfl, ly_ev_sym (ly_up_n n _)⟩, ly_gS_le hl (Nat.le_refl _) gS⟩, hy, ly_fr_rf h', rfl⟩
  · cases hf
theorem ly_rd_ok {r : Nat} {i : ly_e} {p : Int × Int} {st1 : List Value} {zi : Int} {x : Int32} (hf : ly_rd Z r i p pc1 l st = some ss) (gZ : ly_gZ cst ν Z h') (gL : ly_gL ν h'.length l l') (gS : ly_gS ν h'.length st st1) (hy : ly_hy tt TH h')
    (hi : ly_ev ν i = some zi) (hv : ly_hv cst h' r zi = some x.toInt) (p1 : p.1 ≤ x.toInt) (p2 : x.toInt ≤ p.2) (e : am_s cst cl tt I X pc l' st' h' = some (pc1, l', .int x :: st1, h')) : ly_ok1 cst cl tt TH mods ν I X pc l' st' h' ss := by
  unfold ly_rd at hf
  cases hr : ly_rv Z r i p with
  | mk Z1 v =>
    rw [hr] at hf
    cases hf
    obtain ⟨ν1, hl, gZ1, ev⟩ := ly_rv_ok gZ hi hv p1 p2 hr
    obtain ⟨Z2, hm, gZ2⟩ := ly_rr_ok (r := r) gZ1 (ly_ev_le hl hi)
    exact ⟨_, List.mem_map.mpr ⟨Z2, hm, rfl⟩, ν1, _, e, hl, gZ2, rfl, ly_gL_le hl (Nat.le_refl _) gL, ⟨⟨x, rfl, ev⟩, ly_gS_le hl (Nat.le_refl _) gS⟩, hy, ly_fr_rf h', rfl⟩
theorem ly_top64 (x : Int64) : ly_mn ≤ x.toInt ∧ x.toInt ≤ ly_mx := by
  have h1 := Int64.le_toInt x
  have h2 := Int64.toInt_lt x
  have e1 : ly_mn = -9223372036854775808 := rfl
  have e2 : ly_mx = 9223372036854775807 := rfl
  omega
theorem ly_rdj_ok {r : Nat} {i : ly_e} {st1 : List Value} {zi : Int} {x : Int64} (hf : ly_rdj Z r i pc1 l st = some ss) (gZ : ly_gZ cst ν Z h') (gL : ly_gL ν h'.length l l') (gS : ly_gS ν h'.length st st1) (hy : ly_hy tt TH h')
    (hi : ly_ev ν i = some zi) (hv : ly_hv cst h' r zi = some x.toInt) (e : am_s cst cl tt I X pc l' st' h' = some (pc1, l', .long x :: st1, h')) : ly_ok1 cst cl tt TH mods ν I X pc l' st' h' ss := by
  unfold ly_rdj at hf
  cases hr : ly_rv Z r i (ly_mn, ly_mx) with
  | mk Z1 v =>
    rw [hr] at hf
    cases hf
    obtain ⟨ν1, hl, gZ1, ev⟩ := ly_rv_ok gZ hi hv (ly_top64 x).1 (ly_top64 x).2 hr
    exact ⟨_, List.mem_singleton.mpr rfl, ν1, _, e, hl, gZ1, rfl, ly_gL_le hl (Nat.le_refl _) gL, ⟨⟨x, rfl, ev⟩, ly_gS_le hl (Nat.le_refl _) gS⟩, hy, ly_fr_rf h', rfl⟩
theorem ly_fj_ok {st1 : List Value} {x : Int64} (hf : ly_fj Z pc1 l st = some ss) (gZ : ly_gZ cst ν Z h') (gL : ly_gL ν h'.length l l') (gS : ly_gS ν h'.length st st1) (hy : ly_hy tt TH h')
    (e : am_s cst cl tt I X pc l' st' h' = some (pc1, l', .long x :: st1, h')) : ly_ok1 cst cl tt TH mods ν I X pc l' st' h' ss := by
  obtain ⟨n, B, F, K⟩ := Z
  unfold ly_fj at hf
  simp only [sx_N_eq] at hf
  cases hf
  have hl : ly_le ν (ly_up ν n x.toInt) := ly_up_le (gZ.1 n (Nat.le_refl n))
  exact ⟨_, List.mem_singleton.mpr rfl, ly_up ν n x.toInt, _, e, hl, ly_gZ_up (p := (ly_mn, ly_mx)) gZ (ly_top64 x).1 (ly_top64 x).2, rfl, ly_gL_le hl (Nat.le_refl _) gL, ⟨⟨x, rfl, ly_ev_sym (ly_up_n n _)⟩, ly_gS_le hl (Nat.le_refl _) gS⟩, hy, ly_fr_rf h', rfl⟩
theorem ly_bm64 {z : Int} (h1 : ly_mn ≤ z) (h2 : z ≤ ly_mx) : z.bmod (2 ^ 64) = z := by
  have e1 : ly_mn = -9223372036854775808 := rfl
  have e2 : ly_mx = 9223372036854775807 := rfl
  exact Int.bmod_eq_of_le (by show -((18446744073709551616 : Int) / 2) ≤ z; omega) (by show z < ((18446744073709551616 : Int) + 1) / 2; omega)
theorem ly_pj_ok {e : ly_e} {st1 : List Value} {x : Int64} {z : Int} (hf : ly_pj Z pc1 l e st = some ss) (gZ : ly_gZ cst ν Z h') (gL : ly_gL ν h'.length l l') (gS : ly_gS ν h'.length st st1) (hy : ly_hy tt TH h')
    (hz : ly_ev ν e = some z) (hx : x.toInt = z.bmod (2 ^ 64)) (ea : am_s cst cl tt I X pc l' st' h' = some (pc1, l', .long x :: st1, h')) : ly_ok1 cst cl tt TH mods ν I X pc l' st' h' ss := by
  unfold ly_pj at hf
  split at hf
  · rename_i p hp
    cases hc : (sx_le ly_mn p.1 && sx_le p.2 ly_mx) with
    | false =>
      rw [hc] at hf
      exact ly_fj_ok hf gZ gL gS hy ea
    | true =>
      rw [hc] at hf
      simp only [cond_true, ly_fe_eq] at hf
      cases hf
      rw [Bool.and_eq_true, sx_le_iff, sx_le_iff] at hc
      obtain ⟨y, hy', p1, p2⟩ := ly_iv_ok gZ.2.1 hp
      rw [hz] at hy'
      cases hy'
      refine ly_one_ok ea gZ gL ⟨⟨x, rfl, ?_⟩, gS⟩ hy
      rw [hz, hx, ly_bm64 (by omega) (by omega)]
  · exact ly_fj_ok hf gZ gL gS hy ea
theorem ly_load_ok {f : ly_V → Bool} {i : Nat} (hf : ly_psh Z pc1 l (ly_load f i l) st = some ss) (gZ : ly_gZ cst ν Z h') (gL : ly_gL ν h'.length l l') (gS : ly_gS ν h'.length st st') (hy : ly_hy tt TH h')
    (k : ∀ v w, f v = true → ly_g ν h'.length v w → am_ld i l' = some w → am_s cst cl tt I X pc l' st' h' = some (pc1, l', w :: st', h')) : ly_ok1 cst cl tt TH mods ν I X pc l' st' h' ss := by
  refine ly_psh_ok hf gZ gL gS hy (fun r hr => ?_)
  unfold ly_load at hr
  split at hr
  case h_2 => cases hr
  rename_i v hv
  cases hc : f v with
  | false => rw [hc] at hr; cases hr
  | true =>
    rw [hc] at hr
    cases hr
    obtain ⟨w, e, g⟩ := ly_gL_get gL hv
    exact ⟨w, g, k v w hc g e⟩
theorem ly_sto_ok {f : ly_V → Bool} {g : ly_V → ly_L} {g' : Value → am_L} (hf : ly_sto f Z pc1 g st = some ss) (gZ : ly_gZ cst ν Z h') (gS : ly_gS ν h'.length st st') (hy : ly_hy tt TH h') (gg : ∀ v w, ly_g ν h'.length v w → ly_gL ν h'.length (g v) (g' w))
    (k : ∀ v w t, f v = true → ly_g ν h'.length v w → am_s cst cl tt I X pc l' (w :: t) h' = some (pc1, g' w, t, h')) : ly_ok1 cst cl tt TH mods ν I X pc l' st' h' ss := by
  unfold ly_sto at hf
  split at hf
  case h_2 => cases hf
  rename_i v st0
  obtain ⟨w, t, rfl, gv, gS⟩ := ly_gS_cons gS
  cases hc : f v with
  | false => rw [hc] at hf; cases hf
  | true =>
    rw [hc] at hf
    cases hf
    exact ly_one_ok (k v w t hc gv) gZ (gg v w gv) gS hy
theorem ly_bin_ok {f : ly_B → ly_e → ly_e → ly_R} {F : Int32 → Int32 → Int32} (hf : ly_bin f Z pc l st = some ss) (gZ : ly_gZ cst ν Z h') (gL : ly_gL ν h'.length l l') (gS : ly_gS ν h'.length st st') (hy : ly_hy tt TH h')
    (k : ∀ a b x y, ly_ev ν a = some x.toInt → ly_ev ν b = some y.toInt → ly_gR ν h'.length (f Z.2.1 a b) (.int (F x y)))
    (e : ∀ x y t, st' = .int y :: .int x :: t → am_s cst cl tt I X pc l' st' h' = some (pc + 1, l', .int (F x y) :: t, h')) : ly_ok1 cst cl tt TH mods ν I X pc l' st' h' ss := by
  unfold ly_bin at hf
  split at hf
  case h_2 => cases hf
  rename_i y x st0
  obtain ⟨y', t1, rfl, gy, gS1⟩ := ly_gS_cons gS
  obtain ⟨x', t2, rfl, gx, gS2⟩ := ly_gS_cons gS1
  obtain ⟨y0, rfl, ey⟩ := gy
  obtain ⟨x0, rfl, ex⟩ := gx
  refine ly_psh_ok hf gZ gL gS2 hy (fun r hr => ?_)
  cases hr
  exact ⟨_, k x y x0 y0 ex ey, e x0 y0 t2 rfl⟩
theorem ly_un_ok {f : ly_B → ly_e → ly_R} {F : Int32 → Int32} (hf : ly_un f Z pc l st = some ss) (gZ : ly_gZ cst ν Z h') (gL : ly_gL ν h'.length l l') (gS : ly_gS ν h'.length st st') (hy : ly_hy tt TH h')
    (k : ∀ a x, ly_ev ν a = some x.toInt → ly_gR ν h'.length (f Z.2.1 a) (.int (F x)))
    (e : ∀ x t, st' = .int x :: t → am_s cst cl tt I X pc l' st' h' = some (pc + 1, l', .int (F x) :: t, h')) : ly_ok1 cst cl tt TH mods ν I X pc l' st' h' ss := by
  unfold ly_un at hf
  split at hf
  case h_2 => cases hf
  rename_i x st0
  obtain ⟨x', t2, rfl, gx, gS1⟩ := ly_gS_cons gS
  obtain ⟨x0, rfl, ex⟩ := gx
  refine ly_psh_ok hf gZ gL gS1 hy (fun r hr => ?_)
  cases hr
  exact ⟨_, k x x0 ex, e x0 t2 rfl⟩
theorem ly_binj_ok {f : ly_B → ly_e → ly_e → Option ly_e} {F : Int64 → Int64 → Int64} (hf : ly_binj f Z pc l st = some ss) (gZ : ly_gZ cst ν Z h') (gL : ly_gL ν h'.length l l') (gS : ly_gS ν h'.length st st') (hy : ly_hy tt TH h')
    (k : ∀ a b e x y, f Z.2.1 a b = some e → ly_ev ν a = some x.toInt → ly_ev ν b = some y.toInt → ∃ z, ly_ev ν e = some z ∧ (F x y).toInt = z.bmod (2 ^ 64))
    (e : ∀ x y t, st' = .long y :: .long x :: t → am_s cst cl tt I X pc l' st' h' = some (pc + 1, l', .long (F x y) :: t, h')) : ly_ok1 cst cl tt TH mods ν I X pc l' st' h' ss := by
  unfold ly_binj at hf
  split at hf
  case h_2 => cases hf
  rename_i y x st0
  obtain ⟨y', t1, rfl, gy, gS1⟩ := ly_gS_cons gS
  obtain ⟨x', t2, rfl, gx, gS2⟩ := ly_gS_cons gS1
  obtain ⟨y0, rfl, ey⟩ := gy
  obtain ⟨x0, rfl, ex⟩ := gx
  split at hf
  · rename_i w hw
    obtain ⟨z, hz, hb⟩ := k _ _ _ _ _ hw ex ey
    exact ly_pj_ok hf gZ gL gS2 hy hz hb (e x0 y0 t2 rfl)
  · exact ly_fj_ok hf gZ gL gS2 hy (e x0 y0 t2 rfl)
theorem ly_goto_in {o : List ly_Z} {Z1 : ly_Z} (e : Z1 ∈ o) {q : ly_S} (hq : q ∈ [(Z1, pc1, l, st)]) : q ∈ ly_goto o pc1 l st := by
  rw [List.mem_singleton.mp hq]
  exact List.mem_map.mpr ⟨Z1, e, rfl⟩
theorem ly_fork_ok {c : ClassFile.Cond} {e : ly_e} {z : Int} {off : Int} {b : Prop} [hd : Decidable b] {t1 : List Value} (hf : ly_fork c e Z pc off l st = some ss) (gZ : ly_gZ cst ν Z h') (gL : ly_gL ν h'.length l l') (gS : ly_gS ν h'.length st t1) (hy : ly_hy tt TH h')
    (he : ly_ev ν e = some z) (hb : b ↔ sx_holds c z 0) (ea : am_s cst cl tt I X pc l' st' h' = am_br b pc off l' t1 h') : ly_ok1 cst cl tt TH mods ν I X pc l' st' h' ss := by
  unfold ly_fork at hf
  cases hj : sx_jump pc off with
  | false => rw [hj] at hf; cases hf
  | true =>
    rw [hj] at hf
    simp only [cond_true, ly_fe_eq] at hf
    cases hf
    unfold am_br at ea
    rw [sx_jump_ok hj] at ea
    by_cases hbb : b
    · simp only [if_pos hbb] at ea
      obtain ⟨Z1, e1, g1⟩ := ly_cn_ok gZ he (hb.mp hbb)
      exact ly_ok1_in (fun q hq => List.mem_append_left _ (ly_goto_in e1 hq)) (ly_one_ok ea g1 gL gS hy)
    · simp only [if_neg hbb] at ea
      obtain ⟨Z1, e1, g1⟩ := ly_cn_ok gZ he (ly_holds_neg (fun hh => hbb (hb.mpr hh)))
      exact ly_ok1_in (fun q hq => List.mem_append_right _ (ly_goto_in e1 hq)) (ly_one_ok ea g1 gL gS hy)
theorem ly_cmp_b (a b : Int64) : (-1 : Int) ≤ (lg_cmp a b).toInt ∧ (lg_cmp a b).toInt ≤ 1 := by
  unfold lg_cmp
  split
  · decide
  · split <;> decide
theorem ly_cmp_ok {e : ly_e} {st1 : List Value} {x y : Int64} (hf : ly_cmp Z pc1 l e st = some ss) (gZ : ly_gZ cst ν Z h') (gL : ly_gL ν h'.length l l') (gS : ly_gS ν h'.length st st1) (hy : ly_hy tt TH h')
    (hz : ly_ev ν e = some (x.toInt - y.toInt)) (ea : am_s cst cl tt I X pc l' st' h' = some (pc1, l', .int (lg_cmp x y) :: st1, h')) : ly_ok1 cst cl tt TH mods ν I X pc l' st' h' ss := by
  have c0 : x.toInt - y.toInt = 0 → lg_cmp x y = 0 := fun h0 => by
    have : x = y := Int64.toInt_inj.mp (by omega)
    unfold lg_cmp
    rw [if_neg (fun hgt => by have := Int64.lt_iff_toInt_lt.mp hgt; omega), if_pos this]
  have c1 : 0 < x.toInt - y.toInt → lg_cmp x y = 1 := fun h0 => by
    unfold lg_cmp
    rw [if_pos (show x > y from Int64.lt_iff_toInt_lt.mpr (by omega))]
  have c2 : x.toInt - y.toInt < 0 → lg_cmp x y = -1 := fun h0 => by
    unfold lg_cmp
    rw [if_neg (fun hgt => by have := Int64.lt_iff_toInt_lt.mp hgt; omega), if_neg (fun e => by rw [e] at h0; omega)]
  have eqc : x.toInt - y.toInt = 0 → ∀ {ss2 : List ly_S}, (∀ q ∈ ly_goto (ly_cn .eq Z e) pc1 l (.inl (0, []) :: st), q ∈ ss2) → ly_ok1 cst cl tt TH mods ν I X pc l' st' h' ss2 := fun h0 ss2 hsub => by
    obtain ⟨Z1, e1, g1⟩ := ly_cn_ok (c := .eq) gZ hz h0
    rw [c0 h0] at ea
    exact ly_ok1_in (fun q hq => hsub q (ly_goto_in e1 hq)) (ly_one_ok ea g1 gL ⟨⟨0, rfl, ly_ev_c ν 0⟩, gS⟩ hy)
  unfold ly_cmp at hf
  split at hf
  · simp only [ly_fe_eq] at hf
    cases hf
    by_cases h0 : x.toInt - y.toInt = 0
    · exact eqc h0 (fun q hq => List.mem_append_left _ hq)
    · obtain ⟨n, B, F, K⟩ := Z
      obtain ⟨Z1, e1, g1⟩ := ly_ne_ok gZ hz h0
      obtain ⟨n1, B1, F1, K1⟩ := Z1
      have hn : ∀ k, n ≤ k → ν k = none := gZ.1
      have g2 : ly_gZ cst ν (n, B1, F1, K1) h' := ⟨hn, g1.2.1, g1.2.2.1, g1.2.2.2⟩
      have hl : ly_le ν (ly_up ν n (lg_cmp x y).toInt) := ly_up_le (hn n (Nat.le_refl n))
      have b := ly_cmp_b x y
      have hnz : (lg_cmp x y).toInt ≠ 0 := by
        rcases Int.lt_or_gt_of_ne h0 with h1 | h1
        · rw [c2 h1]; decide
        · rw [c1 h1]; decide
      have g3 := ly_gZ_up (p := ((-1 : Int), (1 : Int))) g2 b.1 b.2
      have g4 := ly_gZ_K (q := (61000, ly_sym n, (1, []))) g3 (ly_ev_sym (ly_up_n n _)) (ly_ev_c _ 1) (by rw [ly_hv_ne rfl, if_neg hnz])
      refine ⟨((n + 1, (n, -1, 1) :: B1, F1, (61000, ly_sym n, (1, [])) :: K1), pc1, l, .inl (ly_sym n) :: st), List.mem_append_right _ ?_, ly_up ν n (lg_cmp x y).toInt, _, ea, hl, g4, rfl, ly_gL_le hl (Nat.le_refl _) gL, ⟨⟨_, rfl, ly_ev_sym (ly_up_n n _)⟩, ly_gS_le hl (Nat.le_refl _) gS⟩, hy, ly_fr_rf h', rfl⟩
      simp only [sx_N_eq]
      exact List.mem_map.mpr ⟨_, e1, rfl⟩
  · simp only [ly_fe_eq] at hf
    cases hf
    by_cases h0 : x.toInt - y.toInt = 0
    · exact eqc h0 (fun q hq => List.mem_append_left _ hq)
    · rcases Int.lt_or_gt_of_ne h0 with h1 | h1
      · obtain ⟨Z1, e1, g1⟩ := ly_cn_ok (c := .lt) gZ hz h1
        rw [c2 h1] at ea
        exact ly_ok1_in (fun q hq => List.mem_append_right _ (List.mem_append_right _ (ly_goto_in e1 hq))) (ly_one_ok ea g1 gL ⟨⟨-1, rfl, ly_ev_c ν (-1)⟩, gS⟩ hy)
      · obtain ⟨Z1, e1, g1⟩ := ly_cn_ok (c := .gt) gZ hz h1
        rw [c1 h1] at ea
        exact ly_ok1_in (fun q hq => List.mem_append_right _ (List.mem_append_left _ (ly_goto_in e1 hq))) (ly_one_ok ea g1 gL ⟨⟨1, rfl, ly_ev_c ν 1⟩, gS⟩ hy)
theorem ly_sw_in {x : ly_e} {q : ly_S} : ∀ {offs : List Int} {lo : Int} {k : Nat} {off : Int} {Z1 : ly_Z}, offs[k]? = some off → Z1 ∈ ly_cn .eq Z (ly_sub x (lo + (k : Int), [])) → q = (Z1, sx_to pc off, l, st) → q ∈ ly_sw x Z pc l st offs lo
  | [], _, _, _, _, h, _, _ => by simp at h
  | o :: offs, lo, 0, off, Z1, h, e, hq => by
    simp only [List.getElem?_cons_zero, Option.some.injEq] at h
    subst h
    unfold ly_sw
    refine List.mem_append_left _ (ly_goto_in (Z1 := Z1) ?_ (by rw [hq]; exact List.mem_singleton.mpr rfl))
    simpa using e
  | o :: offs, lo, k + 1, off, Z1, h, e, hq => by
    simp only [List.getElem?_cons_succ] at h
    unfold ly_sw
    refine List.mem_append_right _ (ly_sw_in (k := k) h ?_ hq)
    have : Int.add lo 1 + (k : Int) = lo + ((k + 1 : Nat) : Int) := by
      show lo + 1 + (k : Int) = _
      omega
    rw [this]
    exact e
end LY6
