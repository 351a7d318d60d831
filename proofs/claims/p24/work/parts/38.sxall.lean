/-! every instruction of the interval machine is the abstract machine's -/
section SX4
variable {ρ : Nat → Int32} {B : sx_B} {tt : List (List FieldType)} {h0 : am_H} {H : sx_H} {h : am_H}
variable {cst : am_K} {cl : List vw_C} {K : sx_K} {I : Instr} {X : am_X} {pc pc1 : Nat} {l l1 : sx_L} {l' : am_L} {st : List sx_V} {st' : List Value} {h' : am_H} {ss : List sx_S}
theorem sx_blt {a b : Nat} : Nat.blt a b = true ↔ a < b := by rw [Nat.blt_eq]
theorem sx_blt_neg {a b : Nat} (h : Nat.blt a b = false) : ¬ a < b := fun hl => by
  rw [sx_blt.mpr hl] at h
  cases h
theorem sx_ble {a b : Nat} : Nat.ble a b = true ↔ a ≤ b := by rw [Nat.ble_eq]
theorem sx_beqn {a b : Nat} : Nat.beq a b = true ↔ a = b := ⟨Nat.eq_of_beq_eq_true, fun e => by subst e; simp⟩
theorem sx_beq_neg {a b : Nat} (h : Nat.beq a b = false) : ¬ a = b := fun e => by
  rw [sx_beqn.mpr e] at h
  cases h
def sx_hp (c : ClassFile.Cond) (a b : Int32) : Prop := match c with
  | .eq => a = b
  | .ne => ¬ a = b
  | .lt => a < b
  | .ge => b ≤ a
  | .gt => b < a
  | .le => a ≤ b
theorem sx_hp_iff {c : ClassFile.Cond} {a b : Int32} : sx_holds c a.toInt b.toInt ↔ sx_hp c a b := by
  cases c <;> simp only [sx_holds, sx_hp, Int32.lt_iff_toInt_lt, Int32.le_iff_toInt_le, ← Int32.toInt_inj]
theorem sx_low_ok {a : Nat} {i v : sx_V} {i' : Value} (gK : sx_gK ρ K cst) (gB : sx_gB ρ B) (h : sx_low K B a i = some v) (gi : sx_g ρ i i') :
    ∃ (x : Int32) (L : List Int32), i' = .int x ∧ ((a < 8 ∧ cst.1[a]? = some L) ∨ (12 ≤ a ∧ cst.2.1[a - 12]? = some L)) ∧ ¬ (x < 0 ∨ L.length ≤ x.toNatClampNeg) ∧ sx_g ρ v (.int (L.getD x.toNatClampNeg 0)) := by
  obtain ⟨k1, ⟨S, s1, sK⟩, -, -⟩ := gK
  have idx : ∀ {m : Nat} {n : Nat}, sx_con B i = some (.ofNat m) → m < n → ∃ x : Int32, i' = .int x ∧ x.toNatClampNeg = m ∧ ¬ (x < 0 ∨ n ≤ x.toNatClampNeg) := by
    intro m n hc hl
    obtain ⟨x, e, he⟩ := sx_g_con gB gi hc
    have e1 : x.toNatClampNeg = m := by
      show x.toInt.toNat = m
      rw [he]
      rfl
    refine ⟨x, e, e1, ?_⟩
    rw [e1]
    rintro (hq | hq)
    · have := Int32.lt_iff_toInt_lt.mp hq
      rw [he] at this
      have z : (0 : Int32).toInt = 0 := rfl
      have : (Int.ofNat m) = (m : Int) := rfl
      omega
    · omega
  unfold sx_low at h
  cases ha : Nat.beq a 4 with
  | true =>
    have ea := sx_beqn.mp ha
    subst ea
    simp only [ha, cond_true] at h
    split at h
    case h_2 => cases h
    rename_i p hp
    split at h
    case h_2 => cases h
    rename_i m hm
    cases hc : (sx_le (.ofNat (m + 1)) p.1 && Nat.blt m 7) with
    | false => simp only [hc, cond_false] at h; cases h
    | true =>
      simp only [hc, cond_true] at h
      rw [Bool.and_eq_true] at hc
      have c1 := sx_le_iff.mp hc.1
      have b7 := gB 7 p hp
      have e0 : (Int.ofNat (m + 1)) = ((m + 1 : Nat) : Int) := rfl
      obtain ⟨s2, s3, s4⟩ := sK (by omega)
      have hl : m < S.length := by
        rw [e0] at c1
        omega
      obtain ⟨x, ex, e1, e2⟩ := idx hm hl
      refine ⟨x, S, ex, Or.inl ⟨by decide, s1⟩, e2, ?_⟩
      rw [e1, s4 m hl]
      split at h
      case h_2 => cases h
      rename_i q hq
      obtain ⟨q1, q2⟩ := gB m q hq
      cases hqe : sx_eq q.1 q.2 with
      | true =>
        simp only [hqe, cond_true] at h
        cases h
        have := sx_eq_iff.mp hqe
        exact ⟨_, rfl, by omega⟩
      | false =>
        simp only [hqe, cond_false] at h
        cases h
        have t := sx_g_top (ρ := ρ) (ρ m)
        obtain ⟨n, en, t1, t2, -⟩ := t
        cases en
        refine ⟨_, rfl, t1, t2, fun k c hk => ?_⟩
        cases hk
        omega
  | false =>
    simp only [ha, cond_false] at h
    split at h
    case h_2 => cases h
    rename_i r hr
    split at h
    case h_2 => cases h
    rename_i m hm
    split at h
    case h_2 => cases h
    rename_i c hc
    cases h
    obtain ⟨-, h8 | h12⟩ := k1 a r hr
    · obtain ⟨l8, L, e, em⟩ := h8
      rw [← em, List.getElem?_map] at hc
      cases hL : L[m]? with
      | none => rw [hL] at hc; cases hc
      | some n =>
        rw [hL] at hc
        cases hc
        have hl : m < L.length := (List.getElem?_eq_some_iff.mp hL).1
        obtain ⟨x, ex, e1, e2⟩ := idx hm hl
        refine ⟨x, L, ex, Or.inl ⟨by omega, e⟩, e2, ?_⟩
        rw [e1, List.getD_eq_getElem?_getD, hL]
        exact ⟨n, rfl, rfl⟩
    · obtain ⟨l12, L, e, em⟩ := h12
      rw [← em, List.getElem?_map] at hc
      cases hL : L[m]? with
      | none => rw [hL] at hc; cases hc
      | some n =>
        rw [hL] at hc
        cases hc
        have hl : m < L.length := (List.getElem?_eq_some_iff.mp hL).1
        obtain ⟨x, ex, e1, e2⟩ := idx hm hl
        refine ⟨x, L, ex, Or.inr ⟨l12, e⟩, e2, ?_⟩
        rw [e1, List.getD_eq_getElem?_getD, hL]
        exact ⟨n, rfl, rfl⟩
theorem sx_fit_ok {t : FieldType} {v : sx_V} {w : Value} (gB : sx_gB ρ B) (h : sx_fit t B v = true) (g : sx_g ρ v w) : am_fit t w = true := by
  unfold sx_fit at h
  split at h
  · obtain ⟨n, rfl, -⟩ := g; rfl
  · obtain ⟨n, rfl⟩ := sx_g_isI g rfl; rfl
  · obtain ⟨n, rfl⟩ := sx_g_isJ g rfl; rfl
  · split at h
    case h_2 => cases h
    rename_i p hp
    obtain ⟨n, rfl, h1, h2⟩ := sx_g_int gB g hp
    rw [Bool.and_eq_true, sx_le_iff, sx_le_iff] at h
    have : n.toInt = 0 ∨ n.toInt = 1 := by omega
    simp only [am_fit, Bool.or_eq_true, beq_iff_eq]
    rcases this with e | e
    · exact Or.inl (Int32.toInt_inj.mp e)
    · exact Or.inr (Int32.toInt_inj.mp e)
  · rcases sx_g_isA g rfl with ⟨a, rfl⟩ | rfl <;> rfl
  · rcases sx_g_isA g rfl with ⟨a, rfl⟩ | rfl <;> rfl
  · cases h
theorem sx_fld_put {ci j k : Nat} {v : sx_V} {ov : sx_L} {bs : List (List sx_V)} : sx_fld tt ci k (sx_put j v ov) bs = if k = j then some v else sx_fld tt ci k ov bs := by
  unfold sx_fld
  rw [sx_get_put]
  by_cases hk : k = j
  · rw [if_pos hk, if_pos hk]
  · rw [if_neg hk, if_neg hk]
theorem sx_nar_ok {t : FieldType} {v v1 : sx_V} {w : Value} (gB : sx_gB ρ B) (h : sx_nar B t v = some v1) (g : sx_g ρ v w) : ∃ n : Int32, w = .int n ∧ sx_g ρ v1 (.int (vp_nar t n)) := by
  unfold sx_nar at h
  split at h
  · rename_i c hc
    obtain ⟨n, e, he⟩ := sx_g_con gB g hc
    cases h
    exact ⟨n, e, _, rfl, by rw [sx_of he]⟩
  · split at h
    case h_2 => cases h
    rename_i p hp
    obtain ⟨n, e, -⟩ := sx_g_int gB g hp
    cases h
    exact ⟨n, e, sx_g_top _⟩
theorem sx_rowI {n j : Nat} {d v1 : sx_V} {ov : sx_L} {f : Nat → Int32} {z : Int32} (hf : ∀ k, k < n → sx_g ρ (sx_elt d ov k) (.int (f k))) (hv : sx_g ρ v1 (.int z)) : (∀ k, k < n → sx_g ρ (sx_elt d (sx_wr d j v1 ov) k) (.int (upd f j z k))) ∧ (ov = [] → d = sx_top → ∀ k, k < n → sx_g ρ (sx_elt d ov k) (.int (upd f j z k))) := by
  refine ⟨fun k hk => ?_, fun e1 e2 k hk => ?_⟩
  · rw [sx_wr_elt]
    unfold upd
    by_cases e : k = j
    · rw [if_pos e, if_pos e]; exact hv
    · rw [if_neg e, if_neg e]; exact hf k hk
  · rw [e1, e2, sx_elt_nil]
    exact sx_g_top _
theorem sx_rowJ {n j : Nat} {d v1 : sx_V} {ov : sx_L} {f : Nat → Int64} {z : Int64} (hf : ∀ k, k < n → sx_g ρ (sx_elt d ov k) (.long (f k))) (hv : sx_g ρ v1 (.long z)) : ∀ k, k < n → sx_g ρ (sx_elt d (sx_wr d j v1 ov) k) (.long (vp_updL f j z k)) := by
  intro k hk
  rw [sx_wr_elt]
  unfold vp_updL
  by_cases e : k = j
  · rw [if_pos e, if_pos e]; exact hv
  · rw [if_neg e, if_neg e]; exact hf k hk
theorem sx_ofNat {n : Nat} (h : n ≤ 60000000) : (Int32.ofNat n).toInt = (n : Int) := Int32.toInt_ofNat_of_lt (by omega)
theorem sx_fork_ok2 {o : Option (List (Bool × sx_B))} {off : Int} {t1 : List Value} (hf : sx_fork o pc off l st H = some ss) (gL : sx_gL ρ l l') (gS : sx_gS ρ st t1) (gH : sx_gH tt ρ h0 H h')
    (k : ∀ bs, o = some bs → ∃ (b : Prop) (_ : Decidable b), am_s cst cl tt I X pc l' st' h' = am_br b pc off l' t1 h' ∧ ∃ q ∈ bs, sx_gB ρ q.2 ∧ (q.1 = true ↔ b)) : sx_ok1 cst cl tt ρ h0 I X pc l' st' h' ss := by
  cases ho : o with
  | none =>
    rw [ho] at hf
    unfold sx_fork at hf
    cases hj : sx_jump pc off with
    | false => rw [hj] at hf; cases hf
    | true => rw [hj] at hf; cases hf
  | some bs =>
    obtain ⟨b, i, e, z⟩ := k bs ho
    exact sx_fork_ok (b := b) hf gL gS gH (fun bs' h => by
      rw [ho] at h
      cases h
      exact ⟨e, z⟩)
theorem sx_refv {a : Nat} {w : Value} (g : sx_g ρ (sx_a a) w) (h : a ≠ 7) : w = .ref a := by
  rcases g with e | ⟨e, -⟩
  · exact e
  · exact absurd e h
set_option maxHeartbeats 4000000 in
theorem sx_s_ok {f : sx_Hd} (hs : sx_s I = some f) (hf : f K tt X pc B l st H = some ss) (gK : sx_gK ρ K cst) (gB : sx_gB ρ B) (gL : sx_gL ρ l l') (gS : sx_gS ρ st st') (gH : sx_gH tt ρ h0 H h') : sx_ok1 cst cl tt ρ h0 I X pc l' st' h' ss := by
  cases I with
  | iconst n =>
    cases hs
    exact sx_psh_ok hf gB gL gS gH (fun v hv => by
      cases hv
      exact ⟨_, ⟨_, rfl, by rw [Int32.toInt_ofInt, sx_w_eq]⟩, rfl⟩)
  | bipush n =>
    cases hs
    refine sx_psh_ok hf gB gL gS gH (fun v hv => ?_)
    cases hc : (sx_le (-128) n && sx_le n 127) with
    | false => rw [hc] at hv; cases hv
    | true =>
      rw [hc] at hv
      cases hv
      rw [Bool.and_eq_true, sx_le_iff, sx_le_iff] at hc
      refine ⟨_, ⟨_, rfl, ?_⟩, rfl⟩
      rw [Int8.toInt_toInt32, Int8.toInt_ofInt]
      exact Int.bmod_eq_of_le (by show -((256 : Int) / 2) ≤ n; omega) (by show n < ((256 : Int) + 1) / 2; omega)
  | sipush n =>
    cases hs
    refine sx_psh_ok hf gB gL gS gH (fun v hv => ?_)
    cases hc : (sx_le (-32768) n && sx_le n 32767) with
    | false => rw [hc] at hv; cases hv
    | true =>
      rw [hc] at hv
      cases hv
      rw [Bool.and_eq_true, sx_le_iff, sx_le_iff] at hc
      refine ⟨_, ⟨_, rfl, ?_⟩, rfl⟩
      rw [Int16.toInt_toInt32, Int16.toInt_ofInt]
      exact Int.bmod_eq_of_le (by show -((65536 : Int) / 2) ≤ n; omega) (by show n < ((65536 : Int) + 1) / 2; omega)
  | lconst n =>
    cases hs
    refine sx_psh_ok hf gB gL gS gH (fun v hv => ?_)
    cases hv
    refine ⟨_, ⟨_, rfl, fun c hc => ?_⟩, rfl⟩
    cases hc
    refine sx_jm_of ?_
    match n with
    | 0 => rfl
    | 1 => rfl
  | aconst_null =>
    cases hs
    exact sx_psh_ok hf gB gL gS gH (fun v hv => by cases hv; exact ⟨_, rfl, rfl⟩)
  | ldc i =>
    cases hs
    refine sx_psh_ok hf gB gL gS gH (fun v hv => ?_)
    cases h0' : Nat.beq X.1 0 with
    | true =>
      rw [h0'] at hv
      cases hv
      refine ⟨.int (Int32.ofInt X.2.2), ⟨_, rfl, by rw [Int32.toInt_ofInt, sx_w_eq]⟩, ?_⟩
      simp only [am_s, if_pos (sx_beqn.mp h0')]
    | false =>
      rw [h0'] at hv
      cases h1 : Nat.blt X.2.1 16 with
      | false => rw [h1] at hv; cases hv
      | true =>
        rw [h1] at hv
        cases hv
        refine ⟨.ref X.2.1, Or.inl rfl, ?_⟩
        simp only [am_s, if_neg (sx_beq_neg h0'), if_pos (sx_blt.mp h1)]
  | ldc_w i =>
    cases hs
    refine sx_psh_ok hf gB gL gS gH (fun v hv => ?_)
    cases h0' : Nat.beq X.1 0 with
    | true =>
      rw [h0'] at hv
      cases hv
      refine ⟨.int (Int32.ofInt X.2.2), ⟨_, rfl, by rw [Int32.toInt_ofInt, sx_w_eq]⟩, ?_⟩
      simp only [am_s, if_pos (sx_beqn.mp h0')]
    | false =>
      rw [h0'] at hv
      cases h1 : Nat.blt X.2.1 16 with
      | false => rw [h1] at hv; cases hv
      | true =>
        rw [h1] at hv
        cases hv
        refine ⟨.ref X.2.1, Or.inl rfl, ?_⟩
        simp only [am_s, if_neg (sx_beq_neg h0'), if_pos (sx_blt.mp h1)]
  | ldc2_w i =>
    cases hs
    exact sx_psh_ok hf gB gL gS gH (fun v hv => by
      cases hv
      exact ⟨_, ⟨_, rfl, fun c hc => sx_jm_of (by cases hc; rfl)⟩, rfl⟩)
  | getstatic i =>
    cases hs
    refine sx_psh_ok hf gB gL gS gH (fun v hv => ?_)
    cases hv
    obtain ⟨-, -, -, kf⟩ := gK
    cases h8 : Nat.blt X.2.1 8 with
    | true =>
      have := sx_blt.mp h8
      refine ⟨.ref X.2.1, Or.inl rfl, ?_⟩
      simp only [am_s, am_sv, if_pos this, am_lowv, decide_eq_true_eq, if_pos (show X.2.1 < 16 by omega)]
    | false =>
      have h8' := sx_blt_neg h8
      cases h9 : Nat.beq X.2.1 8 with
      | true =>
        have := sx_beqn.mp h9
        refine ⟨.int 1, ⟨1, rfl, rfl⟩, ?_⟩
        simp only [am_s, am_sv, if_neg h8', if_pos this, am_lowv, if_true]
      | false =>
        have h9' := sx_beq_neg h9
        refine ⟨cst.2.2, ?_, ?_⟩
        · rcases kf with e | e
          · exact Or.inl e
          · exact Or.inr ⟨rfl, e⟩
        · have hl : am_lowv cst.2.2 = true := by
            rcases kf with e | e
            · rw [e]; rfl
            · rw [e]; rfl
          simp only [am_s, am_sv, if_neg h8', if_neg h9', hl, if_true]
  | iload i =>
    cases hs
    exact sx_load_ok hf gB gL gS gH (fun v w hv g e => by
      obtain ⟨n, rfl⟩ := sx_g_isI g hv
      simp only [am_s, e])
  | iload_n i =>
    cases hs
    exact sx_load_ok hf gB gL gS gH (fun v w hv g e => by
      obtain ⟨n, rfl⟩ := sx_g_isI g hv
      simp only [am_s, e])
  | lload i =>
    cases hs
    exact sx_load_ok hf gB gL gS gH (fun v w hv g e => by
      obtain ⟨n, rfl⟩ := sx_g_isJ g hv
      simp only [am_s, e])
  | lload_n i =>
    cases hs
    exact sx_load_ok hf gB gL gS gH (fun v w hv g e => by
      obtain ⟨n, rfl⟩ := sx_g_isJ g hv
      simp only [am_s, e])
  | aload i =>
    cases hs
    exact sx_load_ok hf gB gL gS gH (fun v w hv g e => by
      rcases sx_g_isA g hv with ⟨a, rfl⟩ | rfl <;> simp only [am_s, e])
  | aload_n i =>
    cases hs
    exact sx_load_ok hf gB gL gS gH (fun v w hv g e => by
      rcases sx_g_isA g hv with ⟨a, rfl⟩ | rfl <;> simp only [am_s, e])
  | istore i =>
    cases hs
    exact sx_sto_ok (g' := fun w => am_st1 i w l') hf gB gS gH (fun v w g => sx_gL_st1 gL g) (fun v w t hv g => by
      obtain ⟨n, rfl⟩ := sx_g_isI g hv
      rfl)
  | istore_n i =>
    cases hs
    exact sx_sto_ok (g' := fun w => am_st1 i w l') hf gB gS gH (fun v w g => sx_gL_st1 gL g) (fun v w t hv g => by
      obtain ⟨n, rfl⟩ := sx_g_isI g hv
      rfl)
  | lstore i =>
    cases hs
    exact sx_sto_ok (g' := fun w => am_st2 i w l') hf gB gS gH (fun v w g => sx_gL_st2 gL g) (fun v w t hv g => by
      obtain ⟨n, rfl⟩ := sx_g_isJ g hv
      rfl)
  | lstore_n i =>
    cases hs
    exact sx_sto_ok (g' := fun w => am_st2 i w l') hf gB gS gH (fun v w g => sx_gL_st2 gL g) (fun v w t hv g => by
      obtain ⟨n, rfl⟩ := sx_g_isJ g hv
      rfl)
  | astore i =>
    cases hs
    exact sx_sto_ok (g' := fun w => am_st1 i w l') hf gB gS gH (fun v w g => sx_gL_st1 gL g) (fun v w t hv g => by
      rcases sx_g_isA g hv with ⟨a, rfl⟩ | rfl <;> rfl)
  | astore_n i =>
    cases hs
    exact sx_sto_ok (g' := fun w => am_st1 i w l') hf gB gS gH (fun v w g => sx_gL_st1 gL g) (fun v w t hv g => by
      rcases sx_g_isA g hv with ⟨a, rfl⟩ | rfl <;> rfl)
  | iinc i n =>
    cases hs
    simp only at hf
    split at hf
    case h_2 => cases hf
    rename_i x hx
    split at hf
    case h_2 => cases hf
    rename_i v hv
    rw [sx_vf_eq] at hf
    cases hf
    obtain ⟨w, e, gw⟩ := sx_gL_get i gL _ hx
    have gn : sx_g ρ (sx_c (sx_w n)) (.int (Int32.ofInt n)) := ⟨_, rfl, by rw [Int32.toInt_ofInt, sx_w_eq]⟩
    obtain ⟨a, b, rfl, eb, g⟩ := sx_add_ok gB hv gw gn
    cases eb
    exact sx_one_ok (by simp only [am_s, e]) gB (sx_gL_st1 gL g) gS gH
  | iadd => cases hs; exact sx_bin_ok hf gB gL gS gH (fun x y v x' y' hv gx gy => by obtain ⟨a, b, rfl, rfl, g⟩ := sx_add_ok gB hv gx gy; exact ⟨_, g, fun t => rfl⟩)
  | isub => cases hs; exact sx_bin_ok hf gB gL gS gH (fun x y v x' y' hv gx gy => by obtain ⟨a, b, rfl, rfl, g⟩ := sx_sub_ok gB hv gx gy; exact ⟨_, g, fun t => rfl⟩)
  | imul => cases hs; exact sx_bin_ok hf gB gL gS gH (fun x y v x' y' hv gx gy => by obtain ⟨a, b, rfl, rfl, g⟩ := sx_mul_ok gB hv gx gy; exact ⟨_, g, fun t => rfl⟩)
  | idiv =>
    cases hs
    refine sx_bin_ok hf gB gL gS gH (fun x y v x' y' hv gx gy => ?_)
    split at hv
    case h_2 => cases hv
    rename_i c hc
    cases h0' : sx_eq c 0 with
    | true => rw [h0'] at hv; cases hv
    | false =>
      rw [h0'] at hv
      simp only [cond_false] at hv
      obtain ⟨b', eb', hb'⟩ := sx_g_con gB gy hc
      obtain ⟨a, b, ea, eb, g⟩ := sx_op_ok (f := fun x y => x / y) gB hv gx gy
      subst ea
      rw [eb'] at eb
      subst eb'
      cases eb
      have hn : ¬ b' = 0 := fun e => by
        subst e
        have : c = 0 := by rw [← hb']; rfl
        rw [sx_eq_iff.mpr this] at h0'
        cases h0'
      exact ⟨_, g, fun t => by simp only [am_s, if_neg hn]⟩
  | irem =>
    cases hs
    refine sx_bin_ok hf gB gL gS gH (fun x y v x' y' hv gx gy => ?_)
    split at hv
    case h_2 => cases hv
    rename_i c hc
    cases h0' : sx_eq c 0 with
    | true => rw [h0'] at hv; cases hv
    | false =>
      rw [h0'] at hv
      simp only [cond_false] at hv
      obtain ⟨b', eb', hb'⟩ := sx_g_con gB gy hc
      obtain ⟨a, b, ea, eb, g⟩ := sx_op_ok (f := fun x y => x - x / y * y) gB hv gx gy
      subst ea
      rw [eb'] at eb
      subst eb'
      cases eb
      have hn : ¬ b' = 0 := fun e => by
        subst e
        have : c = 0 := by rw [← hb']; rfl
        rw [sx_eq_iff.mpr this] at h0'
        cases h0'
      exact ⟨_, g, fun t => by simp only [am_s, if_neg hn]⟩
  | iand => cases hs; exact sx_bin_ok hf gB gL gS gH (fun x y v x' y' hv gx gy => by obtain ⟨a, b, rfl, rfl, g⟩ := sx_op_ok gB hv gx gy; exact ⟨_, g, fun t => rfl⟩)
  | ior => cases hs; exact sx_bin_ok hf gB gL gS gH (fun x y v x' y' hv gx gy => by obtain ⟨a, b, rfl, rfl, g⟩ := sx_op_ok gB hv gx gy; exact ⟨_, g, fun t => rfl⟩)
  | ixor => cases hs; exact sx_bin_ok hf gB gL gS gH (fun x y v x' y' hv gx gy => by obtain ⟨a, b, rfl, rfl, g⟩ := sx_op_ok gB hv gx gy; exact ⟨_, g, fun t => rfl⟩)
  | ishl => cases hs; exact sx_bin_ok hf gB gL gS gH (fun x y v x' y' hv gx gy => by obtain ⟨a, b, rfl, rfl, g⟩ := sx_op_ok gB hv gx gy; exact ⟨_, g, fun t => rfl⟩)
  | ishr => cases hs; exact sx_bin_ok hf gB gL gS gH (fun x y v x' y' hv gx gy => by obtain ⟨a, b, rfl, rfl, g⟩ := sx_op_ok gB hv gx gy; exact ⟨_, g, fun t => rfl⟩)
  | iushr => cases hs; exact sx_bin_ok hf gB gL gS gH (fun x y v x' y' hv gx gy => by obtain ⟨a, b, rfl, rfl, g⟩ := sx_op_ok gB hv gx gy; exact ⟨_, g, fun t => rfl⟩)
  | ladd => cases hs; exact sx_bin_ok hf gB gL gS gH (fun x y v x' y' hv gx gy => by obtain ⟨a, b, rfl, rfl, g⟩ := sx_opj_ok hv gx gy; exact ⟨_, g, fun t => rfl⟩)
  | lsub => cases hs; exact sx_bin_ok hf gB gL gS gH (fun x y v x' y' hv gx gy => by obtain ⟨a, b, rfl, rfl, g⟩ := sx_opj_ok hv gx gy; exact ⟨_, g, fun t => rfl⟩)
  | lmul => cases hs; exact sx_bin_ok hf gB gL gS gH (fun x y v x' y' hv gx gy => by obtain ⟨a, b, rfl, rfl, g⟩ := sx_opj_ok hv gx gy; exact ⟨_, g, fun t => rfl⟩)
  | lcmp => cases hs; exact sx_bin_ok hf gB gL gS gH (fun x y v x' y' hv gx gy => by obtain ⟨a, b, rfl, rfl, g⟩ := sx_cmp_ok hv gx gy; exact ⟨_, g, fun t => rfl⟩)
  | i2l => cases hs; exact sx_un_ok hf gB gL gS gH (fun x v x' hv gx => by obtain ⟨a, rfl, g⟩ := sx_i2l_ok gB hv gx; exact ⟨_, g, fun t => rfl⟩)
  | l2i => cases hs; exact sx_un_ok hf gB gL gS gH (fun x v x' hv gx => by obtain ⟨a, rfl, g⟩ := sx_l2i_ok hv gx; exact ⟨_, g, fun t => rfl⟩)
  | i2c => cases hs; exact sx_un_ok hf gB gL gS gH (fun x v x' hv gx => by obtain ⟨a, rfl, g⟩ := sx_op1_ok gB hv gx; exact ⟨_, g, fun t => rfl⟩)
  | i2b => cases hs; exact sx_un_ok hf gB gL gS gH (fun x v x' hv gx => by obtain ⟨a, rfl, g⟩ := sx_op1_ok gB hv gx; exact ⟨_, g, fun t => rfl⟩)
  | pop =>
    cases hs
    simp only at hf
    split at hf
    case h_2 => cases hf
    rename_i v st0
    obtain ⟨w, t, rfl, gv, gS1⟩ := sx_gS_cons gS
    cases hc : Nat.beq (sx_cat v) 1 with
    | false => rw [hc] at hf; cases hf
    | true =>
      rw [hc] at hf
      cases hf
      exact sx_one_ok (by simp only [am_s, sx_g_cat gv, sx_beqn.mp hc, if_true]) gB gL gS1 gH
  | dup =>
    cases hs
    simp only at hf
    split at hf
    case h_2 => cases hf
    rename_i v st0
    obtain ⟨w, t, rfl, gv, gS1⟩ := sx_gS_cons gS
    cases hc : Nat.beq (sx_cat v) 1 with
    | false => rw [hc] at hf; cases hf
    | true =>
      rw [hc] at hf
      cases hf
      exact sx_one_ok (t1 := w :: w :: t) (by simp only [am_s, sx_g_cat gv, sx_beqn.mp hc, if_true]) gB gL ⟨gv, gv, gS1⟩ gH
  | dup2 =>
    cases hs
    simp only at hf
    split at hf
    case h_2 => cases hf
    rename_i v v2 st0
    obtain ⟨w, t, rfl, gv, gS1⟩ := sx_gS_cons gS
    obtain ⟨w2, t2, rfl, gv2, gS2⟩ := sx_gS_cons gS1
    cases hc : (Nat.beq (sx_cat v) 1 && Nat.beq (sx_cat v2) 1) with
    | false => rw [hc] at hf; cases hf
    | true =>
      rw [hc] at hf
      cases hf
      rw [Bool.and_eq_true] at hc
      exact sx_one_ok (t1 := w :: w2 :: w :: w2 :: t2) (by simp only [am_s, sx_g_cat gv, sx_g_cat gv2, sx_beqn.mp hc.1, sx_beqn.mp hc.2, and_self, if_true]) gB gL ⟨gv, gv2, gv, gv2, gS2⟩ gH
  | goto off =>
    cases hs
    simp only at hf
    cases hj : sx_jump pc off with
    | false => rw [hj] at hf; cases hf
    | true =>
      rw [hj] at hf
      cases hf
      exact sx_one_ok (by simp only [am_s, sx_jump_ok hj]) gB gL gS gH
  | ifCond c off =>
    cases hs
    simp only at hf
    split at hf
    case h_2 => cases hf
    rename_i x st0
    obtain ⟨x', t, rfl, gx, gS1⟩ := sx_gS_cons gS
    have g0 : sx_g ρ (sx_c 0) (.int 0) := ⟨0, rfl, rfl⟩
    refine sx_fork_ok2 hf gL gS1 gH (fun bs hb => ?_)
    obtain ⟨a, b, rfl, e0, q, hq, gq, hh⟩ := sx_br_ok gB hb gx g0
    cases e0
    have hh := hh.trans sx_hp_iff
    cases c
    · exact ⟨a = 0, inferInstance, rfl, q, hq, gq, hh⟩
    · exact ⟨¬ a = 0, inferInstance, rfl, q, hq, gq, hh⟩
    · exact ⟨a < 0, inferInstance, rfl, q, hq, gq, hh⟩
    · exact ⟨0 ≤ a, inferInstance, rfl, q, hq, gq, hh⟩
    · exact ⟨0 < a, inferInstance, rfl, q, hq, gq, hh⟩
    · exact ⟨a ≤ 0, inferInstance, rfl, q, hq, gq, hh⟩
  | if_icmp c off =>
    cases hs
    simp only at hf
    split at hf
    case h_2 => cases hf
    rename_i y x st0
    obtain ⟨y', t, rfl, gy, gS1⟩ := sx_gS_cons gS
    obtain ⟨x', t2, rfl, gx, gS2⟩ := sx_gS_cons gS1
    refine sx_fork_ok2 hf gL gS2 gH (fun bs hb => ?_)
    obtain ⟨a, b, rfl, rfl, q, hq, gq, hh⟩ := sx_br_ok gB hb gx gy
    have hh := hh.trans sx_hp_iff
    cases c
    · exact ⟨a = b, inferInstance, rfl, q, hq, gq, hh⟩
    · exact ⟨¬ a = b, inferInstance, rfl, q, hq, gq, hh⟩
    · exact ⟨a < b, inferInstance, rfl, q, hq, gq, hh⟩
    · exact ⟨b ≤ a, inferInstance, rfl, q, hq, gq, hh⟩
    · exact ⟨b < a, inferInstance, rfl, q, hq, gq, hh⟩
    · exact ⟨a ≤ b, inferInstance, rfl, q, hq, gq, hh⟩
  | ifnull off =>
    cases hs
    simp only at hf
    split at hf
    · rename_i a st0
      obtain ⟨w, t, rfl, gv, gS1⟩ := sx_gS_cons gS
      cases h7 : Nat.beq a 7 with
      | true => rw [h7] at hf; cases hf
      | false =>
        rw [h7] at hf
        cases hf
        rcases gv with rfl | ⟨e, -⟩
        · exact sx_one_ok rfl gB gL gS1 gH
        · exact absurd e (sx_beq_neg h7)
    · rename_i st0
      obtain ⟨w, t, rfl, gv, gS1⟩ := sx_gS_cons gS
      cases hj : sx_jump pc off with
      | false => rw [hj] at hf; cases hf
      | true =>
        rw [hj] at hf
        cases hf
        rw [show w = .null from gv]
        exact sx_one_ok (by simp only [am_s, sx_jump_ok hj]) gB gL gS1 gH
    · cases hf
  | ifnonnull off =>
    cases hs
    simp only at hf
    split at hf
    · rename_i st0
      obtain ⟨w, t, rfl, gv, gS1⟩ := sx_gS_cons gS
      cases hf
      rw [show w = .null from gv]
      exact sx_one_ok rfl gB gL gS1 gH
    · rename_i a st0
      obtain ⟨w, t, rfl, gv, gS1⟩ := sx_gS_cons gS
      cases h7 : Nat.beq a 7 with
      | true => rw [h7] at hf; cases hf
      | false =>
        rw [h7] at hf
        cases hj : sx_jump pc off with
        | false => rw [hj] at hf; cases hf
        | true =>
          rw [hj] at hf
          cases hf
          rcases gv with rfl | ⟨e, -⟩
          · exact sx_one_ok (by simp only [am_s, sx_jump_ok hj]) gB gL gS1 gH
          · exact absurd e (sx_beq_neg h7)
    · cases hf
  | tableswitch dflt lo hi offs =>
    cases hs
    simp only at hf
    split at hf
    case h_2 => cases hf
    rename_i x st0
    obtain ⟨x', t, rfl, gx, gS1⟩ := sx_gS_cons gS
    split at hf
    case h_2 =>
      split at hf
      case h_2 => cases hf
      rename_i p hp
      obtain ⟨n, rfl, n1, n2⟩ := sx_g_int gB gx hp
      cases hr : ((sx_le (Int.add p.2 1) lo || sx_le (Int.add hi 1) p.1) && sx_jump pc dflt) with
      | false => rw [hr] at hf; cases hf
      | true =>
        rw [hr] at hf
        cases hf
        rw [Bool.and_eq_true, Bool.or_eq_true, sx_le_iff, sx_le_iff] at hr
        have a1 : Int.add p.2 1 = p.2 + 1 := rfl
        have a2 : Int.add hi 1 = hi + 1 := rfl
        refine sx_one_ok ?_ gB gL gS1 gH
        have e1 : n.toInt < lo ∨ hi < n.toInt := by omega
        simp only [am_s, if_pos e1, sx_jump_ok hr.2]
    rename_i c hc
    obtain ⟨n, rfl, hn⟩ := sx_g_con gB gx hc
    cases hr : (sx_le lo c && sx_le c hi) with
    | true =>
      simp only [hr, cond_true] at hf
      rw [Bool.and_eq_true, sx_le_iff, sx_le_iff] at hr
      split at hf
      case h_2 => cases hf
      rename_i off hoff
      cases hj : sx_jump pc off with
      | false => rw [hj] at hf; cases hf
      | true =>
        rw [hj] at hf
        cases hf
        refine sx_one_ok ?_ gB gL gS1 gH
        have e1 : ¬ (n.toInt < lo ∨ hi < n.toInt) := by omega
        have e2 : offs[(n.toInt - lo).toNat]? = some off := by
          rw [hn, ← Array.getElem?_toList]
          exact hoff
        simp only [am_s, if_neg e1, e2, sx_jump_ok hj]
    | false =>
      simp only [hr, cond_false] at hf
      cases hj : sx_jump pc dflt with
      | false => rw [hj] at hf; cases hf
      | true =>
        rw [hj] at hf
        cases hf
        refine sx_one_ok ?_ gB gL gS1 gH
        have e1 : n.toInt < lo ∨ hi < n.toInt := by
          rw [Bool.and_eq_false_iff] at hr
          rcases hr with hr | hr
          · have := sx_le_neg hr; omega
          · have := sx_le_neg hr; omega
        simp only [am_s, if_pos e1, sx_jump_ok hj]
  | getfield i =>
    cases hs
    simp only at hf
    split at hf
    case h_2 => cases hf
    rename_i a st0
    obtain ⟨w, t, rfl, gv, gS1⟩ := sx_gS_cons gS
    cases ha : Nat.blt a 16 with
    | true =>
      have ha' := sx_blt.mp ha
      simp only [ha, cond_true] at hf
      cases hb : (Nat.ble 8 a && Nat.blt a 12) with
      | false => simp only [hb, cond_false] at hf; cases hf
      | true =>
        simp only [hb, cond_true] at hf
        rw [Bool.and_eq_true, sx_ble, sx_blt] at hb
        have ew := sx_refv gv (by omega)
        subst ew
        have hlen := gK.2.2.1
        have hcond : 8 ≤ a ∧ a < 12 ∧ a - 8 < cst.2.1.length := ⟨hb.1, hb.2, by omega⟩
        cases h1 : sx_eq X.2.2 1 with
        | true =>
          simp only [h1, cond_true] at hf
          have e1 := sx_eq_iff.mp h1
          refine sx_psh_ok hf gB gL gS1 gH (fun v hv => ?_)
          cases hv
          exact ⟨.ref (a + 4), Or.inl rfl, by simp only [am_s, if_pos ha', if_pos hcond, if_pos e1]⟩
        | false =>
          simp only [h1, cond_false] at hf
          have e1 : ¬ X.2.2 = 1 := fun e => by
            rw [sx_eq_iff.mpr e] at h1
            cases h1
          cases h2 : sx_eq X.2.2 2 with
          | false => simp only [h2, cond_false] at hf; cases hf
          | true =>
            simp only [h2, cond_true] at hf
            have e2 := sx_eq_iff.mp h2
            refine sx_psh_ok hf gB gL gS1 gH (fun v hv => ?_)
            cases hv
            exact ⟨.int 0, ⟨0, rfl, rfl⟩, by simp only [am_s, if_pos ha', if_pos hcond, if_neg e1, if_pos e2]⟩
    | false =>
      have ha' := sx_blt_neg ha
      simp only [ha, cond_false] at hf
      have ew := sx_refv gv (by omega)
      subst ew
      split at hf
      case h_2 => cases hf
      rename_i e he
      obtain ⟨ci, ov, bs⟩ := e
      obtain ⟨x, hx, gx⟩ := gH.2.2.1 _ _ he
      obtain ⟨fs, rfl, hlen, hfs⟩ := gx
      cases hc : (Nat.beq ci X.1 && sx_eq X.2.2 0) with
      | false => simp only [hc, cond_false] at hf; cases hf
      | true =>
        simp only [hc, cond_true] at hf
        rw [Bool.and_eq_true, sx_beqn, sx_eq_iff] at hc
        refine sx_psh_ok hf gB gL gS1 gH (fun v hv => ?_)
        obtain ⟨w, hw, gw⟩ := hfs _ v hv
        exact ⟨w, gw, by simp only [am_s, if_neg ha', hx, if_pos hc, hw]⟩
  | putfield i =>
    cases hs
    simp only at hf
    split at hf
    case h_2 => cases hf
    rename_i v a st0
    obtain ⟨w, t, rfl, gv, gS1⟩ := sx_gS_cons gS
    obtain ⟨r, t2, rfl, ga, gS2⟩ := sx_gS_cons gS1
    cases ha : Nat.blt a 16 with
    | true => simp only [ha, cond_true] at hf; cases hf
    | false =>
      have ha' := sx_blt_neg ha
      simp only [ha, cond_false] at hf
      have ew := sx_refv ga (by omega)
      subst ew
      split at hf
      case h_2 => cases hf
      rename_i e he
      obtain ⟨ci, ov, bs⟩ := e
      obtain ⟨x, hx, gx⟩ := gH.2.2.1 _ _ he
      obtain ⟨fs, rfl, hlen, hfs⟩ := gx
      cases hc : Nat.beq ci X.1 with
      | false => simp only [hc, cond_false] at hf; cases hf
      | true =>
        simp only [hc, cond_true] at hf
        have ec := sx_beqn.mp hc
        split at hf
        case h_2 => cases hf
        rename_i ty hty
        cases hfit : sx_fit ty B v with
        | false => simp only [hfit, cond_false] at hf; cases hf
        | true =>
          simp only [hfit, cond_true] at hf
          cases hf
          have hl : X.2.1 < fs.length := by
            rw [hlen]
            exact (List.getElem?_eq_some_iff.mp hty).1
          have hgd : (tt.getD ci []).getD X.2.1 .char = ty := by
            rw [List.getD_eq_getElem?_getD, hty]
            rfl
          refine sx_one_ok (k1 := h'.set (a - 16) (.inr (ci, fs.set X.2.1 w))) ?_ gB gL gS2 (sx_gH_set gH he ?_)
          · simp only [am_s, if_neg ha', hx, if_pos (And.intro ec hl), hgd, sx_fit_ok gB hfit gv, if_true]
          · refine ⟨fs.set X.2.1 w, rfl, by rw [List.length_set]; exact hlen, fun j v' hv' => ?_⟩
            rw [sx_fld_put] at hv'
            by_cases ej : j = X.2.1
            · rw [if_pos ej] at hv'
              cases hv'
              rw [ej]
              exact ⟨w, List.getElem?_set_self hl, gv⟩
            · rw [if_neg ej] at hv'
              obtain ⟨w', hw', gw'⟩ := hfs j v' hv'
              exact ⟨w', by rw [List.getElem?_set_ne (Ne.symm ej)]; exact hw', gw'⟩
  | arraylength =>
    cases hs
    simp only at hf
    split at hf
    case h_2 => cases hf
    rename_i a st0
    obtain ⟨w, t, rfl, gv, gS1⟩ := sx_gS_cons gS
    obtain ⟨k1, ⟨S, s1, sK⟩, -, -⟩ := gK
    cases ha : Nat.blt a 16 with
    | true =>
      have ha' := sx_blt.mp ha
      simp only [ha, cond_true] at hf
      cases h4 : Nat.beq a 4 with
      | true =>
        have e4 := sx_beqn.mp h4
        subst e4
        simp only [h4, cond_true] at hf
        have ew := sx_refv gv (by decide)
        subst ew
        split at hf
        case h_2 => cases hf
        rename_i p7 hp7
        cases h70 : sx_le 0 p7.1 with
        | false => rw [h70] at hf; cases hf
        | true =>
        rw [h70] at hf
        simp only [cond_true] at hf
        have b7 := gB 7 p7 hp7
        have h70 := sx_le_iff.mp h70
        obtain ⟨s2, s3, s4⟩ := sK (by omega)
        refine sx_psh_ok hf gB gL gS1 gH (fun v hv => ?_)
        cases hv
        have el : (Int32.ofNat S.length).toInt = (S.length : Int) := sx_ofNat (by omega)
        refine ⟨.int (Int32.ofNat S.length), ⟨_, rfl, ?_, ?_, fun k c hk => ?_⟩, ?_⟩
        · rw [el]; omega
        · rw [el]
          have : sx_max = 2147483647 := rfl
          omega
        · cases hk
          rw [el]
          omega
        · have e12 : ¬ 12 ≤ 4 := by decide
          simp only [am_s, if_pos ha', if_neg e12, s1]
      | false =>
        simp only [h4, cond_false] at hf
        split at hf
        case h_2 => cases hf
        rename_i r hr
        cases hb : Nat.ble r.length 60000000 with
        | false => simp only [hb, cond_false] at hf; cases hf
        | true =>
          simp only [hb, cond_true] at hf
          have hb' := sx_ble.mp hb
          have fin : ∀ L : List Int32, L.map Int32.toInt = r → sx_g ρ (sx_c (.ofNat r.length)) (.int (Int32.ofNat L.length)) := by
            intro L e
            have : L.length = r.length := by rw [← e, List.length_map]
            rw [this]
            exact ⟨_, rfl, sx_ofNat hb'⟩
          refine sx_psh_ok hf gB gL gS1 gH (fun v hv => ?_)
          cases hv
          obtain ⟨-, ⟨l8, L, e, em⟩ | ⟨l12, L, e, em⟩⟩ := k1 a r hr
          · rcases gv with rfl | ⟨e7, rfl⟩
            · have e12 : ¬ 12 ≤ a := by omega
              exact ⟨_, fin L em, by simp only [am_s, if_pos ha', if_neg e12, e]⟩
            · omega
          · have ew := sx_refv gv (by omega)
            subst ew
            exact ⟨_, fin L em, by simp only [am_s, if_pos ha', if_pos l12, e]⟩
    | false =>
      have ha' := sx_blt_neg ha
      simp only [ha, cond_false] at hf
      have ew := sx_refv gv (by omega)
      subst ew
      split at hf
      case h_2 => cases hf
      rename_i e he
      obtain ⟨ty, n, d, ov⟩ := e
      obtain ⟨x, hx, gx⟩ := gH.2.2.1 _ _ he
      obtain ⟨c, rfl, -⟩ := gx
      cases hb : Nat.ble n 60000000 with
      | false => simp only [hb, cond_false] at hf; cases hf
      | true =>
        simp only [hb, cond_true] at hf
        refine sx_psh_ok hf gB gL gS1 gH (fun v hv => ?_)
        cases hv
        exact ⟨.int (Int32.ofNat n), ⟨_, rfl, sx_ofNat (sx_ble.mp hb)⟩, by simp only [am_s, if_neg ha', hx]⟩
  | iaload =>
    cases hs
    refine sx_aload_ok hf gB gL gS gH (fun i => ?_) (fun a i v i' t ha hv gi => ?_) (fun a e x i t ha hfe hx gx hi hlt => ?_)
    · show sx_low K B 7 i = none
      cases h7 : sx_get 7 K with
      | none => simp only [sx_low, h7]; rfl
      | some r =>
        obtain ⟨-, ⟨l4, -⟩ | ⟨l12, -⟩⟩ := gK.1 7 r h7 <;> omega
    · cases h8 : Nat.blt a 8 with
      | false => rw [h8] at hv; cases hv
      | true =>
        rw [h8] at hv
        have h8' := sx_blt.mp h8
        obtain ⟨x, L, rfl, hL, hx, g⟩ := sx_low_ok gK gB hv gi
        rcases hL with ⟨-, e⟩ | ⟨e12, -⟩
        · exact ⟨_, g, by simp only [am_s, if_pos ha, e, if_neg hx]⟩
        · omega
    · obtain ⟨ty, n, d, ov⟩ := e
      obtain ⟨c, rfl, hc⟩ := gx
      cases ty <;> simp only [sx_tI, Bool.false_eq_true] at hfe
      obtain ⟨f, rfl, hf'⟩ := hc
      exact ⟨_, hf' _ hlt, by simp only [am_s, if_neg ha, hx, if_neg hi]⟩
  | laload =>
    cases hs
    refine sx_aload_ok hf gB gL gS gH (fun i => rfl) (fun a i v i' t ha hv gi => by cases hv) (fun a e x i t ha hfe hx gx hi hlt => ?_)
    obtain ⟨ty, n, d, ov⟩ := e
    obtain ⟨c, rfl, hc⟩ := gx
    cases ty <;> simp only [sx_tJ, Bool.false_eq_true] at hfe
    obtain ⟨f, rfl, hf'⟩ := hc
    exact ⟨_, hf' _ hlt, by simp only [am_s, if_neg ha, hx, if_neg hi]⟩
  | baload =>
    cases hs
    refine sx_aload_ok hf gB gL gS gH (fun i => rfl) (fun a i v i' t ha hv gi => ?_) (fun a e x i t ha hfe hx gx hi hlt => ?_)
    · cases h12 : Nat.ble 12 a with
      | false => rw [h12] at hv; cases hv
      | true =>
        rw [h12] at hv
        have h12' := sx_ble.mp h12
        obtain ⟨x, L, rfl, hL, hx, g⟩ := sx_low_ok gK gB hv gi
        rcases hL with ⟨e8, -⟩ | ⟨-, e⟩
        · omega
        · exact ⟨_, g, by simp only [am_s, if_pos ha, if_pos h12', e, if_neg hx]⟩
    · obtain ⟨ty, n, d, ov⟩ := e
      obtain ⟨c, rfl, hc⟩ := gx
      cases ty <;> simp only [sx_tB, Bool.false_eq_true] at hfe
      · obtain ⟨f, rfl, hf'⟩ := hc
        exact ⟨_, hf' _ hlt, by simp only [am_s, if_neg ha, hx, if_neg hi]⟩
      · obtain ⟨f, rfl, hf'⟩ := hc
        exact ⟨_, hf' _ hlt, by simp only [am_s, if_neg ha, hx, if_neg hi]⟩
  | iastore =>
    cases hs
    refine sx_astore_ok hf gB gL gS gH (fun a e x v v1 w i t ha hfe hx gx hg gv hi hlt => ?_)
    obtain ⟨ty, n, d, ov⟩ := e
    obtain ⟨c, rfl, hc⟩ := gx
    cases ty <;> simp only [sx_tI, Bool.false_eq_true] at hfe
    obtain ⟨f, rfl, hf'⟩ := hc
    cases hv : sx_isI v with
    | false => simp only [hv, cond_false] at hg; cases hg
    | true =>
      simp only [hv, cond_true] at hg
      cases hg
      obtain ⟨z, rfl⟩ := sx_g_isI gv hv
      obtain ⟨r1, r2⟩ := sx_rowI (j := i.toNatClampNeg) hf' gv
      exact ⟨_, by simp only [am_s, if_neg ha, hx, if_neg hi], ⟨_, rfl, _, rfl, r1⟩, fun e1 e2 _ => ⟨_, rfl, _, rfl, r2 e1 e2⟩⟩
  | lastore =>
    cases hs
    refine sx_astore_ok hf gB gL gS gH (fun a e x v v1 w i t ha hfe hx gx hg gv hi hlt => ?_)
    obtain ⟨ty, n, d, ov⟩ := e
    obtain ⟨c, rfl, hc⟩ := gx
    cases ty <;> simp only [sx_tJ, Bool.false_eq_true] at hfe
    obtain ⟨f, rfl, hf'⟩ := hc
    cases hv : sx_isJ v with
    | false => simp only [hv, cond_false] at hg; cases hg
    | true =>
      simp only [hv, cond_true] at hg
      cases hg
      obtain ⟨z, rfl⟩ := sx_g_isJ gv hv
      exact ⟨_, by simp only [am_s, if_neg ha, hx, if_neg hi], ⟨_, rfl, _, rfl, sx_rowJ hf' gv⟩, fun _ _ e3 => by
        obtain ⟨n, e⟩ := sx_g_isI gv e3
        cases e⟩
  | bastore =>
    cases hs
    refine sx_astore_ok hf gB gL gS gH (fun a e x v v1 w i t ha hfe hx gx hg gv hi hlt => ?_)
    obtain ⟨ty, n, d, ov⟩ := e
    obtain ⟨c, rfl, hc⟩ := gx
    obtain ⟨z, rfl, gz⟩ := sx_nar_ok gB hg gv
    cases ty <;> simp only [sx_tB, Bool.false_eq_true] at hfe
    · obtain ⟨f, rfl, hf'⟩ := hc
      obtain ⟨r1, r2⟩ := sx_rowI (j := i.toNatClampNeg) hf' gz
      exact ⟨_, by simp only [am_s, if_neg ha, hx, if_neg hi], ⟨_, rfl, _, rfl, r1⟩, fun e1 e2 _ => ⟨_, rfl, _, rfl, r2 e1 e2⟩⟩
    · obtain ⟨f, rfl, hf'⟩ := hc
      obtain ⟨r1, r2⟩ := sx_rowI (j := i.toNatClampNeg) hf' gz
      exact ⟨_, by simp only [am_s, if_neg ha, hx, if_neg hi], ⟨_, rfl, _, rfl, r1⟩, fun e1 e2 _ => ⟨_, rfl, _, rfl, r2 e1 e2⟩⟩
  | _ => cases hs
end SX4
