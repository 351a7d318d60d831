/-! loads of rows, and all instructions of the linear machine -/
section LY7
variable {cst : am_K} {cl : List vw_C} {tt : List (List FieldType)} {TH : List (List ly_T)} {mods : List Nat} {K : sx_K} {ν : ly_N} {I : Instr} {X : am_X} {pc pc1 : Nat} {Z : ly_Z} {l l1 : ly_L} {l' : am_L} {st : List ly_V} {st' : List Value} {h' : am_H} {ss : List ly_S}
theorem ly_rmin_le {c : Int} : ∀ {r : List Int}, c ∈ r → ly_rmin r ≤ c ∧ c ≤ ly_rmax r
  | [], hc => by cases hc
  | a :: r, hc => by
    unfold ly_rmin ly_rmax
    have e1 : sx_mn a (ly_rmin r) ≤ a ∧ sx_mn a (ly_rmin r) ≤ ly_rmin r := by
      unfold sx_mn
      cases hh : sx_le a (ly_rmin r) with
      | true => exact ⟨Int.le_refl _, sx_le_iff.mp hh⟩
      | false => exact ⟨Int.le_of_lt (sx_le_neg hh), Int.le_refl _⟩
    have e2 : a ≤ sx_mx a (ly_rmax r) ∧ ly_rmax r ≤ sx_mx a (ly_rmax r) := by
      unfold sx_mx
      cases hh : sx_le a (ly_rmax r) with
      | true => exact ⟨sx_le_iff.mp hh, Int.le_refl _⟩
      | false => exact ⟨Int.le_refl _, Int.le_of_lt (sx_le_neg hh)⟩
    rcases List.mem_cons.mp hc with rfl | hc
    · exact ⟨e1.1, e2.1⟩
    · have := ly_rmin_le hc
      omega
theorem ly_hv_len {L : List Int32} (hL : cst.1[4]? = some L) : ly_hv cst h' 60000 0 = some (L.length : Int) := by
  rw [ly_hv0 (by decide)]
  unfold ly_h0 ly_hk
  rw [hL]
  simp
theorem ly_hv_elt {L : List Int32} (hL : cst.1[4]? = some L) {k : Nat} (hk : k < L.length) : ly_hv cst h' 60001 (k : Int) = some (L.getD k 0).toInt := by
  have e : L[k]? = some (L.getD k 0) := by rw [List.getD_eq_getElem?_getD, List.getElem?_eq_getElem hk]; rfl
  rw [ly_hv0 (by decide)]
  unfold ly_h0 ly_hk
  rw [hL]
  simp only [Int.toNat_natCast, e]
  simp
theorem ly_low_ok {a : Nat} {i : ly_V} {i' : Value} {st1 : List Value} (hf : ly_low K a i Z pc1 l st = some ss) (gC : ly_gC K cst) (gZ : ly_gZ cst ν Z h') (gL : ly_gL ν h'.length l l') (gi : ly_g ν h'.length i i') (gS : ly_gS ν h'.length st st1) (hy : ly_hy tt TH h')
    (kl : ∀ (x : Int32) (L : List Int32), i' = .int x → ((a < 8 ∧ cst.1[a]? = some L) ∨ (12 ≤ a ∧ a < 16 ∧ cst.2.1[a - 12]? = some L)) → ¬ (x < 0 ∨ L.length ≤ x.toNatClampNeg) → am_s cst cl tt I X pc l' st' h' = some (pc1, l', .int (L.getD x.toNatClampNeg 0) :: st1, h')) : ly_ok1 cst cl tt TH mods ν I X pc l' st' h' ss := by
  obtain ⟨k1, ⟨S, s1, s2⟩, -, -⟩ := gC
  unfold ly_low at hf
  cases ha : Nat.beq a 4 with
  | true =>
    have ea := sx_beqn.mp ha
    subst ea
    rw [ha] at hf
    simp only [cond_true] at hf
    split at hf
    case h_2 => cases hf
    rename_i n e hn
    cases hc : (ly_gs Z.2.1 Z.2.2.1 e && ly_gs Z.2.1 Z.2.2.1 (ly_add (-1, []) (ly_sub n e))) with
    | false => rw [hc] at hf; cases hf
    | true =>
      rw [hc] at hf
      simp only [cond_true] at hf
      rw [Bool.and_eq_true] at hc
      obtain ⟨i0, v0, e1, e2, e3⟩ := gZ.2.2.2 _ (ly_kget_mem hn)
      simp only at e1 e2 e3
      rw [ly_ev_c] at e1
      cases e1
      rw [ly_hv_len s1] at e3
      cases e3
      obtain ⟨x, rfl, ex⟩ := gi
      have b1 := ly_gs_ok gZ.2.1 gZ.2.2.1 hc.1 ex
      have b2 := ly_gs_ok gZ.2.1 gZ.2.2.1 hc.2 (ly_add_ok (ly_ev_c ν _) (ly_sub_ok e2 ex))
      have en : x.toNatClampNeg = x.toInt.toNat := rfl
      have hlt : x.toNatClampNeg < S.length := by rw [en]; omega
      have hneg : ¬ (x < 0 ∨ S.length ≤ x.toNatClampNeg) := by
        rintro (hq | hq)
        · have := Int32.lt_iff_toInt_lt.mp hq
          have z : (0 : Int32).toInt = 0 := rfl
          omega
        · omega
      refine ly_rd_ok (zi := (x.toNatClampNeg : Int)) (x := S.getD x.toNatClampNeg 0) hf gZ gL gS hy (by rw [ex, en]; congr 1; omega) (ly_hv_elt s1 hlt) (ly_top _).1 (ly_top _).2 (kl x S rfl (Or.inl ⟨by omega, s1⟩) hneg)
  | false =>
    rw [ha] at hf
    simp only [cond_false] at hf
    split at hf
    case h_2 => cases hf
    rename_i r hr
    split at hf
    case h_2 => cases hf
    rename_i e he
    obtain ⟨rfl, x, rfl, hneg, hlt, ex⟩ := ly_idx_ok gZ gi he
    have key : ∃ L : List Int32, ((a < 8 ∧ cst.1[a]? = some L) ∨ (12 ≤ a ∧ a < 16 ∧ cst.2.1[a - 12]? = some L)) ∧ L.map Int32.toInt = r := by
      obtain ⟨-, ⟨l4, L, e, em⟩ | ⟨l12, l16, L, e, em⟩⟩ := k1 a r hr
      · exact ⟨L, Or.inl ⟨by omega, e⟩, em⟩
      · exact ⟨L, Or.inr ⟨l12, l16, e⟩, em⟩
    obtain ⟨L, hL, em⟩ := key
    have hll : L.length = r.length := by rw [← em, List.length_map]
    have e0 := kl x L rfl hL (by rw [hll]; exact hneg)
    have er : r[x.toNatClampNeg]? = some (L.getD x.toNatClampNeg 0).toInt := by
      rw [← em, List.getElem?_map, List.getD_eq_getElem?_getD, List.getElem?_eq_getElem (by omega)]
      rfl
    split at hf
    · rename_i j hj
      have := ly_con_ok gZ.2.1 hj
      rw [ex] at this
      have ej : x.toNatClampNeg = j := by
        simp only [Option.some.injEq] at this
        have h2 : ((x.toNatClampNeg : Nat) : Int) = (j : Int) := this
        omega
      split at hf
      case h_2 => cases hf
      rename_i c hc
      rw [← ej, er] at hc
      cases hc
      refine ly_psh_ok hf gZ gL gS hy (fun q hq => ?_)
      cases hq
      exact ⟨_, ⟨_, rfl, ly_ev_c ν _⟩, e0⟩
    · refine ly_psh_ok hf gZ gL gS hy (fun q hq => ?_)
      cases hq
      exact ⟨_, ⟨_, rfl, ly_rmin_le (List.mem_of_getElem? er)⟩, e0⟩
theorem ly_rload_ok {f : FieldType → Bool} {lows : Nat → Bool} (hf : ly_rload f K lows TH Z pc l st = some ss) (gC : ly_gC K cst) (gZ : ly_gZ cst ν Z h') (gL : ly_gL ν h'.length l l') (gS : ly_gS ν h'.length st st') (hy : ly_hy tt TH h')
    (hft : ∀ ty, f ty = true → ty = .int ∨ ty = .byte ∨ ty = .boolean)
    (h7 : lows 7 = true → sx_get 7 K = none)
    (kl : ∀ (a : Nat) (x : Int32) (L : List Int32) t, st' = .int x :: .ref a :: t → a < 16 → lows a = true → ((a < 8 ∧ cst.1[a]? = some L) ∨ (12 ≤ a ∧ a < 16 ∧ cst.2.1[a - 12]? = some L)) → ¬ (x < 0 ∨ L.length ≤ x.toNatClampNeg) → am_s cst cl tt I X pc l' st' h' = some (pc + 1, l', .int (L.getD x.toNatClampNeg 0) :: t, h'))
    (kh : ∀ (a : Nat) (ty : FieldType) (n : Nat) (f0 : Nat → Int32) (x : Int32) t, st' = .int x :: .ref (16 + a) :: t → f ty = true → h'[a]? = some (.inl (ty, n, .inl f0)) → ¬ (x < 0 ∨ n ≤ x.toNatClampNeg) → am_s cst cl tt I X pc l' st' h' = some (pc + 1, l', .int (f0 x.toNatClampNeg) :: t, h')) : ly_ok1 cst cl tt TH mods ν I X pc l' st' h' ss := by
  unfold ly_rload at hf
  split at hf
  case h_2 => cases hf
  rename_i i v st0
  obtain ⟨i', t1, e1, gi, gS1⟩ := ly_gS_cons gS
  obtain ⟨w, t2, e2, gv, gS2⟩ := ly_gS_cons gS1
  have row : ∀ {oc ty n lo hi}, ly_row f TH v = some (oc, ty, n, lo, hi) → (oc = none → ∃ (j z : Nat) (x : ly_e), v = .inr (.inr (.inr (j, x))) ∧ j < 19 ∧ ly_ev ν x = some (z : Int) ∧ w = .ref (16 + (177 + 19 * z + j))) ∧ f ty = true ∧ ∃ (a : Nat) (f0 : _), w = .ref (16 + a) ∧ h'[a]? = some (.inl (ty, n, .inl f0)) ∧ (∀ j, j < n → lo ≤ (f0 j).toInt ∧ (f0 j).toInt ≤ hi) ∧ ∀ c0, oc = some c0 → c0 = a ∧ a < 177 := by
    intro oc ty n lo hi hr
    obtain ⟨hty, a, c, ew, hx, gT, -, h1, h2⟩ := ly_row_ok hy gv hr
    obtain ⟨c', ec, gc⟩ := gT
    cases ec
    have h3 : oc = none → ∃ (j z : Nat) (x : ly_e), v = .inr (.inr (.inr (j, x))) ∧ j < 19 ∧ ly_ev ν x = some (z : Int) ∧ w = .ref (16 + (177 + 19 * z + j)) := fun q => by
      obtain ⟨j, z, x, t1, t2, t3, t4⟩ := h2 q
      exact ⟨j, z, x, t1, t2, t3, by rw [ew, t4]⟩
    rcases hft ty hty with rfl | rfl | rfl <;> (obtain ⟨f0, rfl, b⟩ := gc; exact ⟨h3, hty, a, f0, ew, hx, b, h1⟩)
  split at hf
  · rename_i c ty n p hr
    obtain ⟨-, hty, a, f0, ew, hx, b, h1⟩ := row (lo := p.1) (hi := p.2) hr
    obtain ⟨rfl, hlt⟩ := h1 c rfl
    split at hf
    case h_2 => cases hf
    rename_i e he
    obtain ⟨rfl, x, ei, hneg, hxn, ex⟩ := ly_idx_ok gZ gi he
    have bb := b _ hxn
    refine ly_rd_ok (zi := (x.toNatClampNeg : Int)) (x := f0 x.toNatClampNeg) hf gZ gL gS2 hy ex ?_ bb.1 bb.2 (kh c ty n f0 x t2 (by rw [e1, ei, e2, ew]) hty hx hneg)
    have := ly_h0_of1 (cst := cst) (h := h') (c := c) (k := 0) (i := (x.toNatClampNeg : Int)) hlt (by decide)
    rw [Nat.add_zero] at this
    have hl2 : c < 177 := hlt
    have hq : 256 * c < 60010 := by omega
    rw [ly_hv0 hq, this, hx]
    simp only [ly_hs, Int.toNat_natCast]
    rw [if_pos ⟨trivial, Int.natCast_nonneg _, hxn⟩]
  · rename_i ty n p hr
    obtain ⟨h3, hty, a, f0, ew, hx, b, -⟩ := row (lo := p.1) (hi := p.2) hr
    obtain ⟨j, z, xe, rfl, hj, ez, ew2⟩ := h3 rfl
    have ea : a = 177 + 19 * z + j := by
      have q : 16 + a = 16 + (177 + 19 * z + j) := Value.ref.inj (ew.symm.trans ew2)
      omega
    subst ea
    split at hf
    case h_2 => cases hf
    rename_i e he
    obtain ⟨rfl, x, ei, hneg, hxn, ex⟩ := ly_idx_ok gZ gi he
    split at hf
    case h_2 => cases hf
    rename_i r0 ix hmr
    obtain ⟨j0, hn, rfl, eix⟩ := ly_mr_ok hmr ez ex
    have bb := b _ hxn
    refine ly_rd_ok (zi := 32 * (z : Int) + (x.toNatClampNeg : Int)) (x := f0 x.toNatClampNeg) hf gZ gL gS2 hy eix ?_ bb.1 bb.2 (kh (177 + 19 * z + j) ty n f0 x t2 (by rw [e1, ei, e2, ew]) hty hx hneg)
    rw [ly_hv0 (by omega), ly_h0_a hj j0 (by omega) hx]
    simp only [ly_hs, Int.toNat_natCast]
    rw [if_pos ⟨trivial, Int.natCast_nonneg _, hxn⟩]
  · split at hf
    case h_2 => cases hf
    rename_i a hrow
    cases hc : (Nat.blt a 16 && lows a) with
    | false => rw [hc] at hf; cases hf
    | true =>
      rw [hc] at hf
      simp only [cond_true] at hf
      rw [Bool.and_eq_true, sx_blt] at hc
      by_cases e7 : a = 7
      · subst e7
        unfold ly_low at hf
        rw [h7 hc.2] at hf
        cases hf
      · have ew := ly_g_ref gv e7
        exact ly_low_ok hf gC gZ gL gi gS2 hy (fun x L ei hL hneg => kl a x L t2 (by rw [e1, ei, e2, ew]) hc.1 hc.2 hL hneg)
theorem ly_nar_b (x : Int32) : (-128 : Int) ≤ (vp_nar .byte x).toInt ∧ (vp_nar .byte x).toInt ≤ 127 := (ly_i2b_r x).1
theorem ly_nar_z (x : Int32) : (0 : Int) ≤ (vp_nar .boolean x).toInt ∧ (vp_nar .boolean x).toInt ≤ 1 := by
  have e : vp_nar .boolean x = x &&& 1 := rfl
  rw [e, Int32.and_comm]
  have := ly_and_le (x := 1) (y := x) (by decide)
  have e1 : (1 : Int32).toInt = 1 := rfl
  omega
/-- a write to a row of ints -/
theorem ly_h0_row {a n j : Nat} {ty : FieldType} {f0 : Nat → Int32} {x : Int32} (hlt : a < 177) (hx : h'[a]? = some (.inl (ty, n, .inl f0))) (hj : j < n) :
    ly_h0 cst (h'.set a (.inl (ty, n, .inl (upd f0 j x)))) (256 * a) (j : Int) = some x.toInt ∧ ∀ r' i', r' ≠ 256 * a ∨ i' ≠ (j : Int) → ly_h0 cst (h'.set a (.inl (ty, n, .inl (upd f0 j x)))) r' i' = ly_h0 cst h' r' i' := by
  have hl := (List.getElem?_eq_some_iff.mp hx).1
  refine ⟨?_, fun r' i' hr => ?_⟩
  · have := ly_h0_of1 (cst := cst) (h := h'.set a (.inl (ty, n, .inl (upd f0 j x)))) (c := a) (k := 0) (i := (j : Int)) hlt (by decide)
    rw [Nat.add_zero] at this
    rw [this, List.getElem?_set_self hl]
    simp only [ly_hs, Int.toNat_natCast]
    rw [if_pos ⟨trivial, Int.natCast_nonneg _, hj⟩]
    simp [upd]
  · refine ly_h0_set1 hlt hx (fun er => ?_)
    simp only [ly_hs]
    by_cases hc : r' % 256 = 0 ∧ 0 ≤ i' ∧ i'.toNat < n
    · rw [if_pos hc, if_pos hc]
      have : i'.toNat ≠ j := by
        rcases hr with hr | hr
        · omega
        · omega
      unfold upd
      rw [if_neg this]
    · rw [if_neg hc, if_neg hc]
theorem ly_h0_rowj {a n j : Nat} {ty : FieldType} {f0 : Nat → Int64} {x : Int64} (hlt : a < 177) (hx : h'[a]? = some (.inl (ty, n, .inr (.inl f0)))) (hj : j < n) :
    ly_h0 cst (h'.set a (.inl (ty, n, .inr (.inl (vp_updL f0 j x))))) (256 * a) (j : Int) = some x.toInt ∧ ∀ r' i', r' ≠ 256 * a ∨ i' ≠ (j : Int) → ly_h0 cst (h'.set a (.inl (ty, n, .inr (.inl (vp_updL f0 j x))))) r' i' = ly_h0 cst h' r' i' := by
  have hl := (List.getElem?_eq_some_iff.mp hx).1
  refine ⟨?_, fun r' i' hr => ?_⟩
  · have := ly_h0_of1 (cst := cst) (h := h'.set a (.inl (ty, n, .inr (.inl (vp_updL f0 j x))))) (c := a) (k := 0) (i := (j : Int)) hlt (by decide)
    rw [Nat.add_zero] at this
    rw [this, List.getElem?_set_self hl]
    simp only [ly_hs, Int.toNat_natCast]
    rw [if_pos ⟨trivial, Int.natCast_nonneg _, hj⟩]
    simp [vp_updL]
  · refine ly_h0_set1 hlt hx (fun er => ?_)
    simp only [ly_hs]
    by_cases hc : r' % 256 = 0 ∧ 0 ≤ i' ∧ i'.toNat < n
    · rw [if_pos hc, if_pos hc]
      have : i'.toNat ≠ j := by
        rcases hr with hr | hr
        · omega
        · omega
      unfold vp_updL
      rw [if_neg this]
    · rw [if_neg hc, if_neg hc]
theorem ly_nar_ok {t : FieldType} {v : ly_e} {x : Int32} (gB : ly_gB ν Z.2.1) (h : ly_nar t Z.2.1 v = true) (hv : ly_ev ν v = some x.toInt) : vp_nar t x = x := by
  unfold ly_nar at h
  split at h
  · rename_i p hp
    rw [Bool.and_eq_true, sx_le_iff, sx_le_iff] at h
    obtain ⟨z, hz, b1, b2⟩ := ly_iv_ok gB hp
    rw [hv] at hz
    cases hz
    exact (ly_i2b_r x).2 (by omega) (by omega)
  · rename_i p hp
    rw [Bool.and_eq_true, sx_le_iff, sx_le_iff] at h
    obtain ⟨z, hz, b1, b2⟩ := ly_iv_ok gB hp
    rw [hv] at hz
    cases hz
    have e : vp_nar .boolean x = x &&& 1 := rfl
    rw [e]
    have : x.toInt = 0 ∨ x.toInt = 1 := by omega
    rcases this with e | e
    · have e1 : x = 0 := Int32.toInt_inj.mp e
      rw [e1]; rfl
    · have e1 : x = 1 := Int32.toInt_inj.mp e
      rw [e1]; rfl
  · cases h
end LY7
