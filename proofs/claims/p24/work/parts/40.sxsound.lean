/-! steps and runs -/
def sx_gI : List Value → List (Int × Int) → Prop
  | [], [] => True
  | w :: ws, q :: qs => (∃ n : Int32, w = .int n ∧ q.1 ≤ n.toInt ∧ n.toInt ≤ q.2) ∧ sx_gI ws qs
  | _, _ => False
section SX6
variable {cst : am_K} {cl : List vw_C} {tt : List (List FieldType)} {P PL : List am_M} {strs : List Nat} {Φ : am_Q → Prop} {K : sx_K} {ρ : Nat → Int32} {h0 : am_H} {B : sx_B}
theorem sx_Go_mono {call call' : Nat → List Value → am_H → am_Q → Prop} (hc : ∀ a b c d, call a b c d → call' a b c d) {M : am_M} : ∀ (n pc : Nat) (l : am_L) (st : List Value) (h : am_H) (r : am_Q), am_Go cst cl tt P strs call M n pc l st h r → am_Go cst cl tt P strs call' M n pc l st h r := by
  intro n
  induction n with
  | zero => intro pc l st h r hg; exact hg
  | succ n ih =>
    rintro pc l st h r ⟨I, X, hf, hg⟩
    refine ⟨I, X, hf, ?_⟩
    rcases hg with ⟨F, e, hg⟩ | ⟨F, k, r1, e, hg, er⟩ | hg | ⟨r1, r2, hq, hcall, hg, er⟩ | ⟨st1, e, hg⟩ | ⟨st1, h1, e, hg⟩
    · exact Or.inl ⟨F, e, ih _ _ _ _ _ hg⟩
    · exact Or.inr (Or.inl ⟨F, k, r1, e, ih _ _ _ _ _ hg, er⟩)
    · exact Or.inr (Or.inr (Or.inl hg))
    · exact Or.inr (Or.inr (Or.inr (Or.inl ⟨r1, r2, hq, hc _ _ _ _ hcall, ih _ _ _ _ _ hg, er⟩)))
    · exact Or.inr (Or.inr (Or.inr (Or.inr (Or.inl ⟨st1, e, ih _ _ _ _ _ hg⟩))))
    · exact Or.inr (Or.inr (Or.inr (Or.inr (Or.inr ⟨st1, h1, e, ih _ _ _ _ _ hg⟩))))
theorem sx_Run_succ : ∀ (d mi : Nat) (av : List Value) (h : am_H) (r : am_Q), am_Run cst cl tt P strs sx_bi d mi av h r → am_Run cst cl tt P strs sx_bi (d + 1) mi av h r := by
  intro d
  induction d with
  | zero => intro mi av h r hr; exact hr.elim
  | succ d ih =>
    rintro mi av h r (⟨-, hb⟩ | ⟨M, n, hM, hsl, hgo⟩)
    · exact hb.elim
    · exact Or.inr ⟨M, n, hM, hsl, sx_Go_mono ih n _ _ _ _ _ hgo⟩
theorem sx_Run_le {d d' mi : Nat} {av : List Value} {h : am_H} {r : am_Q} (hd : d ≤ d') (hr : am_Run cst cl tt P strs sx_bi d mi av h r) : am_Run cst cl tt P strs sx_bi d' mi av h r := by
  induction hd with
  | refl => exact hr
  | step _ ih => exact sx_Run_succ _ _ _ _ _ ih
/-- what is known of a method's effect holds -/
def sx_Yok (cst : am_K) (cl : List vw_C) (tt : List (List FieldType)) (P : List am_M) (strs : List Nat) (ρ : Nat → Int32) (d0 : Nat) (y : sx_Y) : Prop :=
  ∀ (h' : am_H) (ws : List Value), (∀ q ∈ y.2.2.2.1, ∃ x, h'[q.1]? = some x ∧ sx_gE tt ρ q.2 x) → sx_gI ws y.2.2.1 → ∃ r : am_Q, am_Run cst cl tt P strs sx_bi d0 y.1 (.ref y.2.1 :: ws) h' r ∧ r.1 = none ∧ r.2.2 = (0, 0) ∧ r.2.1.length = h'.length ∧ (∀ i, sx_get i y.2.2.2.2 = none → r.2.1[i]? = h'[i]?) ∧ ∀ i e, sx_get i y.2.2.2.2 = some e → ∃ x, r.2.1[i]? = some x ∧ sx_gE tt ρ e x
theorem sx_get_mem {α : Type} {i : Nat} {v : α} : ∀ {l : List (Nat × α)}, sx_get i l = some v → (i, v) ∈ l
  | [], h => by cases h
  | q :: l, h => by
    unfold sx_get at h
    cases hq : Nat.beq q.1 i with
    | true =>
      simp only [hq, cond_true] at h
      cases h
      rw [← sx_beqn.mp hq]
      exact List.mem_cons_self
    | false =>
      simp only [hq, cond_false] at h
      exact List.mem_cons_of_mem _ (sx_get_mem h)
theorem sx_subE_ok {x e : sx_E} {y : am_E} (h : sx_subE tt x e = true) (g : sx_gE tt ρ x y) : sx_gE tt ρ e y := by
  match x, e, h, g with
  | .inl (t, n, d, ov), .inl (t', n', d', ov'), h, g =>
    simp only [sx_subE, Bool.and_eq_true, decide_eq_true_eq, sx_beqn] at h
    obtain ⟨rfl, rfl, h⟩ := h
    obtain ⟨c, rfl, hc⟩ := g
    refine ⟨c, rfl, ?_⟩
    cases h1 : (sx_istop d' && (ov'.isEmpty && sx_tI t)) with
    | true =>
      simp only [Bool.and_eq_true] at h1
      have e1 := sx_istop_eq h1.1
      have e2 := List.isEmpty_iff.mp h1.2.1
      have e3 := h1.2.2
      cases t <;> simp only [sx_tI, Bool.false_eq_true] at e3
      obtain ⟨f, rfl, hf⟩ := hc
      refine ⟨f, rfl, fun j hj => ?_⟩
      rw [e1, e2, sx_elt_nil]
      exact sx_g_top _
    | false =>
      rw [h1] at h
      simp only [cond_false] at h
      have key : ∀ j, j < n → sx_elt d ov j = sx_elt d' ov' j := by
        cases h2 : (ov.isEmpty && ov'.isEmpty) with
        | true =>
          rw [h2] at h
          simp only [cond_true] at h
          rw [Bool.and_eq_true] at h2
          intro j _
          rw [List.isEmpty_iff.mp h2.1, List.isEmpty_iff.mp h2.2, sx_elt_nil, sx_elt_nil]
          exact sx_same_eq h
        | false =>
          rw [h2] at h
          simp only [cond_false] at h
          intro j hj
          exact sx_same_eq (List.all_eq_true.mp h j (List.mem_range.mpr hj))
      cases t <;> (obtain ⟨f, rfl, hf⟩ := hc; exact ⟨f, rfl, fun j hj => by rw [← key j hj]; exact hf j hj⟩)
  | .inr (ci, ov, bs), .inr (ci', ov', bs'), h, g =>
    simp only [sx_subE, Bool.and_eq_true, sx_beqn] at h
    obtain ⟨rfl, h⟩ := h
    obtain ⟨fs, rfl, hl, hfs⟩ := g
    refine ⟨fs, rfl, hl, fun j v hv => ?_⟩
    split at h
    · cases h
    · have hg : sx_get j ov' = some v := by
        unfold sx_fld at hv
        cases hg : sx_get j ov' with
        | some v' => rw [hg] at hv; cases hv; rfl
        | none =>
          rw [hg] at hv
          simp only [sx_ch] at hv
          split at hv
          · rename_i r hr
            have : r = [] := by
              have := List.mem_of_getElem? hr
              simpa using this
            rw [this] at hv
            simp at hv
          · cases hv
      have := List.all_eq_true.mp h _ (sx_get_mem hg)
      simp only at this
      split at this
      · rename_i v' hv'
        have e := sx_same_eq this
        subst e
        exact hfs j _ hv'
      · cases this
    · rename_i hb1 hb2
      rw [Bool.and_eq_true] at h
      have eo := List.isEmpty_iff.mp h.1
      subst eo
      have hj : j < 8 * bs'.length := by
        unfold sx_fld at hv
        simp only [sx_get] at hv
        unfold sx_ch at hv
        split at hv
        · rename_i r hr
          have := (List.getElem?_eq_some_iff.mp hr).1
          omega
        · cases hv
      have := List.all_eq_true.mp h.2 j (List.mem_range.mpr hj)
      simp only [hv] at this
      split at this
      · rename_i v' hv'
        have e := sx_same_eq this
        subst e
        exact hfs j _ hv'
      · cases this
theorem sx_pre_ok {H : sx_H} {h' : am_H} {L : List (Nat × sx_E)} (gH : sx_gH tt ρ h0 H h') (h : sx_pre tt H L = true) : ∀ q ∈ L, ∃ x, h'[q.1]? = some x ∧ sx_gE tt ρ q.2 x := by
  intro q hq
  have := List.all_eq_true.mp h q hq
  split at this
  · rename_i e he
    obtain ⟨x, hx, gx⟩ := gH.2.2.1 _ _ he
    exact ⟨x, hx, sx_subE_ok this gx⟩
  · cases this
theorem sx_ivs_ok (gB : sx_gB ρ B) : ∀ {vs : List sx_V} {qs : List (Int × Int)} {ws : List Value}, sx_ivs B vs qs = true → sx_gS ρ vs ws → sx_gI ws qs
  | [], [], [], _, _ => trivial
  | v :: vs, q :: qs, w :: ws, h, g => by
    simp only [sx_ivs, Bool.and_eq_true] at h
    refine ⟨?_, sx_ivs_ok gB h.2 g.2⟩
    have h1 := h.1
    split at h1
    · rename_i p hp
      rw [Bool.and_eq_true, sx_le_iff, sx_le_iff] at h1
      obtain ⟨n, e, n1, n2⟩ := sx_g_int gB g.1 hp
      exact ⟨n, e, by omega, by omega⟩
    · cases h1
theorem sx_hget_sets (i : Nat) (H : sx_H) : ∀ L : List (Nat × sx_E), sx_hget (sx_hsets L H) i = match sx_get i L with
    | some e => some e
    | none => sx_hget H i
  | [] => rfl
  | q :: L => by
    unfold sx_hsets
    rw [sx_hget_set, sx_hget_sets i H L]
    have e : sx_get i (q :: L) = bif Nat.beq q.1 i then some q.2 else sx_get i L := rfl
    rw [e]
    by_cases hq : i = q.1
    · rw [if_pos hq, sx_beqn.mpr hq.symm]
      rfl
    · rw [if_neg hq]
      cases hb : Nat.beq q.1 i with
      | true => exact absurd (sx_beqn.mp hb).symm hq
      | false => rfl
theorem sx_get_sets (i : Nat) (H : sx_H) : ∀ L : List (Nat × sx_E), sx_get i (sx_hsets L H).1 = none → sx_get i L = none ∧ sx_get i H.1 = none
  | [], h => ⟨rfl, h⟩
  | q :: L, h => by
    unfold sx_hsets at h
    cases hz : sx_hsets L H with
    | mk a z =>
      obtain ⟨b, n⟩ := z
      rw [hz] at h
      simp only [sx_hset, sx_get_put] at h
      by_cases hq : i = q.1
      · rw [if_pos hq] at h; cases h
      · rw [if_neg hq] at h
        have ih := sx_get_sets i H L (by rw [hz]; exact h)
        refine ⟨?_, ih.2⟩
        unfold sx_get
        cases hb : Nat.beq q.1 i with
        | true => exact absurd (sx_beqn.mp hb).symm hq
        | false => exact ih.1
theorem sx_hsets_len (H : sx_H) : ∀ L : List (Nat × sx_E), (sx_hsets L H).2.2 = H.2.2
  | [] => rfl
  | q :: L => by
    unfold sx_hsets
    have := sx_hsets_len H L
    cases hz : sx_hsets L H with
    | mk a z =>
      rw [hz] at this
      exact this
theorem sx_cats_sl : ∀ {vs : List sx_V} {ws : List Value}, sx_gS ρ vs ws → (lg_sl ws).length = sx_cats vs
  | [], [], _ => rfl
  | v :: vs, w :: ws, g => by
    have ih := sx_cats_sl g.2
    unfold lg_sl at ih ⊢
    rw [List.flatMap_cons, List.length_append, ih]
    show _ = sx_cat v + sx_cats vs
    congr 1
    rw [sx_g_cat g.1]
    match v with
    | .inl _ => rfl
    | .inr (.inl _) => rfl
    | .inr (.inr (.inl _)) => rfl
    | .inr (.inr (.inr _)) => rfl
theorem sx_rcvs_ok {I : Instr} {X : am_X} {H : sx_H} {h' : am_H} {m : sx_M} {M : am_M} {st : List sx_V} {st' : List Value} (hstr : ∀ a, 8 ≤ a → a < 12 → a ∈ strs) (gS : sx_gS ρ st st') (gH : sx_gH tt ρ h0 H h')
    (hM : P[X.1]? = some M) (h98 : m.2.1 < 98 → ∃ r : vw_C, cl[m.2.1]? = some r ∧ r.1 = M.1.cls) (h99 : m.2.1 = 99 → M.1.cls = "java/lang/String") (hx0 : X.2.2 = 0) (hle : X.2.1 ≤ st.length) (hcat : sx_cats (st.drop X.2.1) ≤ 8) (h : sx_rcvs I H m (st.take X.2.1).reverse = true) : am_c cl P strs I X st' h' := by
  have g1 := sx_gS_rev (sx_gS_take X.2.1 gS)
  refine ⟨by rw [sx_gS_len gS]; exact hle, by rw [sx_gS_cats (sx_gS_drop X.2.1 gS)]; exact hcat, hx0, ?_⟩
  unfold sx_rcvs at h
  split at h
  · trivial
  · rename_i i
    split at h
    · rename_i v As hAs
      rw [hAs] at g1
      obtain ⟨w, ws, e, gv, -⟩ := sx_gS_cons g1
      refine ⟨w, ws, M, e, hM, ?_⟩
      unfold sx_rcv at h
      split at h
      · rename_i a
        cases ha : Nat.blt a 16 with
        | true =>
          rw [ha] at h
          simp only [cond_true, Bool.and_eq_true, sx_beqn, sx_ble, sx_blt] at h
          have ew := sx_refv gv (by omega)
          exact ⟨a, ew, Or.inr ⟨sx_blt.mp ha, hstr a h.2.1 h.2.2, h99 h.1⟩⟩
        | false =>
          have ha' := sx_blt_neg ha
          rw [ha] at h
          simp only [cond_false] at h
          have ew := sx_refv gv (by omega)
          split at h
          · rename_i e' he'
            obtain ⟨ci, ov, bs⟩ := e'
            simp only [Bool.and_eq_true, sx_beqn, sx_blt] at h
            obtain ⟨x, hx, gx⟩ := gH.2.2.1 _ _ he'
            obtain ⟨fs, rfl, -⟩ := gx
            obtain ⟨r, hr, hr1⟩ := h98 h.2
            refine ⟨a, ew, Or.inl ⟨ha', ci, fs, r, hx, ?_, hr1⟩⟩
            rw [h.1]
            exact hr
          · cases h
      · cases h
    · cases h
  · rename_i i
    split at h
    · rename_i v As hAs
      rw [hAs] at g1
      obtain ⟨w, ws, e, gv, -⟩ := sx_gS_cons g1
      obtain ⟨a, rfl⟩ := sx_isref_ok h gv
      exact ⟨a, ws, e⟩
    · cases h
  · cases h
theorem sx_Fin_step {fs : List sx_Cf} {d : Nat} {M : am_M} {pc : Nat} {l : am_L} {st : List Value} {f1 : sx_Cf} {h h1 : am_H} {c s : Nat} (e1 : f1.1 = M)
    (k : ∀ n r, am_Go cst cl tt P strs (am_Run cst cl tt P strs sx_bi d) M n f1.2.1 f1.2.2.1 f1.2.2.2 h1 r → am_Go cst cl tt P strs (am_Run cst cl tt P strs sx_bi d) M (n + 1) pc l st h r)
    (hF : sx_Fin cst cl tt P strs Φ fs d f1 h1 c s) : sx_Fin cst cl tt P strs Φ fs d (M, pc, l, st) h c s := by
  refine sx_Fin_pre (dc := 0) (ds := 0) (f1 := f1) (h1 := h1) (fun n r hgo => ⟨n + 1, ?_⟩) hF
  rw [Nat.zero_add, Nat.zero_add]
  subst e1
  exact k n r hgo
end SX6
