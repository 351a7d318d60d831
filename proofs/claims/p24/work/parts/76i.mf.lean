/-! a field of a matter: written, the others stand -/
theorem hp_gSm {ν : ly_N} {len : Nat} {St : List ly_V} {st : List Value} {e : ly_e} {z : Int} (g : ly_gS ν len (.inr (.inr (.inr (0, e))) :: St) st) (e1 : ly_ev ν e = some z) : ∃ (m : Nat) (t : List Value), st = .ref (16 + (177 + 19 * m + 0)) :: t ∧ (m : Int) = z ∧ 177 + 19 * (m + 1) ≤ len ∧ ly_gS ν len St t := by
  obtain ⟨w, t, rfl, gv, gt⟩ := ly_gS_cons g
  obtain ⟨-, m, em, rfl, hl⟩ := gv
  rw [e1] at em
  exact ⟨m, t, rfl, (Option.some.inj em).symm, hl, gt⟩
noncomputable def hp_isF (mi pc ci k : Nat) : Bool := match sx_ch 16 mi sx_T with
  | some m => Nat.beq m.1 mi && (match sx_find pc m.2.2.2.2 with
    | some (.putfield _, X) => Nat.beq X.1 ci && Nat.beq X.2.1 k
    | _ => false)
  | none => false
theorem hp_thm0 : ∃ fs, ly_thm ly_TH 0 = some (.inr (11, fs)) := by
  have : (match ly_thm ly_TH 0 with
    | some (.inr (ci, _)) => Nat.beq ci 11
    | _ => false) = true := by decide +kernel
  split at this
  · rename_i ci fs h
    rw [h, sx_beqn.mp this]
    exact ⟨fs, rfl⟩
  · cases this
theorem hp_stm {cst : am_K} {strs : List Nat} {Φ : am_Q → Prop} {D mi pc : Nat} {M : am_M} {l : am_L} {st : List Value} {h : am_H} {m : Nat} {x : Int32} {lo hi : Int} (hM : m_P[mi]? = some M) (hI : hp_isF mi pc 11 10 = true) (hy : ly_hy m_tt ly_TH h) (hm : 177 + 19 * (m + 1) ≤ h.length) (hk : (match ly_thm ly_TH 0 with
    | some (.inr (_, fs)) => (match sx_ch 8 10 fs with
      | some (.inl p) => decide (p = (lo, hi))
      | _ => false)
    | _ => false) = true) (hT : (m_tt.getD 11 [])[10]? = some .int) (hg : ly_dg 45322 = []) (v0 : lo ≤ x.toInt) (v1 : x.toInt ≤ hi)
    (k : ∀ h', ly_hy m_tt ly_TH h' → h'.length = h.length → hp_put cst 45322 (m : Int) x.toInt h h' → hp_F cst strs Φ D M (pc + 3) l st h') : hp_F cst strs Φ D M pc l (.int x :: .ref (16 + (177 + 19 * m + 0)) :: st) h := by
  obtain ⟨fs, ht⟩ := hp_thm0
  rw [ht] at hk
  simp only at hk
  split at hk
  case h_2 => cases hk
  rename_i p hp
  have hp' := of_decide_eq_true hk
  obtain ⟨xc, hx, vs, rfl, hlen, hfs⟩ := hy.2.2 m 0 _ hm ht
  have hx : h[177 + 19 * m + 0]? = some (.inr (11, vs)) := hx
  obtain ⟨u, hu, -⟩ := hfs _ _ hp
  have hl := (List.getElem?_eq_some_iff.mp hu).1
  have hh := (List.getElem?_eq_some_iff.mp hx).1
  unfold hp_isF at hI
  split at hI
  case h_2 => cases hI
  rename_i mm hmm
  rw [Bool.and_eq_true, sx_beqn] at hI
  obtain ⟨c0, hI⟩ := hI
  split at hI
  case h_2 => cases hI
  rename_i ix X hX
  simp only [Bool.and_eq_true, sx_beqn] at hI
  obtain ⟨x1, x2⟩ := hI
  obtain ⟨M', hM', hmok, -⟩ := sx_tok_m mi mm hmm c0
  rw [hM] at hM'
  cases hM'
  have hfind := hmok.2.2 _ _ hX
  have hgd : (m_tt.getD 11 []).getD 10 .char = .int := by
    rw [List.getD_eq_getElem?_getD, hT]
    rfl
  have hs : am_s cst m_cl m_tt (.putfield ix) X pc l (.int x :: .ref (16 + (177 + 19 * m + 0)) :: st) h = some (pc + 3, l, st, h.set (177 + 19 * m + 0) (.inr (11, vs.set 10 (.int x)))) := by
    have e16 : 16 + (177 + 19 * m + 0) - 16 = 177 + 19 * m + 0 := by omega
    have g16 : ¬ 16 + (177 + 19 * m + 0) < 16 := by omega
    simp only [am_s, if_neg g16, e16, hx, x1, x2, if_pos (show True ∧ 10 < vs.length from ⟨trivial, hl⟩), hgd]
    rfl
  have oth : ∀ r i, (r ≠ 45322 ∨ i ≠ (m : Int)) → ly_h0 cst (h.set (177 + 19 * m + 0) (.inr (11, vs.set 10 (.int x)))) r i = ly_h0 cst h r i := fun r i hne => ly_h0_set2 (by decide) hx (fun er ei => by
    have : r % 256 ≠ 10 := fun q => hne.elim (fun z => z (by omega)) (fun z => z ei)
    simp only [ly_hm]
    rw [List.getElem?_set_ne (fun q => this q.symm)])
  refine sx_Fin_step rfl (fun n r hgo => ⟨_, X, hfind, Or.inl ⟨_, hs, hgo⟩⟩) (k _ (ly_hy_set2 hy (by decide) hm fun t ht' => ?_) (by rw [List.length_set]) ⟨?_, fun r' i' hne => ?_⟩)
  · rw [ht] at ht'
    cases ht'
    refine ⟨_, rfl, by rw [List.length_set]; exact hlen, fun k' f hf => ?_⟩
    by_cases ek : k' = 10
    · subst ek
      rw [hp] at hf
      cases hf
      rw [hp']
      exact ⟨_, List.getElem?_set_self hl, x, rfl, v0, v1⟩
    · rw [List.getElem?_set_ne (Ne.symm ek)]
      exact hfs _ _ hf
  · rw [ly_hv0 (by decide)]
    have o : ly_h0 cst (h.set (177 + 19 * m + 0) (.inr (11, vs.set 10 (.int x)))) 45322 (m : Int) = ly_hm (h.set (177 + 19 * m + 0) (.inr (11, vs.set 10 (.int x))))[177 + 19 * m + 0]? 10 := ly_h0_of2 (z := m) (j := 0) (k := 10) (by decide) (by decide)
    rw [o, List.getElem?_set_self hh]
    simp only [ly_hm]
    rw [List.getElem?_set_self hl]
  · by_cases er : r' = 45322
    · subst er
      rw [ly_hv0 (by decide), ly_hv0 (by decide)]
      exact oth _ _ hne
    · exact ly_hv_but (r := 45322) (by decide) (fun r2 hr2 i2 => oth r2 i2 (Or.inl hr2)) er (by rw [hg]; rfl) i'
theorem hp_fld {cst : am_K} {h : am_H} {m : Nat} {lo hi : Int} (hy : ly_hy m_tt ly_TH h) (hm : 177 + 19 * (m + 1) ≤ h.length) (hk : (match ly_thm ly_TH 0 with
    | some (.inr (_, fs)) => (match sx_ch 8 10 fs with
      | some (.inl p) => decide (p = (lo, hi))
      | _ => false)
    | _ => false) = true) : ∃ v, ly_hv cst h 45322 (m : Int) = some v ∧ lo ≤ v ∧ v ≤ hi := by
  obtain ⟨fs, ht⟩ := hp_thm0
  rw [ht] at hk
  simp only at hk
  split at hk
  case h_2 => cases hk
  rename_i p hp
  have hp' := of_decide_eq_true hk
  obtain ⟨xc, hx, vs, rfl, hlen, hfs⟩ := hy.2.2 m 0 _ hm ht
  have hx : h[177 + 19 * m + 0]? = some (.inr (11, vs)) := hx
  obtain ⟨u, hu, y, rfl, y0, y1⟩ := hfs _ _ hp
  rw [hp'] at y0 y1
  refine ⟨y.toInt, ?_, y0, y1⟩
  rw [ly_hv0 (by decide)]
  have o : ly_h0 cst h 45322 (m : Int) = ly_hm h[177 + 19 * m + 0]? 10 := ly_h0_of2 (z := m) (j := 0) (k := 10) (by decide) (by decide)
  rw [o, hx]
  simp only [ly_hm]
  rw [hu]
