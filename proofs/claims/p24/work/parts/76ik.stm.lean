/-! a place in a row of a matter, a field of its Row: written, all else stands (base of p25) -/
theorem hp_put_h0 {cst : am_K} {h h' : am_H} {r : Nat} {i v : Int} (hr : r < 60010) (hg : ly_dg r = []) (e1 : ly_h0 cst h' r i = some v) (e2 : ∀ r' i', r' ≠ r ∨ i' ≠ i → ly_h0 cst h' r' i' = ly_h0 cst h r' i') : hp_put cst r i v h h' := by
  refine ⟨by rw [ly_hv0 hr]; exact e1, fun r' i' hne => ?_⟩
  by_cases er : r' = r
  · subst er
    rw [ly_hv0 hr, ly_hv0 hr]
    exact e2 _ _ hne
  · exact ly_hv_but (r := r) hr (fun r2 hr2 i2_9 => e2 r2 i2_9 (Or.inl hr2)) er (by rw [hg]; rfl) i'
theorem hp_mpj {cst : am_K} {strs : List Nat} {Φ : am_Q → Prop} {D mi pc : Nat} {M : am_M} {l : am_L} {st : List Value} {h : am_H} {j n m : Nat} {lo hi : Int} {x : Int64} {i : Int32} (hM : m_P[mi]? = some M) (hI : hp_isJ mi pc = true) (hy : ly_hy m_tt ly_TH h) (ht : ly_thm ly_TH j = some (.inl (.long, n, lo, hi))) (j0 : j ≠ 0) (hn : n ≤ 32) (hg : ly_dg (256 * (177 + j)) = []) (hm : 177 + 19 * (m + 1) ≤ h.length) (h0 : 0 ≤ i.toInt) (h1 : i.toInt < (n : Int))
    (k : ∀ h', ly_hy m_tt ly_TH h' → h'.length = h.length → hp_put cst (256 * (177 + j)) (32 * (m : Int) + i.toInt) x.toInt h h' → hp_F cst strs Φ D M (pc + 1) l st h') : hp_F cst strs Φ D M pc l (.long x :: .int i :: .ref (16 + (177 + 19 * m + j)) :: st) h := by
  have hj := ly_thm_lt ht
  obtain ⟨xc, hx, cc, rfl, f_9, rfl⟩ := hy.2.2 m j _ hm ht
  unfold hp_isJ at hI
  split at hI
  case h_2 => cases hI
  rename_i mm hmm
  rw [Bool.and_eq_true, sx_beqn] at hI
  obtain ⟨c0_9, hI⟩ := hI
  split at hI
  case h_2 => cases hI
  rename_i X_9 hX
  obtain ⟨M', hM', hmok, -⟩ := sx_tok_m mi mm hmm c0_9
  rw [hM] at hM'
  cases hM'
  have hfind := hmok.2.2 _ _ hX
  have en : i.toNatClampNeg = i.toInt.toNat := rfl
  have hlt : ¬ (i < 0 ∨ n ≤ i.toNatClampNeg) := by
    rintro (q_9 | q_9)
    · have := Int32.lt_iff_toInt_lt.mp q_9
      have z_9 : (0 : Int32).toInt = 0 := rfl
      omega
    · omega
  have hs : am_s cst m_cl m_tt .lastore X_9 pc l (.long x :: .int i :: .ref (16 + (177 + 19 * m + j)) :: st) h = some (pc + 1, l, st, h.set (177 + 19 * m + j) (.inl (.long, n, .inr (.inl (vp_updL f_9 i.toNatClampNeg x))))) := by
    have e16_9 : 16 + (177 + 19 * m + j) - 16 = 177 + 19 * m + j := by omega
    have g16 : ¬ 16 + (177 + 19 * m + j) < 16 := by omega
    simp only [am_s, if_neg g16, e16_9, hx, if_neg hlt]
  have ei : (i.toNatClampNeg : Int) = i.toInt := by omega
  obtain ⟨p1_9, p2_9⟩ := ly_h0_rowj2 (cst := cst) (x := x) (m := i.toNatClampNeg) hj j0 hn hx (by omega)
  rw [ei] at p1_9 p2_9
  refine sx_Fin_step rfl (fun n r_9 hgo => ⟨_, X_9, hfind, Or.inl ⟨_, hs, hgo⟩⟩) (k _ (ly_hy_set2 hy hj hm fun t_9 ht' => ?_) (by rw [List.length_set]) (hp_put_h0 (by omega) hg p1_9 p2_9))
  rw [ht] at ht'
  cases ht'
  exact ⟨_, rfl, _, rfl⟩
theorem hp_mpi {cst : am_K} {strs : List Nat} {Φ : am_Q → Prop} {D mi pc : Nat} {M : am_M} {l : am_L} {st : List Value} {h : am_H} {j n m : Nat} {lo hi : Int} {x i : Int32} (hM : m_P[mi]? = some M) (hI : hp_isI mi pc = true) (hy : ly_hy m_tt ly_TH h) (ht : ly_thm ly_TH j = some (.inl (.int, n, lo, hi))) (j0 : j ≠ 0) (hn : n ≤ 32) (hg : ly_dg (256 * (177 + j)) = []) (hm : 177 + 19 * (m + 1) ≤ h.length) (h0 : 0 ≤ i.toInt) (h1 : i.toInt < (n : Int)) (v0 : lo ≤ x.toInt) (v1 : x.toInt ≤ hi)
    (k : ∀ h', ly_hy m_tt ly_TH h' → h'.length = h.length → hp_put cst (256 * (177 + j)) (32 * (m : Int) + i.toInt) x.toInt h h' → hp_F cst strs Φ D M (pc + 1) l st h') : hp_F cst strs Φ D M pc l (.int x :: .int i :: .ref (16 + (177 + 19 * m + j)) :: st) h := by
  have hj := ly_thm_lt ht
  obtain ⟨xc, hx, cc, rfl, f_9, rfl, hf⟩ := hy.2.2 m j _ hm ht
  unfold hp_isI at hI
  split at hI
  case h_2 => cases hI
  rename_i mm hmm
  rw [Bool.and_eq_true, sx_beqn] at hI
  obtain ⟨c0_9, hI⟩ := hI
  split at hI
  case h_2 => cases hI
  rename_i X_9 hX
  obtain ⟨M', hM', hmok, -⟩ := sx_tok_m mi mm hmm c0_9
  rw [hM] at hM'
  cases hM'
  have hfind := hmok.2.2 _ _ hX
  have en : i.toNatClampNeg = i.toInt.toNat := rfl
  have hlt : ¬ (i < 0 ∨ n ≤ i.toNatClampNeg) := by
    rintro (q_9 | q_9)
    · have := Int32.lt_iff_toInt_lt.mp q_9
      have z_9 : (0 : Int32).toInt = 0 := rfl
      omega
    · omega
  have hs : am_s cst m_cl m_tt .iastore X_9 pc l (.int x :: .int i :: .ref (16 + (177 + 19 * m + j)) :: st) h = some (pc + 1, l, st, h.set (177 + 19 * m + j) (.inl (.int, n, .inl (upd f_9 i.toNatClampNeg x)))) := by
    have e16_9 : 16 + (177 + 19 * m + j) - 16 = 177 + 19 * m + j := by omega
    have g16 : ¬ 16 + (177 + 19 * m + j) < 16 := by omega
    simp only [am_s, if_neg g16, e16_9, hx, if_neg hlt]
  have up_9 : ∀ q_9, upd f_9 i.toNatClampNeg x q_9 = if q_9 = i.toNatClampNeg then x else f_9 q_9 := fun q_9 => rfl
  have ei : (i.toNatClampNeg : Int) = i.toInt := by omega
  obtain ⟨p1_9, p2_9⟩ := ly_h0_row2 (cst := cst) (x := x) (m := i.toNatClampNeg) hj j0 hn hx (by omega)
  rw [ei] at p1_9 p2_9
  refine sx_Fin_step rfl (fun n r_9 hgo => ⟨_, X_9, hfind, Or.inl ⟨_, hs, hgo⟩⟩) (k _ (ly_hy_set2 hy hj hm fun t_9 ht' => ?_) (by rw [List.length_set]) (hp_put_h0 (by omega) hg p1_9 p2_9))
  rw [ht] at ht'
  cases ht'
  refine ⟨_, rfl, _, rfl, fun q_9 hq => ?_⟩
  rw [up_9]
  by_cases ej : q_9 = i.toNatClampNeg
  · rw [if_pos ej]; exact ⟨v0, v1⟩
  · rw [if_neg ej]; exact hf q_9 hq
theorem hp_mpf {cst : am_K} {strs : List Nat} {Φ : am_Q → Prop} {D mi pc : Nat} {M : am_M} {l : am_L} {st : List Value} {h : am_H} {j ci kf m : Nat} {fs : List (List ly_F)} {x : Int32} {lo hi : Int} (hM : m_P[mi]? = some M) (hI : hp_isF mi pc ci kf = true) (hy : ly_hy m_tt ly_TH h) (ht : ly_thm ly_TH j = some (.inr (ci, fs))) (hk : sx_ch 8 kf fs = some (.inl (lo, hi))) (k8 : kf < 256) (hfit : am_fit ((m_tt.getD ci []).getD kf .char) (.int x) = true) (hg : ly_dg (256 * (177 + j) + kf) = []) (hm : 177 + 19 * (m + 1) ≤ h.length) (v0 : lo ≤ x.toInt) (v1 : x.toInt ≤ hi)
    (k : ∀ h', ly_hy m_tt ly_TH h' → h'.length = h.length → hp_put cst (256 * (177 + j) + kf) (m : Int) x.toInt h h' → hp_F cst strs Φ D M (pc + 3) l st h') : hp_F cst strs Φ D M pc l (.int x :: .ref (16 + (177 + 19 * m + j)) :: st) h := by
  have hj := ly_thm_lt ht
  obtain ⟨a_9, b_9, zi, vs, ew, ez, hx, hlen, hfs, -, hset, -, c196⟩ := ly_ob_ok (cst := cst) (ν := fun _ => none) (v := .inr (.inr (.inr (j, ((m : Int), []))))) (w := .ref (16 + (177 + 19 * m + j))) (c := 177 + j) (ci := ci) (i := ((m : Int), [])) (fs := fs) hy ⟨hj, m, ly_ev_c _ _, rfl, hm⟩ (by
    unfold ly_ob
    simp only
    rw [ht])
  rw [ly_ev_c] at ez
  cases ez
  have ea : a_9 = 177 + 19 * m + j := by
    have q : 16 + (177 + 19 * m + j) = 16 + a_9 := Value.ref.inj ew
    omega
  subst ea
  obtain ⟨u_9, hu, -⟩ := hfs _ _ hk
  have hl := (List.getElem?_eq_some_iff.mp hu).1
  obtain ⟨s1_9, s2_9, s3_9⟩ := hset kf (vs.set kf (.int x)) k8 (by rw [List.length_set]) (fun k' hk' => List.getElem?_set_ne (Ne.symm hk')) (fun f_9 hf => by
    rw [hk] at hf
    cases hf
    exact ⟨_, List.getElem?_set_self hl, x, rfl, v0, v1⟩)
  have s2_9 : ly_h0 cst (h.set (177 + 19 * m + j) (.inr (ci, vs.set kf (.int x)))) (256 * (177 + j) + kf) (m : Int) = some x.toInt := by
    rw [s2_9]
    simp only [ly_hm]
    rw [List.getElem?_set_self hl]
  unfold hp_isF at hI
  split at hI
  case h_2 => cases hI
  rename_i mm hmm
  rw [Bool.and_eq_true, sx_beqn] at hI
  obtain ⟨c0_9, hI⟩ := hI
  split at hI
  case h_2 => cases hI
  rename_i ix X_9 hX
  simp only [Bool.and_eq_true, sx_beqn] at hI
  obtain ⟨x1_9, x2_9⟩ := hI
  obtain ⟨M', hM', hmok, -⟩ := sx_tok_m mi mm hmm c0_9
  rw [hM] at hM'
  cases hM'
  have hfind := hmok.2.2 _ _ hX
  have hs : am_s cst m_cl m_tt (.putfield ix) X_9 pc l (.int x :: .ref (16 + (177 + 19 * m + j)) :: st) h = some (pc + 3, l, st, h.set (177 + 19 * m + j) (.inr (ci, vs.set kf (.int x)))) := by
    have e16_9 : 16 + (177 + 19 * m + j) - 16 = 177 + 19 * m + j := by omega
    have g16 : ¬ 16 + (177 + 19 * m + j) < 16 := by omega
    have gc_9 : ci = X_9.1 ∧ X_9.2.1 < vs.length := ⟨x1_9.symm, by rw [x2_9]; exact hl⟩
    have gf : am_fit ((m_tt.getD ci []).getD X_9.2.1 .char) (.int x) = true := by rw [x2_9]; exact hfit
    simp only [am_s, if_neg g16, e16_9, hx, if_pos gc_9, if_pos gf]
    rw [x2_9]
  exact sx_Fin_step rfl (fun n_9 r_9 hgo => ⟨_, X_9, hfind, Or.inl ⟨_, hs, hgo⟩⟩) (k _ s1_9 (by rw [List.length_set]) (hp_put_h0 (by omega) hg s2_9 s3_9))
