/-! PRINTED by wip/p2/hp_gst.py: stores into the rows of facts -/
theorem hp_stj0 {cst : am_K} {strs : List Nat} {Φ : am_Q → Prop} {D : Nat} {M : am_M} {mi pc : Nat} {h : am_H} {l : am_L} {st : List Value} {c n : Nat} {lo hi : Int} {x : Int64} {i : Int32} (hM : m_P[mi]? = some M) (hI : hp_isJ mi pc = true) (hy : ly_hy m_tt ly_TH h) (ht : ly_ths ly_TH c = some (.inl (.long, n, lo, hi))) (h0 : 0 ≤ i.toInt) (h1 : i.toInt < (n : Int))
    (k : ∀ h', ly_hy m_tt ly_TH h' → h'.length = h.length → hp_p0 cst (256 * c) i.toInt x.toInt h h' → hp_F cst strs Φ D M (pc + 1) l st h') : hp_F cst strs Φ D M pc l (.long x :: .int i :: .ref (16 + c) :: st) h := by
  have hc_9 := ly_ths_lt ht
  obtain ⟨xc, hx, cc, rfl, f_9, rfl⟩ := hy.2.1 _ _ ht
  unfold hp_isJ at hI
  split at hI
  case h_2 => cases hI
  rename_i m_9 hm_9
  rw [Bool.and_eq_true, sx_beqn] at hI
  obtain ⟨c0_9, hI⟩ := hI
  split at hI
  case h_2 => cases hI
  rename_i X_9 hX
  obtain ⟨M', hM', hmok, -⟩ := sx_tok_m mi m_9 hm_9 c0_9
  rw [hM] at hM'
  cases hM'
  have hfind := hmok.2.2 _ _ hX
  have en : i.toNatClampNeg = i.toInt.toNat := rfl
  have hlt : ¬ (i < 0 ∨ n ≤ i.toNatClampNeg) := by
    rintro (q_9 | q_9)
    · have := Int32.lt_iff_toInt_lt.mp q_9
      have z_9 : (0 : Int32).toInt = 0 := rfl
      omega
    · omega
  have hs : am_s cst m_cl m_tt .lastore X_9 pc l (.long x :: .int i :: .ref (16 + c) :: st) h = some (pc + 1, l, st, h.set c (.inl (.long, n, .inr (.inl (vp_updL f_9 i.toNatClampNeg x))))) := by
    have e16_9 : 16 + c - 16 = c := by omega
    have g16 : ¬ 16 + c < 16 := by omega
    simp only [am_s, if_neg g16, e16_9, hx, if_neg hlt]
  have up_9 : ∀ j_9, vp_updL f_9 i.toNatClampNeg x j_9 = if j_9 = i.toNatClampNeg then x else f_9 j_9 := fun j_9 => rfl
  refine sx_Fin_step rfl (fun n r_9 hgo => ⟨_, X_9, hfind, Or.inl ⟨_, hs, hgo⟩⟩) (k _ (ly_hy_set1 hy hc_9 fun t_9 ht' => ?_) (by rw [List.length_set]) (hp_p0_of hc_9 hx ?_ ?_))
  · rw [ht] at ht'
    cases ht'
    exact ⟨_, rfl, _, rfl⟩
  · simp only [ly_hs]
    rw [if_pos ⟨trivial, h0, by omega⟩, up_9, if_pos (by omega)]
  · intro k i' hne
    simp only [ly_hs]
    by_cases hk : k = 0 ∧ 0 ≤ i' ∧ i'.toNat < n
    · rw [if_pos hk, if_pos hk, up_9, if_neg]
      have := hne.resolve_left (fun q_9 => q_9 hk.1)
      omega
    · rw [if_neg hk, if_neg hk]
theorem gE_M {cst : am_K} {h : am_H} (i : Int) : ly_hv cst h 60092 i = gh_ev (ly_h0 cst h 27904) 2 1 200 i := by
  rw [gh_hv (by decide) (by decide)]
  unfold ly_gv
  rw [if_neg (by decide), if_neg (by decide), if_pos rfl]
set_option maxRecDepth 8000 in
theorem gD_M {r : Nat} (h : r ≠ 60092) : ly_has r (ly_dg 27904) = false := by
  rw [show ly_dg 27904 = [60092] from rfl]
  cases hh : ly_has r [60092] with
  | false => rfl
  | true =>
    unfold ly_has at hh
    obtain ⟨q_9, hq, hb_9⟩ := List.any_eq_true.mp hh
    rw [List.mem_singleton.mp hq] at hb_9
    exact absurd (Nat.eq_of_beq_eq_true hb_9).symm h
/-- a store into an even row: the ghost too -/
theorem hp_pg_M {cst : am_K} {i v : Int} {h h' : am_H} (p : hp_p0 cst 27904 i v h h') : ly_hv cst h' 27904 i = some v ∧ (0 ≤ i → i < 200 → i % 2 < 1 → ly_hv cst h' 60092 i = some v) ∧ ∀ r' i', (r' ≠ 27904 ∧ r' ≠ 60092) ∨ i' ≠ i → ly_hv cst h' r' i' = ly_hv cst h r' i' := by
  refine ⟨by rw [ly_hv0 (by decide)]; exact p.1, fun a_9 b_9 c_9 => ?_, fun r' i' hne => ?_⟩
  · rw [gE_M]
    unfold gh_ev
    rw [if_pos ⟨a_9, b_9, c_9⟩]
    exact p.1
  by_cases e1_9 : r' = 27904
  · subst e1_9
    rw [ly_hv0 (by decide), ly_hv0 (by decide)]
    exact p.2 _ _ (Or.inr (hne.resolve_left (fun z_9 => z_9.1 rfl)))
  by_cases e2_9 : r' = 60092
  · subst e2_9
    have hi_9 := hne.resolve_left (fun z_9 => z_9.2 rfl)
    rw [gE_M, gE_M]
    unfold gh_ev
    rw [p.2 _ _ (Or.inr hi_9)]
  · exact hp_p0_hv p (by decide) e1_9 (gD_M e2_9) i'
/-- a_9 store elsewhere: no ghost -/
theorem hp_pn_M {cst : am_K} {i v : Int} {h h' : am_H} (p : hp_p0 cst 27904 i v h h') (o : ¬ (0 ≤ i ∧ i < 200 ∧ i % 2 < 1)) : hp_put cst 27904 i v h h' := by
  obtain ⟨a_9, -, b_9⟩ := hp_pg_M p
  refine ⟨a_9, fun r' i' hne => ?_⟩
  by_cases e_9 : i' = i
  · have er := hne.resolve_right (fun z_9 => z_9 e_9)
    by_cases e2_9 : r' = 60092
    · rw [e_9, e2_9, gE_M, gE_M]
      unfold gh_ev
      rw [if_neg o, if_neg o]
    · exact b_9 r' i' (Or.inl ⟨er, e2_9⟩)
  · exact b_9 r' i' (Or.inr e_9)
/-- a_9 ghost is the row itself -/
theorem gR_M {cst : am_K} {h : am_H} {i v : Int} (e : ly_hv cst h 60092 i = some v) : ly_hv cst h 27904 i = some v := by
  rw [gE_M] at e
  unfold gh_ev at e
  split at e
  · rw [ly_hv0 (by decide)]
    exact e
  · cases e
theorem gE_W {cst : am_K} {h : am_H} (i : Int) : ly_hv cst h 60093 i = gh_ev (ly_h0 cst h 27392) 40 20 4000 i := by
  rw [gh_hv (by decide) (by decide)]
  unfold ly_gv
  rw [if_neg (by decide), if_neg (by decide), if_neg (by decide), if_pos rfl]
set_option maxRecDepth 8000 in
theorem gD_W {r : Nat} (h : r ≠ 60093) : ly_has r (ly_dg 27392) = false := by
  rw [show ly_dg 27392 = [60093] from rfl]
  cases hh : ly_has r [60093] with
  | false => rfl
  | true =>
    unfold ly_has at hh
    obtain ⟨q_9, hq, hb_9⟩ := List.any_eq_true.mp hh
    rw [List.mem_singleton.mp hq] at hb_9
    exact absurd (Nat.eq_of_beq_eq_true hb_9).symm h
/-- a store into an even row: the ghost too -/
theorem hp_pg_W {cst : am_K} {i v : Int} {h h' : am_H} (p : hp_p0 cst 27392 i v h h') : ly_hv cst h' 27392 i = some v ∧ (0 ≤ i → i < 4000 → i % 40 < 20 → ly_hv cst h' 60093 i = some v) ∧ ∀ r' i', (r' ≠ 27392 ∧ r' ≠ 60093) ∨ i' ≠ i → ly_hv cst h' r' i' = ly_hv cst h r' i' := by
  refine ⟨by rw [ly_hv0 (by decide)]; exact p.1, fun a_9 b_9 c_9 => ?_, fun r' i' hne => ?_⟩
  · rw [gE_W]
    unfold gh_ev
    rw [if_pos ⟨a_9, b_9, c_9⟩]
    exact p.1
  by_cases e1_9 : r' = 27392
  · subst e1_9
    rw [ly_hv0 (by decide), ly_hv0 (by decide)]
    exact p.2 _ _ (Or.inr (hne.resolve_left (fun z_9 => z_9.1 rfl)))
  by_cases e2_9 : r' = 60093
  · subst e2_9
    have hi_9 := hne.resolve_left (fun z_9 => z_9.2 rfl)
    rw [gE_W, gE_W]
    unfold gh_ev
    rw [p.2 _ _ (Or.inr hi_9)]
  · exact hp_p0_hv p (by decide) e1_9 (gD_W e2_9) i'
/-- a_9 store elsewhere: no ghost -/
theorem hp_pn_W {cst : am_K} {i v : Int} {h h' : am_H} (p : hp_p0 cst 27392 i v h h') (o : ¬ (0 ≤ i ∧ i < 4000 ∧ i % 40 < 20)) : hp_put cst 27392 i v h h' := by
  obtain ⟨a_9, -, b_9⟩ := hp_pg_W p
  refine ⟨a_9, fun r' i' hne => ?_⟩
  by_cases e_9 : i' = i
  · have er := hne.resolve_right (fun z_9 => z_9 e_9)
    by_cases e2_9 : r' = 60093
    · rw [e_9, e2_9, gE_W, gE_W]
      unfold gh_ev
      rw [if_neg o, if_neg o]
    · exact b_9 r' i' (Or.inl ⟨er, e2_9⟩)
  · exact b_9 r' i' (Or.inr e_9)
/-- a_9 ghost is the row itself -/
theorem gR_W {cst : am_K} {h : am_H} {i v : Int} (e : ly_hv cst h 60093 i = some v) : ly_hv cst h 27392 i = some v := by
  rw [gE_W] at e
  unfold gh_ev at e
  split at e
  · rw [ly_hv0 (by decide)]
    exact e
  · cases e
theorem gE_V {cst : am_K} {h : am_H} (i : Int) : ly_hv cst h 60094 i = gh_ev (ly_h0 cst h 27648) 40 20 4000 i := by
  rw [gh_hv (by decide) (by decide)]
  unfold ly_gv
  rw [if_neg (by decide), if_neg (by decide), if_neg (by decide), if_neg (by decide), if_pos rfl]
set_option maxRecDepth 8000 in
theorem gD_V {r : Nat} (h : r ≠ 60094) : ly_has r (ly_dg 27648) = false := by
  rw [show ly_dg 27648 = [60094] from rfl]
  cases hh : ly_has r [60094] with
  | false => rfl
  | true =>
    unfold ly_has at hh
    obtain ⟨q_9, hq, hb_9⟩ := List.any_eq_true.mp hh
    rw [List.mem_singleton.mp hq] at hb_9
    exact absurd (Nat.eq_of_beq_eq_true hb_9).symm h
/-- a store into an even row: the ghost too -/
theorem hp_pg_V {cst : am_K} {i v : Int} {h h' : am_H} (p : hp_p0 cst 27648 i v h h') : ly_hv cst h' 27648 i = some v ∧ (0 ≤ i → i < 4000 → i % 40 < 20 → ly_hv cst h' 60094 i = some v) ∧ ∀ r' i', (r' ≠ 27648 ∧ r' ≠ 60094) ∨ i' ≠ i → ly_hv cst h' r' i' = ly_hv cst h r' i' := by
  refine ⟨by rw [ly_hv0 (by decide)]; exact p.1, fun a_9 b_9 c_9 => ?_, fun r' i' hne => ?_⟩
  · rw [gE_V]
    unfold gh_ev
    rw [if_pos ⟨a_9, b_9, c_9⟩]
    exact p.1
  by_cases e1_9 : r' = 27648
  · subst e1_9
    rw [ly_hv0 (by decide), ly_hv0 (by decide)]
    exact p.2 _ _ (Or.inr (hne.resolve_left (fun z_9 => z_9.1 rfl)))
  by_cases e2_9 : r' = 60094
  · subst e2_9
    have hi_9 := hne.resolve_left (fun z_9 => z_9.2 rfl)
    rw [gE_V, gE_V]
    unfold gh_ev
    rw [p.2 _ _ (Or.inr hi_9)]
  · exact hp_p0_hv p (by decide) e1_9 (gD_V e2_9) i'
/-- a_9 store elsewhere: no ghost -/
theorem hp_pn_V {cst : am_K} {i v : Int} {h h' : am_H} (p : hp_p0 cst 27648 i v h h') (o : ¬ (0 ≤ i ∧ i < 4000 ∧ i % 40 < 20)) : hp_put cst 27648 i v h h' := by
  obtain ⟨a_9, -, b_9⟩ := hp_pg_V p
  refine ⟨a_9, fun r' i' hne => ?_⟩
  by_cases e_9 : i' = i
  · have er := hne.resolve_right (fun z_9 => z_9 e_9)
    by_cases e2_9 : r' = 60094
    · rw [e_9, e2_9, gE_V, gE_V]
      unfold gh_ev
      rw [if_neg o, if_neg o]
    · exact b_9 r' i' (Or.inl ⟨er, e2_9⟩)
  · exact b_9 r' i' (Or.inr e_9)
/-- a_9 ghost is the row itself -/
theorem gR_V {cst : am_K} {h : am_H} {i v : Int} (e : ly_hv cst h 60094 i = some v) : ly_hv cst h 27648 i = some v := by
  rw [gE_V] at e
  unfold gh_ev at e
  split at e
  · rw [ly_hv0 (by decide)]
    exact e
  · cases e
theorem hp_stjg {cst : am_K} {strs : List Nat} {Φ : am_Q → Prop} {D : Nat} {M : am_M} {mi pc : Nat} {h : am_H} {l : am_L} {st : List Value} {x : Int64} {i : Int32} (hM : m_P[mi]? = some M) (hI : hp_isJ mi pc = true) (hy : ly_hy m_tt ly_TH h) (h0 : 4000 ≤ i.toInt) (h1 : i.toInt < 4020)
    (k : ∀ h', ly_hy m_tt ly_TH h' → h'.length = h.length → hp_put cst 27392 i.toInt x.toInt h h' → hp_F cst strs Φ D M (pc + 1) l st h') : hp_F cst strs Φ D M pc l (.long x :: .int i :: .ref 123 :: st) h :=
  hp_stj0 (c := 107) hM hI hy (show ly_ths ly_TH 107 = some (.inl (.long, 4020, 0, 0)) from rfl) (by omega) (by omega) (fun h' a b p => k h' a b (hp_pn_W p (by omega)))
theorem hp_stg {cst : am_K} {strs : List Nat} {Φ : am_Q → Prop} {D : Nat} {M : am_M} {mi pc : Nat} {h : am_H} {l : am_L} {st : List Value} {x i : Int32} (hM : m_P[mi]? = some M) (hI : hp_isI mi pc = true) (hy : ly_hy m_tt ly_TH h) (h0 : 4000 ≤ i.toInt) (h1 : i.toInt < 4020)
    (k : ∀ h', ly_hy m_tt ly_TH h' → h'.length = h.length → hp_put cst 27648 i.toInt x.toInt h h' → hp_F cst strs Φ D M (pc + 1) l st h') : hp_F cst strs Φ D M pc l (.int x :: .int i :: .ref 124 :: st) h :=
  hp_st0 (c := 108) hM hI hy (show ly_ths ly_TH 108 = some (.inl (.int, 4020, -2147483648, 2147483647)) from rfl) (by omega) (by omega) x.le_toInt x.toInt_le (fun h' a b p => k h' a b (hp_pn_V p (by omega)))

