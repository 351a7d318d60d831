/-! PRINTED by wip/p2/hp_bill.py: a store, ghosts aside -/
def hp_p0 (cst : am_K) (r : Nat) (i v : Int) (h h' : am_H) : Prop := ly_h0 cst h' r i = some v ∧ ∀ r' i', (r' ≠ r ∨ i' ≠ i) → ly_h0 cst h' r' i' = ly_h0 cst h r' i'
theorem hp_p0_of {cst : am_K} {h : am_H} {c : Nat} {i : Int} {v : Int} {x x' : am_E} (hc : c < 177) (hx : h[c]? = some x) (e1 : ly_hs (some x') 0 i = some v) (e2 : ∀ k i', (k ≠ 0 ∨ i' ≠ i) → ly_hs (some x') k i' = ly_hs (some x) k i') : hp_p0 cst (256 * c) i v h (h.set c x') := by
  have hl := (List.getElem?_eq_some_iff.mp hx).1
  constructor
  · have := ly_h0_of1 (cst := cst) (h := h.set c x') (k := 0) (i := i) hc (by omega)
    rw [Nat.add_zero] at this
    rw [this, List.getElem?_set_self hl]
    exact e1
  · intro r' i' hne
    by_cases er : r' = 256 * c
    · subst er
      refine ly_h0_set1 hc hx (fun _ => ?_)
      rw [show 256 * c % 256 = 0 by omega]
      exact e2 0 i' (Or.inr (hne.resolve_left (fun q => q rfl)))
    · exact ly_h0_set1 hc hx (fun er2 => e2 _ _ (Or.inl (by omega)))
theorem hp_st0 {cst : am_K} {strs : List Nat} {Φ : am_Q → Prop} {D : Nat} {M : am_M} {mi pc : Nat} {h : am_H} {l : am_L} {st : List Value} {c n : Nat} {lo hi : Int} {x i : Int32} (hM : m_P[mi]? = some M) (hI : hp_isI mi pc = true) (hy : ly_hy m_tt ly_TH h) (ht : ly_ths ly_TH c = some (.inl (.int, n, lo, hi))) (h0 : 0 ≤ i.toInt) (h1 : i.toInt < (n : Int)) (v0 : lo ≤ x.toInt) (v1 : x.toInt ≤ hi)
    (k : ∀ h', ly_hy m_tt ly_TH h' → h'.length = h.length → hp_p0 cst (256 * c) i.toInt x.toInt h h' → hp_F cst strs Φ D M (pc + 1) l st h') : hp_F cst strs Φ D M pc l (.int x :: .int i :: .ref (16 + c) :: st) h := by
  have hc := ly_ths_lt ht
  obtain ⟨xc, hx, cc, rfl, f, rfl, hf⟩ := hy.2.1 _ _ ht
  unfold hp_isI at hI
  split at hI
  case h_2 => cases hI
  rename_i m hm
  rw [Bool.and_eq_true, sx_beqn] at hI
  obtain ⟨c0, hI⟩ := hI
  split at hI
  case h_2 => cases hI
  rename_i X hX
  obtain ⟨M', hM', hmok, -⟩ := sx_tok_m mi m hm c0
  rw [hM] at hM'
  cases hM'
  have hfind := hmok.2.2 _ _ hX
  have en : i.toNatClampNeg = i.toInt.toNat := rfl
  have hlt : ¬ (i < 0 ∨ n ≤ i.toNatClampNeg) := by
    rintro (q | q)
    · have := Int32.lt_iff_toInt_lt.mp q
      have z : (0 : Int32).toInt = 0 := rfl
      omega
    · omega
  have hs : am_s cst m_cl m_tt .iastore X pc l (.int x :: .int i :: .ref (16 + c) :: st) h = some (pc + 1, l, st, h.set c (.inl (.int, n, .inl (upd f i.toNatClampNeg x)))) := by
    have e16 : 16 + c - 16 = c := by omega
    have g16 : ¬ 16 + c < 16 := by omega
    simp only [am_s, if_neg g16, e16, hx, if_neg hlt]
  have up : ∀ j, upd f i.toNatClampNeg x j = if j = i.toNatClampNeg then x else f j := fun j => rfl
  refine sx_Fin_step rfl (fun n r hgo => ⟨_, X, hfind, Or.inl ⟨_, hs, hgo⟩⟩) (k _ (ly_hy_set1 hy hc fun t ht' => ?_) (by rw [List.length_set]) (hp_p0_of hc hx ?_ ?_))
  · rw [ht] at ht'
    cases ht'
    refine ⟨_, rfl, _, rfl, fun j hj => ?_⟩
    rw [up]
    by_cases ej : j = i.toNatClampNeg
    · rw [if_pos ej]; exact ⟨v0, v1⟩
    · rw [if_neg ej]; exact hf j hj
  · simp only [ly_hs]
    rw [if_pos ⟨trivial, h0, by omega⟩, up, if_pos (by omega)]
  · intro k i' hne
    simp only [ly_hs]
    by_cases hk : k = 0 ∧ 0 ≤ i' ∧ i'.toNat < n
    · rw [if_pos hk, if_pos hk, up, if_neg]
      have := hne.resolve_left (fun q => q hk.1)
      omega
    · rw [if_neg hk, if_neg hk]
theorem hp_p0_hv {cst : am_K} {r : Nat} {i v : Int} {h h' : am_H} (p : hp_p0 cst r i v h h') (hr : r < 60010) {r' : Nat} (hn : r' ≠ r) (hg : ly_has r' (ly_dg r) = false) (i' : Int) : ly_hv cst h' r' i' = ly_hv cst h r' i' := ly_hv_but hr (fun r2 hr2 i2 => p.2 r2 i2 (Or.inl hr2)) hn hg i'
theorem hp_p0_fr {cst : am_K} {r : Nat} {i v : Int} {h h' : am_H} {mods : List Nat} (p : hp_p0 cst r i v h h') (hr : r < 60010) (hm : ly_has r mods = true) (hg : (ly_dg r).all (fun g => ly_has g mods) = true) : ly_fr cst mods h h' := fun r' i' v' hr' e => by
  have hn : r' ≠ r := fun q => by rw [q, hm] at hr'; cases hr'
  rw [hp_p0_hv p hr hn]
  · exact e
  · cases hx : ly_has r' (ly_dg r) with
    | false => rfl
    | true =>
      unfold ly_has at hx
      obtain ⟨q, hq, hb⟩ := List.any_eq_true.mp hx
      have := List.all_eq_true.mp hg q hq
      rw [sx_beqn.mp hb, hr'] at this
      cases this
