/-! what a write does to regions and kinds -/
section LY5
variable {cst : am_K} {tt : List (List FieldType)} {TH : List (List ly_T)} {h : am_H} {ν : ly_N}
theorem ly_h0_set1 {c : Nat} {x x' : am_E} (hc : c < 177) (hx : h[c]? = some x) {r : Nat} {i : Int} (hs : r / 256 = c → ly_hs (some x') (r % 256) i = ly_hs (some x) (r % 256) i) : ly_h0 cst (h.set c x') r i = ly_h0 cst h r i := by
  have hl := (List.getElem?_eq_some_iff.mp hx).1
  unfold ly_h0
  by_cases h1 : r / 256 < 177
  · rw [if_pos h1, if_pos h1]
    by_cases h2 : r / 256 = c
    · rw [h2, List.getElem?_set_self hl, hx]
      exact hs h2
    · rw [List.getElem?_set_ne (Ne.symm h2)]
  · rw [if_neg h1, if_neg h1]
    by_cases h2 : r / 256 < 196
    · rw [if_pos h2, if_pos h2, List.getElem?_set_ne (by omega)]
    · rw [if_neg h2, if_neg h2, List.length_set]
theorem ly_h0_set2 {z j : Nat} {x x' : am_E} (hj : j < 19) (hx : h[177 + 19 * z + j]? = some x) {r : Nat} {i : Int} (hs : r / 256 = 177 + j → i = (z : Int) → ly_hm (some x') (r % 256) = ly_hm (some x) (r % 256)) : ly_h0 cst (h.set (177 + 19 * z + j) x') r i = ly_h0 cst h r i := by
  have hl := (List.getElem?_eq_some_iff.mp hx).1
  unfold ly_h0
  by_cases h1 : r / 256 < 177
  · rw [if_pos h1, if_pos h1, List.getElem?_set_ne (by omega)]
  · rw [if_neg h1, if_neg h1]
    by_cases h2 : r / 256 < 196
    · rw [if_pos h2, if_pos h2]
      by_cases h3 : 0 ≤ i
      · rw [if_pos h3, if_pos h3]
        by_cases h4 : 177 + 19 * i.toNat + (r / 256 - 177) = 177 + 19 * z + j
        · rw [h4, List.getElem?_set_self hl, hx]
          exact hs (by omega) (by omega)
        · rw [List.getElem?_set_ne (fun e => h4 e.symm)]
      · rw [if_neg h3, if_neg h3]
    · rw [if_neg h2, if_neg h2, List.length_set]
theorem ly_h0_of1 {c k : Nat} {i : Int} (hc : c < 177) (hk : k < 256) : ly_h0 cst h (256 * c + k) i = ly_hs h[c]? k i := by
  unfold ly_h0
  have e1 : (256 * c + k) / 256 = c := by omega
  have e2 : (256 * c + k) % 256 = k := by omega
  rw [e1, e2, if_pos hc]
theorem ly_h0_of2 {z j k : Nat} (hj : j < 19) (hk : k < 256) : ly_h0 cst h (256 * (177 + j) + k) (z : Int) = ly_hm h[177 + 19 * z + j]? k := by
  unfold ly_h0
  have e1 : (256 * (177 + j) + k) / 256 = 177 + j := by omega
  have e2 : (256 * (177 + j) + k) % 256 = k := by omega
  have e3 : 177 + j - 177 = j := by omega
  rw [e1, e2, if_neg (by omega), if_pos (by omega), if_pos (Int.natCast_nonneg z), e3]
  rfl
theorem ly_ths_lt {i : Nat} {t : ly_T} (e : ly_ths TH i = some t) : i < 177 := by
  unfold ly_ths at e
  cases hb : Nat.blt i 177 with
  | false => rw [hb] at e; cases e
  | true => exact sx_blt.mp hb
theorem ly_thm_lt {i : Nat} {t : ly_T} (e : ly_thm TH i = some t) : i < 19 := by
  unfold ly_thm at e
  cases hb : Nat.blt i 19 with
  | false => rw [hb] at e; cases e
  | true => exact sx_blt.mp hb
theorem ly_hy_set1 {c : Nat} {x' : am_E} (hy : ly_hy tt TH h) (hc : c < 177) (g : ∀ t, ly_ths TH c = some t → ly_gT tt h.length 0 t x') : ly_hy tt TH (h.set c x') := by
  obtain ⟨h0, h1, h2⟩ := hy
  refine ⟨by rw [List.length_set]; exact h0, fun i t e => ?_, fun z j t hz e => ?_⟩
  · rw [List.length_set]
    by_cases hi : i = c
    · subst hi
      exact ⟨x', List.getElem?_set_self (by omega), g t e⟩
    · obtain ⟨x, hx, gx⟩ := h1 i t e
      exact ⟨x, by rw [List.getElem?_set_ne (Ne.symm hi)]; exact hx, gx⟩
  · rw [List.length_set] at hz ⊢
    obtain ⟨x, hx, gx⟩ := h2 z j t hz e
    exact ⟨x, by rw [List.getElem?_set_ne (by omega)]; exact hx, gx⟩
theorem ly_hy_set2 {z j : Nat} {x' : am_E} (hy : ly_hy tt TH h) (hj : j < 19) (hz : 177 + 19 * (z + 1) ≤ h.length) (g : ∀ t, ly_thm TH j = some t → ly_gT tt h.length (177 + 19 * z) t x') : ly_hy tt TH (h.set (177 + 19 * z + j) x') := by
  obtain ⟨h0, h1, h2⟩ := hy
  refine ⟨by rw [List.length_set]; exact h0, fun i t e => ?_, fun z' j' t hz' e => ?_⟩
  · rw [List.length_set]
    have := ly_ths_lt e
    obtain ⟨x, hx, gx⟩ := h1 i t e
    exact ⟨x, by rw [List.getElem?_set_ne (by omega)]; exact hx, gx⟩
  · rw [List.length_set] at hz' ⊢
    have := ly_thm_lt e
    by_cases hi : 177 + 19 * z' + j' = 177 + 19 * z + j
    · have e1 : z' = z := by omega
      have e2 : j' = j := by omega
      subst e1
      subst e2
      exact ⟨x', List.getElem?_set_self (by omega), g t e⟩
    · obtain ⟨x, hx, gx⟩ := h2 z' j' t hz' e
      exact ⟨x, by rw [List.getElem?_set_ne (fun e => hi e.symm)]; exact hx, gx⟩
theorem ly_hm_set {ci : Nat} {vs vs' : List Value} {k m : Nat} (he : ∀ k', k' ≠ k → vs'[k']? = vs[k']?) (hm : m ≠ k) : ly_hm (some (.inr (ci, vs'))) m = ly_hm (some (.inr (ci, vs))) m := by
  simp only [ly_hm]
  rw [he m hm]
theorem ly_hs_set {ci : Nat} {vs vs' : List Value} {k m : Nat} {i : Int} (he : ∀ k', k' ≠ k → vs'[k']? = vs[k']?) (hm : m ≠ k ∨ i ≠ 0) : ly_hs (some (.inr (ci, vs'))) m i = ly_hs (some (.inr (ci, vs))) m i := by
  simp only [ly_hs]
  by_cases hi : i = 0
  · rw [if_pos hi, if_pos hi, he m (by omega)]
  · rw [if_neg hi, if_neg hi]
/-- an object, its fields, and what a write to one of them does -/
theorem ly_ob_ok {v : ly_V} {w : Value} {c ci : Nat} {i : ly_e} {fs : List (List ly_F)} (hy : ly_hy tt TH h) (g : ly_g ν h.length v w) (e : ly_ob TH v = some (c, i, ci, fs)) :
    ∃ (a b : Nat) (zi : Int) (vs : List Value), w = .ref (16 + a) ∧ ly_ev ν i = some zi ∧ h[a]? = some (.inr (ci, vs)) ∧ vs.length = (tt.getD ci []).length ∧ (∀ k f, sx_ch 8 k fs = some f → ∃ u, vs[k]? = some u ∧ ly_gf b f u) ∧
      (∀ k, k < 256 → ly_h0 cst h (256 * c + k) zi = ly_hm (some (.inr (ci, vs))) k) ∧
      (∀ (k : Nat) (vs' : List Value), k < 256 → vs'.length = vs.length → (∀ k', k' ≠ k → vs'[k']? = vs[k']?) → (∀ f, sx_ch 8 k fs = some f → ∃ u, vs'[k]? = some u ∧ ly_gf b f u) →
        ly_hy tt TH (h.set a (.inr (ci, vs'))) ∧ ly_h0 cst (h.set a (.inr (ci, vs'))) (256 * c + k) zi = ly_hm (some (.inr (ci, vs'))) k ∧ ∀ r' i', r' ≠ 256 * c + k ∨ i' ≠ zi → ly_h0 cst (h.set a (.inr (ci, vs'))) r' i' = ly_h0 cst h r' i') ∧
      (∀ j x, v = .inr (.inr (.inr (j, x))) → ∃ z : Nat, ly_ev ν x = some (z : Int) ∧ b = 177 + 19 * z ∧ 177 + 19 * (z + 1) ≤ h.length) ∧ c < 196 := by
  unfold ly_ob at e
  split at e
  · rename_i a
    cases ha : Nat.blt a 16 with
    | true => rw [ha] at e; cases e
    | false =>
      have ha' := sx_blt_neg ha
      rw [ha] at e
      simp only [cond_false] at e
      split at e
      case h_2 => cases e
      rename_i r hr
      cases e
      have hlt := ly_ths_lt hr
      obtain ⟨x, hx, gx⟩ := hy.2.1 _ _ hr
      obtain ⟨vs, rfl, hlen, hfs⟩ := gx
      have hl := (List.getElem?_eq_some_iff.mp hx).1
      have ew := ly_g_ref g (by omega)
      have es : ∀ k (vs : List Value), ly_hs (some (.inr (ci, vs))) k 0 = ly_hm (some (.inr (ci, vs))) k := fun k vs => by simp only [ly_hs, ly_hm, if_true]
      refine ⟨a - 16, 0, 0, vs, by rw [ew, show 16 + (a - 16) = a by omega], ly_ev_c ν 0, hx, hlen, hfs, fun k hk => ?_, fun k vs' hk hl' he hf => ⟨?_, ?_, fun r' i' hr' => ?_⟩, (fun j x hv => by cases hv), by omega⟩
      · rw [ly_h0_of1 hlt hk, hx, es]
      · refine ly_hy_set1 hy hlt (fun t ht => ?_)
        rw [hr] at ht
        cases ht
        refine ⟨vs', rfl, by rw [hl', hlen], fun k' f hf' => ?_⟩
        by_cases hkk : k' = k
        · subst hkk; exact hf f hf'
        · rw [he k' hkk]; exact hfs k' f hf'
      · rw [ly_h0_of1 hlt hk, List.getElem?_set_self hl, es]
      · refine ly_h0_set1 hlt hx (fun er => ly_hs_set he ?_)
        rcases hr' with hr' | hr'
        · exact Or.inl (fun em => hr' (by omega))
        · exact Or.inr hr'
  · rename_i j x
    split at e
    case h_2 => cases e
    rename_i r hr
    cases e
    obtain ⟨hj, z, ez, ew, hz⟩ := g
    obtain ⟨x', hx, gx⟩ := hy.2.2 z j _ hz hr
    obtain ⟨vs, rfl, hlen, hfs⟩ := gx
    have hl := (List.getElem?_eq_some_iff.mp hx).1
    refine ⟨177 + 19 * z + j, 177 + 19 * z, (z : Int), vs, ew, ez, hx, hlen, hfs, fun k hk => ?_, fun k vs' hk hl' he hf => ⟨?_, ?_, fun r' i' hr' => ?_⟩, fun j' x' hv => ?_, by omega⟩
    · rw [ly_h0_of2 hj hk, hx]
    · refine ly_hy_set2 hy hj hz (fun t ht => ?_)
      rw [hr] at ht
      cases ht
      refine ⟨vs', rfl, by rw [hl', hlen], fun k' f hf' => ?_⟩
      by_cases hkk : k' = k
      · subst hkk; exact hf f hf'
      · rw [he k' hkk]; exact hfs k' f hf'
    · rw [ly_h0_of2 hj hk, List.getElem?_set_self hl]
    · refine ly_h0_set2 hj hx (fun er ei => ly_hm_set he ?_)
      rcases hr' with hr' | hr'
      · exact fun em => hr' (by omega)
      · exact absurd ei hr'
    · cases hv
      exact ⟨z, ez, rfl, hz⟩
  · cases e
/-- a row, what it holds, and what a write to it does -/
theorem ly_row_ok {f : FieldType → Bool} {v : ly_V} {w : Value} {oc : Option Nat} {ty : FieldType} {n : Nat} {lo hi : Int} (hy : ly_hy tt TH h) (g : ly_g ν h.length v w) (e : ly_row f TH v = some (oc, ty, n, lo, hi)) :
    f ty = true ∧ ∃ a : Nat, ∃ c, w = .ref (16 + a) ∧ h[a]? = some (.inl (ty, n, c)) ∧ ly_gT tt h.length 0 (.inl (ty, n, lo, hi)) (.inl (ty, n, c)) ∧ (∀ c', ly_gT tt h.length 0 (.inl (ty, n, lo, hi)) (.inl (ty, n, c')) → ly_hy tt TH (h.set a (.inl (ty, n, c')))) ∧
      (∀ c0, oc = some c0 → c0 = a ∧ a < 177) ∧ (oc = none → ∀ c' r i, ly_h0 cst (h.set a (.inl (ty, n, c'))) r i = ly_h0 cst h r i) := by
  unfold ly_row at e
  split at e
  · rename_i a
    cases ha : Nat.blt a 16 with
    | true => rw [ha] at e; cases e
    | false =>
      have ha' := sx_blt_neg ha
      rw [ha] at e
      simp only [cond_false] at e
      split at e
      case h_2 => cases e
      rename_i r hr
      cases hf : f r.1 with
      | false => rw [hf] at e; cases e
      | true =>
        rw [hf] at e
        cases e
        have hlt := ly_ths_lt hr
        obtain ⟨x, hx, gx⟩ := hy.2.1 _ _ hr
        obtain ⟨c, rfl, gc⟩ := gx
        have ew := ly_g_ref g (by omega)
        refine ⟨hf, a - 16, c, by rw [ew, show 16 + (a - 16) = a by omega], hx, ⟨c, rfl, gc⟩, fun c' g' => ?_, fun c0 e0 => by cases e0; exact ⟨rfl, hlt⟩, fun e0 => by cases e0⟩
        refine ly_hy_set1 hy hlt (fun t ht => ?_)
        rw [hr] at ht
        cases ht
        exact g'
  · rename_i j x
    split at e
    case h_2 => cases e
    rename_i r hr
    cases hf : f r.1 with
    | false => rw [hf] at e; cases e
    | true =>
      rw [hf] at e
      cases e
      obtain ⟨hj, z, ez, ew, hz⟩ := g
      obtain ⟨x', hx, gx⟩ := hy.2.2 z j _ hz hr
      obtain ⟨c, rfl, gc⟩ := gx
      refine ⟨hf, 177 + 19 * z + j, c, ew, hx, ⟨c, rfl, gc⟩, fun c' g' => ?_, (fun c0 e0 => by cases e0), fun _ c' r i => ?_⟩
      · refine ly_hy_set2 hy hj hz (fun t ht => ?_)
        rw [hr] at ht
        cases ht
        exact g'
      · exact ly_h0_set2 hj hx (fun _ _ => rfl)
  · cases e
end LY5
