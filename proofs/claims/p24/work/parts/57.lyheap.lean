/-! what a write does to regions and kinds -/
section LY5
variable {cst : am_K} {tt : List (List FieldType)} {TH : List (List ly_T)} {h : am_H} {ν : ly_N}
theorem ly_h2_same {h' : am_H} {j k i : Nat} (e1 : h'[177 + 19 * i + j]? = h[177 + 19 * i + j]?) (e2 : h'[177 + 19 * (i / 32) + j]? = h[177 + 19 * (i / 32) + j]?) : ly_h2 h' j k i = ly_h2 h j k i := by
  unfold ly_h2
  rw [e1, e2]
theorem ly_h2_o {j k i : Nat} (hn : j ≠ 0 → ∀ y, h[177 + 19 * (i / 32) + j]? ≠ some (.inl y)) : ly_h2 h j k i = ly_hm h[177 + 19 * i + j]? k := by
  unfold ly_h2
  by_cases h0 : j = 0
  · rw [if_pos h0]
  · rw [if_neg h0]
    split
    · rename_i y e
      exact absurd e (hn h0 y)
    · rfl
theorem ly_h2_a {j k i : Nat} {y : FieldType × vp_A} (h0 : j ≠ 0) (hx : h[177 + 19 * (i / 32) + j]? = some (.inl y)) : ly_h2 h j k i = if k = 0 then ly_hs (some (.inl y)) 0 ((i % 32 : Nat) : Int) else none := by
  unfold ly_h2
  rw [if_neg h0, hx]
theorem ly_h0_set1 {c : Nat} {x x' : am_E} (hc : c < 177) (hx : h[c]? = some x) {r : Nat} {i : Int} (hs : r / 256 = c → ly_hs (some x') (r % 256) i = ly_hs (some x) (r % 256) i) : ly_h0 cst (h.set c x') r i = ly_h0 cst h r i := by
  have hl := (List.getElem?_eq_some_iff.mp hx).1
  unfold ly_h0
  by_cases h1 : r / 256 < 177
  · rw [if_pos h1, if_pos h1]
    by_cases h2 : r / 256 = c
    · rw [h2, List.getElem?_set_self hl, hx]
      exact hs h2
    · rw [List.getElem?_set_ne (Ne.symm h2)]
  · rw [if_neg h1, if_neg h1]
    by_cases h2 : r / 256 < 196
    · rw [if_pos h2, if_pos h2]
      by_cases h3 : 0 ≤ i
      · rw [if_pos h3, if_pos h3]
        exact ly_h2_same (List.getElem?_set_ne (by omega)) (List.getElem?_set_ne (by omega))
      · rw [if_neg h3, if_neg h3]
    · rw [if_neg h2, if_neg h2, List.length_set]
/-- an object of a matter changes -/
theorem ly_h0_set2o {z j : Nat} {y y' : Nat × List Value} (hj : j < 19) (hx : h[177 + 19 * z + j]? = some (.inr y)) {r : Nat} {i : Int} (hs : r / 256 = 177 + j → i = (z : Int) → ly_hm (some (.inr y')) (r % 256) = ly_hm (some (.inr y)) (r % 256)) : ly_h0 cst (h.set (177 + 19 * z + j) (.inr y')) r i = ly_h0 cst h r i := by
  have hl := (List.getElem?_eq_some_iff.mp hx).1
  unfold ly_h0
  by_cases h1 : r / 256 < 177
  · rw [if_pos h1, if_pos h1, List.getElem?_set_ne (by omega)]
  · rw [if_neg h1, if_neg h1]
    by_cases h2 : r / 256 < 196
    · rw [if_pos h2, if_pos h2]
      by_cases h3 : 0 ≤ i
      · rw [if_pos h3, if_pos h3]
        by_cases h4 : r / 256 - 177 = j
        · have h5 := hs (by omega)
          rw [h4]
          have e1 : i.toNat ≠ z → (h.set (177 + 19 * z + j) (.inr y'))[177 + 19 * i.toNat + j]? = h[177 + 19 * i.toNat + j]? := fun q => List.getElem?_set_ne (by omega)
          have e2 : i.toNat / 32 ≠ z → (h.set (177 + 19 * z + j) (.inr y'))[177 + 19 * (i.toNat / 32) + j]? = h[177 + 19 * (i.toNat / 32) + j]? := fun q => List.getElem?_set_ne (by omega)
          have last : ly_hm (h.set (177 + 19 * z + j) (.inr y'))[177 + 19 * i.toNat + j]? (r % 256) = ly_hm h[177 + 19 * i.toNat + j]? (r % 256) := by
            by_cases h6 : i.toNat = z
            · rw [h6, List.getElem?_set_self hl, hx]
              exact h5 (by omega)
            · rw [e1 h6]
          by_cases h0 : j = 0
          · rw [ly_h2_o (fun q => absurd h0 q), ly_h2_o (fun q => absurd h0 q)]
            exact last
          · by_cases ha : ∃ y0, h[177 + 19 * (i.toNat / 32) + j]? = some (.inl y0)
            · obtain ⟨y0, ha⟩ := ha
              have hz : i.toNat / 32 ≠ z := fun q => by
                rw [q, hx] at ha
                cases ha
              rw [ly_h2_a h0 ((e2 hz).trans ha), ly_h2_a h0 ha]
            · have hn : ∀ y0, h[177 + 19 * (i.toNat / 32) + j]? ≠ some (.inl y0) := fun y0 e => ha ⟨y0, e⟩
              rw [ly_h2_o (fun _ => hn), ly_h2_o (fun _ y0 e => ?_)]
              · exact last
              · by_cases hz : i.toNat / 32 = z
                · rw [hz, List.getElem?_set_self hl] at e
                  cases e
                · rw [e2 hz] at e
                  exact hn y0 e
        · exact ly_h2_same (List.getElem?_set_ne (by omega)) (List.getElem?_set_ne (by omega))
      · rw [if_neg h3, if_neg h3]
    · rw [if_neg h2, if_neg h2, List.length_set]
/-- a row of a matter changes -/
theorem ly_h0_set2a {z j : Nat} {y y' : FieldType × vp_A} (hj : j < 19) (h0 : j ≠ 0) (hx : h[177 + 19 * z + j]? = some (.inl y)) {r : Nat} {i : Int} (hs : r = 256 * (177 + j) → 0 ≤ i → i.toNat / 32 = z → ly_hs (some (.inl y')) 0 ((i.toNat % 32 : Nat) : Int) = ly_hs (some (.inl y)) 0 ((i.toNat % 32 : Nat) : Int)) : ly_h0 cst (h.set (177 + 19 * z + j) (.inl y')) r i = ly_h0 cst h r i := by
  have hl := (List.getElem?_eq_some_iff.mp hx).1
  unfold ly_h0
  by_cases h1 : r / 256 < 177
  · rw [if_pos h1, if_pos h1, List.getElem?_set_ne (by omega)]
  · rw [if_neg h1, if_neg h1]
    by_cases h2 : r / 256 < 196
    · rw [if_pos h2, if_pos h2]
      by_cases h3 : 0 ≤ i
      · rw [if_pos h3, if_pos h3]
        by_cases h4 : r / 256 - 177 = j
        · rw [h4]
          by_cases h7 : i.toNat / 32 = z
          · rw [ly_h2_a (y := y') h0 (by rw [h7]; exact List.getElem?_set_self hl), ly_h2_a (y := y) h0 (by rw [h7]; exact hx)]
            by_cases k0 : r % 256 = 0
            · rw [if_pos k0, if_pos k0]
              exact hs (by omega) h3 h7
            · rw [if_neg k0, if_neg k0]
          · have e2 : (h.set (177 + 19 * z + j) (.inl y'))[177 + 19 * (i.toNat / 32) + j]? = h[177 + 19 * (i.toNat / 32) + j]? := List.getElem?_set_ne (by omega)
            by_cases ha : ∃ y0, h[177 + 19 * (i.toNat / 32) + j]? = some (.inl y0)
            · obtain ⟨y0, ha⟩ := ha
              rw [ly_h2_a h0 (e2.trans ha), ly_h2_a h0 ha]
            · have hn : ∀ y0, h[177 + 19 * (i.toNat / 32) + j]? ≠ some (.inl y0) := fun y0 e => ha ⟨y0, e⟩
              rw [ly_h2_o (fun _ => hn), ly_h2_o (fun _ y0 e => hn y0 (e2.symm.trans e))]
              by_cases h6 : i.toNat = z
              · rw [h6, List.getElem?_set_self hl, hx]
                rfl
              · rw [List.getElem?_set_ne (by omega)]
        · exact ly_h2_same (List.getElem?_set_ne (by omega)) (List.getElem?_set_ne (by omega))
      · rw [if_neg h3, if_neg h3]
    · rw [if_neg h2, if_neg h2, List.length_set]
theorem ly_h0_a {z j m : Nat} {y : FieldType × vp_A} (hj : j < 19) (h0 : j ≠ 0) (hm : m < 32) (hx : h[177 + 19 * z + j]? = some (.inl y)) : ly_h0 cst h (256 * (177 + j)) (32 * (z : Int) + (m : Int)) = ly_hs (some (.inl y)) 0 (m : Int) := by
  unfold ly_h0
  have e1 : 256 * (177 + j) / 256 = 177 + j := by omega
  have e2 : 256 * (177 + j) % 256 = 0 := by omega
  have e3 : 177 + j - 177 = j := by omega
  have e4 : (32 * (z : Int) + (m : Int)).toNat = 32 * z + m := by omega
  have e5 : (32 * z + m) / 32 = z := by omega
  have e6 : (32 * z + m) % 32 = m := by omega
  rw [e1, e2, if_neg (by omega), if_pos (by omega), if_pos (by omega), e3, e4, ly_h2_a (y := y) h0 (by rw [e5]; exact hx), if_pos rfl, e6]
/-- cell 0 of a matter -/
theorem ly_h0_set2 {z j : Nat} {x x' : am_E} (hj : j < 1) (hx : h[177 + 19 * z + j]? = some x) {r : Nat} {i : Int} (hs : r / 256 = 177 + j → i = (z : Int) → ly_hm (some x') (r % 256) = ly_hm (some x) (r % 256)) : ly_h0 cst (h.set (177 + 19 * z + j) x') r i = ly_h0 cst h r i := by
  have hl := (List.getElem?_eq_some_iff.mp hx).1
  unfold ly_h0
  by_cases h1 : r / 256 < 177
  · rw [if_pos h1, if_pos h1, List.getElem?_set_ne (by omega)]
  · rw [if_neg h1, if_neg h1]
    by_cases h2 : r / 256 < 196
    · rw [if_pos h2, if_pos h2]
      by_cases h3 : 0 ≤ i
      · rw [if_pos h3, if_pos h3]
        by_cases h4 : 177 + 19 * i.toNat + (r / 256 - 177) = 177 + 19 * z + j
        · have h5 : r / 256 - 177 = 0 := by omega
          rw [h5, ly_h2_o (fun q => absurd rfl q), ly_h2_o (fun q => absurd rfl q)]
          rw [h5] at h4
          rw [h4, List.getElem?_set_self hl, hx]
          exact hs (by omega) (by omega)
        · by_cases h5 : r / 256 - 177 = 0
          · rw [h5, ly_h2_o (fun q => absurd rfl q), ly_h2_o (fun q => absurd rfl q)]
            rw [h5] at h4
            rw [List.getElem?_set_ne (fun e => h4 e.symm)]
          · exact ly_h2_same (List.getElem?_set_ne (by omega)) (List.getElem?_set_ne (by omega))
      · rw [if_neg h3, if_neg h3]
    · rw [if_neg h2, if_neg h2, List.length_set]
theorem ly_h0_of1 {c k : Nat} {i : Int} (hc : c < 177) (hk : k < 256) : ly_h0 cst h (256 * c + k) i = ly_hs h[c]? k i := by
  unfold ly_h0
  have e1 : (256 * c + k) / 256 = c := by omega
  have e2 : (256 * c + k) % 256 = k := by omega
  rw [e1, e2, if_pos hc]
theorem ly_h0_of2o {z j k : Nat} (hj : j < 19) (hk : k < 256) (hn : ∀ y, h[177 + 19 * (z / 32) + j]? ≠ some (.inl y)) : ly_h0 cst h (256 * (177 + j) + k) (z : Int) = ly_hm h[177 + 19 * z + j]? k := by
  unfold ly_h0
  have e1 : (256 * (177 + j) + k) / 256 = 177 + j := by omega
  have e2 : (256 * (177 + j) + k) % 256 = k := by omega
  have e3 : 177 + j - 177 = j := by omega
  rw [e1, e2, if_neg (by omega), if_pos (by omega), if_pos (Int.natCast_nonneg z), e3]
  exact ly_h2_o (fun _ => hn)
theorem ly_h0_of2 {z j k : Nat} (hj : j < 1) (hk : k < 256) : ly_h0 cst h (256 * (177 + j) + k) (z : Int) = ly_hm h[177 + 19 * z + j]? k := by
  unfold ly_h0
  have e1 : (256 * (177 + j) + k) / 256 = 177 + j := by omega
  have e2 : (256 * (177 + j) + k) % 256 = k := by omega
  have e3 : 177 + j - 177 = j := by omega
  rw [e1, e2, if_neg (by omega), if_pos (by omega), if_pos (Int.natCast_nonneg z), e3]
  exact ly_h2_o (fun q => absurd (show j = 0 by omega) q)
theorem ly_ths_lt {i : Nat} {t : ly_T} (e : ly_ths TH i = some t) : i < 177 := by
  unfold ly_ths at e
  cases hb : Nat.blt i 177 with
  | false => rw [hb] at e; cases e
  | true => exact sx_blt.mp hb
theorem ly_thm_lt {i : Nat} {t : ly_T} (e : ly_thm TH i = some t) : i < 19 := by
  unfold ly_thm at e
  cases hb : Nat.blt i 19 with
  | false => rw [hb] at e; cases e
  | true => exact sx_blt.mp hb
theorem ly_hy_set1 {c : Nat} {x' : am_E} (hy : ly_hy tt TH h) (hc : c < 177) (g : ∀ t, ly_ths TH c = some t → ly_gT tt h.length 0 t x') : ly_hy tt TH (h.set c x') := by
  obtain ⟨h0, h1, h2⟩ := hy
  refine ⟨by rw [List.length_set]; exact h0, fun i t e => ?_, fun z j t hz e => ?_⟩
  · rw [List.length_set]
    by_cases hi : i = c
    · subst hi
      exact ⟨x', List.getElem?_set_self (by omega), g t e⟩
    · obtain ⟨x, hx, gx⟩ := h1 i t e
      exact ⟨x, by rw [List.getElem?_set_ne (Ne.symm hi)]; exact hx, gx⟩
  · rw [List.length_set] at hz ⊢
    obtain ⟨x, hx, gx⟩ := h2 z j t hz e
    exact ⟨x, by rw [List.getElem?_set_ne (by omega)]; exact hx, gx⟩
theorem ly_hy_set2 {z j : Nat} {x' : am_E} (hy : ly_hy tt TH h) (hj : j < 19) (hz : 177 + 19 * (z + 1) ≤ h.length) (g : ∀ t, ly_thm TH j = some t → ly_gT tt h.length (177 + 19 * z) t x') : ly_hy tt TH (h.set (177 + 19 * z + j) x') := by
  obtain ⟨h0, h1, h2⟩ := hy
  refine ⟨by rw [List.length_set]; exact h0, fun i t e => ?_, fun z' j' t hz' e => ?_⟩
  · rw [List.length_set]
    have := ly_ths_lt e
    obtain ⟨x, hx, gx⟩ := h1 i t e
    exact ⟨x, by rw [List.getElem?_set_ne (by omega)]; exact hx, gx⟩
  · rw [List.length_set] at hz' ⊢
    have := ly_thm_lt e
    by_cases hi : 177 + 19 * z' + j' = 177 + 19 * z + j
    · have e1 : z' = z := by omega
      have e2 : j' = j := by omega
      subst e1
      subst e2
      exact ⟨x', List.getElem?_set_self (by omega), g t e⟩
    · obtain ⟨x, hx, gx⟩ := h2 z' j' t hz' e
      exact ⟨x, by rw [List.getElem?_set_ne (fun e => hi e.symm)]; exact hx, gx⟩
theorem ly_hm_set {ci : Nat} {vs vs' : List Value} {k m : Nat} (he : ∀ k', k' ≠ k → vs'[k']? = vs[k']?) (hm : m ≠ k) : ly_hm (some (.inr (ci, vs'))) m = ly_hm (some (.inr (ci, vs))) m := by
  simp only [ly_hm]
  rw [he m hm]
theorem ly_hs_set {ci : Nat} {vs vs' : List Value} {k m : Nat} {i : Int} (he : ∀ k', k' ≠ k → vs'[k']? = vs[k']?) (hm : m ≠ k ∨ i ≠ 0) : ly_hs (some (.inr (ci, vs'))) m i = ly_hs (some (.inr (ci, vs))) m i := by
  simp only [ly_hs]
  by_cases hi : i = 0
  · rw [if_pos hi, if_pos hi, he m (by omega)]
  · rw [if_neg hi, if_neg hi]
/-- an object, its fields, and what a write to one of them does -/
theorem ly_ob_ok {v : ly_V} {w : Value} {c ci : Nat} {i : ly_e} {fs : List (List ly_F)} (hy : ly_hy tt TH h) (g : ly_g ν h.length v w) (e : ly_ob TH v = some (c, i, ci, fs)) :
    ∃ (a b : Nat) (zi : Int) (vs : List Value), w = .ref (16 + a) ∧ ly_ev ν i = some zi ∧ h[a]? = some (.inr (ci, vs)) ∧ vs.length = (tt.getD ci []).length ∧ (∀ k f, sx_ch 8 k fs = some f → ∃ u, vs[k]? = some u ∧ ly_gf b f u) ∧
      (∀ k, k < 256 → ly_h0 cst h (256 * c + k) zi = ly_hm (some (.inr (ci, vs))) k) ∧
      (∀ (k : Nat) (vs' : List Value), k < 256 → vs'.length = vs.length → (∀ k', k' ≠ k → vs'[k']? = vs[k']?) → (∀ f, sx_ch 8 k fs = some f → ∃ u, vs'[k]? = some u ∧ ly_gf b f u) →
        ly_hy tt TH (h.set a (.inr (ci, vs'))) ∧ ly_h0 cst (h.set a (.inr (ci, vs'))) (256 * c + k) zi = ly_hm (some (.inr (ci, vs'))) k ∧ ∀ r' i', r' ≠ 256 * c + k ∨ i' ≠ zi → ly_h0 cst (h.set a (.inr (ci, vs'))) r' i' = ly_h0 cst h r' i') ∧
      (∀ j x, v = .inr (.inr (.inr (j, x))) → ∃ z : Nat, ly_ev ν x = some (z : Int) ∧ b = 177 + 19 * z ∧ 177 + 19 * (z + 1) ≤ h.length) ∧ c < 196 := by
  unfold ly_ob at e
  split at e
  · rename_i a
    cases ha : Nat.blt a 16 with
    | true => rw [ha] at e; cases e
    | false =>
      have ha' := sx_blt_neg ha
      rw [ha] at e
      simp only [cond_false] at e
      split at e
      case h_2 => cases e
      rename_i r hr
      cases e
      have hlt := ly_ths_lt hr
      obtain ⟨x, hx, gx⟩ := hy.2.1 _ _ hr
      obtain ⟨vs, rfl, hlen, hfs⟩ := gx
      have hl := (List.getElem?_eq_some_iff.mp hx).1
      have ew := ly_g_ref g (by omega)
      have es : ∀ k (vs : List Value), ly_hs (some (.inr (ci, vs))) k 0 = ly_hm (some (.inr (ci, vs))) k := fun k vs => by simp only [ly_hs, ly_hm, if_true]
      refine ⟨a - 16, 0, 0, vs, by rw [ew, show 16 + (a - 16) = a by omega], ly_ev_c ν 0, hx, hlen, hfs, fun k hk => ?_, fun k vs' hk hl' he hf => ⟨?_, ?_, fun r' i' hr' => ?_⟩, (fun j x hv => by cases hv), by omega⟩
      · rw [ly_h0_of1 hlt hk, hx, es]
      · refine ly_hy_set1 hy hlt (fun t ht => ?_)
        rw [hr] at ht
        cases ht
        refine ⟨vs', rfl, by rw [hl', hlen], fun k' f hf' => ?_⟩
        by_cases hkk : k' = k
        · subst hkk; exact hf f hf'
        · rw [he k' hkk]; exact hfs k' f hf'
      · rw [ly_h0_of1 hlt hk, List.getElem?_set_self hl, es]
      · refine ly_h0_set1 hlt hx (fun er => ly_hs_set he ?_)
        rcases hr' with hr' | hr'
        · exact Or.inl (fun em => hr' (by omega))
        · exact Or.inr hr'
  · rename_i j x
    split at e
    case h_2 => cases e
    rename_i r hr
    cases e
    obtain ⟨hj, z, ez, ew, hz⟩ := g
    obtain ⟨x', hx, gx⟩ := hy.2.2 z j _ hz hr
    obtain ⟨vs, rfl, hlen, hfs⟩ := gx
    have hl := (List.getElem?_eq_some_iff.mp hx).1
    have nin : ∀ y, h[177 + 19 * (z / 32) + j]? ≠ some (.inl y) := fun y e => by
      obtain ⟨x2, hx2, gx2⟩ := hy.2.2 (z / 32) j _ (by omega) hr
      obtain ⟨vs2, rfl, -⟩ := gx2
      rw [hx2] at e
      cases e
    refine ⟨177 + 19 * z + j, 177 + 19 * z, (z : Int), vs, ew, ez, hx, hlen, hfs, fun k hk => ?_, fun k vs' hk hl' he hf => ⟨?_, ?_, fun r' i' hr' => ?_⟩, fun j' x' hv => ?_, by omega⟩
    · rw [ly_h0_of2o hj hk nin, hx]
    · refine ly_hy_set2 hy hj hz (fun t ht => ?_)
      rw [hr] at ht
      cases ht
      refine ⟨vs', rfl, by rw [hl', hlen], fun k' f hf' => ?_⟩
      by_cases hkk : k' = k
      · subst hkk; exact hf f hf'
      · rw [he k' hkk]; exact hfs k' f hf'
    · rw [ly_h0_of2o hj hk (fun y e => ?_), List.getElem?_set_self hl]
      by_cases hz2 : z / 32 = z
      · rw [hz2, List.getElem?_set_self hl] at e
        cases e
      · rw [List.getElem?_set_ne (by omega)] at e
        exact nin y e
    · refine ly_h0_set2o hj hx (fun er ei => ly_hm_set he ?_)
      rcases hr' with hr' | hr'
      · exact fun em => hr' (by omega)
      · exact absurd ei hr'
    · cases hv
      exact ⟨z, ez, rfl, hz⟩
  · cases e
/-- a row, what it holds, and what a write to it does -/
theorem ly_row_ok {f : FieldType → Bool} {v : ly_V} {w : Value} {oc : Option Nat} {ty : FieldType} {n : Nat} {lo hi : Int} (hy : ly_hy tt TH h) (g : ly_g ν h.length v w) (e : ly_row f TH v = some (oc, ty, n, lo, hi)) :
    f ty = true ∧ ∃ a : Nat, ∃ c, w = .ref (16 + a) ∧ h[a]? = some (.inl (ty, n, c)) ∧ ly_gT tt h.length 0 (.inl (ty, n, lo, hi)) (.inl (ty, n, c)) ∧ (∀ c', ly_gT tt h.length 0 (.inl (ty, n, lo, hi)) (.inl (ty, n, c')) → ly_hy tt TH (h.set a (.inl (ty, n, c')))) ∧
      (∀ c0, oc = some c0 → c0 = a ∧ a < 177) ∧ (oc = none → ∃ (j z : Nat) (x : ly_e), v = .inr (.inr (.inr (j, x))) ∧ j < 19 ∧ ly_ev ν x = some (z : Int) ∧ a = 177 + 19 * z + j) := by
  unfold ly_row at e
  split at e
  · rename_i a
    cases ha : Nat.blt a 16 with
    | true => rw [ha] at e; cases e
    | false =>
      have ha' := sx_blt_neg ha
      rw [ha] at e
      simp only [cond_false] at e
      split at e
      case h_2 => cases e
      rename_i r hr
      cases hf : f r.1 with
      | false => rw [hf] at e; cases e
      | true =>
        rw [hf] at e
        cases e
        have hlt := ly_ths_lt hr
        obtain ⟨x, hx, gx⟩ := hy.2.1 _ _ hr
        obtain ⟨c, rfl, gc⟩ := gx
        have ew := ly_g_ref g (by omega)
        refine ⟨hf, a - 16, c, by rw [ew, show 16 + (a - 16) = a by omega], hx, ⟨c, rfl, gc⟩, fun c' g' => ?_, fun c0 e0 => by cases e0; exact ⟨rfl, hlt⟩, fun e0 => by cases e0⟩
        refine ly_hy_set1 hy hlt (fun t ht => ?_)
        rw [hr] at ht
        cases ht
        exact g'
  · rename_i j x
    split at e
    case h_2 => cases e
    rename_i r hr
    cases hf : f r.1 with
    | false => rw [hf] at e; cases e
    | true =>
      rw [hf] at e
      cases e
      obtain ⟨hj, z, ez, ew, hz⟩ := g
      obtain ⟨x', hx, gx⟩ := hy.2.2 z j _ hz hr
      obtain ⟨c, rfl, gc⟩ := gx
      refine ⟨hf, 177 + 19 * z + j, c, ew, hx, ⟨c, rfl, gc⟩, fun c' g' => ?_, (fun c0 e0 => by cases e0), fun _ => ⟨j, z, x, rfl, hj, ez, rfl⟩⟩
      · refine ly_hy_set2 hy hj hz (fun t ht => ?_)
        rw [hr] at ht
        cases ht
        exact g'
  · cases e
theorem ly_mr_ok {n j z : Nat} {x i ix : ly_e} {r : Nat} {zi : Int} (e : ly_mr n (.inr (.inr (.inr (j, x)))) i = some (r, ix)) (ez : ly_ev ν x = some (z : Int)) (ei : ly_ev ν i = some zi) : j ≠ 0 ∧ n ≤ 32 ∧ r = 256 * (177 + j) ∧ ly_ev ν ix = some (32 * (z : Int) + zi) := by
  unfold ly_mr at e
  simp only at e
  cases hc : (Nat.beq j 0 || Nat.blt 32 n) with
  | true => rw [hc] at e; cases e
  | false =>
    rw [hc] at e
    simp only [cond_false, Option.some.injEq, Prod.mk.injEq] at e
    rw [Bool.or_eq_false_iff] at hc
    have h1 : j ≠ 0 := fun q => by
      rw [q] at hc
      exact absurd hc.1 (by decide)
    have h2 := sx_blt_neg hc.2
    refine ⟨h1, by omega, e.1.symm, ?_⟩
    rw [← e.2]
    exact ly_add_ok (ly_scl_ok (c := 32) ez) ei
theorem ly_h0_row2 {z j n m : Nat} {ty : FieldType} {f0 : Nat → Int32} {x : Int32} (hj : j < 19) (h0 : j ≠ 0) (hn : n ≤ 32) (hx : h[177 + 19 * z + j]? = some (.inl (ty, n, .inl f0))) (hm : m < n) :
    ly_h0 cst (h.set (177 + 19 * z + j) (.inl (ty, n, .inl (upd f0 m x)))) (256 * (177 + j)) (32 * (z : Int) + (m : Int)) = some x.toInt ∧ ∀ r' i', r' ≠ 256 * (177 + j) ∨ i' ≠ 32 * (z : Int) + (m : Int) → ly_h0 cst (h.set (177 + 19 * z + j) (.inl (ty, n, .inl (upd f0 m x)))) r' i' = ly_h0 cst h r' i' := by
  have hl := (List.getElem?_eq_some_iff.mp hx).1
  refine ⟨?_, fun r' i' hr => ly_h0_set2a hj h0 hx (fun er i0 iz => ?_)⟩
  · rw [ly_h0_a (y := (ty, n, .inl (upd f0 m x))) hj h0 (by omega) (List.getElem?_set_self hl)]
    simp only [ly_hs, Int.toNat_natCast]
    rw [if_pos ⟨trivial, Int.natCast_nonneg _, hm⟩]
    simp [upd]
  · simp only [ly_hs, Int.toNat_natCast]
    have ne : i'.toNat % 32 ≠ m := by
      rcases hr with hr | hr
      · exact absurd er hr
      · omega
    unfold upd
    rw [if_neg ne]
theorem ly_h0_rowj2 {z j n m : Nat} {ty : FieldType} {f0 : Nat → Int64} {x : Int64} (hj : j < 19) (h0 : j ≠ 0) (hn : n ≤ 32) (hx : h[177 + 19 * z + j]? = some (.inl (ty, n, .inr (.inl f0)))) (hm : m < n) :
    ly_h0 cst (h.set (177 + 19 * z + j) (.inl (ty, n, .inr (.inl (vp_updL f0 m x))))) (256 * (177 + j)) (32 * (z : Int) + (m : Int)) = some x.toInt ∧ ∀ r' i', r' ≠ 256 * (177 + j) ∨ i' ≠ 32 * (z : Int) + (m : Int) → ly_h0 cst (h.set (177 + 19 * z + j) (.inl (ty, n, .inr (.inl (vp_updL f0 m x))))) r' i' = ly_h0 cst h r' i' := by
  have hl := (List.getElem?_eq_some_iff.mp hx).1
  refine ⟨?_, fun r' i' hr => ly_h0_set2a hj h0 hx (fun er i0 iz => ?_)⟩
  · rw [ly_h0_a (y := (ty, n, .inr (.inl (vp_updL f0 m x)))) hj h0 (by omega) (List.getElem?_set_self hl)]
    simp only [ly_hs, Int.toNat_natCast]
    rw [if_pos ⟨trivial, Int.natCast_nonneg _, hm⟩]
    simp [vp_updL]
  · simp only [ly_hs, Int.toNat_natCast]
    have ne : i'.toNat % 32 ≠ m := by
      rcases hr with hr | hr
      · exact absurd er hr
      · omega
    unfold vp_updL
    rw [if_neg ne]
end LY5
