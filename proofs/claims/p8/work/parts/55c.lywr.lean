/-! writes -/
section LY3C
variable {cst : am_K} {ν : ly_N} {Z : ly_Z} {h : am_H}
/-- regions but one stand as they stood: so does all that doesn't hang on it -/
theorem ly_hv_but {h' : am_H} {r : Nat} (hr : r < 60010) (e : ∀ r', r' ≠ r → ∀ i, ly_h0 cst h' r' i = ly_h0 cst h r' i) {r' : Nat} (hn : r' ≠ r) (hg : ly_has r' (ly_dg r) = false) (i : Int) : ly_hv cst h' r' i = ly_hv cst h r' i := by
  unfold ly_hv
  by_cases h1 : r' < 60010
  · rw [if_pos h1, if_pos h1, e r' hn]
  · rw [if_neg h1, if_neg h1]
    by_cases h2 : r' < 61000
    · rw [if_pos h2, if_pos h2, ly_dg_ok hg e]
    · rw [if_neg h2, if_neg h2]
theorem ly_wr_ok {mods : List Nat} {r : Nat} {i v : ly_e} {p : Int × Int} {Z' : ly_Z} {zi zv : Int} (hr : r < 60010) (g : ly_gZ cst ν Z h) (hi : ly_ev ν i = some zi) (hv : ly_ev ν v = some zv) (e : ly_wr mods Z r i p v = some Z') :
    (p.1 ≤ zv ∧ zv ≤ p.2) ∧ ∀ h' : am_H, ly_h0 cst h' r zi = some zv → (∀ r' i', r' ≠ r ∨ i' ≠ zi → ly_h0 cst h' r' i' = ly_h0 cst h r' i') → ly_gZ cst ν Z' h' ∧ ly_fr cst mods h h' := by
  obtain ⟨n, B, F, K⟩ := Z
  unfold ly_wr at e
  simp only at e
  cases hc : (ly_has r mods && ((ly_dg r).all (fun g => ly_has g mods) && (ly_gs B F (ly_add (Int.neg p.1, []) v) && ly_gs B F (ly_sub (p.2, []) v)))) with
  | false => rw [hc] at e; cases e
  | true =>
    rw [hc] at e
    simp only [cond_true, ly_fe_eq] at e
    cases e
    simp only [Bool.and_eq_true] at hc
    obtain ⟨hm, hdg, c1, c2⟩ := hc
    have b1 := ly_gs_ok g.2.1 g.2.2.1 c1 (ly_add_ok (ly_ev_c ν _) hv)
    have b2 := ly_gs_ok g.2.1 g.2.2.1 c2 (ly_sub_ok (ly_ev_c ν _) hv)
    have en : Int.neg p.1 = -p.1 := rfl
    rw [en] at b1
    refine ⟨⟨by omega, by omega⟩, fun h' e1 e2 => ?_⟩
    have e3 : ∀ r', r' ≠ r → ∀ i, ly_h0 cst h' r' i = ly_h0 cst h r' i := fun r' hn i => e2 r' i (Or.inl hn)
    refine ⟨⟨g.1, g.2.1, g.2.2.1, fun q hq => ?_⟩, fun r' i' v' hr' ev => ?_⟩
    · rcases List.mem_append.mp hq with hq | hq
      · exact ly_om_ok g hr hi hv e1 e2 q hq
      · rcases List.mem_cons.mp hq with rfl | hq
        · exact ⟨zi, zv, hi, hv, by rw [ly_hv0 hr]; exact e1⟩
        · obtain ⟨hq, hp⟩ := List.mem_filter.mp hq
          obtain ⟨i', w, f1, f2, f3⟩ := g.2.2.2 q hq
          refine ⟨i', w, f1, f2, ?_⟩
          cases hb : Nat.beq q.1 r with
          | true =>
            rw [hb] at hp
            have hne := ly_dif_ok g.2.1 g.2.2.1 hp f1 hi
            have eq := sx_beqn.mp hb
            rw [eq, ly_hv0 hr] at f3 ⊢
            rw [e2 r i' (Or.inr hne)]
            exact f3
          | false =>
            rw [hb] at hp
            simp only [cond_false, Bool.not_eq_true'] at hp
            rw [ly_hv_but hr e3 (sx_beq_neg hb) hp]
            exact f3
    · have hn : r' ≠ r := fun er => by
        rw [er, hm] at hr'
        cases hr'
      rw [ly_hv_but hr e3 hn]
      · exact ev
      · cases hx : ly_has r' (ly_dg r) with
        | false => rfl
        | true =>
          unfold ly_has at hx
          obtain ⟨q, hq, hb⟩ := List.any_eq_true.mp hx
          have := List.all_eq_true.mp hdg q hq
          rw [sx_beqn.mp hb, hr'] at this
          cases this
theorem ly_drop_ok {mods : List Nat} {r : Nat} {Z' : ly_Z} (hr : r < 60010) (g : ly_gZ cst ν Z h) (e : ly_drop mods Z r = some Z') (h' : am_H) (e2 : ∀ r' i', r' ≠ r → ly_h0 cst h' r' i' = ly_h0 cst h r' i') : ly_gZ cst ν Z' h' ∧ ly_fr cst mods h h' := by
  obtain ⟨n, B, F, K⟩ := Z
  unfold ly_drop at e
  simp only at e
  have e3 : ∀ r', r' ≠ r → ∀ i, ly_h0 cst h' r' i = ly_h0 cst h r' i := fun r' hn i => e2 r' i hn
  cases hc : (ly_has r mods && (ly_dg r).all (fun g => ly_has g mods)) with
  | false => rw [hc] at e; cases e
  | true =>
    rw [hc] at e
    cases e
    rw [Bool.and_eq_true] at hc
    obtain ⟨hm, hdg⟩ := hc
    refine ⟨⟨g.1, g.2.1, g.2.2.1, fun q hq => ?_⟩, fun r' i' v' hr' ev => ?_⟩
    · obtain ⟨hq, hp⟩ := List.mem_filter.mp hq
      obtain ⟨i', w, f1, f2, f3⟩ := g.2.2.2 q hq
      refine ⟨i', w, f1, f2, ?_⟩
      simp only [Bool.and_eq_true, Bool.not_eq_true'] at hp
      rw [ly_hv_but hr e3 (sx_beq_neg hp.1) hp.2]
      exact f3
    · have hn : r' ≠ r := fun er => by
        rw [er, hm] at hr'
        cases hr'
      rw [ly_hv_but hr e3 hn]
      · exact ev
      · cases hx : ly_has r' (ly_dg r) with
        | false => rfl
        | true =>
          unfold ly_has at hx
          obtain ⟨q, hq, hb⟩ := List.any_eq_true.mp hx
          have := List.all_eq_true.mp hdg q hq
          rw [sx_beqn.mp hb, hr'] at this
          cases this
/-- a heap whose regions stand as they stood -/
theorem ly_hv_same {h' : am_H} (e2 : ∀ r' i', ly_h0 cst h' r' i' = ly_h0 cst h r' i') (r : Nat) (i : Int) : ly_hv cst h' r i = ly_hv cst h r i := by
  have e : ly_h0 cst h' = ly_h0 cst h := funext fun r => funext fun i => e2 r i
  unfold ly_hv
  rw [e]
theorem ly_gZ_same {h' : am_H} (g : ly_gZ cst ν Z h) (e2 : ∀ r' i', ly_h0 cst h' r' i' = ly_h0 cst h r' i') : ly_gZ cst ν Z h' :=
  ⟨g.1, g.2.1, g.2.2.1, fun q hq => by
    obtain ⟨i', w, f1, f2, f3⟩ := g.2.2.2 q hq
    exact ⟨i', w, f1, f2, by rw [ly_hv_same e2]; exact f3⟩⟩
theorem ly_idx_ok {i : ly_V} {n : Nat} {e : ly_e} {len : Nat} {w : Value} (g : ly_gZ cst ν Z h) (gi : ly_g ν len i w) (hi : ly_idx Z i n = some e) : i = .inl e ∧ ∃ x : Int32, w = .int x ∧ ¬ (x < 0 ∨ n ≤ x.toNatClampNeg) ∧ x.toNatClampNeg < n ∧ ly_ev ν e = some (x.toNatClampNeg : Int) := by
  obtain ⟨m, B, F, K⟩ := Z
  unfold ly_idx at hi
  split at hi
  · rename_i e' z B' F' K' heq
    cases heq
    cases hc : (ly_gs B F e' && ly_gs B F (ly_sub (Int.sub (.ofNat n) 1, []) e')) with
    | false => rw [hc] at hi; cases hi
    | true =>
      rw [hc] at hi
      cases hi
      obtain ⟨x, ew, ex⟩ := gi
      rw [Bool.and_eq_true] at hc
      have b1 := ly_gs_ok g.2.1 g.2.2.1 hc.1 ex
      have b2 := ly_gs_ok g.2.1 g.2.2.1 hc.2 (ly_sub_ok (ly_ev_c ν _) ex)
      have en : Int.sub (Int.ofNat n) 1 = (n : Int) - 1 := rfl
      rw [en] at b2
      have e1 : x.toNatClampNeg = x.toInt.toNat := rfl
      refine ⟨rfl, x, ew, ?_, by rw [e1]; omega, by rw [ex, e1]; congr 1; omega⟩
      rintro (hq | hq)
      · have := Int32.lt_iff_toInt_lt.mp hq
        have z : (0 : Int32).toInt = 0 := rfl
        omega
      · rw [e1] at hq; omega
  · cases hi
end LY3C
