/-! writes -/
section LY3C
variable {cst : am_K} {ν : ly_N} {Z : ly_Z} {h : am_H}
/-- regions but one stand as they stood: so does all that doesn't hang on it -/
theorem ly_hv_but {h' : am_H} {r : Nat} (hr : r < 60010) (e : ∀ r', r' ≠ r → ∀ i, ly_h0 cst h' r' i = ly_h0 cst h r' i) {r' : Nat} (hn : r' ≠ r) (hg : ly_has r' (ly_dg r) = false) (i : Int) : ly_hv cst h' r' i = ly_hv cst h r' i := by
  unfold ly_hv
  by_cases h1 : r' < 60010
  · rw [if_pos h1, if_pos h1, e r' hn]
  · rw [if_neg h1, if_neg h1]
    by_cases h2 : r' < 61000
    · rw [if_pos h2, if_pos h2, ly_dg_ok hg e]
    · rw [if_neg h2, if_neg h2]
/-- what is known of state 0 stands behind such a write -/
theorem gh_z_put {fs fp fs' fp' : Int → Option Int} {c zi zv i' w : Int} (e1 : fs' zi = some zv) (e2 : ∀ j, j ≠ zi → fs' j = fs j) (e3 : ∀ j, fp' j = fp j) (k : (∃ zs, fs zi = some zs ∧ 1 ≤ zs ∧ 1 ≤ zv) ∨ (∃ zq, fp zi = some zq ∧ zq ≠ c)) (hw : gz_s fs fp c i' = some w) : gz_s fs' fp' c i' = some w := by
  unfold gz_s at hw ⊢
  by_cases q : i' = zi
  · subst q
    rw [e3, e1]
    split at hw
    case h_2 => cases hw
    rename_i s p h1 h2
    rw [h2]
    rcases k with ⟨zs, k1, k2, k3⟩ | ⟨zq, k1, k2⟩
    · rw [k1] at h1
      cases h1
      rw [if_neg (by omega)] at hw
      simp only
      rw [if_neg (by omega)]
      exact hw
    · rw [k1] at h2
      cases h2
      rw [if_neg (fun z => k2 z.2)] at hw
      simp only
      rw [if_neg (fun z => k2 z.2)]
      exact hw
  · rw [e3, e2 _ q]
    exact hw
theorem ly_evt_m {a : Int} : ∀ {ts : List (Nat × Int)} {s : Int}, (∀ q ∈ ts, q.2 % a = 0) → ly_evt ν ts = some s → s % a = 0
  | [], s, _, h => by
    cases h
    exact Int.zero_emod a
  | q :: ts, s, w, h => by
    obtain ⟨z, t, hz, ht, e⟩ := ly_evt_cons.mp h
    have h1 := ly_evt_m (fun x hx => w x (List.mem_cons_of_mem _ hx)) ht
    have h2 := w q List.mem_cons_self
    obtain ⟨u, eu⟩ := Int.dvd_of_emod_eq_zero h1
    obtain ⟨v, ev⟩ := Int.dvd_of_emod_eq_zero h2
    refine Int.emod_eq_zero_of_dvd ⟨v * z + u, ?_⟩
    rw [e, ev, eu, Int.mul_add, Int.mul_assoc]
theorem gh_ev_put {f f' : Int → Option Int} {a b n zi i' w : Int} (e2 : ∀ j, j ≠ zi → f' j = f j) (k : ¬ (0 ≤ zi ∧ zi < n ∧ zi % a < b)) (hw : gh_ev f a b n i' = some w) : gh_ev f' a b n i' = some w := by
  unfold gh_ev at hw ⊢
  by_cases q : 0 ≤ i' ∧ i' < n ∧ i' % a < b
  · rw [if_pos q] at hw ⊢
    rw [e2 i' (fun e => by
      rw [e] at q
      exact k q)]
    exact hw
  · rw [if_neg q] at hw
    cases hw
theorem ly_of_ok {n0 : Nat} {B : ly_B} {F : List ly_e} {K : ly_K} {a b n : Int} {i : ly_e} {zi : Int} (g : ly_gZ cst ν (n0, B, F, K) h) (hi : ly_ev ν i = some zi) (hz : ly_of a b n B F i = true) : ¬ (0 ≤ zi ∧ zi < n ∧ zi % a < b) := by
  unfold ly_of at hz
  rw [Bool.or_eq_true] at hz
  rintro ⟨z1, z2, z3⟩
  rcases hz with hz | hz
  · rw [Bool.and_eq_true] at hz
    have hb : b ≤ i.1 % a := sx_le_iff.mp hz.2
    unfold ly_ev at hi
    split at hi
    case h_2 => cases hi
    rename_i s hs
    have hm := ly_evt_m (a := a) (fun q hq => sx_eq_iff.mp (List.all_eq_true.mp hz.1 q hq)) hs
    simp only [Option.some.injEq] at hi
    rw [← hi, Int.add_emod, hm, Int.add_zero, Int.emod_emod] at z3
    omega
  · have h1 := ly_gs_ok g.2.1 g.2.2.1 hz (ly_add_ok (ly_ev_c ν (Int.neg n)) hi)
    have e : Int.neg n = -n := rfl
    rw [e] at h1
    omega
theorem ly_zk_ok {h' : am_H} {n : Nat} {B : ly_B} {F : List ly_e} {K : ly_K} {g' r : Nat} {i v : ly_e} {zi zv : Int} (g : ly_gZ cst ν (n, B, F, K) h) (hi : ly_ev ν i = some zi) (hv : ly_ev ν v = some zv) (e1 : ly_h0 cst h' r zi = some zv) (e2 : ∀ r' i', r' ≠ r ∨ i' ≠ zi → ly_h0 cst h' r' i' = ly_h0 cst h r' i') (hz : ly_zk (n, B, F, K) g' r i v = true) {i' w : Int} (hw : ly_hv cst h g' i' = some w) : ly_hv cst h' g' i' = some w := by
  unfold ly_zk at hz
  simp only at hz
  cases hb : (Nat.beq g' 60090 && Nat.beq r 45319) with
  | true =>
    rw [hb] at hz
    simp only [cond_true] at hz
    rw [Bool.and_eq_true, sx_beqn, sx_beqn] at hb
    obtain ⟨rfl, rfl⟩ := hb
    rw [gh_hv (by decide) (by decide)] at hw ⊢
    refine gh_z_put (c := -1) (fs := ly_h0 cst h 45319) (fp := ly_h0 cst h 45313) (fs' := ly_h0 cst h' 45319) (fp' := ly_h0 cst h' 45313) e1 (fun j hj => e2 _ _ (Or.inr hj)) (fun j => e2 _ _ (Or.inl (by decide))) ?_ hw
    rw [Bool.or_eq_true] at hz
    rcases hz with hz | hz
    · left
      split at hz
      case h_2 => cases hz
      rename_i s hs
      rw [Bool.and_eq_true] at hz
      obtain ⟨zs, es, hh⟩ := gh_k0 (by decide) g hs hi
      have a1 := ly_gs_ok g.2.1 g.2.2.1 hz.1 (ly_add_ok (ly_ev_c ν (-1)) es)
      have a2 := ly_gs_ok g.2.1 g.2.2.1 hz.2 (ly_add_ok (ly_ev_c ν (-1)) hv)
      exact ⟨zs, hh, by omega, by omega⟩
    · right
      split at hz
      case h_2 => cases hz
      rename_i s hs
      obtain ⟨zs, es, hh⟩ := gh_k0 (by decide) g hs hi
      rw [Bool.or_eq_true] at hz
      rcases hz with hz | hz
      · have a1 := ly_gs_ok g.2.1 g.2.2.1 hz es
        exact ⟨zs, hh, by omega⟩
      · have a1 := ly_nez_ok g.2.2.2 hz (ly_add_ok (ly_ev_c ν 1) es)
        exact ⟨zs, hh, by omega⟩
  | false =>
    rw [hb] at hz
    simp only [cond_false] at hz
    cases hb : (Nat.beq g' 60091 && Nat.beq r 30464) with
    | false =>
      rw [hb] at hz
      simp only [cond_false] at hz
      cases hb : (Nat.beq g' 60092 && Nat.beq r 27904) with
      | true =>
        rw [hb] at hz
        simp only [cond_true] at hz
        rw [Bool.and_eq_true, sx_beqn, sx_beqn] at hb
        obtain ⟨rfl, rfl⟩ := hb
        rw [gh_hv (by decide) (by decide)] at hw ⊢
        exact gh_ev_put (f := ly_h0 cst h 27904) (f' := ly_h0 cst h' 27904) (fun j hj => e2 _ _ (Or.inr hj)) (ly_of_ok g hi hz) hw
      | false =>
        rw [hb] at hz
        simp only [cond_false] at hz
        cases hb : (Nat.beq g' 60093 && Nat.beq r 27392) with
        | true =>
          rw [hb] at hz
          simp only [cond_true] at hz
          rw [Bool.and_eq_true, sx_beqn, sx_beqn] at hb
          obtain ⟨rfl, rfl⟩ := hb
          rw [gh_hv (by decide) (by decide)] at hw ⊢
          exact gh_ev_put (f := ly_h0 cst h 27392) (f' := ly_h0 cst h' 27392) (fun j hj => e2 _ _ (Or.inr hj)) (ly_of_ok g hi hz) hw
        | false =>
          rw [hb] at hz
          simp only [cond_false] at hz
          cases hb : (Nat.beq g' 60094 && Nat.beq r 27648) with
          | true =>
            rw [hb] at hz
            simp only [cond_true] at hz
            rw [Bool.and_eq_true, sx_beqn, sx_beqn] at hb
            obtain ⟨rfl, rfl⟩ := hb
            rw [gh_hv (by decide) (by decide)] at hw ⊢
            exact gh_ev_put (f := ly_h0 cst h 27648) (f' := ly_h0 cst h' 27648) (fun j hj => e2 _ _ (Or.inr hj)) (ly_of_ok g hi hz) hw
          | false => rw [hb] at hz; cases hz
    | true =>
      rw [hb] at hz
      simp only [cond_true] at hz
      rw [Bool.and_eq_true, sx_beqn, sx_beqn] at hb
      obtain ⟨rfl, rfl⟩ := hb
      rw [gh_hv (by decide) (by decide)] at hw ⊢
      refine gh_z_put (c := 0) (fs := ly_h0 cst h 30464) (fp := ly_h0 cst h 28416) (fs' := ly_h0 cst h' 30464) (fp' := ly_h0 cst h' 28416) e1 (fun j hj => e2 _ _ (Or.inr hj)) (fun j => e2 _ _ (Or.inl (by decide))) ?_ hw
      rw [Bool.or_eq_true] at hz
      rcases hz with hz | hz
      · left
        split at hz
        case h_2 => cases hz
        rename_i s hs
        rw [Bool.and_eq_true] at hz
        obtain ⟨zs, es, hh⟩ := gh_k0 (by decide) g hs hi
        have a1 := ly_gs_ok g.2.1 g.2.2.1 hz.1 (ly_add_ok (ly_ev_c ν (-1)) es)
        have a2 := ly_gs_ok g.2.1 g.2.2.1 hz.2 (ly_add_ok (ly_ev_c ν (-1)) hv)
        exact ⟨zs, hh, by omega, by omega⟩
      · right
        split at hz
        case h_2 => cases hz
        rename_i s hs
        obtain ⟨zs, es, hh⟩ := gh_k0 (by decide) g hs hi
        have a1 := ly_gs_ok g.2.1 g.2.2.1 hz (ly_add_ok (ly_ev_c ν (-1)) es)
        exact ⟨zs, hh, by omega⟩
theorem ly_wr_ok {mods : List Nat} {r : Nat} {i v : ly_e} {p : Int × Int} {Z' : ly_Z} {zi zv : Int} (hr : r < 60010) (g : ly_gZ cst ν Z h) (hi : ly_ev ν i = some zi) (hv : ly_ev ν v = some zv) (e : ly_wr mods Z r i p v = some Z') :
    (p.1 ≤ zv ∧ zv ≤ p.2) ∧ ∀ h' : am_H, ly_h0 cst h' r zi = some zv → (∀ r' i', r' ≠ r ∨ i' ≠ zi → ly_h0 cst h' r' i' = ly_h0 cst h r' i') → ly_gZ cst ν Z' h' ∧ ly_fr cst mods h h' := by
  obtain ⟨n, B, F, K⟩ := Z
  unfold ly_wr at e
  simp only at e
  cases hc : (ly_has r mods && ((ly_dg r).all (fun g => ly_has g mods || ly_zk (n, B, F, K) g r i v) && (ly_gs B F (ly_add (Int.neg p.1, []) v) && ly_gs B F (ly_sub (p.2, []) v)))) with
  | false => rw [hc] at e; cases e
  | true =>
    rw [hc] at e
    simp only [cond_true, ly_fe_eq] at e
    cases e
    simp only [Bool.and_eq_true] at hc
    obtain ⟨hm, hdg, c1, c2⟩ := hc
    have b1 := ly_gs_ok g.2.1 g.2.2.1 c1 (ly_add_ok (ly_ev_c ν _) hv)
    have b2 := ly_gs_ok g.2.1 g.2.2.1 c2 (ly_sub_ok (ly_ev_c ν _) hv)
    have en : Int.neg p.1 = -p.1 := rfl
    rw [en] at b1
    refine ⟨⟨by omega, by omega⟩, fun h' e1 e2 => ?_⟩
    have e3 : ∀ r', r' ≠ r → ∀ i, ly_h0 cst h' r' i = ly_h0 cst h r' i := fun r' hn i => e2 r' i (Or.inl hn)
    refine ⟨⟨g.1, g.2.1, g.2.2.1, fun q hq => ?_⟩, fun r' i' v' hr' ev => ?_⟩
    · rcases List.mem_append.mp hq with hq | hq
      · exact ly_om_ok g hr hi hv e1 e2 q hq
      · rcases List.mem_cons.mp hq with rfl | hq
        · exact ⟨zi, zv, hi, hv, by rw [ly_hv0 hr]; exact e1⟩
        · obtain ⟨hq, hp⟩ := List.mem_filter.mp hq
          obtain ⟨i', w, f1, f2, f3⟩ := g.2.2.2 q hq
          refine ⟨i', w, f1, f2, ?_⟩
          cases hb : Nat.beq q.1 r with
          | true =>
            rw [hb] at hp
            have hne := ly_dif_ok g.2.1 g.2.2.1 hp f1 hi
            have eq := sx_beqn.mp hb
            rw [eq, ly_hv0 hr] at f3 ⊢
            rw [e2 r i' (Or.inr hne)]
            exact f3
          | false =>
            rw [hb] at hp
            simp only [cond_false, Bool.not_eq_true'] at hp
            rw [ly_hv_but hr e3 (sx_beq_neg hb) hp]
            exact f3
    · have hn : r' ≠ r := fun er => by
        rw [er, hm] at hr'
        cases hr'
      cases hx : ly_has r' (ly_dg r) with
      | false =>
        rw [ly_hv_but hr e3 hn hx]
        exact ev
      | true =>
        unfold ly_has at hx
        obtain ⟨q, hq, hb⟩ := List.any_eq_true.mp hx
        have t := List.all_eq_true.mp hdg q hq
        rw [sx_beqn.mp hb, hr', Bool.false_or] at t
        exact ly_zk_ok g hi hv e1 e2 t ev
theorem ly_drop_ok {mods : List Nat} {r : Nat} {Z' : ly_Z} (hr : r < 60010) (g : ly_gZ cst ν Z h) (e : ly_drop mods Z r = some Z') (h' : am_H) (e2 : ∀ r' i', r' ≠ r → ly_h0 cst h' r' i' = ly_h0 cst h r' i') : ly_gZ cst ν Z' h' ∧ ly_fr cst mods h h' := by
  obtain ⟨n, B, F, K⟩ := Z
  unfold ly_drop at e
  simp only at e
  have e3 : ∀ r', r' ≠ r → ∀ i, ly_h0 cst h' r' i = ly_h0 cst h r' i := fun r' hn i => e2 r' i hn
  cases hc : (ly_has r mods && (ly_dg r).all (fun g => ly_has g mods)) with
  | false => rw [hc] at e; cases e
  | true =>
    rw [hc] at e
    cases e
    rw [Bool.and_eq_true] at hc
    obtain ⟨hm, hdg⟩ := hc
    refine ⟨⟨g.1, g.2.1, g.2.2.1, fun q hq => ?_⟩, fun r' i' v' hr' ev => ?_⟩
    · obtain ⟨hq, hp⟩ := List.mem_filter.mp hq
      obtain ⟨i', w, f1, f2, f3⟩ := g.2.2.2 q hq
      refine ⟨i', w, f1, f2, ?_⟩
      simp only [Bool.and_eq_true, Bool.not_eq_true'] at hp
      rw [ly_hv_but hr e3 (sx_beq_neg hp.1) hp.2]
      exact f3
    · have hn : r' ≠ r := fun er => by
        rw [er, hm] at hr'
        cases hr'
      rw [ly_hv_but hr e3 hn]
      · exact ev
      · cases hx : ly_has r' (ly_dg r) with
        | false => rfl
        | true =>
          unfold ly_has at hx
          obtain ⟨q, hq, hb⟩ := List.any_eq_true.mp hx
          have := List.all_eq_true.mp hdg q hq
          rw [sx_beqn.mp hb, hr'] at this
          cases this
/-- a heap whose regions stand as they stood -/
theorem ly_hv_same {h' : am_H} (e2 : ∀ r' i', ly_h0 cst h' r' i' = ly_h0 cst h r' i') (r : Nat) (i : Int) : ly_hv cst h' r i = ly_hv cst h r i := by
  have e : ly_h0 cst h' = ly_h0 cst h := funext fun r => funext fun i => e2 r i
  unfold ly_hv
  rw [e]
theorem ly_gZ_same {h' : am_H} (g : ly_gZ cst ν Z h) (e2 : ∀ r' i', ly_h0 cst h' r' i' = ly_h0 cst h r' i') : ly_gZ cst ν Z h' :=
  ⟨g.1, g.2.1, g.2.2.1, fun q hq => by
    obtain ⟨i', w, f1, f2, f3⟩ := g.2.2.2 q hq
    exact ⟨i', w, f1, f2, by rw [ly_hv_same e2]; exact f3⟩⟩
theorem ly_idx_ok {i : ly_V} {n : Nat} {e : ly_e} {len : Nat} {w : Value} (g : ly_gZ cst ν Z h) (gi : ly_g ν len i w) (hi : ly_idx Z i n = some e) : i = .inl e ∧ ∃ x : Int32, w = .int x ∧ ¬ (x < 0 ∨ n ≤ x.toNatClampNeg) ∧ x.toNatClampNeg < n ∧ ly_ev ν e = some (x.toNatClampNeg : Int) := by
  obtain ⟨m, B, F, K⟩ := Z
  unfold ly_idx at hi
  split at hi
  · rename_i e' z B' F' K' heq
    cases heq
    cases hc : (ly_gs B F e' && ly_gs B F (ly_sub (Int.sub (.ofNat n) 1, []) e')) with
    | false => rw [hc] at hi; cases hi
    | true =>
      rw [hc] at hi
      cases hi
      obtain ⟨x, ew, ex⟩ := gi
      rw [Bool.and_eq_true] at hc
      have b1 := ly_gs_ok g.2.1 g.2.2.1 hc.1 ex
      have b2 := ly_gs_ok g.2.1 g.2.2.1 hc.2 (ly_sub_ok (ly_ev_c ν _) ex)
      have en : Int.sub (Int.ofNat n) 1 = (n : Int) - 1 := rfl
      rw [en] at b2
      have e1 : x.toNatClampNeg = x.toInt.toNat := rfl
      refine ⟨rfl, x, ew, ?_, by rw [e1]; omega, by rw [ex, e1]; congr 1; omega⟩
      rintro (hq | hq)
      · have := Int32.lt_iff_toInt_lt.mp hq
        have z : (0 : Int32).toInt = 0 := rfl
        omega
      · rw [e1] at hq; omega
  · cases hi
end LY3C
