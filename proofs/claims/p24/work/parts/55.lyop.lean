/-! what is taken for granted behind a branch, new symbols, reads and writes -/
section LY3
variable {cst : am_K} {ν : ly_N} {Z : ly_Z} {h : am_H}
theorem ly_gZ_B {n : Nat} {B : ly_B} {F : List ly_e} {K : ly_K} {q : Nat × Int × Int} {z : Int} (g : ly_gZ cst ν (n, B, F, K) h) (hz : ν q.1 = some z) (h1 : q.2.1 ≤ z) (h2 : z ≤ q.2.2) : ly_gZ cst ν (n, q :: B, F, K) h :=
  ⟨g.1, fun r hr => by
    rcases List.mem_cons.mp hr with rfl | hr
    · exact ⟨z, hz, h1, h2⟩
    · exact g.2.1 r hr, g.2.2⟩
theorem ly_gZ_F {n : Nat} {B : ly_B} {F : List ly_e} {K : ly_K} {e : ly_e} {z : Int} (g : ly_gZ cst ν (n, B, F, K) h) (hz : ly_ev ν e = some z) (h1 : 0 ≤ z) : ly_gZ cst ν (n, B, e :: F, K) h :=
  ⟨g.1, g.2.1, fun r hr => by
    rcases List.mem_cons.mp hr with rfl | hr
    · exact ⟨z, hz, h1⟩
    · exact g.2.2.1 r hr, g.2.2.2⟩
theorem ly_ev_one {c : Int} {k : Nat} {a z : Int} (h : ly_ev ν (c, [(k, a)]) = some z) : ∃ y, ν k = some y ∧ z = c + a * y := by
  obtain ⟨s, hs, e⟩ := ly_ev_iff.mp h
  obtain ⟨y, t, hy, ht, e'⟩ := ly_evt_cons.mp hs
  cases ht
  exact ⟨y, hy, by simp only at e e'; omega⟩
theorem ly_tg_hi {B : ly_B} (hB : ly_gB ν B) : ∀ {ts : List (Nat × Int)} {c H s : Int}, ly_hi B ts c = some H → ly_evt ν ts = some s → ∀ q ∈ ts, ∀ p x, sx_get q.1 B = some p → ν q.1 = some x → (q.2 = 1 → c + s - x ≤ H - p.2) ∧ (q.2 = -1 → c + s + x ≤ H + p.1)
  | [], _, _, _, _, _, q, hq, _, _, _, _ => by cases hq
  | q0 :: ts, c, H, s, hH, hs, q, hq, p, x, hp, hx => by
    obtain ⟨y, t, hy, ht, es⟩ := ly_evt_cons.mp hs
    unfold ly_hi at hH
    split at hH
    case h_2 => cases hH
    rename_i p0 hp0
    obtain ⟨y', hy', b1, b2⟩ := ly_gB_get hB hp0
    rw [hy] at hy'
    cases hy'
    rcases List.mem_cons.mp hq with rfl | hq
    · rw [hp] at hp0
      cases hp0
      rw [hx] at hy
      cases hy
      split at hH
      · rename_i a ha
        obtain ⟨t', ht', hz⟩ := ly_hi_ok hB hH
        rw [ht] at ht'
        cases ht'
        have e : Int.add c (Int.mul (Int.ofNat a) p.2) = c + (Int.ofNat a) * p.2 := rfl
        rw [e] at hz
        refine ⟨fun h1 => ?_, fun h1 => ?_⟩
        · rw [ha] at h1
          rw [es, ha, h1]
          rw [h1] at hz
          omega
        · rw [ha] at h1
          have : (Int.ofNat a) = (a : Int) := rfl
          omega
      · rename_i a ha
        obtain ⟨t', ht', hz⟩ := ly_hi_ok hB hH
        rw [ht] at ht'
        cases ht'
        have e : Int.add c (Int.mul (Int.negSucc a) p.1) = c + (Int.negSucc a) * p.1 := rfl
        rw [e] at hz
        refine ⟨fun h1 => ?_, fun h1 => ?_⟩
        · rw [ha] at h1
          have := Int.negSucc_lt_zero a
          omega
        · rw [ha] at h1
          rw [es, ha, h1]
          rw [h1] at hz
          omega
    · split at hH
      · rename_i a ha
        have ih := ly_tg_hi hB hH ht q hq p x hp hx
        have m : (Int.ofNat a) * y ≤ (Int.ofNat a) * p0.2 := Int.mul_le_mul_of_nonneg_left b2 (Int.natCast_nonneg a)
        have e : Int.add c (Int.mul (Int.ofNat a) p0.2) = c + (Int.ofNat a) * p0.2 := rfl
        rw [e] at ih
        rw [es, ha]
        exact ⟨fun h1 => by have := ih.1 h1; omega, fun h1 => by have := ih.2 h1; omega⟩
      · rename_i a ha
        have ih := ly_tg_hi hB hH ht q hq p x hp hx
        have m : (Int.negSucc a) * y ≤ (Int.negSucc a) * p0.1 := Int.mul_le_mul_of_nonpos_left (Int.le_of_lt (Int.negSucc_lt_zero a)) b1
        have e : Int.add c (Int.mul (Int.negSucc a) p0.1) = c + (Int.negSucc a) * p0.1 := rfl
        rw [e] at ih
        rw [es, ha]
        exact ⟨fun h1 => by have := ih.1 h1; omega, fun h1 => by have := ih.2 h1; omega⟩
theorem ly_tg_ok {B0 : ly_B} {H : Int} (hB0 : ly_gB ν B0) : ∀ {ts : List (Nat × Int)} {B : ly_B}, (∀ q ∈ ts, ∀ p x, sx_get q.1 B0 = some p → ν q.1 = some x → (q.2 = 1 → p.2 - H ≤ x) ∧ (q.2 = -1 → x ≤ p.1 + H)) → ly_gB ν B → ly_gB ν (ly_tg B0 H ts B)
  | [], B, _, hB => hB
  | q :: ts, B, hk, hB => by
    have rest := fun B1 (h1 : ly_gB ν B1) => ly_tg_ok hB0 (B := B1) (fun q' hq' => hk q' (List.mem_cons_of_mem _ hq')) h1
    unfold ly_tg
    split
    · rename_i p hp
      obtain ⟨x, hx, b1, b2⟩ := ly_gB_get hB0 hp
      have k := hk q List.mem_cons_self p x hp hx
      have cons : ∀ lo hi, lo ≤ x → x ≤ hi → ly_gB ν ((q.1, lo, hi) :: B) := fun lo hi h1 h2 r hr => by
        rcases List.mem_cons.mp hr with rfl | hr
        · exact ⟨x, hx, h1, h2⟩
        · exact hB r hr
      cases h1 : sx_eq q.2 1 with
      | true =>
        have e1 := sx_eq_iff.mp h1
        simp only [cond_true, ly_I_eq]
        cases h2 : sx_le (Int.sub p.2 H) p.1 with
        | true => exact rest B hB
        | false => exact rest _ (cons _ _ (k.1 e1) b2)
      | false =>
        simp only [cond_false]
        cases h2 : sx_eq q.2 (-1) with
        | true =>
          have e1 := sx_eq_iff.mp h2
          simp only [cond_true, ly_I_eq]
          cases h3 : sx_le p.2 (Int.add p.1 H) with
          | true => exact rest B hB
          | false => exact rest _ (cons _ _ b1 (k.2 e1))
        | false => exact rest B hB
    · exact rest B hB
theorem ly_as_ok {e : ly_e} {z : Int} (g : ly_gZ cst ν Z h) (he : ly_ev ν e = some z) (hz : 0 ≤ z) : ∃ Z', ly_as Z e = some Z' ∧ ly_gZ cst ν Z' h := by
  obtain ⟨n, B, F, K⟩ := Z
  unfold ly_as
  simp only
  split
  · exact ⟨_, rfl, g⟩
  · rename_i y hy
    obtain ⟨s, hs, h1⟩ := ly_hi_ok g.2.1 hy
    obtain ⟨s', hs', e1⟩ := ly_ev_iff.mp he
    rw [hs] at hs'
    cases hs'
    have : sx_le 0 y = true := sx_le_iff.mpr (by omega)
    rw [this]
    simp only [cond_true]
    cases h2 : ly_nn B e with
    | true => exact ⟨_, rfl, g⟩
    | false =>
      simp only [cond_false]
      obtain ⟨c, ts⟩ := e
      simp only
      split
      · rename_i k a
        obtain ⟨x, hx, ez⟩ := ly_ev_one he
        split
        · exact ⟨_, rfl, g⟩
        · rename_i p hp
          obtain ⟨x', hx', p1, p2⟩ := ly_gB_get g.2.1 hp
          rw [hx] at hx'
          cases hx'
          cases ha : sx_eq a 1 with
          | true =>
            have := sx_eq_iff.mp ha
            subst this
            simp only [cond_true, ly_I_eq]
            have m : sx_mx p.1 (Int.neg c) ≤ x := sx_mx_le p1 (by show -c ≤ x; omega)
            rw [sx_le_iff.mpr (show sx_mx p.1 (Int.neg c) ≤ p.2 by omega)]
            exact ⟨_, rfl, ly_gZ_B g hx m p2⟩
          | false =>
            simp only [cond_false]
            cases hb : sx_eq a (-1) with
            | true =>
              have := sx_eq_iff.mp hb
              subst this
              simp only [cond_true, ly_I_eq]
              have m : x ≤ sx_mn p.2 c := sx_mn_le p2 (by omega)
              rw [sx_le_iff.mpr (show p.1 ≤ sx_mn p.2 c by omega)]
              exact ⟨_, rfl, ly_gZ_B g hx p1 m⟩
            | false =>
              simp only [cond_false, ly_fe_eq]
              exact ⟨_, rfl, ly_gZ_F g he hz⟩
      · cases h3 : ly_ge B F (ly_sub (-1, []) (c, ts)) with
        | true =>
          have := ly_ge_ok g.2.1 g.2.2.1 h3 (ly_sub_ok (ly_ev_c ν (-1)) he)
          omega
        | false =>
          simp only [cond_false]
          cases h4 : F.any (fun f => ly_nn B (ly_sub (c, ts) f)) with
          | true => exact ⟨_, rfl, g⟩
          | false =>
          simp only [cond_false, ly_fe_eq]
          have g1 : ly_gZ cst ν (n, ly_tg B y ts B, F, K) h := ⟨g.1, ly_tg_ok g.2.1 (fun q hq p x hp hx => by
            have k := ly_tg_hi g.2.1 hy hs q hq p x hp hx
            refine ⟨fun h1 => ?_, fun h1 => ?_⟩
            · have := k.1 h1
              simp only at e1
              omega
            · have := k.2 h1
              simp only at e1
              omega) g.2.1, g.2.2⟩
          exact ⟨_, rfl, ly_gZ_F g1 he hz⟩
theorem ly_as_in {e : ly_e} {z : Int} (g : ly_gZ cst ν Z h) (he : ly_ev ν e = some z) (hz : 0 ≤ z) : ∃ Z' ∈ (ly_as Z e).toList, ly_gZ cst ν Z' h := by
  obtain ⟨Z1, e1, g1⟩ := ly_as_ok g he hz
  exact ⟨Z1, by rw [e1]; exact List.mem_singleton.mpr rfl, g1⟩
theorem ly_kget_mem {r : Nat} {i v : ly_e} : ∀ {K : ly_K}, ly_kget r i K = some v → (r, i, v) ∈ K
  | [], hk => by cases hk
  | q :: K, hk => by
    unfold ly_kget at hk
    cases hc : (Nat.beq q.1 r && ly_eq q.2.1 i) with
    | true =>
      rw [hc] at hk
      cases hk
      rw [Bool.and_eq_true] at hc
      rw [← Nat.eq_of_beq_eq_true hc.1, ← ly_eq_eq hc.2]
      exact List.mem_cons_self
    | false =>
      rw [hc] at hk
      exact List.mem_cons_of_mem _ (ly_kget_mem hk)
theorem ly_gZ_K {n : Nat} {B : ly_B} {F : List ly_e} {K : ly_K} {q : Nat × ly_e × ly_e} {i v : Int} (g : ly_gZ cst ν (n, B, F, K) h) (hi : ly_ev ν q.2.1 = some i) (hv : ly_ev ν q.2.2 = some v) (e : ly_hv cst h q.1 i = some v) : ly_gZ cst ν (n, B, F, q :: K) h :=
  ⟨g.1, g.2.1, g.2.2.1, fun q' hq => by
    rcases List.mem_cons.mp hq with rfl | hq
    · exact ⟨i, v, hi, hv, e⟩
    · exact g.2.2.2 q' hq⟩
theorem ly_hv_ne {r : Nat} {i : Int} (hr : r = 61000) : ly_hv cst h r i = some (if i = 0 then 0 else 1) := by
  subst hr
  unfold ly_hv
  rw [if_neg (by decide), if_neg (by decide), if_pos rfl]
theorem ly_nez_ok {K : ly_K} {e : ly_e} {z : Int} (gK : ly_gK cst ν h K) (hn : ly_nez K e = true) (he : ly_ev ν e = some z) : z ≠ 0 := by
  have key : ∀ {x v : ly_e} {y : Int}, ly_kget 61000 x K = some v → ly_eq v (1, []) = true → ly_ev ν x = some y → y ≠ 0 := by
    intro x v y hk hv hy e0
    obtain ⟨i, w, e1, e2, e3⟩ := gK _ (ly_kget_mem hk)
    simp only at e1 e2 e3
    rw [hy] at e1
    cases e1
    rw [ly_eq_eq hv, ly_ev_c] at e2
    cases e2
    rw [ly_hv_ne rfl, if_pos e0] at e3
    cases e3
  unfold ly_nez at hn
  split at hn
  · rename_i v hv
    exact key hv hn he
  · split at hn
    · rename_i v hv
      have := key hv hn (ly_neg_ok he)
      omega
    · cases hn
theorem ly_ne_ok {e : ly_e} {z : Int} (g : ly_gZ cst ν Z h) (he : ly_ev ν e = some z) (hz : z ≠ 0) : ∃ Z' ∈ ly_ne Z e, ly_gZ cst ν Z' h := by
  obtain ⟨n, B, F, K⟩ := Z
  obtain ⟨c, ts⟩ := e
  have one : ∀ {Z1 : ly_Z}, ly_gZ cst ν Z1 h → ∃ Z' ∈ [Z1], ly_gZ cst ν Z' h := fun g1 => ⟨_, List.mem_singleton.mpr rfl, g1⟩
  unfold ly_ne
  simp only
  cases hnz : ly_nez K (c, ts) with
  | true => exact one g
  | false =>
  simp only [cond_false]
  split
  · rw [ly_ev_c] at he
    cases he
    cases h0 : sx_eq z 0 with
    | true => exact absurd (sx_eq_iff.mp h0) hz
    | false => exact one g
  · rename_i k a
    obtain ⟨x, hx, ez⟩ := ly_ev_one he
    split
    · exact one g
    · rename_i p hp
      obtain ⟨x', hx', p1, p2⟩ := ly_gB_get g.2.1 hp
      rw [hx] at hx'
      cases hx'
      have key : ∀ v : Int, v ≠ x → ∃ Z' ∈ (ly_I v fun v => bif sx_eq v p.1 then (ly_I (Int.add v 1) fun lo => bif sx_le lo p.2 then [(n, (k, lo, p.2) :: B, F, K)] else []) else bif sx_eq v p.2 then (ly_I (Int.sub v 1) fun hi => bif sx_le p.1 hi then [(n, (k, p.1, hi) :: B, F, K)] else []) else bif sx_le p.1 v && (sx_le v p.2 && sx_le (Int.sub p.2 p.1) 300) then (ly_I (Int.sub v 1) fun hi => ly_I (Int.add v 1) fun lo => [(n, (k, p.1, hi) :: B, F, K), (n, (k, lo, p.2) :: B, F, K)]) else [(n, B, F, (61000, (c, [(k, a)]), (1, [])) :: K)]), ly_gZ cst ν Z' h := by
        intro v hv
        simp only [ly_I_eq]
        have e1 : Int.add v 1 = v + 1 := rfl
        have e2 : Int.sub v 1 = v - 1 := rfl
        cases h1 : sx_eq v p.1 with
        | true =>
          have := sx_eq_iff.mp h1
          have m : Int.add v 1 ≤ x := by rw [e1]; omega
          simp only [cond_true]
          rw [sx_le_iff.mpr (show Int.add v 1 ≤ p.2 by omega)]
          exact one (ly_gZ_B g hx m p2)
        | false =>
          simp only [cond_false]
          cases h2 : sx_eq v p.2 with
          | true =>
            have := sx_eq_iff.mp h2
            have m : x ≤ Int.sub v 1 := by rw [e2]; omega
            simp only [cond_true]
            rw [sx_le_iff.mpr (show p.1 ≤ Int.sub v 1 by omega)]
            exact one (ly_gZ_B g hx p1 m)
          | false =>
            simp only [cond_false]
            cases h3 : (sx_le p.1 v && (sx_le v p.2 && sx_le (Int.sub p.2 p.1) 300)) with
            | false => exact one (ly_gZ_K g he (ly_ev_c ν 1) (by rw [ly_hv_ne rfl, if_neg hz]))
            | true =>
              simp only [cond_true]
              by_cases hlt : x < v
              · exact ⟨_, List.mem_cons_self, ly_gZ_B g hx p1 (show x ≤ Int.sub v 1 by rw [e2]; omega)⟩
              · exact ⟨_, List.mem_cons_of_mem _ List.mem_cons_self, ly_gZ_B g hx (show Int.add v 1 ≤ x by rw [e1]; omega) p2⟩
      cases h1 : sx_eq a 1 with
      | true =>
        have := sx_eq_iff.mp h1
        subst this
        simp only [Bool.true_or, cond_true]
        exact key _ (by show -c ≠ x; omega)
      | false =>
        cases h2 : sx_eq a (-1) with
        | true =>
          have := sx_eq_iff.mp h2
          subst this
          simp only [Bool.or_true, cond_true, cond_false]
          exact key _ (by omega)
        | false => exact one g
  · cases h1 : ly_ge B F (c, ts) with
    | true =>
      have := ly_ge_ok g.2.1 g.2.2.1 h1 he
      simp only [cond_true]
      exact ly_as_in g (ly_add_ok (ly_ev_c ν (-1)) he) (by omega)
    | false =>
      simp only [cond_false]
      cases h2 : ly_ge B F (ly_neg (c, ts)) with
      | true =>
        have := ly_ge_ok g.2.1 g.2.2.1 h2 (ly_neg_ok he)
        simp only [cond_true]
        exact ly_as_in g (ly_sub_ok (ly_ev_c ν (-1)) he) (by omega)
      | false =>
        simp only [cond_false, ly_fe_eq]
        exact one (ly_gZ_K g he (ly_ev_c ν 1) (by rw [ly_hv_ne rfl, if_neg hz]))
theorem ly_cn_ok {c : ClassFile.Cond} {e : ly_e} {z : Int} (g : ly_gZ cst ν Z h) (he : ly_ev ν e = some z) (hz : sx_holds c z 0) : ∃ Z' ∈ ly_cn c Z e, ly_gZ cst ν Z' h := by
  cases c with
  | eq =>
    have hz : z = 0 := hz
    obtain ⟨Z1, e1, g1⟩ := ly_as_ok g he (by omega)
    cases hnz : ly_nez Z.2.2.2 e with
    | true => exact absurd hz (ly_nez_ok g.2.2.2 hnz he)
    | false =>
      simp only [ly_cn, hnz, cond_false, e1]
      exact ly_as_in g1 (ly_neg_ok he) (by omega)
  | ne => exact ly_ne_ok g he hz
  | lt =>
    have hz : z < 0 := hz
    exact ly_as_in g (ly_sub_ok (ly_ev_c ν (-1)) he) (by omega)
  | ge =>
    have hz : 0 ≤ z := hz
    exact ly_as_in g he hz
  | gt =>
    have hz : 0 < z := hz
    exact ly_as_in g (ly_add_ok (ly_ev_c ν (-1)) he) (by omega)
  | le =>
    have hz : z ≤ 0 := hz
    exact ly_as_in g (ly_neg_ok he) (by omega)
theorem ly_holds_neg {c : ClassFile.Cond} {a b : Int} (hn : ¬ sx_holds c a b) : sx_holds (sx_neg c) a b := by
  cases c <;> simp only [sx_holds, sx_neg] at hn ⊢ <;> omega
/-- a new symbol -/
def ly_up (ν : ly_N) (n : Nat) (z : Int) : ly_N := fun k => if k = n then some z else ν k
theorem ly_up_le {n : Nat} {z : Int} (hn : ν n = none) : ly_le ν (ly_up ν n z) := fun k y hy => by
  unfold ly_up
  by_cases e : k = n
  · subst e; rw [hn] at hy; cases hy
  · rw [if_neg e]; exact hy
theorem ly_up_n (n : Nat) (z : Int) : ly_up ν n z n = some z := if_pos rfl
theorem ly_gZ_up {n : Nat} {B : ly_B} {F : List ly_e} {K : ly_K} {p : Int × Int} {z : Int} (g : ly_gZ cst ν (n, B, F, K) h) (h1 : p.1 ≤ z) (h2 : z ≤ p.2) : ly_gZ cst (ly_up ν n z) (n + 1, (n, p) :: B, F, K) h := by
  have hl : ly_le ν (ly_up ν n z) := ly_up_le (g.1 n (Nat.le_refl n))
  refine ⟨fun k hk => ?_, fun q hq => ?_, ly_gF_le hl g.2.2.1, ly_gK_le hl g.2.2.2⟩
  · unfold ly_up
    have hk : n + 1 ≤ k := hk
    rw [if_neg (by omega)]
    exact g.1 k (by show n ≤ k; omega)
  · rcases List.mem_cons.mp hq with rfl | hq
    · exact ⟨z, ly_up_n n z, h1, h2⟩
    · exact ly_gB_le hl g.2.1 q hq
theorem ly_rv_ok {r : Nat} {i v : ly_e} {p : Int × Int} {Z' : ly_Z} {zi zv : Int} (g : ly_gZ cst ν Z h) (hi : ly_ev ν i = some zi) (hv : ly_hv cst h r zi = some zv) (h1 : p.1 ≤ zv) (h2 : zv ≤ p.2) (e : ly_rv Z r i p = (Z', v)) : ∃ ν', ly_le ν ν' ∧ ly_gZ cst ν' Z' h ∧ ly_ev ν' v = some zv := by
  obtain ⟨n, B, F, K⟩ := Z
  unfold ly_rv at e
  simp only at e
  split at e
  · rename_i v' hk
    cases e
    obtain ⟨i', w, e1, e2, e3⟩ := g.2.2.2 _ (ly_kget_mem hk)
    simp only at e1 e2 e3
    rw [hi] at e1
    cases e1
    rw [hv] at e3
    cases e3
    exact ⟨ν, ly_le_rf ν, g, e2⟩
  · rw [sx_N_eq, ly_fe_eq] at e
    cases e
    have hl : ly_le ν (ly_up ν n zv) := ly_up_le (g.1 n (Nat.le_refl n))
    have g1 := ly_gZ_up (p := p) g h1 h2
    refine ⟨ly_up ν n zv, hl, ⟨g1.1, g1.2.1, g1.2.2.1, fun q hq => ?_⟩, ly_ev_sym (ly_up_n n zv)⟩
    rcases List.mem_cons.mp hq with rfl | hq
    · exact ⟨zi, zv, ly_ev_le hl hi, ly_ev_sym (ly_up_n n zv), hv⟩
    · exact g1.2.2.2 q hq
theorem ly_ge1_ok {B : ly_B} {F : List ly_e} {e : ly_e} {z : Int} (hB : ly_gB ν B) (hF : ly_gF ν F) (h : ly_ge1 B F e = true) (he : ly_ev ν e = some z) : 0 ≤ z := by
  unfold ly_ge1 at h
  cases h1 : ly_nn B e with
  | true =>
    obtain ⟨y, hy, h2⟩ := ly_nn_ok hB h1
    rw [he] at hy
    cases hy
    exact h2
  | false =>
    rw [h1] at h
    simp only [cond_false] at h
    obtain ⟨f, hf, h3⟩ := List.any_eq_true.mp h
    obtain ⟨x, hx, x0⟩ := hF f hf
    obtain ⟨y, hy, y0⟩ := ly_nn_ok hB h3
    rw [ly_sub_ok he hx] at hy
    cases hy
    omega
theorem ly_dif_ok {B : ly_B} {F : List ly_e} {a b : ly_e} {x y : Int} (hB : ly_gB ν B) (hF : ly_gF ν F) (hd : ly_dif B F a b = true) (ha : ly_ev ν a = some x) (hb : ly_ev ν b = some y) : x ≠ y := by
  unfold ly_dif at hd
  cases h1 : ly_ge1 B F (ly_add (-1, []) (ly_sub a b)) with
  | true =>
    have := ly_ge1_ok hB hF h1 (ly_add_ok (ly_ev_c ν (-1)) (ly_sub_ok ha hb))
    omega
  | false =>
    rw [h1] at hd
    simp only [cond_false] at hd
    have := ly_ge1_ok hB hF hd (ly_add_ok (ly_ev_c ν (-1)) (ly_sub_ok hb ha))
    omega
end LY3
