/-! what the words of the linear machine mean -/
abbrev ly_N : Type := Nat → Option Int
def ly_evt (ν : ly_N) : List (Nat × Int) → Option Int
  | [] => some 0
  | q :: ts => match ν q.1, ly_evt ν ts with
    | some z, some s => some (q.2 * z + s)
    | _, _ => none
def ly_ev (ν : ly_N) (e : ly_e) : Option Int := match ly_evt ν e.2 with
  | some s => some (e.1 + s)
  | none => none
def ly_le (ν ν' : ly_N) : Prop := ∀ k z, ν k = some z → ν' k = some z
theorem ly_le_rf (ν : ly_N) : ly_le ν ν := fun _ _ h => h
theorem ly_le_tr {a b c : ly_N} (h1 : ly_le a b) (h2 : ly_le b c) : ly_le a c := fun k z h => h2 k z (h1 k z h)
theorem ly_evt_cons {ν : ly_N} {q : Nat × Int} {ts : List (Nat × Int)} {s : Int} : ly_evt ν (q :: ts) = some s ↔ ∃ z t, ν q.1 = some z ∧ ly_evt ν ts = some t ∧ s = q.2 * z + t := by
  constructor
  · intro h
    unfold ly_evt at h
    split at h
    · rename_i z t hz ht
      cases h
      exact ⟨z, t, hz, ht, rfl⟩
    · cases h
  · rintro ⟨z, t, hz, ht, rfl⟩
    unfold ly_evt
    simp only [hz, ht]
theorem ly_ev_iff {ν : ly_N} {e : ly_e} {z : Int} : ly_ev ν e = some z ↔ ∃ s, ly_evt ν e.2 = some s ∧ z = e.1 + s := by
  unfold ly_ev
  constructor
  · intro h
    split at h
    · rename_i s hs
      cases h
      exact ⟨s, hs, rfl⟩
    · cases h
  · rintro ⟨s, hs, rfl⟩
    simp only [hs]
theorem ly_ev_c (ν : ly_N) (c : Int) : ly_ev ν (c, []) = some c := by simp [ly_ev, ly_evt]
theorem ly_ev_sym {ν : ly_N} {n : Nat} {z : Int} (h : ν n = some z) : ly_ev ν (ly_sym n) = some z := by simp [ly_ev, ly_evt, ly_sym, h]
theorem ly_evt_le {ν ν' : ly_N} (hl : ly_le ν ν') : ∀ {ts : List (Nat × Int)} {s : Int}, ly_evt ν ts = some s → ly_evt ν' ts = some s
  | [], _, h => h
  | q :: ts, s, h => by
    obtain ⟨z, t, hz, ht, e⟩ := ly_evt_cons.mp h
    exact ly_evt_cons.mpr ⟨z, t, hl _ _ hz, ly_evt_le hl ht, e⟩
theorem ly_ev_le {ν ν' : ly_N} (hl : ly_le ν ν') {e : ly_e} {z : Int} (h : ly_ev ν e = some z) : ly_ev ν' e = some z := by
  obtain ⟨s, hs, e1⟩ := ly_ev_iff.mp h
  exact ly_ev_iff.mpr ⟨s, ly_evt_le hl hs, e1⟩
theorem ly_I_eq {α : Type} (z : Int) (k : Int → α) : ly_I z k = k z := by
  cases z <;> simp only [ly_I, sx_N_eq]
theorem ly_fl_eq {α : Type} : ∀ (ts : List (Nat × Int)) (k : List (Nat × Int) → α), ly_fl ts k = k ts
  | [], _ => rfl
  | q :: ts, k => by
    simp only [ly_fl, sx_N_eq, ly_I_eq]
    rw [ly_fl_eq ts]
theorem ly_fe_eq {α : Type} (e : ly_e) (k : ly_e → α) : ly_fe e k = k e := by
  simp only [ly_fe, ly_I_eq, ly_fl_eq]
theorem ly_vf_eq {α : Type} (v : ly_V) (k : ly_V → α) : ly_vf v k = k v := by
  unfold ly_vf
  split
  · rw [ly_fe_eq]
  · rw [ly_fe_eq]
  · rfl
theorem ly_ins_ok {ν : ly_N} {k : Nat} {a z : Int} (hk : ν k = some z) : ∀ {ts : List (Nat × Int)} {s : Int}, ly_evt ν ts = some s → ly_evt ν (ly_ins k a ts) = some (a * z + s)
  | [], s, h => by
    cases h
    exact ly_evt_cons.mpr ⟨z, 0, hk, rfl, rfl⟩
  | q :: ts, s, h => by
    unfold ly_ins
    cases h1 : Nat.blt k q.1 with
    | true =>
      simp only [cond_true]
      exact ly_evt_cons.mpr ⟨z, s, hk, h, rfl⟩
    | false =>
      simp only [cond_false]
      obtain ⟨y, t, hy, ht, e⟩ := ly_evt_cons.mp h
      cases h2 : Nat.beq k q.1 with
      | true =>
        simp only [cond_true]
        have ek := Nat.eq_of_beq_eq_true h2
        rw [← ek, hk] at hy
        cases hy
        have ea : Int.add a q.2 = a + q.2 := rfl
        cases h3 : sx_eq (Int.add a q.2) 0 with
        | true =>
          simp only [cond_true]
          have := sx_eq_iff.mp h3
          rw [ea] at this
          rw [ht, e, ← Int.add_assoc, ← Int.add_mul, this, Int.zero_mul, Int.zero_add]
        | false =>
          simp only [cond_false]
          refine ly_evt_cons.mpr ⟨z, t, hk, ht, ?_⟩
          rw [e, ea, Int.add_mul, Int.add_assoc]
      | false =>
        simp only [cond_false]
        refine ly_evt_cons.mpr ⟨y, _, hy, ly_ins_ok hk ht, ?_⟩
        rw [e]
        omega
theorem ly_mrg_ok {ν : ly_N} : ∀ {a b : List (Nat × Int)} {x y : Int}, ly_evt ν a = some x → ly_evt ν b = some y → ly_evt ν (ly_mrg a b) = some (x + y)
  | [], b, x, y, ha, hb => by
    cases ha
    rw [Int.zero_add]
    exact hb
  | q :: a, b, x, y, ha, hb => by
    obtain ⟨z, t, hz, ht, e⟩ := ly_evt_cons.mp ha
    unfold ly_mrg
    rw [ly_ins_ok hz (ly_mrg_ok ht hb), e, Int.add_assoc]
theorem ly_add_ok {ν : ly_N} {a b : ly_e} {x y : Int} (ha : ly_ev ν a = some x) (hb : ly_ev ν b = some y) : ly_ev ν (ly_add a b) = some (x + y) := by
  obtain ⟨s, hs, e⟩ := ly_ev_iff.mp ha
  obtain ⟨t, ht, e'⟩ := ly_ev_iff.mp hb
  refine ly_ev_iff.mpr ⟨s + t, ly_mrg_ok hs ht, ?_⟩
  show x + y = (a.1 + b.1) + (s + t)
  omega
theorem ly_map_ok {ν : ly_N} {c : Int} : ∀ {a : List (Nat × Int)} {x : Int}, ly_evt ν a = some x → ly_evt ν (a.map fun q => (q.1, Int.mul c q.2)) = some (c * x)
  | [], x, h => by
    cases h
    simp [ly_evt]
  | q :: a, x, h => by
    obtain ⟨z, t, hz, ht, e⟩ := ly_evt_cons.mp h
    rw [List.map_cons]
    refine ly_evt_cons.mpr ⟨z, c * t, hz, ly_map_ok ht, ?_⟩
    show c * x = c * q.2 * z + c * t
    rw [e, Int.mul_add, Int.mul_assoc]
theorem ly_scl_ok {ν : ly_N} {c : Int} {a : ly_e} {x : Int} (ha : ly_ev ν a = some x) : ly_ev ν (ly_scl c a) = some (c * x) := by
  unfold ly_scl
  cases h0 : sx_eq c 0 with
  | true =>
    simp only [cond_true]
    rw [sx_eq_iff.mp h0, Int.zero_mul]
    exact ly_ev_c ν 0
  | false =>
    simp only [cond_false]
    obtain ⟨s, hs, e⟩ := ly_ev_iff.mp ha
    refine ly_ev_iff.mpr ⟨c * s, ly_map_ok hs, ?_⟩
    show c * x = c * a.1 + c * s
    rw [e, Int.mul_add]
theorem ly_neg_ok {ν : ly_N} {a : ly_e} {x : Int} (ha : ly_ev ν a = some x) : ly_ev ν (ly_neg a) = some (-x) := by
  have := ly_scl_ok (c := -1) ha
  unfold ly_neg
  rw [this]
  congr 1
  omega
theorem ly_sub_ok {ν : ly_N} {a b : ly_e} {x y : Int} (ha : ly_ev ν a = some x) (hb : ly_ev ν b = some y) : ly_ev ν (ly_sub a b) = some (x - y) := by
  have := ly_add_ok ha (ly_neg_ok hb)
  rw [show x - y = x + -y by omega]
  exact this
theorem ly_teq_eq : ∀ {a b : List (Nat × Int)}, ly_teq a b = true → a = b
  | [], [], _ => rfl
  | p :: s, q :: t, h => by
    unfold ly_teq at h
    cases hc : (Nat.beq p.1 q.1 && sx_eq p.2 q.2) with
    | false => rw [hc] at h; cases h
    | true =>
      rw [hc] at h
      simp only [cond_true] at h
      rw [Bool.and_eq_true] at hc
      have e1 := Nat.eq_of_beq_eq_true hc.1
      have e2 := sx_eq_iff.mp hc.2
      rw [ly_teq_eq h]
      congr 1
      exact Prod.ext e1 e2
  | [], _ :: _, h => by cases h
  | _ :: _, [], h => by cases h
theorem ly_eq_eq {a b : ly_e} (h : ly_eq a b = true) : a = b := by
  unfold ly_eq at h
  cases hc : sx_eq a.1 b.1 with
  | false => rw [hc] at h; cases h
  | true =>
    rw [hc] at h
    exact Prod.ext (sx_eq_iff.mp hc) (ly_teq_eq h)
def ly_gB (ν : ly_N) (B : ly_B) : Prop := ∀ q ∈ B, ∃ z, ν q.1 = some z ∧ q.2.1 ≤ z ∧ z ≤ q.2.2
def ly_gF (ν : ly_N) (F : List ly_e) : Prop := ∀ f ∈ F, ∃ z, ly_ev ν f = some z ∧ 0 ≤ z
theorem ly_gB_get {ν : ly_N} {B : ly_B} (h : ly_gB ν B) {k : Nat} {p : Int × Int} (hg : sx_get k B = some p) : ∃ z, ν k = some z ∧ p.1 ≤ z ∧ z ≤ p.2 := h (k, p) (sx_get_mem hg)
theorem ly_gB_le {ν ν' : ly_N} (hl : ly_le ν ν') {B : ly_B} (h : ly_gB ν B) : ly_gB ν' B := fun q hq => by
  obtain ⟨z, hz, h1⟩ := h q hq
  exact ⟨z, hl _ _ hz, h1⟩
theorem ly_gF_le {ν ν' : ly_N} (hl : ly_le ν ν') {F : List ly_e} (h : ly_gF ν F) : ly_gF ν' F := fun q hq => by
  obtain ⟨z, hz, h1⟩ := h q hq
  exact ⟨z, ly_ev_le hl hz, h1⟩
section LY1
variable {ν : ly_N} {B : ly_B} {F : List ly_e}
theorem ly_lo_ok (hB : ly_gB ν B) : ∀ {ts : List (Nat × Int)} {c z : Int}, ly_lo B ts c = some z → ∃ s, ly_evt ν ts = some s ∧ z ≤ c + s
  | [], c, z, h => by
    cases h
    exact ⟨0, rfl, by omega⟩
  | q :: ts, c, z, h => by
    unfold ly_lo at h
    split at h
    case h_2 => cases h
    rename_i p hp
    obtain ⟨y, hy, b1, b2⟩ := ly_gB_get hB hp
    split at h
    · rename_i a ha
      obtain ⟨s, hs, hz⟩ := ly_lo_ok hB h
      refine ⟨q.2 * y + s, ly_evt_cons.mpr ⟨y, s, hy, hs, rfl⟩, ?_⟩
      have m : (Int.ofNat a) * p.1 ≤ (Int.ofNat a) * y := Int.mul_le_mul_of_nonneg_left b1 (Int.natCast_nonneg a)
      have e : Int.add c (Int.mul (Int.ofNat a) p.1) = c + (Int.ofNat a) * p.1 := rfl
      rw [e] at hz
      rw [ha]
      omega
    · rename_i a ha
      obtain ⟨s, hs, hz⟩ := ly_lo_ok hB h
      refine ⟨q.2 * y + s, ly_evt_cons.mpr ⟨y, s, hy, hs, rfl⟩, ?_⟩
      have m : (Int.negSucc a) * p.2 ≤ (Int.negSucc a) * y := Int.mul_le_mul_of_nonpos_left (Int.le_of_lt (Int.negSucc_lt_zero a)) b2
      have e : Int.add c (Int.mul (Int.negSucc a) p.2) = c + (Int.negSucc a) * p.2 := rfl
      rw [e] at hz
      rw [ha]
      omega
theorem ly_hi_ok (hB : ly_gB ν B) : ∀ {ts : List (Nat × Int)} {c z : Int}, ly_hi B ts c = some z → ∃ s, ly_evt ν ts = some s ∧ c + s ≤ z
  | [], c, z, h => by
    cases h
    exact ⟨0, rfl, by omega⟩
  | q :: ts, c, z, h => by
    unfold ly_hi at h
    split at h
    case h_2 => cases h
    rename_i p hp
    obtain ⟨y, hy, b1, b2⟩ := ly_gB_get hB hp
    split at h
    · rename_i a ha
      obtain ⟨s, hs, hz⟩ := ly_hi_ok hB h
      refine ⟨q.2 * y + s, ly_evt_cons.mpr ⟨y, s, hy, hs, rfl⟩, ?_⟩
      have m : (Int.ofNat a) * y ≤ (Int.ofNat a) * p.2 := Int.mul_le_mul_of_nonneg_left b2 (Int.natCast_nonneg a)
      have e : Int.add c (Int.mul (Int.ofNat a) p.2) = c + (Int.ofNat a) * p.2 := rfl
      rw [e] at hz
      rw [ha]
      omega
    · rename_i a ha
      obtain ⟨s, hs, hz⟩ := ly_hi_ok hB h
      refine ⟨q.2 * y + s, ly_evt_cons.mpr ⟨y, s, hy, hs, rfl⟩, ?_⟩
      have m : (Int.negSucc a) * y ≤ (Int.negSucc a) * p.1 := Int.mul_le_mul_of_nonpos_left (Int.le_of_lt (Int.negSucc_lt_zero a)) b1
      have e : Int.add c (Int.mul (Int.negSucc a) p.1) = c + (Int.negSucc a) * p.1 := rfl
      rw [e] at hz
      rw [ha]
      omega
theorem ly_iv_ok (hB : ly_gB ν B) {e : ly_e} {p : Int × Int} (h : ly_iv B e = some p) : ∃ z, ly_ev ν e = some z ∧ p.1 ≤ z ∧ z ≤ p.2 := by
  unfold ly_iv at h
  split at h
  case h_2 => cases h
  rename_i a b ha hb
  cases h
  obtain ⟨s, hs, h1⟩ := ly_lo_ok hB ha
  obtain ⟨s', hs', h2⟩ := ly_hi_ok hB hb
  rw [hs] at hs'
  cases hs'
  exact ⟨e.1 + s, ly_ev_iff.mpr ⟨s, hs, rfl⟩, h1, h2⟩
theorem ly_con_ok (hB : ly_gB ν B) {e : ly_e} {c : Int} (h : ly_con B e = some c) : ly_ev ν e = some c := by
  unfold ly_con at h
  split at h
  · rename_i he
    cases h
    exact ly_ev_iff.mpr ⟨0, by rw [he]; rfl, by omega⟩
  · split at h
    case h_2 => cases h
    rename_i p hp
    cases hc : sx_eq p.1 p.2 with
    | false => rw [hc] at h; cases h
    | true =>
      rw [hc] at h
      cases h
      obtain ⟨z, hz, h1, h2⟩ := ly_iv_ok hB hp
      have := sx_eq_iff.mp hc
      rw [hz]
      congr 1
      omega
theorem ly_nn_ok (hB : ly_gB ν B) {e : ly_e} (h : ly_nn B e = true) : ∃ z, ly_ev ν e = some z ∧ 0 ≤ z := by
  unfold ly_nn at h
  split at h
  case h_2 => cases h
  rename_i z hz
  obtain ⟨s, hs, h1⟩ := ly_lo_ok hB hz
  have := sx_le_iff.mp h
  exact ⟨e.1 + s, ly_ev_iff.mpr ⟨s, hs, rfl⟩, by omega⟩
theorem ly_gf1_ok (hB : ly_gB ν B) {e f : ly_e} {z x : Int} (h : ly_gf1 B e f = true) (he : ly_ev ν e = some z) (hx : ly_ev ν f = some x) (x0 : 0 ≤ x) : 0 ≤ z := by
  unfold ly_gf1 at h
  cases h1 : ly_nn B (ly_sub e f) with
  | true =>
    obtain ⟨y, hy, y0⟩ := ly_nn_ok hB h1
    rw [ly_sub_ok he hx] at hy
    cases hy
    omega
  | false =>
    rw [h1] at h
    simp only [cond_false, ly_I_eq] at h
    cases h2 : sx_le 2 (ly_rt e f) with
    | false => rw [h2] at h; cases h
    | true =>
      rw [h2] at h
      simp only [cond_true] at h
      have h2 := sx_le_iff.mp h2
      obtain ⟨y, hy, y0⟩ := ly_nn_ok hB h
      rw [ly_sub_ok (ly_scl_ok he) hx] at hy
      cases hy
      by_cases hz : 0 ≤ z
      · exact hz
      · have hz1 : z ≤ -1 := by omega
        have := Int.mul_le_mul_of_nonneg_left hz1 (show 0 ≤ ly_rt e f by omega)
        omega
theorem ly_ge_ok (hB : ly_gB ν B) (hF : ly_gF ν F) {e : ly_e} {z : Int} (h : ly_ge B F e = true) (he : ly_ev ν e = some z) : 0 ≤ z := by
  unfold ly_ge at h
  cases h1 : ly_nn B e with
  | true =>
    obtain ⟨y, hy, h2⟩ := ly_nn_ok hB h1
    rw [he] at hy
    cases hy
    exact h2
  | false =>
    rw [h1] at h
    simp only [cond_false] at h
    obtain ⟨f, hf, h3⟩ := List.any_eq_true.mp h
    obtain ⟨x, hx, x0⟩ := hF f hf
    exact ly_gf1_ok hB h3 he hx x0
theorem ly_gd_ok (hB : ly_gB ν B) : ∀ (d : Nat) {F : List ly_e} {e : ly_e} {z : Int}, ly_gF ν F → ly_gd B d F e = true → ly_ev ν e = some z → 0 ≤ z
  | 0, F, e, z, _, h, _ => by cases h
  | d + 1, F, e, z, hF, h, he => by
    unfold ly_gd at h
    split at h
    case h_1 => cases h
    rename_i q hq
    rcases Bool.or_eq_true_iff.mp h with hany | h
    case inr =>
      split at h
      case h_2 => cases h
      rename_i y hy
      obtain ⟨t, ht, hle⟩ := ly_lo_ok hB hy
      have hq' : ly_ev ν (0, [q]) = some (0 + t) := ly_ev_iff.mpr ⟨t, ht, rfl⟩
      rw [ly_fe_eq] at h
      have := ly_gd_ok hB d hF h (ly_add_ok (ly_ev_c ν y) (ly_sub_ok he hq'))
      omega
    obtain ⟨f, hf, h3⟩ := List.any_eq_true.mp hany
    obtain ⟨x, hx, x0⟩ := hF f hf
    split at h3
    case h_2 => cases h3
    rename_i b hb
    cases h4 : (ly_ss q.2 b && Nat.ble 1 (b.natAbs / Nat.gcd q.2.natAbs b.natAbs)) with
    | false => rw [h4] at h3; cases h3
    | true =>
      rw [h4] at h3
      simp only [cond_true, ly_fe_eq] at h3
      rw [Bool.and_eq_true] at h4
      have hk1 := Nat.le_of_ble_eq_true h4.2
      have hs := ly_sub_ok (ly_scl_ok (c := .ofNat (b.natAbs / Nat.gcd q.2.natAbs b.natAbs)) he) (ly_scl_ok (c := .ofNat (q.2.natAbs / Nat.gcd q.2.natAbs b.natAbs)) hx)
      have hk : 0 ≤ (Int.ofNat (q.2.natAbs / Nat.gcd q.2.natAbs b.natAbs)) * x := Int.mul_nonneg (Int.natCast_nonneg _) x0
      have fin : 0 ≤ (Int.ofNat (b.natAbs / Nat.gcd q.2.natAbs b.natAbs)) * z → 0 ≤ z := fun hz => by
        by_cases hz0 : 0 ≤ z
        · exact hz0
        · have hz1 : z ≤ -1 := by omega
          have hkp : (1 : Int) ≤ Int.ofNat (b.natAbs / Nat.gcd q.2.natAbs b.natAbs) := by
            show (1 : Int) ≤ ((b.natAbs / Nat.gcd q.2.natAbs b.natAbs : Nat) : Int)
            omega
          have := Int.mul_le_mul_of_nonneg_left hz1 (show 0 ≤ Int.ofNat (b.natAbs / Nat.gcd q.2.natAbs b.natAbs) by omega)
          omega
      cases h5 : ly_nn B (ly_sub (ly_scl (.ofNat (b.natAbs / Nat.gcd q.2.natAbs b.natAbs)) e) (ly_scl (.ofNat (q.2.natAbs / Nat.gcd q.2.natAbs b.natAbs)) f)) with
      | true =>
        obtain ⟨y, hy, y0⟩ := ly_nn_ok hB h5
        rw [hs] at hy
        cases hy
        exact fin (by omega)
      | false =>
        rw [h5] at h3
        have := ly_gd_ok hB d (fun g hg => hF g (List.mem_filter.mp hg).1) h3 hs
        exact fin (by omega)
theorem ly_gs_ok (hB : ly_gB ν B) (hF : ly_gF ν F) {e : ly_e} {z : Int} (h : ly_gs B F e = true) (he : ly_ev ν e = some z) : 0 ≤ z := by
  unfold ly_gs at h
  split at h
  · rename_i he0
    obtain ⟨c, ts⟩ := e
    simp only at he0 h
    subst he0
    rw [ly_ev_c] at he
    cases he
    exact sx_le_iff.mp h
  · cases h1 : ly_ge B F e with
    | true => exact ly_ge_ok hB hF h1 he
    | false =>
      rw [h1] at h
      exact ly_gd_ok hB 9 hF h he
end LY1
