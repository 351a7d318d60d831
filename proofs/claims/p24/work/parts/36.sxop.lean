section SX2
variable {ρ : Nat → Int32} {B : sx_B}
theorem sx_iv_c (a : Int) : sx_iv B (.inl a) = some (a, a) := rfl
theorem sx_iv_z (z : Option Int ⊕ Option Nat) : sx_iv B (.inr (.inr z)) = none := by cases z <;> rfl
theorem sx_of {n : Int32} {c : Int} (h : n.toInt = c) : n = Int32.ofInt c := by rw [← h, Int32.ofInt_toInt]
theorem sx_mk_ok {lo hi : Int} {t : Option (Nat × Int)} {n : Int32} (h1 : sx_min ≤ lo → hi ≤ sx_max → lo ≤ n.toInt ∧ n.toInt ≤ hi ∧ ∀ k c, t = some (k, c) → n.toInt = (ρ k).toInt + c) : sx_g ρ (sx_mk lo hi t) (.int n) := by
  unfold sx_mk
  cases h : (sx_le sx_min lo && sx_le hi sx_max)
  · exact sx_g_top n
  · rw [Bool.and_eq_true] at h
    exact ⟨n, rfl, h1 (sx_le_iff.mp h.1) (sx_le_iff.mp h.2)⟩
theorem sx_bm {z : Int} (h1 : sx_min ≤ z) (h2 : z ≤ sx_max) : Int.bmod z 4294967296 = z := by
  have e1 : sx_min = -2147483648 := rfl
  have e2 : sx_max = 2147483647 := rfl
  exact Int.bmod_eq_of_le (by omega) (by omega)
theorem sx_add_ok {x y v : sx_V} {x' y' : Value} (hB : sx_gB ρ B) (hv : sx_add B x y = some v) (hx : sx_g ρ x x') (hy : sx_g ρ y y') : ∃ a b : Int32, x' = .int a ∧ y' = .int b ∧ sx_g ρ v (.int (a + b)) := by
  have gen : ∀ (t : Option (Nat × Int)) (p q : Int × Int), sx_iv B x = some p → sx_iv B y = some q → (∀ a b : Int32, x' = .int a → y' = .int b → ∀ k c, t = some (k, c) → a.toInt + b.toInt = (ρ k).toInt + c) → v = sx_mk (Int.add p.1 q.1) (Int.add p.2 q.2) t → ∃ a b : Int32, x' = .int a ∧ y' = .int b ∧ sx_g ρ v (.int (a + b)) := by
    intro t p q hp hq ht hv
    obtain ⟨a, ea, a1, a2⟩ := sx_g_int hB hx hp
    obtain ⟨b, eb, b1, b2⟩ := sx_g_int hB hy hq
    refine ⟨a, b, ea, eb, ?_⟩
    rw [hv]
    refine sx_mk_ok (fun h1 h2 => ?_)
    have e : (a + b).toInt = a.toInt + b.toInt := by
      rw [Int32.toInt_add]
      refine sx_bm ?_ ?_
      · have : p.1 + q.1 = Int.add p.1 q.1 := rfl
        omega
      · have : p.2 + q.2 = Int.add p.2 q.2 := rfl
        omega
    rw [e]
    refine ⟨?_, ?_, fun k c h => ht a b ea eb k c h⟩
    · show p.1 + q.1 ≤ _; omega
    · show _ ≤ p.2 + q.2; omega
  match x, y, hv, hx, hy, gen with
  | .inl a, .inl b, hv, hx, hy, gen =>
    obtain ⟨a', ea, ha⟩ := hx
    obtain ⟨b', eb, hb⟩ := hy
    simp only [sx_add] at hv
    cases hv
    refine ⟨a', b', ea, eb, _, rfl, ?_⟩
    rw [Int32.toInt_add, sx_w_eq, ha, hb]
    rfl
  | .inl a, .inr (.inl (lo, hi, none)), hv, hx, hy, gen =>
    simp only [sx_add, sx_iv] at hv
    cases hv
    exact gen _ _ _ rfl rfl (fun _ _ _ _ _ _ h => by cases h) rfl
  | .inl a, .inr (.inl (lo, hi, some (k, c))), hv, hx, hy, gen =>
    cases hq : sx_iv B (.inr (.inl (lo, hi, some (k, c)))) with
    | none => simp only [sx_add, hq] at hv; cases hv
    | some q =>
      simp only [sx_add, hq, sx_iv_c] at hv
      cases hv
      refine gen _ _ _ rfl hq (fun a' b' ea eb k' c' h => ?_) rfl
      cases h
      obtain ⟨a2, ea2, ha⟩ := hx
      obtain ⟨b2, eb2, -, -, hb⟩ := hy
      rw [ea] at ea2
      rw [eb] at eb2
      cases ea2
      cases eb2
      have := hb k c rfl
      show _ = _ + (c + a)
      omega
  | .inr (.inl (lo, hi, none)), .inl b, hv, hx, hy, gen =>
    simp only [sx_add, sx_iv] at hv
    cases hv
    exact gen _ _ _ rfl rfl (fun _ _ _ _ _ _ h => by cases h) rfl
  | .inr (.inl (lo, hi, some (k, c))), .inl b, hv, hx, hy, gen =>
    cases hq : sx_iv B (.inr (.inl (lo, hi, some (k, c)))) with
    | none => simp only [sx_add, hq] at hv; cases hv
    | some q =>
      simp only [sx_add, hq, sx_iv_c] at hv
      cases hv
      refine gen _ _ _ hq rfl (fun a' b' ea eb k' c' h => ?_) rfl
      cases h
      obtain ⟨a2, ea2, -, -, ha⟩ := hx
      obtain ⟨b2, eb2, hb⟩ := hy
      rw [ea] at ea2
      rw [eb] at eb2
      cases ea2
      cases eb2
      have := ha k c rfl
      show _ = _ + (c + b)
      omega
  | .inr (.inl (lo, hi, t)), .inr (.inl (lo', hi', t')), hv, hx, hy, gen =>
    cases hp : sx_iv B (.inr (.inl (lo, hi, t))) with
    | none => simp only [sx_add, hp] at hv; cases hv
    | some p =>
      cases hq : sx_iv B (.inr (.inl (lo', hi', t'))) with
      | none => simp only [sx_add, hp, hq] at hv; cases hv
      | some q =>
        simp only [sx_add, hp, hq] at hv
        have e : v = sx_mk (Int.add p.1 q.1) (Int.add p.2 q.2) none := by
          cases t with
          | none => cases hv; rfl
          | some t => cases hv; rfl
        exact gen _ _ _ hp hq (fun _ _ _ _ _ _ h => by cases h) e
  | .inr (.inr _), y, hv, hx, hy, gen =>
    rename_i z
    cases z <;> simp only [sx_add, sx_iv] at hv <;> cases hv
  | .inl _, .inr (.inr z), hv, hx, hy, gen => cases z <;> simp only [sx_add, sx_iv] at hv <;> cases hv
  | .inr (.inl z'), .inr (.inr z), hv, hx, hy, gen =>
    cases hp : sx_iv B (.inr (.inl z')) with
    | none => simp only [sx_add, hp] at hv; cases hv
    | some p => simp only [sx_add, hp, sx_iv_z] at hv; cases hv
theorem sx_sub_ok {x y v : sx_V} {x' y' : Value} (hB : sx_gB ρ B) (hv : sx_sub B x y = some v) (hx : sx_g ρ x x') (hy : sx_g ρ y y') : ∃ a b : Int32, x' = .int a ∧ y' = .int b ∧ sx_g ρ v (.int (a - b)) := by
  have gen : ∀ (t : Option (Nat × Int)) (p q : Int × Int), sx_iv B x = some p → sx_iv B y = some q → (∀ a b : Int32, x' = .int a → y' = .int b → ∀ k c, t = some (k, c) → a.toInt - b.toInt = (ρ k).toInt + c) → v = sx_mk (Int.sub p.1 q.2) (Int.sub p.2 q.1) t → ∃ a b : Int32, x' = .int a ∧ y' = .int b ∧ sx_g ρ v (.int (a - b)) := by
    intro t p q hp hq ht hv
    obtain ⟨a, ea, a1, a2⟩ := sx_g_int hB hx hp
    obtain ⟨b, eb, b1, b2⟩ := sx_g_int hB hy hq
    refine ⟨a, b, ea, eb, ?_⟩
    rw [hv]
    refine sx_mk_ok (fun h1 h2 => ?_)
    have e : (a - b).toInt = a.toInt - b.toInt := by
      rw [Int32.toInt_sub]
      refine sx_bm ?_ ?_
      · have : p.1 - q.2 = Int.sub p.1 q.2 := rfl
        omega
      · have : p.2 - q.1 = Int.sub p.2 q.1 := rfl
        omega
    rw [e]
    refine ⟨?_, ?_, fun k c h => ht a b ea eb k c h⟩
    · show p.1 - q.2 ≤ _; omega
    · show _ ≤ p.2 - q.1; omega
  match x, y, hv, hx, hy, gen with
  | .inl a, .inl b, hv, hx, hy, gen =>
    obtain ⟨a', ea, ha⟩ := hx
    obtain ⟨b', eb, hb⟩ := hy
    simp only [sx_sub] at hv
    cases hv
    refine ⟨a', b', ea, eb, _, rfl, ?_⟩
    rw [Int32.toInt_sub, sx_w_eq, ha, hb]
    rfl
  | .inl a, .inr (.inl z), hv, hx, hy, gen =>
    cases hq : sx_iv B (.inr (.inl z)) with
    | none => simp only [sx_sub, hq, sx_iv_c] at hv; cases hv
    | some q =>
      simp only [sx_sub, hq, sx_iv_c] at hv
      cases hv
      exact gen _ _ _ rfl hq (fun _ _ _ _ _ _ h => by cases h) rfl
  | .inr (.inl (lo, hi, none)), .inl b, hv, hx, hy, gen =>
    simp only [sx_sub, sx_iv] at hv
    cases hv
    exact gen _ _ _ rfl rfl (fun _ _ _ _ _ _ h => by cases h) rfl
  | .inr (.inl (lo, hi, some (k, c))), .inl b, hv, hx, hy, gen =>
    cases hq : sx_iv B (.inr (.inl (lo, hi, some (k, c)))) with
    | none => simp only [sx_sub, hq] at hv; cases hv
    | some q =>
      simp only [sx_sub, hq, sx_iv_c] at hv
      cases hv
      refine gen _ _ _ hq rfl (fun a' b' ea eb k' c' h => ?_) rfl
      cases h
      obtain ⟨a2, ea2, -, -, ha⟩ := hx
      obtain ⟨b2, eb2, hb⟩ := hy
      rw [ea] at ea2
      rw [eb] at eb2
      cases ea2
      cases eb2
      have := ha k c rfl
      show _ = _ + (c - b)
      omega
  | .inr (.inl (lo, hi, t)), .inr (.inl (lo', hi', t')), hv, hx, hy, gen =>
    cases hp : sx_iv B (.inr (.inl (lo, hi, t))) with
    | none => simp only [sx_sub, hp] at hv; cases hv
    | some p =>
      cases hq : sx_iv B (.inr (.inl (lo', hi', t'))) with
      | none => simp only [sx_sub, hp, hq] at hv; cases hv
      | some q =>
        simp only [sx_sub, hp, hq] at hv
        have e : v = sx_mk (Int.sub p.1 q.2) (Int.sub p.2 q.1) none := by
          cases t with
          | none => cases hv; rfl
          | some t => cases hv; rfl
        exact gen _ _ _ hp hq (fun _ _ _ _ _ _ h => by cases h) e
  | .inr (.inr _), y, hv, hx, hy, gen =>
    rename_i z
    cases z <;> simp only [sx_sub, sx_iv] at hv <;> cases hv
  | .inl _, .inr (.inr z), hv, hx, hy, gen => cases z <;> simp only [sx_sub, sx_iv] at hv <;> cases hv
  | .inr (.inl z'), .inr (.inr z), hv, hx, hy, gen =>
    cases hp : sx_iv B (.inr (.inl z')) with
    | none => simp only [sx_sub, hp] at hv; cases hv
    | some p => simp only [sx_sub, hp, sx_iv_z] at hv; cases hv
theorem sx_op_ok {f : Int32 → Int32 → Int32} {x y v : sx_V} {x' y' : Value} (hB : sx_gB ρ B) (hv : sx_op B f x y = some v) (hx : sx_g ρ x x') (hy : sx_g ρ y y') : ∃ a b : Int32, x' = .int a ∧ y' = .int b ∧ sx_g ρ v (.int (f a b)) := by
  unfold sx_op at hv
  split at hv
  · rename_i a b ha hb
    obtain ⟨a', ea, ha⟩ := sx_g_con hB hx ha
    obtain ⟨b', eb, hb⟩ := sx_g_con hB hy hb
    cases hv
    exact ⟨a', b', ea, eb, _, rfl, by rw [sx_of ha, sx_of hb]⟩
  · split at hv
    · rename_i p q hp hq
      obtain ⟨a', ea, -⟩ := sx_g_int hB hx hp
      obtain ⟨b', eb, -⟩ := sx_g_int hB hy hq
      cases hv
      exact ⟨a', b', ea, eb, sx_g_top _⟩
    · cases hv
theorem sx_op1_ok {f : Int32 → Int32} {x v : sx_V} {x' : Value} (hB : sx_gB ρ B) (hv : sx_op1 B f x = some v) (hx : sx_g ρ x x') : ∃ a : Int32, x' = .int a ∧ sx_g ρ v (.int (f a)) := by
  unfold sx_op1 at hv
  split at hv
  · rename_i a ha
    obtain ⟨a', ea, ha⟩ := sx_g_con hB hx ha
    cases hv
    exact ⟨a', ea, _, rfl, by rw [sx_of ha]⟩
  · split at hv
    · rename_i p hp
      obtain ⟨a', ea, -⟩ := sx_g_int hB hx hp
      cases hv
      exact ⟨a', ea, sx_g_top _⟩
    · cases hv
theorem sx_mc_ok {c : Int} {p : Int × Int} {a b : Int32} (ha : a.toInt = c) (h1 : p.1 ≤ b.toInt) (h2 : b.toInt ≤ p.2) : sx_g ρ (sx_mc c p) (.int (a * b)) := by
  unfold sx_mc
  cases h0 : sx_le 0 c
  · exact sx_g_top _
  · have hc := sx_le_iff.mp h0
    refine sx_mk_ok (fun l1 l2 => ?_)
    have m1 : c * p.1 ≤ c * b.toInt := Int.mul_le_mul_of_nonneg_left h1 hc
    have m2 : c * b.toInt ≤ c * p.2 := Int.mul_le_mul_of_nonneg_left h2 hc
    have e1 : c * p.1 = Int.mul c p.1 := rfl
    have e2 : c * p.2 = Int.mul c p.2 := rfl
    have e : (a * b).toInt = c * b.toInt := by
      rw [Int32.toInt_mul, ha]
      exact sx_bm (by omega) (by omega)
    rw [e]
    exact ⟨by omega, by omega, fun _ _ h => by cases h⟩
theorem sx_mul_ok {x y v : sx_V} {x' y' : Value} (hB : sx_gB ρ B) (hv : sx_mul B x y = some v) (hx : sx_g ρ x x') (hy : sx_g ρ y y') : ∃ a b : Int32, x' = .int a ∧ y' = .int b ∧ sx_g ρ v (.int (a * b)) := by
  unfold sx_mul at hv
  split at hv
  case h_2 => cases hv
  rename_i p q hp hq
  obtain ⟨a, ea, a1, a2⟩ := sx_g_int hB hx hp
  obtain ⟨b, eb, b1, b2⟩ := sx_g_int hB hy hq
  refine ⟨a, b, ea, eb, ?_⟩
  cases e1 : sx_eq p.1 p.2 with
  | true =>
    have f1 := sx_eq_iff.mp e1
    rw [e1] at hv
    cases e2 : sx_eq q.1 q.2 with
    | true =>
      have f2 := sx_eq_iff.mp e2
      rw [e2] at hv
      cases hv
      refine ⟨_, rfl, ?_⟩
      rw [Int32.toInt_mul, sx_w_eq, show a.toInt = p.1 by omega, show b.toInt = q.1 by omega]
      rfl
    | false =>
      rw [e2] at hv
      cases e3 : sx_eq p.1 0 with
      | true =>
        have f3 := sx_eq_iff.mp e3
        rw [e3] at hv
        cases hv
        refine ⟨_, rfl, ?_⟩
        rw [Int32.toInt_mul, show a.toInt = 0 by omega, Int.zero_mul]
        rfl
      | false =>
        rw [e3] at hv
        cases hv
        exact sx_mc_ok (by omega) b1 b2
  | false =>
    rw [e1] at hv
    cases e2 : sx_eq q.1 q.2 with
    | true =>
      have f2 := sx_eq_iff.mp e2
      rw [e2] at hv
      cases e3 : sx_eq q.1 0 with
      | true =>
        have f3 := sx_eq_iff.mp e3
        rw [e3] at hv
        cases hv
        refine ⟨_, rfl, ?_⟩
        rw [Int32.toInt_mul, show b.toInt = 0 by omega, Int.mul_zero]
        rfl
      | false =>
        rw [e3] at hv
        cases hv
        rw [Int32.mul_comm a b]
        exact sx_mc_ok (by omega) a1 a2
    | false =>
      rw [e2] at hv
      cases hv
      exact sx_g_top _
theorem sx_jm_of {n : Int64} {c : Int} (h : n.toInt = c) : sx_jm ρ c n := by
  unfold sx_jm
  have h1 : n.toInt < 9223372036854775808 := Int64.toInt_lt n
  have h2 : sx_jt = 100000000000000000000 := rfl
  rw [if_neg (by omega)]
  exact h
theorem sx_jm_k {n : Int64} {t : Option Int} {a : Int} (g : ∀ c, t = some c → sx_jm ρ c n) (h : sx_jk t = some a) : n.toInt = a := by
  unfold sx_jk at h
  split at h
  · rename_i c
    cases hc : sx_eq c sx_jt with
    | true =>
      rw [hc] at h
      cases h
    | false =>
      rw [hc] at h
      simp only [cond_false, Option.some.injEq] at h
      have g1 := g c rfl
      unfold sx_jm at g1
      rw [if_neg (fun q => by
        rw [sx_eq_iff.mpr q] at hc
        cases hc)] at g1
      rw [g1, h]
  · cases h
theorem sx_of64 {n : Int64} {c : Int} (h : n.toInt = c) : n = Int64.ofInt c := by rw [← h, Int64.ofInt_toInt]
theorem sx_opj_ok {f : Int64 → Int64 → Int64} {x y v : sx_V} {x' y' : Value} (hv : sx_opj f x y = some v) (hx : sx_g ρ x x') (hy : sx_g ρ y y') : ∃ a b : Int64, x' = .long a ∧ y' = .long b ∧ sx_g ρ v (.long (f a b)) := by
  unfold sx_opj at hv
  split at hv
  · rename_i s t
    obtain ⟨a', ea, ha⟩ := hx
    obtain ⟨b', eb, hb⟩ := hy
    split at hv
    · rename_i a b h1 h2
      cases hv
      refine ⟨a', b', ea, eb, _, rfl, fun c h => ?_⟩
      cases h
      refine sx_jm_of ?_
      rw [sx_of64 (sx_jm_k ha h1), sx_of64 (sx_jm_k hb h2)]
    · cases hv
      exact ⟨a', b', ea, eb, _, rfl, fun c h => by cases h⟩
  · cases hv
theorem sx_cmp_ok {x y v : sx_V} {x' y' : Value} (hv : sx_cmp x y = some v) (hx : sx_g ρ x x') (hy : sx_g ρ y y') : ∃ a b : Int64, x' = .long a ∧ y' = .long b ∧ sx_g ρ v (.int (lg_cmp a b)) := by
  unfold sx_cmp at hv
  split at hv
  · rename_i s t
    obtain ⟨a', ea, ha⟩ := hx
    obtain ⟨b', eb, hb⟩ := hy
    split at hv
    · rename_i a b h1 h2
      cases hv
      refine ⟨a', b', ea, eb, _, rfl, ?_⟩
      rw [sx_of64 (sx_jm_k ha h1), sx_of64 (sx_jm_k hb h2)]
    · cases hv
      refine ⟨a', b', ea, eb, _, rfl, ?_, ?_, fun _ _ h => by cases h⟩
      · unfold lg_cmp
        split
        · decide
        · split <;> decide
      · unfold lg_cmp
        split
        · decide
        · split <;> decide
  · cases hv
theorem sx_i2l_ok {x v : sx_V} {x' : Value} (hB : sx_gB ρ B) (hv : sx_i2l B x = some v) (hx : sx_g ρ x x') : ∃ a : Int32, x' = .int a ∧ sx_g ρ v (.long a.toInt64) := by
  unfold sx_i2l at hv
  split at hv
  · rename_i a ha
    obtain ⟨a', ea, ha⟩ := sx_g_con hB hx ha
    cases hv
    refine ⟨a', ea, _, rfl, fun c h => ?_⟩
    cases h
    refine sx_jm_of ?_
    rw [Int32.toInt_toInt64, ha]
  · split at hv
    · rename_i p hp
      obtain ⟨a', ea, -⟩ := sx_g_int hB hx hp
      cases hv
      exact ⟨a', ea, _, rfl, fun c h => by cases h⟩
    · cases hv
theorem sx_l2i_ok {x v : sx_V} {x' : Value} (hv : sx_l2i x = some v) (hx : sx_g ρ x x') : ∃ a : Int64, x' = .long a ∧ sx_g ρ v (.int a.toInt32) := by
  unfold sx_l2i at hv
  split at hv
  · rename_i s
    obtain ⟨a', ea, ha⟩ := hx
    split at hv
    · rename_i a h1
      cases hv
      exact ⟨a', ea, _, rfl, by rw [sx_of64 (sx_jm_k ha h1)]⟩
    · cases hv
      exact ⟨a', ea, sx_g_top _⟩
  · cases hv
/-! comparisons -/
def sx_holds (c : ClassFile.Cond) (a b : Int) : Prop := match c with
  | .eq => a = b
  | .ne => ¬ a = b
  | .lt => a < b
  | .ge => b ≤ a
  | .gt => b < a
  | .le => a ≤ b
theorem sx_lt_ok {p q : Int × Int} {a b : Int} {r : Bool} (h : sx_lt p q = some r) (a1 : p.1 ≤ a) (a2 : a ≤ p.2) (b1 : q.1 ≤ b) (b2 : b ≤ q.2) : (r = true ↔ a < b) := by
  unfold sx_lt at h
  cases h1 : sx_le q.1 p.2 with
  | false =>
    rw [h1] at h
    cases h
    have := sx_le_neg h1
    simp only [true_iff]
    omega
  | true =>
    rw [h1] at h
    cases h2 : sx_le q.2 p.1 with
    | false => rw [h2] at h; cases h
    | true =>
      rw [h2] at h
      cases h
      have := sx_le_iff.mp h2
      simp only [Bool.false_eq_true, false_iff]
      omega
theorem sx_ev_ok {p q : Int × Int} {a b : Int} {r : Bool} (h : sx_ev p q = some r) (a1 : p.1 ≤ a) (a2 : a ≤ p.2) (b1 : q.1 ≤ b) (b2 : b ≤ q.2) : (r = true ↔ a = b) := by
  unfold sx_ev at h
  cases h1 : (sx_le q.1 p.2 && sx_le p.1 q.2) with
  | false =>
    rw [h1] at h
    cases h
    rw [Bool.and_eq_false_iff] at h1
    simp only [Bool.false_eq_true, false_iff]
    rcases h1 with h1 | h1
    · have := sx_le_neg h1; omega
    · have := sx_le_neg h1; omega
  | true =>
    rw [h1] at h
    cases h2 : (sx_eq p.1 p.2 && (sx_eq q.1 q.2 && sx_eq p.1 q.1)) with
    | false => rw [h2] at h; cases h
    | true =>
      rw [h2] at h
      cases h
      simp only [Bool.and_eq_true, sx_eq_iff] at h2
      simp only [true_iff]
      omega
theorem sx_map_not {o : Option Bool} {r : Bool} (h : o.map not = some r) : o = some (!r) := by
  cases o with
  | none => cases h
  | some b => cases h; simp
theorem sx_dec_ok {c : ClassFile.Cond} {p q : Int × Int} {a b : Int} {r : Bool} (h : sx_dec c p q = some r) (a1 : p.1 ≤ a) (a2 : a ≤ p.2) (b1 : q.1 ≤ b) (b2 : b ≤ q.2) : (r = true ↔ sx_holds c a b) := by
  unfold sx_dec at h
  unfold sx_holds
  cases c with
  | eq => exact sx_ev_ok h a1 a2 b1 b2
  | ne =>
    have := sx_ev_ok (sx_map_not h) a1 a2 b1 b2
    cases r <;> simp_all
  | lt => exact sx_lt_ok h a1 a2 b1 b2
  | ge =>
    have := sx_lt_ok (sx_map_not h) a1 a2 b1 b2
    cases r <;> simp_all <;> omega
  | gt => exact sx_lt_ok h b1 b2 a1 a2
  | le =>
    have := sx_lt_ok (sx_map_not h) b1 b2 a1 a2
    cases r <;> simp_all <;> omega
theorem sx_holds_neg {c : ClassFile.Cond} {a b : Int} (h : ¬ sx_holds c a b) : sx_holds (sx_neg c) a b := by
  cases c <;> simp only [sx_holds, sx_neg] at * <;> omega
theorem sx_holds_flip {c : ClassFile.Cond} {a b : Int} (h : sx_holds c a b) : sx_holds (sx_flip c) b a := by
  cases c <;> simp only [sx_holds, sx_flip] at * <;> omega
theorem sx_box_ok {k : Nat} {lo hi : Int} {p : Int × Int} (hB : sx_gB ρ B) (hk : B[k]? = some p) (h1 : lo ≤ (ρ k).toInt) (h2 : (ρ k).toInt ≤ hi) : ∃ b ∈ sx_box k lo hi B, sx_gB ρ b := by
  unfold sx_box
  rw [show sx_le lo hi = true from sx_le_iff.mpr (by omega)]
  refine ⟨_, List.mem_singleton.mpr rfl, fun j q hj => ?_⟩
  by_cases e : j = k
  · subst e
    rw [List.getElem?_set_self (List.getElem?_eq_some_iff.mp hk).1] at hj
    cases hj
    exact ⟨h1, h2⟩
  · rw [List.getElem?_set_ne (Ne.symm e)] at hj
    exact hB j q hj
theorem sx_ref_ok {c : ClassFile.Cond} {k : Nat} {cc b : Int} {q : Int × Int} (hB : sx_gB ρ B) (b1 : q.1 ≤ b) (b2 : b ≤ q.2) (h : sx_holds c ((ρ k).toInt + cc) b) : ∃ B' ∈ sx_ref c k cc q B, sx_gB ρ B' := by
  unfold sx_ref
  cases hk : B[k]? with
  | none => exact ⟨B, List.mem_singleton.mpr rfl, hB⟩
  | some p =>
    obtain ⟨p1, p2⟩ := hB k p hk
    have s1 : Int.sub (Int.sub q.2 1) cc = q.2 - 1 - cc := rfl
    have s2 : Int.sub q.2 cc = q.2 - cc := rfl
    have s3 : Int.sub (Int.add q.1 1) cc = q.1 + 1 - cc := rfl
    have s4 : Int.sub q.1 cc = q.1 - cc := rfl
    cases c with
    | lt => exact sx_box_ok hB hk p1 (sx_mn_le p2 (by simp only [sx_holds] at h; omega))
    | le => exact sx_box_ok hB hk p1 (sx_mn_le p2 (by simp only [sx_holds] at h; omega))
    | gt => exact sx_box_ok hB hk (sx_mx_le p1 (by simp only [sx_holds] at h; omega)) p2
    | ge => exact sx_box_ok hB hk (sx_mx_le p1 (by simp only [sx_holds] at h; omega)) p2
    | eq => exact sx_box_ok hB hk (sx_mx_le p1 (by simp only [sx_holds] at h; omega)) (sx_mn_le p2 (by simp only [sx_holds] at h; omega))
    | ne =>
      simp only [sx_holds] at h
      show ∃ B' ∈ (bif sx_eq q.1 q.2 then _ else _), _
      cases he : sx_eq q.1 q.2 with
      | false => exact ⟨B, List.mem_singleton.mpr rfl, hB⟩
      | true =>
        have e := sx_eq_iff.mp he
        simp only [cond_true]
        by_cases hl : (ρ k).toInt + cc < b
        · obtain ⟨b', m, g⟩ := sx_box_ok (lo := p.1) (hi := sx_mn p.2 (Int.sub (Int.sub q.2 1) cc)) hB hk p1 (sx_mn_le p2 (by omega))
          exact ⟨b', List.mem_append_left _ m, g⟩
        · obtain ⟨b', m, g⟩ := sx_box_ok (lo := sx_mx p.1 (Int.sub (Int.add q.1 1) cc)) (hi := p.2) hB hk (sx_mx_le p1 (by omega)) p2
          exact ⟨b', List.mem_append_right _ m, g⟩
theorem sx_tag_ok {v : sx_V} {w : Value} {k : Nat} {c : Int} (hg : sx_g ρ v w) (h : sx_tag v = some (k, c)) : ∃ n : Int32, w = .int n ∧ n.toInt = (ρ k).toInt + c := by
  match v, hg, h with
  | .inr (.inl (_, _, some (k', c'))), hg, h =>
    cases h
    obtain ⟨n, e, -, -, h3⟩ := hg
    exact ⟨n, e, h3 _ _ rfl⟩
theorem sx_br_ok {c : ClassFile.Cond} {x y : sx_V} {x' y' : Value} {bs : List (Bool × sx_B)} (hB : sx_gB ρ B) (h : sx_br c x y B = some bs) (hx : sx_g ρ x x') (hy : sx_g ρ y y') :
    ∃ a b : Int32, x' = .int a ∧ y' = .int b ∧ ∃ q ∈ bs, sx_gB ρ q.2 ∧ (q.1 = true ↔ sx_holds c a.toInt b.toInt) := by
  unfold sx_br at h
  split at h
  case h_2 => cases h
  rename_i p q hp hq
  obtain ⟨a, ea, a1, a2⟩ := sx_g_int hB hx hp
  obtain ⟨b, eb, b1, b2⟩ := sx_g_int hB hy hq
  refine ⟨a, b, ea, eb, ?_⟩
  have pick : ∀ {L R : List sx_B}, (sx_holds c a.toInt b.toInt → ∃ B' ∈ L, sx_gB ρ B') → (¬ sx_holds c a.toInt b.toInt → ∃ B' ∈ R, sx_gB ρ B') → ∃ z ∈ L.map (fun b => (true, b)) ++ R.map (fun b => (false, b)), sx_gB ρ z.2 ∧ (z.1 = true ↔ sx_holds c a.toInt b.toInt) := by
    intro L R hL hR
    by_cases hh : sx_holds c a.toInt b.toInt
    · obtain ⟨b', m, g⟩ := hL hh
      exact ⟨(true, b'), List.mem_append_left _ (List.mem_map.mpr ⟨b', m, rfl⟩), g, by simp [hh]⟩
    · obtain ⟨b', m, g⟩ := hR hh
      exact ⟨(false, b'), List.mem_append_right _ (List.mem_map.mpr ⟨b', m, rfl⟩), g, by simp [hh]⟩
  split at h
  · rename_i r hr
    cases h
    exact ⟨_, List.mem_singleton.mpr rfl, hB, sx_dec_ok hr a1 a2 b1 b2⟩
  · split at h
    · rename_i k cc ht
      cases h
      obtain ⟨a', ea', ha⟩ := sx_tag_ok hx ht
      rw [ea] at ea'
      cases ea'
      exact pick (fun hh => sx_ref_ok hB b1 b2 (by rw [← ha]; exact hh)) (fun hh => sx_ref_ok hB b1 b2 (by rw [← ha]; exact sx_holds_neg hh))
    · split at h
      · rename_i k cc ht
        cases h
        obtain ⟨b', eb', hb⟩ := sx_tag_ok hy ht
        rw [eb] at eb'
        cases eb'
        exact pick (fun hh => sx_ref_ok hB a1 a2 (by rw [← hb]; exact sx_holds_flip hh)) (fun hh => sx_ref_ok hB a1 a2 (by rw [← hb]; exact sx_holds_flip (sx_holds_neg hh)))
      · cases h
        by_cases hh : sx_holds c a.toInt b.toInt
        · exact ⟨(true, B), List.mem_cons_self, hB, by simp [hh]⟩
        · exact ⟨(false, B), List.mem_cons_of_mem _ List.mem_cons_self, hB, by simp [hh]⟩
end SX2
