/-! the tellings of class and reference, place by place (behind 76s.tell and 76t.dead; NOT YET TRIED) -/
def tr_P (fK gK fO gO gW fA gA fF gF fN gN : Int → Option Int) : Prop := fK = gK ∧ fA = gA ∧ fN = gN ∧ (∀ k, gK k ≠ some 2 → fO k = gO k ∧ fF k = gF k) ∧ (∀ k a b, gK k = some 2 → gO k = some a → gW k = some b → fO k = some (120 * min a b + max a b))
theorem hp_upd_at (f : Int → Option Int) (k v : Int) : hp_upd f k v k = some v := if_pos rfl
theorem hp_upd_ne (f : Int → Option Int) {k v i : Int} (h : i ≠ k) : hp_upd f k v i = f i := if_neg h
theorem tr_one {fK gK fO gO gW fA gA fF gF fN gN : Int → Option Int} (T : tr_P fK gK fO gO gW fA gA fF gF fN gN) (v : Int) {a b o d e g : Int} (ha : a ≠ 2) : tr_P (hp_upd fK v a) (hp_upd gK v a) (hp_upd fO v b) (hp_upd gO v b) (hp_upd gW v o) (hp_upd fA v d) (hp_upd gA v d) (hp_upd fF v e) (hp_upd gF v e) (hp_upd fN v g) (hp_upd gN v g) := by
  obtain ⟨t1, t2, t3, t4, t5⟩ := T
  subst t1
  subst t2
  subst t3
  refine ⟨rfl, rfl, rfl, fun k hk => ?_, fun k x y hk hx hy => ?_⟩
  · by_cases q : k = v
    · subst q
      rw [hp_upd_at, hp_upd_at, hp_upd_at, hp_upd_at]
      exact ⟨rfl, rfl⟩
    · rw [hp_upd_ne _ q] at hk
      rw [hp_upd_ne _ q, hp_upd_ne _ q, hp_upd_ne _ q, hp_upd_ne _ q]
      exact t4 k hk
  · by_cases q : k = v
    · subst q
      rw [hp_upd_at] at hk
      cases hk
      exact absurd rfl ha
    · rw [hp_upd_ne _ q] at hk hx hy
      rw [hp_upd_ne _ q]
      exact t5 k x y hk hx hy
theorem tr_two {fK gK fO gO gW fA gA fF gF fN gN : Int → Option Int} (T : tr_P fK gK fO gO gW fA gA fF gF fN gN) (v : Int) {p q d e e' g : Int} : tr_P (hp_upd fK v 2) (hp_upd gK v 2) (hp_upd fO v (120 * min p q + max p q)) (hp_upd gO v p) (hp_upd gW v q) (hp_upd fA v d) (hp_upd gA v d) (hp_upd fF v e) (hp_upd gF v e') (hp_upd fN v g) (hp_upd gN v g) := by
  obtain ⟨t1, t2, t3, t4, t5⟩ := T
  subst t1
  subst t2
  subst t3
  refine ⟨rfl, rfl, rfl, fun k hk => ?_, fun k x y hk hx hy => ?_⟩
  · by_cases z : k = v
    · subst z
      rw [hp_upd_at] at hk
      exact absurd rfl hk
    · rw [hp_upd_ne _ z] at hk
      rw [hp_upd_ne _ z, hp_upd_ne _ z, hp_upd_ne _ z, hp_upd_ne _ z]
      exact t4 k hk
  · by_cases z : k = v
    · subst z
      rw [hp_upd_at] at hx hy
      cases hx
      cases hy
      rw [hp_upd_at]
    · rw [hp_upd_ne _ z] at hk hx hy
      rw [hp_upd_ne _ z]
      exact t5 k x y hk hx hy
theorem tr_dd {fK gK fO gO gW fA gA fF gF fN gN : Int → Option Int} (T : tr_P fK gK fO gO gW fA gA fF gF fN gN) (t p y z : Int) : dd fK fO fN fF t p y z ↔ dd gK gO gN gF t p y z := by
  obtain ⟨t1, t2, t3, t4, t5⟩ := T
  subst t1
  subst t2
  subst t3
  constructor
  · rintro ⟨k, k0, k1, m1, m2, m3, m4⟩
    obtain ⟨e1, e2⟩ := t4 k (by rw [m1]; decide)
    exact ⟨k, k0, k1, m1, by rw [← e1]; exact m2, m3, by rw [← e2]; exact m4⟩
  · rintro ⟨k, k0, k1, m1, m2, m3, m4⟩
    obtain ⟨e1, e2⟩ := t4 k (by rw [m1]; decide)
    exact ⟨k, k0, k1, m1, by rw [e1]; exact m2, m3, by rw [e2]; exact m4⟩
