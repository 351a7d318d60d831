/-! the tellings of class and reference, place by place, with what landOn and kinOn want besides (behind 76u.eff, 76v.tr) -/
def tr_A (fK gK fO gO gW fA gA fF gF fN gN : Int → Option Int) : Prop := tr_P fK gK fO gO gW fA gA fF gF fN gN ∧ (∀ k e, gF k = some e → 0 ≤ e) ∧ (∀ k a b, gK k = some 2 → gO k = some a → gW k = some b → 0 ≤ a ∧ a < 120 ∧ 0 ≤ b ∧ b < 120) ∧ (∀ k v, gK k = some v → (∃ a, gO k = some a) ∧ ∃ b, gW k = some b)
theorem ta_0 {fK gK fO gO gW fA gA fF gF fN gN : Int → Option Int} (e1 : fK = gK) (e2 : fO = gO) (e3 : fA = gA) (e4 : fF = gF) (e5 : fN = gN) (e6 : gK = gO) (e7 : gK = gW) (zK : ∀ k v, gK k = some v → v = 0) (zF : ∀ k v, gF k = some v → v = 0) : tr_A fK gK fO gO gW fA gA fF gF fN gN := by
  refine ⟨⟨e1, e3, e5, fun k _ => ⟨by rw [e2], by rw [e4]⟩, fun k a b h _ _ => ?_⟩, fun k e h => ?_, fun k a b h _ _ => ?_, fun k v h => ⟨⟨v, by rw [← e6]; exact h⟩, ⟨v, by rw [← e7]; exact h⟩⟩⟩
  · have := zK k 2 h
    omega
  · have := zF k e h
    omega
  · have := zK k 2 h
    omega
theorem ta_one {fK gK fO gO gW fA gA fF gF fN gN : Int → Option Int} (T : tr_A fK gK fO gO gW fA gA fF gF fN gN) (v : Int) {a b o d e g : Int} (ha : a ≠ 2) (he : 0 ≤ e) : tr_A (hp_upd fK v a) (hp_upd gK v a) (hp_upd fO v b) (hp_upd gO v b) (hp_upd gW v o) (hp_upd fA v d) (hp_upd gA v d) (hp_upd fF v e) (hp_upd gF v e) (hp_upd fN v g) (hp_upd gN v g) := by
  obtain ⟨t1, t2, t3, t4⟩ := T
  refine ⟨tr_one t1 v ha, fun k x hx => ?_, fun k x y hk hx hy => ?_, fun k x hk => ?_⟩
  · by_cases q : k = v
    · subst q
      rw [hp_upd_at] at hx
      cases hx
      exact he
    · rw [hp_upd_ne _ q] at hx
      exact t2 k x hx
  · by_cases q : k = v
    · subst q
      rw [hp_upd_at] at hk
      cases hk
      exact absurd rfl ha
    · rw [hp_upd_ne _ q] at hk hx hy
      exact t3 k x y hk hx hy
  · by_cases q : k = v
    · subst q
      exact ⟨⟨_, hp_upd_at _ _ _⟩, ⟨_, hp_upd_at _ _ _⟩⟩
    · rw [hp_upd_ne _ q] at hk
      rw [hp_upd_ne _ q, hp_upd_ne _ q]
      exact t4 k x hk
theorem ta_two {fK gK fO gO gW fA gA fF gF fN gN : Int → Option Int} (T : tr_A fK gK fO gO gW fA gA fF gF fN gN) (v : Int) {p q d e e' g : Int} (he : 0 ≤ e') (p0 : 0 ≤ p) (p1 : p < 120) (q0 : 0 ≤ q) (q1 : q < 120) : tr_A (hp_upd fK v 2) (hp_upd gK v 2) (hp_upd fO v (120 * min p q + max p q)) (hp_upd gO v p) (hp_upd gW v q) (hp_upd fA v d) (hp_upd gA v d) (hp_upd fF v e) (hp_upd gF v e') (hp_upd fN v g) (hp_upd gN v g) := by
  obtain ⟨t1, t2, t3, t4⟩ := T
  refine ⟨tr_two t1 v, fun k x hx => ?_, fun k x y hk hx hy => ?_, fun k x hk => ?_⟩
  · by_cases z : k = v
    · subst z
      rw [hp_upd_at] at hx
      cases hx
      exact he
    · rw [hp_upd_ne _ z] at hx
      exact t2 k x hx
  · by_cases z : k = v
    · subst z
      rw [hp_upd_at] at hx hy
      cases hx
      cases hy
      exact ⟨p0, p1, q0, q1⟩
    · rw [hp_upd_ne _ z] at hk hx hy
      exact t3 k x y hk hx hy
  · by_cases z : k = v
    · subst z
      exact ⟨⟨_, hp_upd_at _ _ _⟩, ⟨_, hp_upd_at _ _ _⟩⟩
    · rw [hp_upd_ne _ z] at hk
      rw [hp_upd_ne _ z, hp_upd_ne _ z]
      exact t4 k x hk
/-- the tellings of two heaps: of the class in the one, of the reference in the other -/
def tr_H (cst : am_K) (h1 h2 : am_H) : Prop := tr_A (ly_hv cst h1 2304) (ly_hv cst h2 21248) (ly_hv cst h1 2560) (ly_hv cst h2 21504) (ly_hv cst h2 21760) (ly_hv cst h1 2816) (ly_hv cst h2 22016) (ly_hv cst h1 3072) (ly_hv cst h2 22272) (ly_hv cst h1 3328) (ly_hv cst h2 22528)
theorem te_no {ok : Prop} {v : Int} (q : ¬ (ok ∧ v ≠ 300)) : ¬ ok ∨ v = 300 := by
  by_cases o : ok
  · by_cases e : v = 300
    · exact Or.inr e
    · exact absurd ⟨o, e⟩ q
  · exact Or.inl o
theorem ta_step1 {cst : am_K} {h1 r1 h2 r2 : am_H} {ok : Prop} {v a b o d e g : Int} (ha : a ≠ 2) (he : ok → 0 ≤ e) (v0 : 0 ≤ v) (v1 : v ≤ 300) (T : tr_H cst h1 h2) (C : te_C cst h1 r1 ok v a b d e g) (M : te_M cst h2 r2 ok v a b o d e g) : ∃ w, 0 ≤ w ∧ w ≤ 300 ∧ ly_hv cst r1 1537 0 = some w ∧ ly_hv cst r2 19982 0 = some w ∧ tr_H cst r1 r2 := by
  unfold tr_H at T ⊢
  by_cases q : ok ∧ v ≠ 300
  · obtain ⟨c1, x1, x2, x3, x4, x5⟩ := C.2 q.1 q.2
    obtain ⟨m1, y1, y2, y3, y4, y5, y6⟩ := M.2 q.1 q.2
    have qv := q.2
    refine ⟨v + 1, by omega, by omega, c1, m1, ?_⟩
    rw [x1, x2, x3, x4, x5, y1, y2, y3, y4, y5, y6]
    exact ta_one T v ha (he q.1)
  · obtain ⟨c1, x1, x2, x3, x4, x5⟩ := C.1 (te_no q)
    obtain ⟨m1, y1, y2, y3, y4, y5, y6⟩ := M.1 (te_no q)
    refine ⟨v, v0, v1, c1, m1, ?_⟩
    rw [x1, x2, x3, x4, x5, y1, y2, y3, y4, y5, y6]
    exact T
theorem ta_step2 {cst : am_K} {h1 r1 h2 r2 : am_H} {ok : Prop} {v p q d e e' g : Int} (he : 0 ≤ e') (hk : ok → 0 ≤ p ∧ p < 120 ∧ 0 ≤ q ∧ q < 120) (v0 : 0 ≤ v) (v1 : v ≤ 300) (T : tr_H cst h1 h2) (C : te_C cst h1 r1 ok v 2 (120 * min p q + max p q) d e g) (M : te_M cst h2 r2 ok v 2 p q d e' g) : ∃ w, 0 ≤ w ∧ w ≤ 300 ∧ ly_hv cst r1 1537 0 = some w ∧ ly_hv cst r2 19982 0 = some w ∧ tr_H cst r1 r2 := by
  unfold tr_H at T ⊢
  by_cases z : ok ∧ v ≠ 300
  · obtain ⟨c1, x1, x2, x3, x4, x5⟩ := C.2 z.1 z.2
    obtain ⟨m1, y1, y2, y3, y4, y5, y6⟩ := M.2 z.1 z.2
    obtain ⟨b1, b2, b3, b4⟩ := hk z.1
    have qv := z.2
    refine ⟨v + 1, by omega, by omega, c1, m1, ?_⟩
    rw [x1, x2, x3, x4, x5, y1, y2, y3, y4, y5, y6]
    exact ta_two T v he b1 b2 b3 b4
  · obtain ⟨c1, x1, x2, x3, x4, x5⟩ := C.1 (te_no z)
    obtain ⟨m1, y1, y2, y3, y4, y5, y6⟩ := M.1 (te_no z)
    refine ⟨v, v0, v1, c1, m1, ?_⟩
    rw [x1, x2, x3, x4, x5, y1, y2, y3, y4, y5, y6]
    exact T
/-- rows that stand -/
theorem ta_mv {cst : am_K} {mc mm : List Nat} {h1 r1 h2 r2 : am_H} (T : tr_H cst h1 h2) (u1 : ly_hy m_tt ly_TH h1) (u2 : ly_hy m_tt ly_TH r1) (w1 : ly_hy m_tt ly_TH h2) (w2 : ly_hy m_tt ly_TH r2) (fc : ly_fr cst mc h1 r1) (fm : ly_fr cst mm h2 r2) (hc : [2304, 2560, 2816, 3072, 3328].all (fun q => !ly_has q mc) = true) (hm : [21248, 21504, 21760, 22016, 22272, 22528].all (fun q => !ly_has q mm) = true) : tr_H cst r1 r2 := by
  simp only [List.all_cons, List.all_nil, Bool.and_true, Bool.and_eq_true, Bool.not_eq_true'] at hc hm
  obtain ⟨c1, c2, c3, c4, c5⟩ := hc
  obtain ⟨m1, m2, m3, m4, m5, m6⟩ := hm
  unfold tr_H at T ⊢
  rw [hp_same (show ly_ths ly_TH 9 = some (.inl (.int, 300, -2147483648, 2147483647)) from rfl) c1 u1 u2 fc, hp_same (show ly_ths ly_TH 10 = some (.inl (.int, 300, -2147483648, 2147483647)) from rfl) c2 u1 u2 fc, hp_same (show ly_ths ly_TH 11 = some (.inl (.int, 300, -2147483648, 2147483647)) from rfl) c3 u1 u2 fc, hp_same (show ly_ths ly_TH 12 = some (.inl (.int, 300, -2147483648, 2147483647)) from rfl) c4 u1 u2 fc, hp_same (show ly_ths ly_TH 13 = some (.inl (.int, 300, -2147483648, 2147483647)) from rfl) c5 u1 u2 fc,
    hp_same (show ly_ths ly_TH 83 = some (.inl (.int, 300, -2147483648, 2147483647)) from rfl) m1 w1 w2 fm, hp_same (show ly_ths ly_TH 84 = some (.inl (.int, 300, -2147483648, 2147483647)) from rfl) m2 w1 w2 fm, hp_same (show ly_ths ly_TH 85 = some (.inl (.int, 300, -2147483648, 2147483647)) from rfl) m3 w1 w2 fm, hp_same (show ly_ths ly_TH 86 = some (.inl (.int, 300, -2147483648, 2147483647)) from rfl) m4 w1 w2 fm, hp_same (show ly_ths ly_TH 87 = some (.inl (.int, 300, -2147483648, 2147483647)) from rfl) m5 w1 w2 fm, hp_same (show ly_ths ly_TH 88 = some (.inl (.int, 300, -2147483648, 2147483647)) from rfl) m6 w1 w2 fm]
  exact T
