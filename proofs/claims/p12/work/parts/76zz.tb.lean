/-! landOn and kinOn: what the tellings being even gives (behind 76y, 76z) -/
theorem ta_pos {cst : am_K} {h1 h2 : am_H} (T : tr_H cst h1 h2) (k e : Int) (hk : ly_hv cst h1 2304 k = some 0) (he : ly_hv cst h1 3072 k = some e) : 0 ≤ e := by
  obtain ⟨⟨t1, -, -, t4, -⟩, t5, -, -⟩ := T
  obtain ⟨-, q⟩ := t4 k (by rw [← t1, hk]; decide)
  exact t5 k e (by rw [← q]; exact he)
theorem ta_ld {cst : am_K} {h1 h2 : am_H} (T : tr_H cst h1 h2) {t p y z a a' : Int} (H : ld_a (ly_hv cst h1 2304) (ly_hv cst h1 2560) (ly_hv cst h1 2816) (ly_hv cst h1 3328) (ly_hv cst h1 3072) t p y z a) (H' : ld_a (ly_hv cst h2 21248) (ly_hv cst h2 21504) (ly_hv cst h2 22016) (ly_hv cst h2 22528) (ly_hv cst h2 22272) t p y z a') : a = a' := by
  obtain ⟨⟨t1, t2, t3, t4, -⟩, -, -, -⟩ := T
  refine ld_uni t2 (fun k => ?_) (fun k m => ?_) H H'
  · constructor
    · rintro ⟨m1, m2, m3, m4⟩
      obtain ⟨e1, e2⟩ := t4 k (by rw [← t1, m1]; decide)
      exact ⟨by rw [← t1]; exact m1, by rw [← e1]; exact m2, by rw [← t3]; exact m3, by rw [← e2]; exact m4⟩
    · rintro ⟨m1, m2, m3, m4⟩
      obtain ⟨e1, e2⟩ := t4 k (by rw [m1]; decide)
      exact ⟨by rw [t1]; exact m1, by rw [e1]; exact m2, by rw [t3]; exact m3, by rw [e2]; exact m4⟩
  · exact (t4 k (by rw [← t1, m.1]; decide)).2
theorem ta_kn {cst : am_K} {h1 h2 : am_H} (T : tr_H cst h1 h2) {t p q z a a' : Int} (p0 : 0 ≤ p) (p1 : p < 120) (q0 : 0 ≤ q) (q1 : q < 120) (H : yk_a (ly_hv cst h1 2816) (yk_m (ly_hv cst h1 2304) (ly_hv cst h1 2560) (ly_hv cst h1 3328) (120 * min p q + max p q) z) t a) (H' : yk_a (ly_hv cst h2 22016) (yr_m (ly_hv cst h2 21248) (ly_hv cst h2 21504) (ly_hv cst h2 21760) (ly_hv cst h2 22528) p q z) t a') : a = a' := by
  obtain ⟨⟨t1, t2, t3, -, t5⟩, -, t6, t7⟩ := T
  refine yk_uni t2 (fun k => ?_) H H'
  constructor
  · rintro ⟨m1, m2, m3⟩
    rw [t1] at m1
    rw [t3] at m3
    obtain ⟨⟨x, hx⟩, ⟨y, hy⟩⟩ := t7 k 2 m1
    obtain ⟨b1, b2, b3, b4⟩ := t6 k x y m1 hx hy
    have e := Option.some.inj (m2.symm.trans (t5 k x y m1 hx hy))
    refine ⟨m1, ?_, m3⟩
    have : (x = p ∧ y = q) ∨ (x = q ∧ y = p) := by omega
    rcases this with ⟨rfl, rfl⟩ | ⟨rfl, rfl⟩
    · exact Or.inl ⟨hx, hy⟩
    · exact Or.inr ⟨hx, hy⟩
  · rintro ⟨m1, m2, m3⟩
    rw [← t1]at m1
    rw [← t3] at m3
    refine ⟨m1, ?_, m3⟩
    rw [t1] at m1
    rcases m2 with ⟨hx, hy⟩ | ⟨hx, hy⟩
    · exact t5 k p q m1 hx hy
    · rw [t5 k q p m1 hx hy]
      congr 1
      omega
