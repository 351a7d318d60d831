/-! the fault of both (p14) -/
theorem fl_ld {cst : am_K} {h : am_H} {c ci k : Nat} {fs : List (List ly_F)} {lo hi : Int} (hy : ly_hy m_tt ly_TH h) (ht : ly_ths ly_TH c = some (.inr (ci, fs))) (hf : sx_ch 8 k fs = some (.inl (lo, hi))) (hk : k < 256) : ∃ v, ly_hv cst h (256 * c + k) 0 = some v ∧ lo ≤ v ∧ v ≤ hi := by
  have hc := ly_ths_lt ht
  obtain ⟨x, hx, vs, rfl, -, hvs⟩ := hy.2.1 _ _ ht
  obtain ⟨w, hw, n, rfl, n0, n1⟩ := hvs _ _ hf
  refine ⟨n.toInt, ?_, n0, n1⟩
  rw [ly_hv0 (by omega), ly_h0_of1 hc hk, hx]
  simp only [ly_hs]
  rw [if_pos trivial, hw]
theorem fl_b0 {cst : am_K} {h : am_H} {u : Int} (hy : ly_hy m_tt ly_TH h) (k : ly_hv cst h 6144 0 = some u) : -2147483648 ≤ u ∧ u ≤ 2147483647 := by
  have ht : ∃ fs, ly_ths ly_TH 24 = some (.inr (4, fs)) ∧ sx_ch 8 0 fs = some (.inl (-2147483648, 2147483647)) := ⟨_, rfl, rfl⟩
  obtain ⟨fs, h1, h2⟩ := ht
  obtain ⟨v, kv, v0, v1⟩ := fl_ld (cst := cst) hy h1 h2 (by decide)
  have kv : ly_hv cst h 6144 0 = some v := kv
  rw [k] at kv
  cases kv
  exact ⟨v0, v1⟩
theorem fl_b1 {cst : am_K} {h : am_H} {u : Int} (hy : ly_hy m_tt ly_TH h) (k : ly_hv cst h 6145 0 = some u) : -2147483648 ≤ u ∧ u ≤ 2147483647 := by
  have ht : ∃ fs, ly_ths ly_TH 24 = some (.inr (4, fs)) ∧ sx_ch 8 1 fs = some (.inl (-2147483648, 2147483647)) := ⟨_, rfl, rfl⟩
  obtain ⟨fs, h1, h2⟩ := ht
  obtain ⟨v, kv, v0, v1⟩ := fl_ld (cst := cst) hy h1 h2 (by decide)
  have kv : ly_hv cst h 6145 0 = some v := kv
  rw [k] at kv
  cases kv
  exact ⟨v0, v1⟩
/-- the fault behind an act, in both -/
theorem LW_flt {cst : am_K} {h1 h2 q1 q2 : am_H} {X : List rX} {i0 : List Int} {c0 : List cl} {pl : Int → Int} {t : Nat} {n d s e a b v1 v2 : Int} {res : (Int × Nat) ⊕ List cl} (A : ac_P cst h1 q1 (X.length : Int) i0 c0 pl t n res d s e a) (B : ra_P cst h2 q2 X pl t n res d s e b) (k1 : ly_hv cst h1 6144 0 = some v1) (m1 : ly_hv cst h2 19990 0 = some v1) (k2 : ly_hv cst h1 6145 0 = some v2) (m2 : ly_hv cst h2 19991 0 = some v2) : ∃ w1 w2, ly_hv cst q1 6144 0 = some w1 ∧ ly_hv cst q2 19990 0 = some w1 ∧ ly_hv cst q1 6145 0 = some w2 ∧ ly_hv cst q2 19991 0 = some w2 := by
  by_cases ok : ac_ok (X.length : Int) d s e
  rotate_left
  · obtain ⟨-, -, -, a4, a5⟩ := A.1 ok
    obtain ⟨-, -, b4, b5⟩ := B.1 ok
    exact ⟨v1, v2, a4 _ k1, b4 _ m1, a5 _ k2, b5 _ m2⟩
  have A2 := A.2 ok
  have B2 := B.2 ok
  cases hr : res with
  | inl q =>
    obtain ⟨k, c⟩ := q
    obtain ⟨-, -, -, a4, a5⟩ := A2.1 k c hr
    obtain ⟨-, -, b4, b5⟩ := B2.1 k c hr
    exact ⟨_, _, a4, b4, a5, b5⟩
  | inr C =>
    obtain ⟨a4, a5, -⟩ := A2.2 C hr
    obtain ⟨b4, b5, -⟩ := B2.2 C hr
    exact ⟨_, _, a4, b4, a5, b5⟩
