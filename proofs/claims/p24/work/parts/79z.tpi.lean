/-! the tapes behind the constructors -/
theorem tp_init {cst : am_K} {h : am_H} (hy : ly_hy m_tt ly_TH h) (hb : ∀ i v, ly_hv cst h (256 * 79) i = some v → v = 0 ∧ 0 ≤ i ∧ i < ((1200 : Nat) : Int)) (hz : ∀ i v, ly_hv cst h (256 * 2) i = some v → v = 0) : tp_H cst h h := by
  intro k x hx
  obtain ⟨x0, i0, i1⟩ := hb k x hx
  obtain ⟨v, hv, -, -⟩ := hp_row (cst := cst) (i := k) hy th_CT i0 (by omega)
  have v0 := hz k v hv
  subst x0
  subst v0
  exact hv
