/-! PRINTED by wip/p2/hp_zr.py: which matters are the crown's, and which of those stand at state 0: even (p23) -/
theorem hp_rowz {cst : am_K} {h : am_H} {c n : Nat} {lo hi i : Int} (hy : ly_hy m_tt ly_TH h) (ht : ly_ths ly_TH c = some (.inl (.boolean, n, lo, hi))) (h0 : 0 ≤ i) (h1 : i < (n : Int)) : ∃ v, ly_hv cst h (256 * c) i = some v ∧ lo ≤ v ∧ v ≤ hi := by
  have hc := ly_ths_lt ht
  obtain ⟨x, hx, cc, rfl, f, rfl, hf⟩ := hy.2.1 _ _ ht
  have := hf i.toNat (by omega)
  refine ⟨_, ?_, this⟩
  rw [ly_hv0 (by omega)]
  have := ly_h0_of1 (cst := cst) (h := h) (k := 0) (i := i) hc (by omega)
  rw [Nat.add_zero] at this
  rw [this, hx]
  simp only [ly_hs]
  rw [if_pos ⟨trivial, h0, by omega⟩]
theorem zr_len {cst : am_K} {h : am_H} {t : Int} (k : ly_hv cst h 60002 0 = some t) : (h.length : Int) = t := by
  rw [ly_hv0 (by decide)] at k
  unfold ly_h0 at k
  rw [if_neg (by decide), if_neg (by decide), if_pos rfl, if_pos rfl] at k
  exact Option.some.inj k
/-- the class's cells of a matter are there -/
theorem zr_c {cst : am_K} {h : am_H} {s : Int} (hy : ly_hy m_tt ly_TH h) (kl : ly_hv cst h 60002 0 = some (177 + 19 * s)) : ∀ j, 0 ≤ j → j < s → ∃ su st, ly_hv cst h 45313 j = some su ∧ ly_hv cst h 45319 j = some st ∧ -2147483648 ≤ su ∧ su ≤ 2147483647 ∧ -2147483648 ≤ st ∧ st ≤ 2147483647 := by
  intro j j0 j1
  have e := zr_len kl
  obtain ⟨m, rfl⟩ : ∃ m : Nat, j = (m : Int) := ⟨j.toNat, by omega⟩
  obtain ⟨su, k1, b0, b1⟩ := hp_fld1 (cst := cst) (m := m) (lo := -2147483648) (hi := 2147483647) hy (by omega) (by decide +kernel)
  obtain ⟨st, k2, c0, c1⟩ := hp_fld7 (cst := cst) (m := m) (lo := -2147483648) (hi := 2147483647) hy (by omega) (by decide +kernel)
  exact ⟨su, st, k1, k2, b0, b1, c0, c1⟩
/-- the reference's cells -/
theorem zr_m {cst : am_K} {h : am_H} {s : Int} (hy : ly_hy m_tt ly_TH h) (s1 : s ≤ 100) : ∀ j, 0 ≤ j → j < s → ∃ su st, ly_hv cst h 28416 j = some su ∧ ly_hv cst h 30464 j = some st ∧ (su = 0 ∨ su = 1) ∧ -2147483648 ≤ st ∧ st ≤ 2147483647 := by
  intro j j0 j1
  obtain ⟨su, k1, b0, b1⟩ := hp_rowz (cst := cst) (i := j) hy (show ly_ths ly_TH 111 = some (.inl (.boolean, 100, 0, 1)) from rfl) j0 (by omega)
  obtain ⟨st, k2, c0, c1⟩ := hp_row (cst := cst) (i := j) hy (show ly_ths ly_TH 119 = some (.inl (.int, 100, -2147483648, 2147483647)) from rfl) j0 (by omega)
  exact ⟨su, st, k1, k2, by omega, c0, c1⟩
def zr_J (cst : am_K) (h1 h2 : am_H) (s : Int) : Prop := ∀ j, 0 ≤ j → j < s → (∃ z, ly_hv cst h1 60090 j = some z ∧ ly_hv cst h2 60091 j = some z) ∧ ∃ p w, ly_hv cst h1 45313 j = some p ∧ ly_hv cst h2 28416 j = some w ∧ (p = -1 ↔ w = 0)
def zr_H (cst : am_K) (h1 h2 : am_H) : Prop := ∃ s, ly_hv cst h1 7170 0 = some s ∧ zr_J cst h1 h2 s
theorem zr_Jmv {cst : am_K} {mc mm : List Nat} {h1 h2 r1 r2 : am_H} {s : Int} (J : zr_J cst h1 h2 s) (fc : ly_fr cst mc h1 r1) (fm : ly_fr cst mm h2 r2) (hc : [60090, 45313].all (fun q => !ly_has q mc) = true) (hm : [60091, 28416].all (fun q => !ly_has q mm) = true) : zr_J cst r1 r2 s := by
  simp only [List.all_cons, List.all_nil, Bool.and_true, Bool.and_eq_true, Bool.not_eq_true'] at hc hm
  intro j j0 j1
  obtain ⟨⟨z, k1, k2⟩, p, w, p1, p2, p3⟩ := J j j0 j1
  exact ⟨⟨z, fc _ _ _ hc.1 k1, fm _ _ _ hm.1 k2⟩, p, w, fc _ _ _ hc.2 p1, fm _ _ _ hm.2 p2, p3⟩
theorem zr_mv {cst : am_K} {mc mm : List Nat} {h1 h2 r1 r2 : am_H} (I : zr_H cst h1 h2) (fc : ly_fr cst mc h1 r1) (fm : ly_fr cst mm h2 r2) (h7 : ly_has 7170 mc = false) (hc : [60090, 45313].all (fun q => !ly_has q mc) = true) (hm : [60091, 28416].all (fun q => !ly_has q mm) = true) : zr_H cst r1 r2 := by
  obtain ⟨s, k1, k2⟩ := I
  exact ⟨s, fc _ _ _ h7 k1, zr_Jmv k2 fc fm hc hm⟩
theorem zr_of {cst : am_K} {h1 h2 : am_H} {s : Int} (I : zr_H cst h1 h2) (k : ly_hv cst h1 7170 0 = some s) : zr_J cst h1 h2 s := by
  obtain ⟨s', k1, k2⟩ := I
  rw [k] at k1
  cases k1
  exact k2
theorem gz_one {cst : am_K} {g rs rp : Nat} {c : Int} (hg : ∀ (h : am_H) (i : Int), ly_hv cst h g i = gz_s (ly_h0 cst h rs) (ly_h0 cst h rp) c i) (h1 : rs < 60010) (h2 : rp < 60010) {h : am_H} {i z : Int} (k : ly_hv cst h g i = some z) : (ly_hv cst h rp i = some c ∧ ly_hv cst h rs i = some 0) ↔ z = 1 := by
  rw [hg] at k
  rw [ly_hv0 h1, ly_hv0 h2]
  unfold gz_s at k
  split at k
  case h_2 => cases k
  rename_i s p e1 e2
  rw [e1, e2]
  have k := Option.some.inj k
  constructor
  · rintro ⟨a, b⟩
    have a := Option.some.inj a
    have b := Option.some.inj b
    rw [if_pos ⟨b, a⟩] at k
    exact k.symm
  · intro hz
    by_cases t : s = 0 ∧ p = c
    · rw [t.1, t.2]
      exact ⟨rfl, rfl⟩
    · rw [if_neg t] at k
      omega
/-- the ghosts of a new matter -/
theorem gz_new {cst : am_K} {g rs rp : Nat} {c : Int} (hg : ∀ (h : am_H) (i : Int), ly_hv cst h g i = gz_s (ly_h0 cst h rs) (ly_h0 cst h rp) c i) (h1 : rs < 60010) (h2 : rp < 60010) {h : am_H} {i p : Int} (k1 : ly_hv cst h rs i = some 0) (k2 : ly_hv cst h rp i = some p) : ly_hv cst h g i = some (if p = c then 1 else 0) := by
  rw [ly_hv0 h1] at k1
  rw [ly_hv0 h2] at k2
  rw [hg]
  unfold gz_s
  rw [k1, k2]
  by_cases e : p = c
  · simp [e]
  · simp [e]
theorem zr_ok {cst : am_K} {h1 h2 : am_H} {s m q : Int} (J : zr_J cst h1 h2 s) : bl_ok m q s (ly_hv cst h1 45313 m) (ly_hv cst h1 45319 m) (-1) ↔ bl_ok m q s (ly_hv cst h2 28416 m) (ly_hv cst h2 30464 m) 0 := by
  constructor
  · rintro ⟨a0, a1, a2, a3, a4, a5⟩
    obtain ⟨⟨z, k1, k2⟩, -⟩ := J m a0 a1
    have hz := (gz_one gz_c (by decide) (by decide) k1).mp ⟨a2, a5⟩
    obtain ⟨b2, b5⟩ := (gz_one gz_m (by decide) (by decide) k2).mpr hz
    exact ⟨a0, a1, b2, a3, a4, b5⟩
  · rintro ⟨a0, a1, a2, a3, a4, a5⟩
    obtain ⟨⟨z, k1, k2⟩, -⟩ := J m a0 a1
    have hz := (gz_one gz_m (by decide) (by decide) k2).mp ⟨a2, a5⟩
    obtain ⟨b2, b5⟩ := (gz_one gz_c (by decide) (by decide) k1).mpr hz
    exact ⟨a0, a1, b2, a3, a4, b5⟩
/-- bill of both leaves it -/
theorem zr_bill {cst : am_K} {h1 h2 q1 q2 : am_H} {s m q : Int} (J : zr_J cst h1 h2 s) (C : bl_E cst h1 q1 60090 (bl_ok m q s (ly_hv cst h1 45313 m) (ly_hv cst h1 45319 m) (-1)) m) (M : bl_E cst h2 q2 60091 (bl_ok m q s (ly_hv cst h2 28416 m) (ly_hv cst h2 30464 m) 0) m) (f1 : ∀ j v, ly_hv cst h1 45313 j = some v → ly_hv cst q1 45313 j = some v) (f2 : ∀ j v, ly_hv cst h2 28416 j = some v → ly_hv cst q2 28416 j = some v) : zr_J cst q1 q2 s := by
  have e := zr_ok (q := q) (m := m) J
  intro j j0 j1
  obtain ⟨⟨z, k1, k2⟩, p, w, p1, p2, p3⟩ := J j j0 j1
  refine ⟨?_, p, w, f1 _ _ p1, f2 _ _ p2, p3⟩
  by_cases ok : bl_ok m q s (ly_hv cst h1 45313 m) (ly_hv cst h1 45319 m) (-1)
  · have c := C.2 ok
    have d := M.2 (e.mp ok)
    by_cases ej : j = m
    · rw [ej] at k1 k2 ⊢
      exact ⟨0, c.1 z k1, d.1 z k2⟩
    · exact ⟨z, c.2 j z ej k1, d.2 j z ej k2⟩
  · exact ⟨z, C.1 ok j z k1, M.1 (fun y => ok (e.mpr y)) j z k2⟩
/-- a matter begun in both or in neither: u the suer of the class, w isPlea of the reference -/
theorem zr_new {cst : am_K} {h1 h2 q1 q2 : am_H} {g g' : Prop} {s u w : Int} (eg : g ↔ g') (J : zr_J cst h1 h2 s) (uw : g → (u = -1 ↔ w = 0))
    (c0 : ∀ r j v, (r = 45313 ∨ r = 60090) → ly_hv cst h1 r j = some v → ly_hv cst q1 r j = some v) (c1 : g → ly_hv cst q1 7170 0 = some (s + 1) ∧ ly_hv cst q1 45319 s = some 0 ∧ ly_hv cst q1 45313 s = some u) (c2 : ¬ g → ly_hv cst q1 7170 0 = some s)
    (m0 : ∀ r j v, (r = 28416 ∨ r = 60091) → j ≠ s → ly_hv cst h2 r j = some v → ly_hv cst q2 r j = some v) (m1 : g' → ly_hv cst q2 30464 s = some 0 ∧ ly_hv cst q2 28416 s = some w) : zr_H cst q1 q2 := by
  have old : ∀ j, 0 ≤ j → j < s → (∃ z, ly_hv cst q1 60090 j = some z ∧ ly_hv cst q2 60091 j = some z) ∧ ∃ p w, ly_hv cst q1 45313 j = some p ∧ ly_hv cst q2 28416 j = some w ∧ (p = -1 ↔ w = 0) := fun j j0 j1 => by
    obtain ⟨⟨z, k1, k2⟩, p, w, p1, p2, p3⟩ := J j j0 j1
    exact ⟨⟨z, c0 _ _ _ (Or.inr rfl) k1, m0 _ _ _ (Or.inr rfl) (by omega) k2⟩, p, w, c0 _ _ _ (Or.inl rfl) p1, m0 _ _ _ (Or.inl rfl) (by omega) p2, p3⟩
  by_cases z : g
  · obtain ⟨e1, e2, e3⟩ := c1 z
    obtain ⟨d1, d2⟩ := m1 (eg.mp z)
    refine ⟨s + 1, e1, fun j j0 j1 => ?_⟩
    by_cases ej : j = s
    · rw [ej]
      refine ⟨⟨_, gz_new gz_c (by decide) (by decide) e2 e3, ?_⟩, u, w, e3, d2, uw z⟩
      rw [gz_new gz_m (by decide) (by decide) d1 d2]
      by_cases t : u = -1
      · rw [if_pos t, if_pos ((uw z).mp t)]
      · rw [if_neg t, if_neg (fun y => t ((uw z).mpr y))]
    · exact old j j0 (by omega)
  · exact ⟨s, c2 z, old⟩
def mt_H (cst : am_K) (h : am_H) : Prop := ∃ s, ly_hv cst h 7170 0 = some s ∧ ly_hv cst h 20024 0 = some s
theorem mt_mv {cst : am_K} {ms : List Nat} {h h' : am_H} (I : mt_H cst h) (f : ly_fr cst ms h h') (q1 : ly_has 7170 ms = false) (q2 : ly_has 20024 ms = false) : mt_H cst h' := by
  obtain ⟨s, k1, k2⟩ := I
  exact ⟨s, f _ _ _ q1 k1, f _ _ _ q2 k2⟩
theorem mt_of {cst : am_K} {h : am_H} {s : Int} (I : mt_H cst h) (k : ly_hv cst h 7170 0 = some s) : ly_hv cst h 20024 0 = some s := by
  obtain ⟨s', k1, k2⟩ := I
  rw [k] at k1
  cases k1
  exact k2
def mo_H (cst : am_K) (h : am_H) : Prop := ∃ s, ly_hv cst h 7170 0 = some s ∧ ∀ j, 0 ≤ j → j < s → ly_hv cst h 7424 j = some 1
theorem mo_mv {cst : am_K} {ms : List Nat} {h h' : am_H} (I : mo_H cst h) (f : ly_fr cst ms h h') (q1 : ly_has 7170 ms = false) (q2 : ly_has 7424 ms = false) : mo_H cst h' := by
  obtain ⟨s, k1, k2⟩ := I
  exact ⟨s, f _ _ _ q1 k1, fun j j0 j1 => f _ _ _ q2 (k2 j j0 j1)⟩
theorem mo_of {cst : am_K} {h : am_H} {s : Int} (I : mo_H cst h) (k : ly_hv cst h 7170 0 = some s) : ∀ j, 0 ≤ j → j < s → ly_hv cst h 7424 j = some 1 := by
  obtain ⟨s', k1, k2⟩ := I
  rw [k] at k1
  cases k1
  exact k2
