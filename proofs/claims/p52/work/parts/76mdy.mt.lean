/-! as many matters in the class as in the reference -/
def mt_H (cst : am_K) (h : am_H) : Prop := ∃ s, ly_hv cst h 7170 0 = some s ∧ ly_hv cst h 20024 0 = some s
theorem mt_mv {cst : am_K} {ms : List Nat} {h h' : am_H} (I : mt_H cst h) (f : ly_fr cst ms h h') (q1 : ly_has 7170 ms = false) (q2 : ly_has 20024 ms = false) : mt_H cst h' := by
  obtain ⟨s, k1, k2⟩ := I
  exact ⟨s, f _ _ _ q1 k1, f _ _ _ q2 k2⟩
theorem mt_of {cst : am_K} {h : am_H} {s : Int} (I : mt_H cst h) (k : ly_hv cst h 7170 0 = some s) : ly_hv cst h 20024 0 = some s := by
  obtain ⟨s', k1, k2⟩ := I
  rw [k] at k1
  cases k1
  exact k2
/-- a matter begun in both or in neither -/
theorem mt_two {cst : am_K} {h1 h2 : am_H} {g g' : Prop} {s : Int} (e : g ↔ g') (s0 : 0 ≤ s) (s1 : s ≤ 100) (g1 : g → s ≠ 100) (C : bg_C cst h1 g s) (M : bg_M cst h2 g' s) : ∃ t2 s2, ly_hv cst h1 60002 0 = some t2 ∧ ly_hv cst h1 7170 0 = some s2 ∧ ly_hv cst h2 20024 0 = some s2 ∧ t2 = 177 + 19 * s2 ∧ 0 ≤ s2 ∧ s2 ≤ 100 := by
  by_cases z : g
  · obtain ⟨c1, c2, -⟩ := C.1 z
    have := g1 z
    exact ⟨196 + 19 * s, s + 1, c2, c1, M.1 (e.mp z), by omega, by omega, by omega⟩
  · obtain ⟨c1, c2⟩ := C.2 z
    exact ⟨177 + 19 * s, s, c2, c1, M.2 (fun x => z (e.mpr x)), rfl, s0, s1⟩
/-- below the number of matters every place of the row has a matter -/
def mo_H (cst : am_K) (h : am_H) : Prop := ∃ s, ly_hv cst h 7170 0 = some s ∧ ∀ j, 0 ≤ j → j < s → ly_hv cst h 7424 j = some 1
theorem mo_mv {cst : am_K} {ms : List Nat} {h h' : am_H} (I : mo_H cst h) (f : ly_fr cst ms h h') (q1 : ly_has 7170 ms = false) (q2 : ly_has 7424 ms = false) : mo_H cst h' := by
  obtain ⟨s, k1, k2⟩ := I
  exact ⟨s, f _ _ _ q1 k1, fun j j0 j1 => f _ _ _ q2 (k2 j j0 j1)⟩
theorem mo_of {cst : am_K} {h : am_H} {s : Int} (I : mo_H cst h) (k : ly_hv cst h 7170 0 = some s) : ∀ j, 0 ≤ j → j < s → ly_hv cst h 7424 j = some 1 := by
  obtain ⟨s', k1, k2⟩ := I
  rw [k] at k1
  cases k1
  exact k2
theorem mo_two {cst : am_K} {h h1 : am_H} {g : Prop} {s : Int} (I : mo_H cst h) (ks : ly_hv cst h 7170 0 = some s) (f : ∀ j v, ly_hv cst h 7424 j = some v → ly_hv cst h1 7424 j = some v) (C : bg_C cst h1 g s) : mo_H cst h1 := by
  have o := mo_of I ks
  by_cases z : g
  · obtain ⟨c1, -, c3, -⟩ := C.1 z
    refine ⟨s + 1, c1, fun j j0 j1 => ?_⟩
    by_cases e : j = s
    · rw [e]; exact c3
    · exact f _ _ (o j j0 (by omega))
  · exact ⟨s, (C.2 z).1, fun j j0 j1 => f _ _ (o j j0 j1)⟩
/-- hours of the matters even -/
def ho_H (cst : am_K) (h1 h2 : am_H) : Prop := ∃ s, ly_hv cst h1 7170 0 = some s ∧ ∀ j, 0 ≤ j → j < s → ∃ v, ly_hv cst h1 45322 j = some v ∧ ly_hv cst h2 32768 j = some v ∧ 1 ≤ v ∧ v ≤ 4
theorem ho_mv {cst : am_K} {mc mm : List Nat} {h1 h2 r1 r2 : am_H} (I : ho_H cst h1 h2) (fc : ly_fr cst mc h1 r1) (fm : ly_fr cst mm h2 r2) (hc : [7170, 45322].all (fun q => !ly_has q mc) = true) (hm : ly_has 32768 mm = false) : ho_H cst r1 r2 := by
  simp only [List.all_cons, List.all_nil, Bool.and_true, Bool.and_eq_true, Bool.not_eq_true'] at hc
  obtain ⟨s, k1, k2⟩ := I
  refine ⟨s, fc _ _ _ hc.1 k1, fun j j0 j1 => ?_⟩
  obtain ⟨v, e1, e2, e3⟩ := k2 j j0 j1
  exact ⟨v, fc _ _ _ hc.2 e1, fm _ _ _ hm e2, e3⟩
theorem ho_of {cst : am_K} {h1 h2 : am_H} {s : Int} (I : ho_H cst h1 h2) (k : ly_hv cst h1 7170 0 = some s) : ∀ j, 0 ≤ j → j < s → ∃ v, ly_hv cst h1 45322 j = some v ∧ ly_hv cst h2 32768 j = some v ∧ 1 ≤ v ∧ v ≤ 4 := by
  obtain ⟨s', k1, k2⟩ := I
  rw [k] at k1
  cases k1
  exact k2
theorem ho_new {cst : am_K} {h q1 h2 q2 : am_H} {g g' : Prop} {s : Int} (e : g ↔ g') (I : ho_H cst h h) (ks : ly_hv cst h 7170 0 = some s) (f1 : ∀ j v, ly_hv cst h 45322 j = some v → ly_hv cst q1 45322 j = some v) (f2 : ∀ j v, ly_hv cst h 32768 j = some v → ly_hv cst h2 32768 j = some v) (C : bg_C cst q1 g s) (M : bg_H cst h2 q2 g' s) : ho_H cst q1 q2 := by
  have o := ho_of I ks
  by_cases z : g
  · obtain ⟨c1, -, -, c4⟩ := C.1 z
    refine ⟨s + 1, c1, fun j j0 j1 => ?_⟩
    by_cases ej : j = s
    · rw [ej]
      exact ⟨1, c4, M.2.1 (e.mp z), by decide, by decide⟩
    · obtain ⟨v, k1, k2, k3⟩ := o j j0 (by omega)
      exact ⟨v, f1 _ _ k1, M.2.2 j v ej (f2 _ _ k2), k3⟩
  · refine ⟨s, (C.2 z).1, fun j j0 j1 => ?_⟩
    obtain ⟨v, k1, k2, k3⟩ := o j j0 j1
    exact ⟨v, f1 _ _ k1, M.2.2 j v (by omega) (f2 _ _ k2), k3⟩
