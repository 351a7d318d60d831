/-! as many matters in the class as in the reference -/
def mt_H (cst : am_K) (h : am_H) : Prop := ∃ s, ly_hv cst h 7170 0 = some s ∧ ly_hv cst h 20024 0 = some s
theorem mt_mv {cst : am_K} {ms : List Nat} {h h' : am_H} (I : mt_H cst h) (f : ly_fr cst ms h h') (q1 : ly_has 7170 ms = false) (q2 : ly_has 20024 ms = false) : mt_H cst h' := by
  obtain ⟨s, k1, k2⟩ := I
  exact ⟨s, f _ _ _ q1 k1, f _ _ _ q2 k2⟩
theorem mt_of {cst : am_K} {h : am_H} {s : Int} (I : mt_H cst h) (k : ly_hv cst h 7170 0 = some s) : ly_hv cst h 20024 0 = some s := by
  obtain ⟨s', k1, k2⟩ := I
  rw [k] at k1
  cases k1
  exact k2
/-- a matter begun in both or in neither -/
theorem mt_two {cst : am_K} {h1 h2 : am_H} {g g' : Prop} {s : Int} (e : g ↔ g') (s0 : 0 ≤ s) (s1 : s ≤ 100) (g1 : g → s ≠ 100) (C : bg_C cst h1 g s) (M : bg_M cst h2 g' s) : ∃ t2 s2, ly_hv cst h1 60002 0 = some t2 ∧ ly_hv cst h1 7170 0 = some s2 ∧ ly_hv cst h2 20024 0 = some s2 ∧ t2 = 177 + 19 * s2 ∧ 0 ≤ s2 ∧ s2 ≤ 100 := by
  by_cases z : g
  · obtain ⟨c1, c2⟩ := C.1 z
    have := g1 z
    exact ⟨196 + 19 * s, s + 1, c2, c1, M.1 (e.mp z), by omega, by omega, by omega⟩
  · obtain ⟨c1, c2⟩ := C.2 z
    exact ⟨177 + 19 * s, s, c2, c1, M.2 (fun x => z (e.mpr x)), rfl, s0, s1⟩
