/-! a run has one end -/
def gd_k (I : Instr) (X : am_X) : Nat × Int := match I with
  | .new _ => (1, 0)
  | .newarray _ => (1, 0)
  | .anewarray _ => (1, 0)
  | .ireturn => (2, 0)
  | .lreturn => (2, 0)
  | .areturn => (2, 0)
  | .return_ => (2, 0)
  | .invokestatic _ => (3, X.2.2)
  | .invokevirtual _ => (3, X.2.2)
  | .invokespecial _ => (3, X.2.2)
  | _ => (0, 0)
section GD
variable {cst : am_K} {cl : List vw_C} {tt : List (List FieldType)} {P : List am_M} {strs : List Nat} {X : am_X} {pc : Nat} {l : am_L} {st : List Value} {h : am_H}
theorem gd_s {I : Instr} {F : am_F} : am_s cst cl tt I X pc l st h = some F → gd_k I X = (0, 0) := by
  cases I <;> intro e <;> first | rfl | exact nomatch (show (none : Option am_F) = some F from e)
theorem gd_a {I : Instr} {F : am_F × Nat} : am_a cl tt I X pc l st h = some F → gd_k I X = (1, 0) := by
  cases I <;> intro e <;> first | rfl | exact nomatch (show (none : Option (am_F × Nat)) = some F from e)
theorem gd_r {I : Instr} {ret : Option FieldType} {v : Option Value} : am_r ret I st = some v → gd_k I X = (2, 0) := by
  cases I <;> intro e <;> first | rfl | exact nomatch (show (none : Option (Option Value)) = some v from e)
theorem gd_c {I : Instr} : am_c cl P strs I X st h → gd_k I X = (3, 0) := by
  cases I <;> rintro ⟨-, -, e0, e⟩ <;> first | exact False.elim e | exact congrArg (fun z : Int => ((3, z) : Nat × Int)) e0
theorem gd_o {I : Instr} {s1 : List Value} : am_obj I X st = some s1 → gd_k I X = (3, 1) := by
  cases I <;> intro e <;> first | exact nomatch (show (none : Option (List Value)) = some s1 from e) | skip
  dsimp only [am_obj] at e
  split at e
  · rename_i e1
    exact congrArg (fun z : Int => ((3, z) : Nat × Int)) e1
  · cases e
theorem gd_y {I : Instr} {s1 : List Value × am_H} : am_copy I X st h = some s1 → gd_k I X = (3, 2) := by
  cases I <;> intro e <;> first | exact nomatch (show (none : Option (List Value × am_H)) = some s1 from e) | skip
  dsimp only [am_copy] at e
  split at e
  · rename_i e1
    exact congrArg (fun z : Int => ((3, z) : Nat × Int)) e1
  · cases e
end GD
theorem am_Go_det {cst : am_K} {cl : List vw_C} {tt : List (List FieldType)} {P : List am_M} {strs : List Nat} {call : Nat → List Value → am_H → am_Q → Prop} {M : am_M} (hc : ∀ mi av h r r', call mi av h r → call mi av h r' → r = r') : ∀ (n n' pc : Nat) (l : am_L) (st : List Value) (h : am_H) (r r' : am_Q), am_Go cst cl tt P strs call M n pc l st h r → am_Go cst cl tt P strs call M n' pc l st h r' → r = r'
  | 0, _, _, _, _, _, _, _, hg, _ => hg.elim
  | _ + 1, 0, _, _, _, _, _, _, _, hg => hg.elim
  | n + 1, n' + 1, pc, l, st, h, r, r', hg, hg' => by
    obtain ⟨I, X, hf, c1⟩ := hg
    obtain ⟨I', X', hf', c2⟩ := hg'
    rw [hf] at hf'
    cases hf'
    rcases c1 with ⟨F, a1, a2⟩ | ⟨F, k, q, a1, a2, a3⟩ | ⟨v, a1, a2⟩ | ⟨q1, q2, a1, a2, a3, a4⟩ | ⟨s1, a1, a2⟩ | ⟨s1, g1, a1, a2⟩
    · have K := gd_s a1
      rcases c2 with ⟨F', b1, b2⟩ | ⟨F', k', q', b1, b2, b3⟩ | ⟨v', b1, b2⟩ | ⟨q1', q2', b1, b2, b3, b4⟩ | ⟨s1', b1, b2⟩ | ⟨s1', g1', b1, b2⟩
      · rw [a1] at b1
        cases b1
        exact am_Go_det hc n n' _ _ _ _ _ _ a2 b2
      · exact absurd (K.symm.trans (gd_a b1)) (by decide)
      · exact absurd (K.symm.trans (gd_r b1)) (by decide)
      · exact absurd (K.symm.trans (gd_c b1)) (by decide)
      · exact absurd (K.symm.trans (gd_o b1)) (by decide)
      · exact absurd (K.symm.trans (gd_y b1)) (by decide)
    · have K := gd_a a1
      rcases c2 with ⟨F', b1, b2⟩ | ⟨F', k', q', b1, b2, b3⟩ | ⟨v', b1, b2⟩ | ⟨q1', q2', b1, b2, b3, b4⟩ | ⟨s1', b1, b2⟩ | ⟨s1', g1', b1, b2⟩
      · exact absurd (K.symm.trans (gd_s b1)) (by decide)
      · rw [a1] at b1
        cases b1
        rw [a3, b3, am_Go_det hc n n' _ _ _ _ _ _ a2 b2]
      · exact absurd (K.symm.trans (gd_r b1)) (by decide)
      · exact absurd (K.symm.trans (gd_c b1)) (by decide)
      · exact absurd (K.symm.trans (gd_o b1)) (by decide)
      · exact absurd (K.symm.trans (gd_y b1)) (by decide)
    · have K := gd_r (X := X) a1
      rcases c2 with ⟨F', b1, b2⟩ | ⟨F', k', q', b1, b2, b3⟩ | ⟨v', b1, b2⟩ | ⟨q1', q2', b1, b2, b3, b4⟩ | ⟨s1', b1, b2⟩ | ⟨s1', g1', b1, b2⟩
      · exact absurd (K.symm.trans (gd_s b1)) (by decide)
      · exact absurd (K.symm.trans (gd_a b1)) (by decide)
      · rw [a1] at b1
        cases b1
        rw [a2, b2]
      · exact absurd (K.symm.trans (gd_c b1)) (by decide)
      · exact absurd (K.symm.trans (gd_o b1)) (by decide)
      · exact absurd (K.symm.trans (gd_y b1)) (by decide)
    · have K := gd_c a1
      rcases c2 with ⟨F', b1, b2⟩ | ⟨F', k', q', b1, b2, b3⟩ | ⟨v', b1, b2⟩ | ⟨q1', q2', b1, b2, b3, b4⟩ | ⟨s1', b1, b2⟩ | ⟨s1', g1', b1, b2⟩
      · exact absurd (K.symm.trans (gd_s b1)) (by decide)
      · exact absurd (K.symm.trans (gd_a b1)) (by decide)
      · exact absurd (K.symm.trans (gd_r b1)) (by decide)
      · have e1 := hc _ _ _ _ _ a2 b2
        subst e1
        have e2 := am_Go_det hc n n' _ _ _ _ _ _ a3 b3
        rw [a4, b4, e2]
      · exact absurd (K.symm.trans (gd_o b1)) (by decide)
      · exact absurd (K.symm.trans (gd_y b1)) (by decide)
    · have K := gd_o a1
      rcases c2 with ⟨F', b1, b2⟩ | ⟨F', k', q', b1, b2, b3⟩ | ⟨v', b1, b2⟩ | ⟨q1', q2', b1, b2, b3, b4⟩ | ⟨s1', b1, b2⟩ | ⟨s1', g1', b1, b2⟩
      · exact absurd (K.symm.trans (gd_s b1)) (by decide)
      · exact absurd (K.symm.trans (gd_a b1)) (by decide)
      · exact absurd (K.symm.trans (gd_r b1)) (by decide)
      · exact absurd (K.symm.trans (gd_c b1)) (by decide)
      · rw [a1] at b1
        cases b1
        exact am_Go_det hc n n' _ _ _ _ _ _ a2 b2
      · exact absurd (K.symm.trans (gd_y b1)) (by decide)
    · have K := gd_y a1
      rcases c2 with ⟨F', b1, b2⟩ | ⟨F', k', q', b1, b2, b3⟩ | ⟨v', b1, b2⟩ | ⟨q1', q2', b1, b2, b3, b4⟩ | ⟨s1', b1, b2⟩ | ⟨s1', g1', b1, b2⟩
      · exact absurd (K.symm.trans (gd_s b1)) (by decide)
      · exact absurd (K.symm.trans (gd_a b1)) (by decide)
      · exact absurd (K.symm.trans (gd_r b1)) (by decide)
      · exact absurd (K.symm.trans (gd_c b1)) (by decide)
      · exact absurd (K.symm.trans (gd_o b1)) (by decide)
      · rw [a1] at b1
        cases b1
        exact am_Go_det hc n n' _ _ _ _ _ _ a2 b2
theorem am_Run_det {cst : am_K} {cl : List vw_C} {tt : List (List FieldType)} {P : List am_M} {strs : List Nat} : ∀ (d mi : Nat) (av : List Value) (h : am_H) (r r' : am_Q), am_Run cst cl tt P strs sx_bi d mi av h r → am_Run cst cl tt P strs sx_bi d mi av h r' → r = r'
  | 0, _, _, _, _, _, hr, _ => hr.elim
  | d + 1, mi, av, h, r, r', hr, hr' => by
    rcases hr with ⟨-, hb⟩ | ⟨M, n, h1, h2, h3⟩
    · exact hb.elim
    rcases hr' with ⟨-, hb⟩ | ⟨M', n', h1', h2', h3'⟩
    · exact hb.elim
    rw [h1] at h1'
    cases h1'
    exact am_Go_det (fun mi av h r r' a b => am_Run_det d mi av h r r' a b) n n' _ _ _ _ _ _ h3 h3'
