/-! by hand: which act a clause is of (behind 76zg.lwx; p16 and on) -/
set_option maxRecDepth 8000 in
theorem fX_ts : ∀ (X : List rX) (i : Nat) (hi : i < X.length), (fX (X.take (i + 1))).length = (fX (X.take i)).length + (X[i]).2.2.1.length
  | [], i, hi => absurd hi (Nat.not_lt_zero _)
  | x :: X, 0, hi => by
    show (x.2.2.1 ++ fX (X.take 0)).length = (fX []).length + x.2.2.1.length
    rw [show X.take 0 = [] from rfl, List.length_append]
    show x.2.2.1.length + (fX []).length = (fX []).length + x.2.2.1.length
    omega
  | x :: X, i + 1, hi => by
    show (x.2.2.1 ++ fX (X.take (i + 1))).length = (x.2.2.1 ++ fX (X.take i)).length + (X[i]' (Nat.lt_of_succ_lt_succ hi)).2.2.1.length
    rw [List.length_append, List.length_append, fX_ts X i (Nat.lt_of_succ_lt_succ hi)]
    omega
set_option maxRecDepth 8000 in
theorem fX_at : ∀ (X : List rX) (o : Nat) (ho : o < X.length) (i : Nat) (hi : i < (X[o]).2.2.1.length), (fX X)[(fX (X.take o)).length + i]? = some ((X[o]).2.2.1[i])
  | [], o, ho, _, _ => absurd ho (Nat.not_lt_zero _)
  | x :: X, 0, ho, i, hi => by
    show (x.2.2.1 ++ fX X)[0 + i]? = some (x.2.2.1[i])
    have hi : i < x.2.2.1.length := hi
    rw [Nat.zero_add, List.getElem?_append_left hi, List.getElem?_eq_getElem hi]
  | x :: X, o + 1, ho, i, hi => by
    show (x.2.2.1 ++ fX X)[(x.2.2.1 ++ fX (X.take o)).length + i]? = some ((X[o]' (Nat.lt_of_succ_lt_succ ho)).2.2.1[i])
    rw [List.length_append, Nat.add_assoc, List.getElem?_append_right (Nat.le_add_right _ _), Nat.add_sub_cancel_left]
    exact fX_at X o (Nat.lt_of_succ_lt_succ ho) i hi
/-- the act of a clause -/
theorem ow_at {cst : am_K} {h : am_H} {X : List rX} {i0 : List Int} (I : LC cst h X i0) {j : Nat} (hj : j < (fX X).length) : ∃ (o i : Nat) (ho : o < X.length) (hi : i < (X[o]).2.2.1.length), j = (fX (X.take o)).length + i ∧ ly_hv cst h 5376 (j : Int) = some (o : Int) := by
  obtain ⟨⟨l1, l2, ⟨-, -, -, -, -, -, W_9⟩, -⟩, -, L3_9, -⟩ := I
  obtain ⟨A_9, w1_9, w2_9, w3_9⟩ := W_9
  have eA_9 : (X.length : Int) = (A_9 : Int) := Option.some.inj (l1.symm.trans w1_9)
  have eA_9 : A_9 = X.length := by omega
  subst eA_9
  obtain ⟨o, g_9, y1, y2, y3, y4, y5⟩ := w3_9 j hj
  have l4 := L3_9 o y2
  have eg : (g_9 : Int) = ((fX (X.take o)).length : Int) := Option.some.inj (y3.symm.trans l4)
  have ho : o < X.length := by
    by_cases z_9 : o = X.length
    · subst z_9
      rw [fX_tl] at eg
      omega
    · omega
  obtain ⟨g', z1, z2⟩ := y5 ho
  have l5 := L3_9 (o + 1) ho
  rw [Int.natCast_add] at l5
  have eg' : (g' : Int) = ((fX (X.take (o + 1))).length : Int) := Option.some.inj (z1.symm.trans l5)
  have ts := fX_ts X o ho
  exact ⟨o, j - (fX (X.take o)).length, ho, by omega, by omega, y1⟩
