/-! words that are had in their order; the fewest words put in (pure; for p25, p26, p27) -/
/-- the class: how many of ws are had behind the row -/
def wn9 (ws : List Int) : List Int → Nat → Nat
  | [], k => k
  | r :: rs, k => wn9 ws rs (if ws[k]? = some r then k + 1 else k)
/-- the row behind the first w -/
def dt9 (w : Int) : List Int → Option (List Int)
  | [] => none
  | r :: rs => if r = w then some rs else dt9 w rs
/-- the reference: the first of ws that isn't had -/
def rn9 : List Int → List Int → Nat → Option Nat
  | [], _, _ => none
  | w :: ws, row, i => match dt9 w row with
    | none => some i
    | some rest => rn9 ws rest (i + 1)
theorem wn9_end (ws : List Int) : ∀ (row : List Int) (k : Nat), ws.length ≤ k → wn9 ws row k = k
  | [], k, _ => rfl
  | r :: rs, k, hk => by
    have e : ws[k]? = none := List.getElem?_eq_none hk
    show wn9 ws rs (if ws[k]? = some r then k + 1 else k) = k
    rw [e, if_neg (fun q => by cases q)]
    exact wn9_end ws rs k hk
theorem wn9_le (ws : List Int) : ∀ (row : List Int) (k : Nat), k ≤ wn9 ws row k
  | [], k => Nat.le_refl k
  | r :: rs, k => by
    show k ≤ wn9 ws rs (if ws[k]? = some r then k + 1 else k)
    by_cases q : ws[k]? = some r
    · rw [if_pos q]
      exact Nat.le_trans (Nat.le_succ k) (wn9_le ws rs (k + 1))
    · rw [if_neg q]
      exact wn9_le ws rs k
theorem wn9_b (ws : List Int) : ∀ (row : List Int) (k : Nat), k ≤ ws.length → wn9 ws row k ≤ ws.length
  | [], k, h => h
  | r :: rs, k, h => by
    show wn9 ws rs (if ws[k]? = some r then k + 1 else k) ≤ ws.length
    by_cases q : ws[k]? = some r
    · rw [if_pos q]
      exact wn9_b ws rs (k + 1) (List.getElem?_eq_some_iff.mp q).1
    · rw [if_neg q]
      exact wn9_b ws rs k h
theorem rn9_wn (ws : List Int) : ∀ (row_9 : List Int) (k_9 : Nat), k_9 ≤ ws.length → rn9 (ws.drop k_9) row_9 k_9 = if wn9 ws row_9 k_9 < ws.length then some (wn9 ws row_9 k_9) else none
  | [], k_9, hk => by
    show rn9 (ws.drop k_9) [] k_9 = if k_9 < ws.length then some k_9 else none
    by_cases q : k_9 < ws.length
    · rw [if_pos q, List.drop_eq_getElem_cons q]
      rfl
    · rw [if_neg q, List.drop_eq_nil_of_le (by omega)]
      rfl
  | r :: rs, k_9, hk => by
    by_cases q : k_9 < ws.length
    · have e : ws[k_9]? = some (ws[k_9]) := List.getElem?_eq_getElem q
      have d : ws.drop k_9 = ws[k_9] :: ws.drop (k_9 + 1) := List.drop_eq_getElem_cons q
      by_cases z : r = ws[k_9]
      · have s1_9 : wn9 ws (r :: rs) k_9 = wn9 ws rs (k_9 + 1) := by
          show wn9 ws rs (if ws[k_9]? = some r then k_9 + 1 else k_9) = _
          rw [e, if_pos (by rw [z])]
        rw [s1_9, d, ← rn9_wn ws rs (k_9 + 1) q]
        show (match (if r = ws[k_9] then some rs else dt9 (ws[k_9]) rs) with
          | none => some k_9
          | some rest_9 => rn9 (ws.drop (k_9 + 1)) rest_9 (k_9 + 1)) = _
        rw [if_pos z]
      · have s1_9 : wn9 ws (r :: rs) k_9 = wn9 ws rs k_9 := by
          show wn9 ws rs (if ws[k_9]? = some r then k_9 + 1 else k_9) = _
          rw [e, if_neg (fun h_9 => z (Option.some.inj h_9).symm)]
        rw [s1_9, ← rn9_wn ws rs k_9 hk, d]
        show (match (if r = ws[k_9] then some rs else dt9 (ws[k_9]) rs) with
          | none => some k_9
          | some rest_9 => rn9 (ws.drop (k_9 + 1)) rest_9 (k_9 + 1)) = (match dt9 (ws[k_9]) rs with
          | none => some k_9
          | some rest_9 => rn9 (ws.drop (k_9 + 1)) rest_9 (k_9 + 1))
        rw [if_neg z]
    · have hk' : ws.length ≤ k_9 := by omega
      rw [wn9_end ws (r :: rs) k_9 hk', if_neg q, List.drop_eq_nil_of_le hk']
      rfl
/-- as many words in both, in their order -/
def lc9 : List Int → List Int → Nat
  | [], _ => 0
  | _ :: _, [] => 0
  | x :: xs, y :: ys => if x = y then 1 + lc9 xs ys else if lc9 (x :: xs) ys < lc9 xs (y :: ys) then lc9 xs (y :: ys) else lc9 (x :: xs) ys
termination_by xs ys => xs.length + ys.length
decreasing_by all_goals simp only [List.length_cons]; omega
/-- the row and the law's words, woven -/
def wv9 : List Int → List Int → List Int
  | [], ys => ys
  | x :: xs, [] => x :: xs
  | x :: xs, y :: ys => if x = y then x :: wv9 xs ys else if lc9 (x :: xs) ys = lc9 (x :: xs) (y :: ys) then y :: wv9 (x :: xs) ys else x :: wv9 xs (y :: ys)
termination_by xs ys => xs.length + ys.length
decreasing_by all_goals simp only [List.length_cons]; omega
theorem lc9_n (ys : List Int) : lc9 [] ys = 0 := by rw [lc9]
theorem lc9_0 (xs : List Int) : lc9 xs [] = 0 := by
  cases xs with
  | nil => rw [lc9]
  | cons x_9 xs => rw [lc9]
theorem lc9_c (x y : Int) (xs ys : List Int) : lc9 (x :: xs) (y :: ys) = if x = y then 1 + lc9 xs ys else if lc9 (x :: xs) ys < lc9 xs (y :: ys) then lc9 xs (y :: ys) else lc9 (x :: xs) ys := by rw [lc9]
theorem wv9_n (ys : List Int) : wv9 [] ys = ys := by rw [wv9]
theorem wv9_0 (xs : List Int) : wv9 xs [] = xs := by
  cases xs with
  | nil => rw [wv9]
  | cons x_9 xs => rw [wv9]
theorem wv9_c (x y : Int) (xs ys : List Int) : wv9 (x :: xs) (y :: ys) = if x = y then x :: wv9 xs ys else if lc9 (x :: xs) ys = lc9 (x :: xs) (y :: ys) then y :: wv9 (x :: xs) ys else x :: wv9 xs (y :: ys) := by rw [wv9]
theorem lc9_le : ∀ (n_9 : Nat) (xs ys : List Int), xs.length + ys.length ≤ n_9 → lc9 xs ys ≤ xs.length ∧ lc9 xs ys ≤ ys.length := by
  intro n_9
  induction n_9 with
  | zero =>
    intro xs ys h_9
    cases xs with
    | nil => rw [lc9_n]; exact ⟨Nat.zero_le _, Nat.zero_le _⟩
    | cons x_9 xs => rw [List.length_cons] at h_9; omega
  | succ n_9 ih_9 =>
    intro xs ys h_9
    cases xs with
    | nil => rw [lc9_n]; exact ⟨Nat.zero_le _, Nat.zero_le _⟩
    | cons x_9 xs =>
      cases ys with
      | nil => rw [lc9_0]; exact ⟨Nat.zero_le _, Nat.zero_le _⟩
      | cons y_9 ys =>
        rw [List.length_cons, List.length_cons] at h_9
        rw [lc9_c, List.length_cons, List.length_cons]
        have a_9 := ih_9 xs ys (by omega)
        have b_9 := ih_9 xs (y_9 :: ys) (by rw [List.length_cons]; omega)
        have c_9 := ih_9 (x_9 :: xs) ys (by rw [List.length_cons]; omega)
        rw [List.length_cons] at b_9 c_9
        by_cases q_9 : x_9 = y_9
        · rw [if_pos q_9]; omega
        · rw [if_neg q_9]
          by_cases z_9 : lc9 (x_9 :: xs) ys < lc9 xs (y_9 :: ys)
          · rw [if_pos z_9]; omega
          · rw [if_neg z_9]; omega
/-- how long what is woven is -/
theorem wv9_len : ∀ (n_9 : Nat) (xs ys : List Int), xs.length + ys.length ≤ n_9 → (wv9 xs ys).length + lc9 xs ys = xs.length + ys.length := by
  intro n_9
  induction n_9 with
  | zero =>
    intro xs ys h_9
    cases xs with
    | nil => rw [lc9_n, wv9_n, List.length_nil]; omega
    | cons x_9 xs => rw [List.length_cons] at h_9; omega
  | succ n_9 ih_9 =>
    intro xs ys h_9
    cases xs with
    | nil => rw [lc9_n, wv9_n, List.length_nil]; omega
    | cons x_9 xs =>
      cases ys with
      | nil => rw [lc9_0, wv9_0, List.length_nil]
      | cons y_9 ys =>
        rw [List.length_cons, List.length_cons] at h_9
        have a_9 := ih_9 xs ys (by omega)
        have b_9 := ih_9 xs (y_9 :: ys) (by rw [List.length_cons]; omega)
        have c_9 := ih_9 (x_9 :: xs) ys (by rw [List.length_cons]; omega)
        rw [List.length_cons] at b_9 c_9
        have e_9 := lc9_c x_9 y_9 xs ys
        rw [wv9_c]
        by_cases q_9 : x_9 = y_9
        · rw [if_pos q_9] at e_9
          rw [if_pos q_9, List.length_cons, List.length_cons, List.length_cons]
          omega
        · rw [if_neg q_9] at e_9
          rw [if_neg q_9]
          by_cases z_9 : lc9 (x_9 :: xs) ys = lc9 (x_9 :: xs) (y_9 :: ys)
          · rw [if_pos z_9, List.length_cons, List.length_cons, List.length_cons]
            omega
          · rw [if_neg z_9, List.length_cons, List.length_cons, List.length_cons]
            by_cases w_9 : lc9 (x_9 :: xs) ys < lc9 xs (y_9 :: ys)
            · rw [if_pos w_9] at e_9
              omega
            · rw [if_neg w_9] at e_9
              exact absurd e_9.symm z_9
/-- the class's fewest: what isn't in both -/
def pf9 (xs ys : List Int) : Nat := ys.length - lc9 xs ys
theorem pf9_b {xs ys : List Int} (h : xs = [] ∨ ys = []) : pf9 xs ys = ys.length := by
  unfold pf9
  rcases h with h | h
  · rw [h, lc9_n]
    omega
  · rw [h, lc9_0]
    omega
theorem pf9_e {x y : Int} {xs ys : List Int} (q : x = y) : pf9 (x :: xs) (y :: ys) = pf9 xs ys := by
  unfold pf9
  rw [lc9_c, if_pos q, List.length_cons]
  omega
theorem pf9_m {x y : Int} {xs ys : List Int} (q : x ≠ y) : pf9 (x :: xs) (y :: ys) = if 1 + pf9 (x :: xs) ys < pf9 xs (y :: ys) then 1 + pf9 (x :: xs) ys else pf9 xs (y :: ys) := by
  have a_9 := lc9_le _ xs (y :: ys) (Nat.le_refl _)
  have b_9 := lc9_le _ (x :: xs) ys (Nat.le_refl _)
  unfold pf9
  rw [lc9_c, if_neg q]
  rw [List.length_cons] at a_9 ⊢
  by_cases z_9 : lc9 (x :: xs) ys < lc9 xs (y :: ys)
  · rw [if_pos z_9, if_neg (by omega)]
  · rw [if_neg z_9]
    by_cases w_9 : 1 + (ys.length - lc9 (x :: xs) ys) < ys.length + 1 - lc9 xs (y :: ys)
    · rw [if_pos w_9]
      omega
    · rw [if_neg w_9]
      omega
/-- which way both go: the class asks its fewest, the reference its both -/
theorem pf9_w {x y : Int} {xs ys : List Int} : (pf9 (x :: xs) ys + 1 = pf9 (x :: xs) (y :: ys)) ↔ lc9 (x :: xs) ys = lc9 (x :: xs) (y :: ys) := by
  have a_9 := (lc9_le _ (x :: xs) ys (Nat.le_refl _)).2
  have b_9 := (lc9_le _ (x :: xs) (y :: ys) (Nat.le_refl _)).2
  unfold pf9
  rw [List.length_cons] at b_9 ⊢
  omega
