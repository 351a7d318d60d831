def sx_chk : Nat → List (List (Nat × Instr × am_X)) → Bool
  | _, [] => true
  | k, r :: C => r.all (fun e => Nat.beq (e.1 / 32) k) && sx_chk (k + 1) C
theorem sx_find_l {pc : Nat} {q : Instr × am_X} : ∀ {r L : List (Nat × Instr × am_X)}, sx_get pc r = some q → am_find pc (r ++ L) = some q
  | [], _, h => by cases h
  | e :: r, L, h => by
    unfold sx_get at h
    rw [List.cons_append]
    unfold am_find
    cases hb : Nat.beq e.1 pc with
    | true =>
      simp only [hb, cond_true] at h
      rw [if_pos (sx_beqn.mp hb)]
      exact h
    | false =>
      simp only [hb, cond_false] at h
      rw [if_neg (sx_beq_neg hb)]
      exact sx_find_l h
theorem sx_find_r {pc : Nat} : ∀ {r L : List (Nat × Instr × am_X)}, (∀ e ∈ r, e.1 ≠ pc) → am_find pc (r ++ L) = am_find pc L
  | [], _, _ => rfl
  | e :: r, L, h => by
    rw [List.cons_append, am_find, if_neg (h e List.mem_cons_self)]
    exact sx_find_r fun e' he' => h e' (List.mem_cons_of_mem _ he')
theorem sx_find_k {pc : Nat} {q : Instr × am_X} : ∀ {C : List (List (Nat × Instr × am_X))} {k j : Nat} {r : List (Nat × Instr × am_X)}, sx_chk k C = true → pc / 32 = k + j → C[j]? = some r → sx_get pc r = some q → am_find pc C.flatten = some q
  | [], k, j, r, _, _, h, _ => by simp at h
  | r0 :: C, k, 0, r, _, _, h, hg => by
    cases h
    exact sx_find_l hg
  | r0 :: C, k, j + 1, r, hc, hp, h, hg => by
    simp only [sx_chk, Bool.and_eq_true] at hc
    rw [List.flatten_cons, sx_find_r (fun e he ep => ?_)]
    · exact sx_find_k (k := k + 1) (j := j) hc.2 (by omega) (by simpa using h) hg
    · have := sx_beqn.mp (List.all_eq_true.mp hc.1 e he)
      rw [ep] at this
      omega
theorem sx_find_ok {C : List (List (Nat × Instr × am_X))} {L : List (Nat × Instr × am_X)} (e : C.flatten = L) (hc : sx_chk 0 C = true) : ∀ pc q, sx_find pc C = some q → am_find pc L = some q := by
  intro pc q h
  unfold sx_find at h
  split at h
  · rename_i r hr
    rw [← e]
    exact sx_find_k hc (by omega) hr h
  · cases h
def sx_mw (m : sx_M) (M : am_M) : Prop := M.2.2.2.1 = m.2.2.2.1 ∧ (∀ pc q, sx_find pc m.2.2.2.2 = some q → am_find pc M.2.2.2.2 = some q) ∧ m.2.2.1 = M.2.2.1 ∧ (m.2.1 < 98 → ∃ r : vw_C, m_cl[m.2.1]? = some r ∧ r.1 = M.1.cls) ∧ (m.2.1 = 99 → M.1.cls = "java/lang/String")
