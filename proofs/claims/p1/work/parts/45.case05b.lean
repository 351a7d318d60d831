/-! a point of a run that is known -/
def sx_sameL : sx_L → sx_L → Bool
  | [], [] => true
  | a :: l, b :: k => Nat.beq a.1 b.1 && (sx_same a.2 b.2 && sx_sameL l k)
  | _, _ => false
theorem sx_sameL_eq : ∀ {l k : sx_L}, sx_sameL l k = true → l = k
  | [], [], _ => rfl
  | a :: l, b :: k, h => by
    simp only [sx_sameL, Bool.and_eq_true, sx_beqn] at h
    obtain ⟨h1, h2, h3⟩ := h
    obtain ⟨a1, a2⟩ := a
    obtain ⟨b1, b2⟩ := b
    simp only at h1 h2
    rw [h1, sx_same_eq h2, sx_sameL_eq h3]
def sx_subB : sx_B → sx_B → Bool
  | [], [] => true
  | p :: B, q :: C => sx_le q.1 p.1 && (sx_le p.2 q.2 && sx_subB B C)
  | _, _ => false
theorem sx_subB_at : ∀ {B C : sx_B}, sx_subB B C = true → ∀ (k : Nat) (q : Int × Int), C[k]? = some q → ∃ p, B[k]? = some p ∧ q.1 ≤ p.1 ∧ p.2 ≤ q.2
  | [], [], _, k, q, h => by simp at h
  | p :: B, q :: C, h, 0, q', hq => by
    simp only [sx_subB, Bool.and_eq_true, sx_le_iff] at h
    cases hq
    exact ⟨p, rfl, h.1, h.2.1⟩
  | p :: B, q :: C, h, k + 1, q', hq => by
    simp only [sx_subB, Bool.and_eq_true, sx_le_iff] at h
    obtain ⟨p', hp, h1⟩ := sx_subB_at h.2.2 k q' (by simpa using hq)
    exact ⟨p', by simpa using hp, h1⟩
theorem sx_subB_ok {ρ : Nat → Int32} {B C : sx_B} (h : sx_subB B C = true) (g : sx_gB ρ B) : sx_gB ρ C := by
  intro k q hq
  obtain ⟨p, hp, h1, h2⟩ := sx_subB_at h k q hq
  have := g k p hp
  omega
def sx_sameS : List sx_V → List sx_V → Bool
  | [], [] => true
  | a :: l, b :: k => sx_same a b && sx_sameS l k
  | _, _ => false
theorem sx_sameS_eq : ∀ {l k : List sx_V}, sx_sameS l k = true → l = k
  | [], [], _ => rfl
  | a :: l, b :: k, h => by
    simp only [sx_sameS, Bool.and_eq_true] at h
    rw [sx_same_eq h.1, sx_sameS_eq h.2]
def sx_sameF (f f' : sx_F) : Bool := Nat.beq f.1.1 f'.1.1 && (Nat.beq f.2.1 f'.2.1 && (sx_sameL f.2.2.1 f'.2.2.1 && sx_sameS f.2.2.2 f'.2.2.2))
def sx_sameFs : List sx_F → List sx_F → Bool
  | [], [] => true
  | a :: l, b :: k => sx_sameF a b && sx_sameFs l k
  | _, _ => false
def sx_subHT (t h : sx_H) : Bool := Nat.beq h.2.2 t.2.2 && (t.1.all (fun q => Nat.blt q.1 192) && (Nat.ble t.2.1.length 12 && (List.range 192).all fun i => match sx_hget t i with
  | none => true
  | some e => match sx_hget h i with
    | some x => sx_subE m_tt x e
    | none => false))
def sx_stopG (t g : sx_G) : Bool := Nat.beq g.1 t.1 && (sx_sameF g.2.1 t.2.1 && (sx_sameFs g.2.2.1 t.2.2.1 && (sx_subB g.2.2.2.2.1 t.2.2.2.2.1 && (Nat.beq g.2.2.2.2.2.1 t.2.2.2.2.2.1 && (Nat.beq g.2.2.2.2.2.2 t.2.2.2.2.2.2 && sx_subHT t.2.2.2.1 g.2.2.2.1)))))
section SXA
variable {ρ : Nat → Int32}
def sx_mkn (m : sx_M) : Prop := ∀ M, m_PL[m.1]? = some M → sx_mok m_PL m M
theorem sx_sameF_ok {f t : sx_F} {f' : sx_Cf} (h : sx_sameF f t = true) (hm : sx_mkn t.1) (g : sx_gF ρ m_PL f f') : sx_gF ρ m_PL t f' := by
  simp only [sx_sameF, Bool.and_eq_true, sx_beqn] at h
  obtain ⟨h1, h2, h3, h4⟩ := h
  obtain ⟨g1, g2, g3, g4⟩ := g
  exact ⟨hm _ (by rw [← h1]; exact g1.1), by rw [← h2]; exact g2, by rw [← sx_sameL_eq h3]; exact g3, by rw [← sx_sameS_eq h4]; exact g4⟩
theorem sx_sameFs_ok : ∀ {fs ts : List sx_F} {fs' : List sx_Cf}, sx_sameFs fs ts = true → (∀ t ∈ ts, sx_mkn t.1) → sx_gFs ρ m_PL fs fs' → sx_gFs ρ m_PL ts fs'
  | [], [], [], _, _, _ => trivial
  | f :: fs, t :: ts, f' :: fs', h, hm, g => by
    simp only [sx_sameFs, Bool.and_eq_true] at h
    exact ⟨sx_sameF_ok h.1 (hm t List.mem_cons_self) g.1, sx_sameFs_ok h.2 (fun t' ht => hm t' (List.mem_cons_of_mem _ ht)) g.2⟩
theorem sx_subHT_ok {T H : sx_H} {h' : am_H} (h : sx_subHT T H = true) (g : sx_gH m_tt ρ [] H h') : sx_gH m_tt ρ [] T h' := by
  simp only [sx_subHT, Bool.and_eq_true, sx_beqn, sx_ble] at h
  obtain ⟨h1, h2, h3, h4⟩ := h
  obtain ⟨g1, g2, g3, g4⟩ := g
  refine ⟨by rw [g1, h1], g2, fun i e he => ?_, fun i hi => absurd hi (Nat.not_lt_zero i)⟩
  have hi : i < 192 := by
    obtain ⟨ta, tb, tn⟩ := T
    simp only [sx_hget] at he
    cases hg : sx_get i ta with
    | some e' =>
      have := List.all_eq_true.mp h2 _ (sx_get_mem hg)
      exact sx_blt.mp this
    | none =>
      rw [hg] at he
      simp only at he
      split at he
      · rename_i r hr
        have := (List.getElem?_eq_some_iff.mp hr).1
        simp only at h3
        omega
      · cases he
  have := List.all_eq_true.mp h4 i (List.mem_range.mpr hi)
  simp only [he] at this
  split at this
  · rename_i x hx
    obtain ⟨y, hy, gy⟩ := g3 i x hx
    exact ⟨y, hy, sx_subE_ok this gy⟩
  · cases this
end SXA
