/-! the heap behind the constructors is of its kinds -/
def h0_v (lo hi : Int) (v : sx_V) : Bool := match v with
  | .inl c => sx_le lo c && sx_le c hi
  | .inr (.inl (a, b, _)) => sx_le lo a && sx_le b hi
  | _ => false
def h0_f (f : ly_F) (v : sx_V) : Bool := match f with
  | .inl p => h0_v p.1 p.2 v
  | .inr (.inl _) => (match v with
    | .inr (.inr (.inl _)) => true
    | _ => false)
  | .inr (.inr (.inl none)) => (match v with
    | .inr (.inr (.inr none)) => true
    | _ => false)
  | .inr (.inr (.inl (some a))) => (match v with
    | .inr (.inr (.inr (some b))) => Nat.beq a b && !(Nat.beq a 7)
    | _ => false)
  | _ => false
def h0_t (tt : List (List FieldType)) (t : ly_T) (e : sx_E) : Bool := match t, e with
  | .inl (ty, n, lo, hi), .inl (ty', n', d, ov) => decide (ty = ty') && (Nat.beq n n' && (match ty with
    | .long => true
    | .object _ => (match d with
      | .inr (.inr (.inr none)) => ov.isEmpty
      | _ => false)
    | _ => h0_v lo hi d && ov.all fun q => h0_v lo hi q.2))
  | .inr (ci, fs), .inr (ci', ov, bs) => Nat.beq ci ci' && (List.range 256).all fun k => match sx_ch 8 k fs with
    | some f => (match sx_fld tt ci k ov bs with
      | some v => h0_f f v
      | none => false)
    | none => true
  | _, _ => false
def h0_ok (tt : List (List FieldType)) (TH : List (List ly_T)) (H : sx_H) : Bool := Nat.beq H.2.2 177 && (List.range 177).all fun i => match ly_ths TH i, sx_hget H i with
  | some t, some e => h0_t tt t e
  | none, _ => true
  | some _, none => false
section H0
variable {tt : List (List FieldType)} {TH : List (List ly_T)} {ρ : Nat → Int32}
theorem h0_v_ok {lo hi : Int} {v : sx_V} {w : Value} (h : h0_v lo hi v = true) (g : sx_g ρ v w) : ∃ n : Int32, w = .int n ∧ lo ≤ n.toInt ∧ n.toInt ≤ hi := by
  unfold h0_v at h
  split at h
  · rename_i c
    rw [Bool.and_eq_true, sx_le_iff, sx_le_iff] at h
    obtain ⟨n, e, hn⟩ := g
    exact ⟨n, e, by omega, by omega⟩
  · rename_i a b t
    rw [Bool.and_eq_true, sx_le_iff, sx_le_iff] at h
    obtain ⟨n, e, h1, h2, -⟩ := g
    exact ⟨n, e, by omega, by omega⟩
  · cases h
theorem h0_f_ok {f : ly_F} {v : sx_V} {w : Value} (h : h0_f f v = true) (g : sx_g ρ v w) : ly_gf 0 f w := by
  unfold h0_f at h
  split at h
  · exact h0_v_ok h g
  · split at h
    · obtain ⟨n, e, -⟩ := g
      exact ⟨n, e⟩
    · cases h
  · split at h
    · exact g
    · cases h
  · split at h
    · rename_i a b
      simp only [Bool.and_eq_true, Bool.not_eq_true', sx_beqn] at h
      obtain ⟨e1, e2⟩ := h
      subst e1
      rcases g with e | ⟨e7, -⟩
      · exact e
      · rw [e7] at e2
        cases e2
    · cases h
  · cases h
theorem h0_elt {lo hi : Int} {d : sx_V} {ov : sx_L} {j : Nat} (h1 : h0_v lo hi d = true) (h2 : (ov.all fun q => h0_v lo hi q.2) = true) : h0_v lo hi (sx_elt d ov j) = true := by
  unfold sx_elt
  split
  · rename_i v hv
    exact List.all_eq_true.mp h2 _ (sx_get_mem hv)
  · exact h1
theorem h0_t_ok {len : Nat} {t : ly_T} {e : sx_E} {x : am_E} (h : h0_t tt t e = true) (g : sx_gE tt ρ e x) (h8 : ∀ ci fs k f, t = .inr (ci, fs) → sx_ch 8 k fs = some f → k < 256) : ly_gT tt len 0 t x := by
  unfold h0_t at h
  split at h
  · rename_i ty n lo hi ty' n' d ov
    simp only [Bool.and_eq_true, decide_eq_true_eq] at h
    obtain ⟨e1, e2, h3⟩ := h
    subst e1
    have e2 := sx_beqn.mp e2
    subst e2
    obtain ⟨c, ex, gc⟩ := g
    refine ⟨c, ex, ?_⟩
    have int : (∃ f : Nat → Int32, c = .inl f ∧ ∀ j, j < n → sx_g ρ (sx_elt d ov j) (.int (f j))) → (h0_v lo hi d && ov.all fun q => h0_v lo hi q.2) = true → ∃ f, c = .inl f ∧ ∀ j, j < n → lo ≤ (f j).toInt ∧ (f j).toInt ≤ hi := by
      intro ⟨f, ef, hf⟩ hb
      rw [Bool.and_eq_true] at hb
      refine ⟨f, ef, fun j hj => ?_⟩
      obtain ⟨m, em, h1, h2⟩ := h0_v_ok (h0_elt (j := j) hb.1 hb.2) (hf j hj)
      cases em
      exact ⟨h1, h2⟩
    cases ty with
    | long =>
      obtain ⟨f, ef, -⟩ := gc
      exact ⟨f, ef⟩
    | object s =>
      obtain ⟨f, ef, hf⟩ := gc
      refine ⟨f, ef, fun j hj => Or.inl ?_⟩
      simp only at h3
      split at h3
      · have := hf j hj
        rw [List.isEmpty_iff.mp h3] at this
        have : va_rf (f j) = .null := this
        cases hfj : f j with
        | none => rfl
        | some a => rw [hfj] at this; cases this
      · cases h3
    | _ => exact int gc h3
  · rename_i ci fs ci' ov bs
    rw [Bool.and_eq_true] at h
    have e1 := sx_beqn.mp h.1
    subst e1
    obtain ⟨vs, ex, hl, hf⟩ := g
    refine ⟨vs, ex, hl, fun k f hk => ?_⟩
    have := List.all_eq_true.mp h.2 k (List.mem_range.mpr (h8 _ _ k f rfl hk))
    rw [hk] at this
    simp only at this
    split at this
    · rename_i v hv
      obtain ⟨w, hw, gw⟩ := hf k v hv
      exact ⟨w, hw, h0_f_ok this gw⟩
    · cases this
  · cases h
theorem h0_hy {H : sx_H} {h : am_H} (hk : h0_ok tt TH H = true) (g : sx_gH tt ρ [] H h) (h8 : ∀ i ci fs k f, ly_ths TH i = some (.inr (ci, fs)) → sx_ch 8 k fs = some f → k < 256) (hl : ∀ i t, ly_ths TH i = some t → i < 177) : ly_hy tt TH h ∧ h.length = 177 := by
  unfold h0_ok at hk
  rw [Bool.and_eq_true, sx_beqn] at hk
  obtain ⟨k1, k2⟩ := hk
  obtain ⟨g1, g2, g3, g4⟩ := g
  have hlen : h.length = 177 := by
    rw [g1, k1]
    rfl
  refine ⟨⟨by omega, fun i t ht => ?_, fun e j t he => by omega⟩, hlen⟩
  have := List.all_eq_true.mp k2 i (List.mem_range.mpr (hl i t ht))
  rw [ht] at this
  split at this
  · rename_i t' e h1 h2
    cases h1
    obtain ⟨x, hx, gx⟩ := g3 i e h2
    exact ⟨x, hx, h0_t_ok this gx (fun ci fs k f et => h8 i ci fs k f (by rw [ht, et]))⟩
  · rename_i h1
    cases h1
  · cases this
end H0
