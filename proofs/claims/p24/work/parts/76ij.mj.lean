/-! cell j of a matter in a local, on the stack -/
/-- a local that is a matter -/
def hp_ml (l : am_L) (k len : Nat) (z : Int) : Prop := ∃ m : Nat, am_ld k l = some (.ref (16 + (177 + 19 * m + 0))) ∧ (m : Int) = z ∧ 177 + 19 * (m + 1) ≤ len
theorem hp_Lm {ν : ly_N} {L : ly_L} {len : Nat} {l : am_L} {k : Nat} {e : ly_e} {z y : Int} (hk : hp_ml l k len y) (e1 : ly_ev ν e = some z) (h1 : z = y) (t : ly_gL ν len L l) : ly_gL ν len ((k, .inr (.inr (.inr (0, e)))) :: L) l := fun q hq => (List.mem_cons.mp hq).elim (fun e' => by
  subst e'
  subst h1
  obtain ⟨m, hx, e2, hl⟩ := hk
  exact ⟨.ref (16 + (177 + 19 * m + 0)), hx, by decide, m, by rw [e2]; exact e1, rfl, hl⟩) (t q)
theorem hp_gLm {ν : ly_N} {L : ly_L} {len : Nat} {l : am_L} {k : Nat} {e : ly_e} {z y : Int} (g : ly_gL ν len L l) (hq : (k, .inr (.inr (.inr (0, e)))) ∈ L) (e1 : ly_ev ν e = some z) (h1 : z = y) : hp_ml l k len y := by
  obtain ⟨w, hw, -, m, em, ew, hl⟩ := g _ hq
  subst ew
  rw [e1] at em
  exact ⟨m, hw, by rw [← h1]; exact (Option.some.inj em).symm, hl⟩
theorem hp_mlm {l : am_L} {k a b : Nat} {z : Int} (h : hp_ml l k a z) (le : a ≤ b) : hp_ml l k b z := by
  obtain ⟨m, h1, h2, h3⟩ := h
  exact ⟨m, h1, h2, by omega⟩
/-- the heap's length stands -/
theorem hp_len2 {cst : am_K} {h h' : am_H} {ms : List Nat} (fr : ly_fr cst ms h h') (q : ly_has 60002 ms = false) : h.length ≤ h'.length := by
  have k : ly_hv cst h 60002 0 = some (h.length : Int) := by
    rw [ly_hv0 (by decide)]
    unfold ly_h0
    rw [if_neg (by decide), if_neg (by decide), if_pos rfl, if_pos rfl]
  have k2 := fr _ _ _ q k
  rw [ly_hv0 (by decide)] at k2
  unfold ly_h0 at k2
  rw [if_neg (by decide), if_neg (by decide), if_pos rfl, if_pos rfl] at k2
  have k3 := Option.some.inj k2
  omega
def hp_mlj (l : am_L) (k j len : Nat) (z : Int) : Prop := ∃ m : Nat, am_ld k l = some (.ref (16 + (177 + 19 * m + j))) ∧ (m : Int) = z ∧ 177 + 19 * (m + 1) ≤ len
theorem hp_Lmj {ν : ly_N} {L : ly_L} {len : Nat} {l : am_L} {k j : Nat} {e : ly_e} {z y : Int} (hj : j < 19) (hk : hp_mlj l k j len y) (e1 : ly_ev ν e = some z) (h1 : z = y) (t : ly_gL ν len L l) : ly_gL ν len ((k, .inr (.inr (.inr (j, e)))) :: L) l := fun q hq => (List.mem_cons.mp hq).elim (fun e' => by
  subst e'
  subst h1
  obtain ⟨m, hx, e2, hl⟩ := hk
  exact ⟨.ref (16 + (177 + 19 * m + j)), hx, hj, m, by rw [e2]; exact e1, rfl, hl⟩) (t q)
theorem hp_gLmj {ν : ly_N} {L : ly_L} {len : Nat} {l : am_L} {k j : Nat} {e : ly_e} {z y : Int} (g : ly_gL ν len L l) (hq : (k, .inr (.inr (.inr (j, e)))) ∈ L) (e1 : ly_ev ν e = some z) (h1 : z = y) : hp_mlj l k j len y := by
  obtain ⟨w, hw, -, m, em, ew, hl⟩ := g _ hq
  subst ew
  rw [e1] at em
  exact ⟨m, hw, by rw [← h1]; exact (Option.some.inj em).symm, hl⟩
theorem hp_mljm {l : am_L} {k j a b : Nat} {z : Int} (h : hp_mlj l k j a z) (le : a ≤ b) : hp_mlj l k j b z := by
  obtain ⟨m, h1, h2, h3⟩ := h
  exact ⟨m, h1, h2, by omega⟩
theorem hp_gSmj {ν : ly_N} {len j : Nat} {St : List ly_V} {st : List Value} {e : ly_e} {z : Int} (g : ly_gS ν len (.inr (.inr (.inr (j, e))) :: St) st) (e1 : ly_ev ν e = some z) : ∃ (m : Nat) (t : List Value), st = .ref (16 + (177 + 19 * m + j)) :: t ∧ (m : Int) = z ∧ 177 + 19 * (m + 1) ≤ len ∧ ly_gS ν len St t := by
  obtain ⟨w, t, rfl, gv, gt⟩ := ly_gS_cons g
  obtain ⟨-, m, em, rfl, hl⟩ := gv
  rw [e1] at em
  exact ⟨m, t, rfl, (Option.some.inj em).symm, hl, gt⟩
theorem hp_Smj {ν : ly_N} {len j m : Nat} {St : List ly_V} {st : List Value} {e : ly_e} {z y : Int} (hj : j < 19) (hm : (m : Int) = y) (hl : 177 + 19 * (m + 1) ≤ len) (e1 : ly_ev ν e = some z) (h1 : z = y) (t : ly_gS ν len St st) : ly_gS ν len (.inr (.inr (.inr (j, e))) :: St) (.ref (16 + (177 + 19 * m + j)) :: st) := ⟨⟨hj, m, by rw [e1, h1, hm], rfl, hl⟩, t⟩
