/-! the abstract machine beside the Java machine: addresses, values, cells, what a table must say -/
def am_ad (kd : Nat → Nat) (base k : Nat) : Nat := if k < 16 then kd k else base + (k - 16)
def am_v (f : Nat → Nat) : Value → Value
  | .ref k => .ref (f k)
  | v => v
def am_e (f : Nat → Nat) (ca : FieldType → ClassId) : am_E → va_E
  | .inl (ty, n, .inl g) => .inl (ca ty, n, .inl g)
  | .inl (ty, n, .inr (.inl g)) => .inl (ca ty, n, .inr (.inl g))
  | .inl (ty, n, .inr (.inr (.inl g))) => .inl (ca ty, n, .inr (.inr (.inl g)))
  | .inl (ty, n, .inr (.inr (.inr (.inl g)))) => .inl (ca ty, n, .inr (.inr (.inr (.inl g))))
  | .inl (ty, n, .inr (.inr (.inr (.inr g)))) => .inl (ca ty, n, .inr (.inr (.inr (.inr (fun j => (g j).map f)))))
  | .inr (ci, fs) => .inr (ci, fs.map (am_v f))
def am_R (D : va_G) (cl : List vw_C) (tys : List FieldType) (f : Nat → Nat) (ca : FieldType → ClassId) (base : Nat) (h : am_H) (H : Heap) : Prop :=
  (∀ (i : Nat) (e : am_E), h[i]? = some e → va_at D cl (base + i, am_e f ca e) H) ∧ H.size = base + h.length ∧ ∀ (i : Nat) (ty : FieldType) (a : vp_A), h[i]? = some (.inl (ty, a)) → ty ∈ tys
def am_lc (f : Nat → Nat) (l : am_L) : am_L := l.map (fun q => (q.1, am_v f q.2))
theorem am_v_cat (f : Nat → Nat) (v : Value) : (am_v f v).category = v.category := by cases v <;> rfl
theorem am_ld_mem {i : Nat} {v : Value} : ∀ {l : am_L}, am_ld i l = some v → (i, v) ∈ l
  | [], h => by simp [am_ld] at h
  | q :: l, h => by
    unfold am_ld at h
    by_cases hq : q.1 = i
    · rw [if_pos hq] at h
      cases h
      subst hq
      exact List.mem_cons_self
    · rw [if_neg hq] at h
      exact List.mem_cons_of_mem _ (am_ld_mem h)
theorem am_ld_at {ls : Array Slot} {nL : Nat} {f : Nat → Nat} {l : am_L} {i : Nat} {v : Value} (hl : lv_has ls nL (am_lc f l)) (h : am_ld i l = some v) : ls[i]? = some (.val (am_v f v)) :=
  hl.2.2 (i, am_v f v) (List.mem_map.mpr ⟨(i, v), am_ld_mem h, rfl⟩)
theorem am_st1_lc (f : Nat → Nat) (i : Nat) (v : Value) (l : am_L) : am_lc f (am_st1 i v l) = (i, am_v f v) :: (am_lc f l).filter (fun q => !(q.1 == i) && !(q.1 + 1 == i && q.2.category == 2)) := by
  unfold am_st1 am_lc
  rw [List.map_cons, List.filter_map]
  congr 2
  apply List.filter_congr
  intro q _
  simp only [Function.comp, am_v_cat]
theorem am_st2_lc (f : Nat → Nat) (i : Nat) (v : Value) (l : am_L) : am_lc f (am_st2 i v l) = (i, am_v f v) :: (am_lc f l).filter (fun q => !(q.1 == i) && (!(q.1 == i + 1) && !(q.1 + 1 == i && q.2.category == 2))) := by
  unfold am_st2 am_lc
  rw [List.map_cons, List.filter_map]
  congr 2
  apply List.filter_congr
  intro q _
  simp only [Function.comp, am_v_cat]
theorem am_j_some {pc t : Nat} {off : Int} (h : am_j pc off = some t) : (pc : Int) + off = (t : Int) := by
  unfold am_j at h
  by_cases hp : 0 ≤ (pc : Int) + off
  · rw [if_pos hp] at h
    cases h
    omega
  · rw [if_neg hp] at h
    cases h
theorem am_br_some {b : Prop} [Decidable b] {pc : Nat} {off : Int} {l : am_L} {st : List Value} {h : am_H} {r : am_F} (hs : am_br b pc off l st h = some r) :
    ∃ t : Nat, (pc : Int) + off = (t : Int) ∧ ((b ∧ r = (t, l, st, h)) ∨ (¬ b ∧ r = (pc + 3, l, st, h))) := by
  unfold am_br at hs
  cases hj : am_j pc off with
  | none => rw [hj] at hs; cases hs
  | some t =>
    rw [hj] at hs
    refine ⟨t, am_j_some hj, ?_⟩
    by_cases hb : b
    · simp only [if_pos hb] at hs
      cases hs
      exact Or.inl ⟨hb, rfl⟩
    · simp only [if_neg hb] at hs
      cases hs
      exact Or.inr ⟨hb, rfl⟩
section AM0
variable {D : va_G} {cl : List vw_C} {tys : List FieldType} {kd : Nat → Nat} {ca : FieldType → ClassId} {base : Nat} {h : am_H} {H H1 : Heap} {a : Nat} {e e' : am_E}
theorem am_ad_hi (ha : ¬ a < 16) : am_ad kd base a = base + (a - 16) := by unfold am_ad; rw [if_neg ha]
theorem am_R.at (hR : am_R D cl tys (am_ad kd base) ca base h H) (ha : ¬ a < 16) (he : h[a - 16]? = some e) : va_at D cl (am_ad kd base a, am_e (am_ad kd base) ca e) H := by
  rw [am_ad_hi ha]; exact hR.1 _ _ he
theorem am_R.P (hR : am_R D cl tys (am_ad kd base) ca base h H) (ha : ¬ a < 16) (he : h[a - 16]? = some e) : va_P D cl [(am_ad kd base a, am_e (am_ad kd base) ca e)] H := by
  intro k q hk
  have hz : k < 1 := (List.getElem?_eq_some_iff.mp hk).1
  rw [show k = 0 by omega] at hk
  cases hk
  exact hR.at ha he
theorem am_R.set (hR : am_R D cl tys (am_ad kd base) ca base h H) (ha : ¬ a < 16) (he : h[a - 16]? = some e) (hs : H1.size = H.size) (ho : ∀ q, q ≠ am_ad kd base a → H1[q]? = H[q]?)
    (h1 : va_at D cl (am_ad kd base a, am_e (am_ad kd base) ca e') H1) (ht : ∀ ty x, e' = .inl (ty, x) → ty ∈ tys) : am_R D cl tys (am_ad kd base) ca base (h.set (a - 16) e') H1 := by
  have hl : a - 16 < h.length := (List.getElem?_eq_some_iff.mp he).1
  rw [am_ad_hi ha] at ho h1
  refine ⟨fun i x hx => ?_, by rw [hs, List.length_set]; exact hR.2.1, fun i ty x hx => ?_⟩
  · by_cases hi : i = a - 16
    · subst hi
      rw [List.getElem?_set_self hl] at hx
      cases hx
      exact h1
    · rw [List.getElem?_set_ne (Ne.symm hi)] at hx
      exact (hR.1 i x hx).kept (ho _ (by show base + i ≠ _; omega))
  · by_cases hi : i = a - 16
    · subst hi
      rw [List.getElem?_set_self hl] at hx
      cases hx
      exact ht _ _ rfl
    · rw [List.getElem?_set_ne (Ne.symm hi)] at hx
      exact hR.2.2 i ty x hx
end AM0
/-- the tables of the classes: their words are there, their fields' types and names as the words have them -/
def am_clok (cl : List vw_C) (tt : List (List FieldType)) (Ts : List Cond) : Prop :=
  ∀ (ci : Nat) (r : vw_C), cl[ci]? = some r → (∀ w ∈ u_ws r.1 r.2.1 r.2.2, w ∈ Ts) ∧ (∀ k, k < r.2.2 → parseFieldDescriptor (r.2.1 k).2.2.1 = some ((tt.getD ci []).getD k .char)) ∧ (∀ a, a < r.2.2 → ∀ b, b < r.2.2 → a ≠ b → (r.2.1 a).2.1 ≠ (r.2.1 b).2.1)
/-- what a table must say of an instruction of a method of a class -/
def am_ok (cl : List vw_C) (Ts : List Cond) (sn : List (Nat × String × String × String)) (sr : am_SR) (own : String) (nL : Nat) (init : Bool) (X : am_X) : Instr → Prop
  | .ldc i => (X.1 = 0 → Cond.constant own i (Int32.ofInt X.2.2) ∈ Ts) ∧ (¬ X.1 = 0 → ∃ tx, (own, i, tx, X.2.1) ∈ sr.1)
  | .ldc_w i => (X.1 = 0 → Cond.constant own i (Int32.ofInt X.2.2) ∈ Ts) ∧ (¬ X.1 = 0 → ∃ tx, (own, i, tx, X.2.1) ∈ sr.1)
  | .ldc2_w i => Cond.constantLong own i (Int64.ofInt X.2.2) ∈ Ts
  | .getstatic i => ∃ C n d, (X.2.1, C, n, d) ∈ sn ∧ (Cond.fieldLink own i C n d ∈ Ts ∨ ∃ host, Cond.fieldLinkNest own i C n d host ∈ Ts)
  | .getfield i => (X.2.2 = 1 → Cond.fieldLink own i "java/lang/String" "value" "[B" ∈ Ts) ∧ (X.2.2 = 2 → Cond.fieldLink own i "java/lang/String" "coder" "B" ∈ Ts) ∧ (X.2.2 = 0 → ∃ r : vw_C, cl[X.1]? = some r ∧ X.2.1 < r.2.2 ∧ (Cond.fieldLink own i (r.2.1 X.2.1).1 (r.2.1 X.2.1).2.1 (r.2.1 X.2.1).2.2.1 ∈ Ts ∨ ∃ host, Cond.fieldLinkNest own i (r.2.1 X.2.1).1 (r.2.1 X.2.1).2.1 (r.2.1 X.2.1).2.2.1 host ∈ Ts))
  | .putfield i => ∃ r : vw_C, cl[X.1]? = some r ∧ X.2.1 < r.2.2 ∧ ((Cond.fieldLink own i (r.2.1 X.2.1).1 (r.2.1 X.2.1).2.1 (r.2.1 X.2.1).2.2.1 ∈ Ts ∧ ((r.2.1 X.2.1).2.2.2 = false ∨ ((r.2.1 X.2.1).2.2.2 = true ∧ init = true ∧ (r.2.1 X.2.1).1 = own))) ∨ ((r.2.1 X.2.1).2.2.2 = false ∧ ∃ host, Cond.fieldLinkNest own i (r.2.1 X.2.1).1 (r.2.1 X.2.1).2.1 (r.2.1 X.2.1).2.2.1 host ∈ Ts))
  | .istore i => i < nL
  | .istore_n i => (i : Nat) < nL
  | .astore i => i < nL
  | .astore_n i => (i : Nat) < nL
  | .lstore i => i + 1 < nL
  | .lstore_n i => (i : Nat) + 1 < nL
  | .iinc i _ => i < nL
  | _ => True
