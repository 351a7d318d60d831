/-! cells that are made; the state behind it and its slots -/
def am_a (cl : List vw_C) (tt : List (List FieldType)) (I : Instr) (X : am_X) (pc : Nat) (l : am_L) (st : List Value) (h : am_H) : Option (am_F × Nat) :=
  match I with
  | .new _ => match cl[X.1]? with
    | some r => if (tt.getD X.1 []).length = r.2.2 then some ((pc + 3, l, .ref (16 + h.length) :: st, h ++ [.inr (X.1, (tt.getD X.1 []).map defaultValue)]), r.2.2) else none
    | none => none
  | .newarray t => match st with
    | .int n :: st => if n < 0 ∨ 60000000 < n.toNatClampNeg then none else match t with
      | .int => some ((pc + 2, l, .ref (16 + h.length) :: st, h ++ [.inl (.int, n.toNatClampNeg, .inl (fun _ => 0))]), n.toNatClampNeg)
      | .long => some ((pc + 2, l, .ref (16 + h.length) :: st, h ++ [.inl (.long, n.toNatClampNeg, .inr (.inl (fun _ => 0)))]), n.toNatClampNeg)
      | .byte => some ((pc + 2, l, .ref (16 + h.length) :: st, h ++ [.inl (.byte, n.toNatClampNeg, .inl (fun _ => 0))]), n.toNatClampNeg)
      | .boolean => some ((pc + 2, l, .ref (16 + h.length) :: st, h ++ [.inl (.boolean, n.toNatClampNeg, .inl (fun _ => 0))]), n.toNatClampNeg)
      | _ => none
    | _ => none
  | .anewarray _ => match st with
    | .int n :: st => if n < 0 ∨ 60000000 < n.toNatClampNeg then none else match cl[X.1]? with
      | some r => some ((pc + 3, l, .ref (16 + h.length) :: st, h ++ [.inl (.object r.1, n.toNatClampNeg, .inr (.inr (.inr (.inr (fun _ => none)))))]), n.toNatClampNeg)
      | none => none
    | _ => none
  | _ => none
/-- what a table must say of an instruction that makes a cell -/
def am_oka (cl : List vw_C) (tys : List FieldType) (Ts : List Cond) (own : String) (X : am_X) : Instr → Prop
  | .new i => ∃ r : vw_C, cl[X.1]? = some r ∧ Cond.classLink own i r.1 ∈ Ts ∧ Cond.instantiable r.1 r.2.2 ∈ Ts ∧ Cond.initialized r.1 ∈ Ts
  | .newarray t => Cond.arrayClass (newarray.typeOf t) ∈ Ts ∧ newarray.typeOf t ∈ tys
  | .anewarray i => ∃ r : vw_C, cl[X.1]? = some r ∧ Cond.classLink own i r.1 ∈ Ts ∧ .object r.1 ∈ tys
  | _ => True
section AM3
variable {p : Program} {l0 : Launch} {e : Env} {R : Room} {s : State} {m : MethodId} {args : Array Value} {below : List Frame} {meth : Method} {c : Code} {H : Heap} {locs : List Loc} {cells slots : Nat} {Q : State → Prop}
variable {cc : ByteArray} {pc pc' : Nat} {ls : Array Slot} {l l' : am_L} {st st' : List Value} {h h' : am_H} {nL : Nat}
variable {D : va_G} {cl : List vw_C} {tys : List FieldType} {kd : Nat → Nat} {ca : FieldType → ClassId} {base : Nat} {A : Nat → Prop} {Ts : List Cond} {tt : List (List FieldType)} {own : String}
theorem am_R.push {H1 : Heap} {e1 : am_E} (hR : am_R D cl tys (am_ad kd base) ca base h H) (z : H1.size = H.size + 1) (o1 : ∀ q, q < H.size → H1[q]? = H[q]?) (he : va_at D cl (H.size, am_e (am_ad kd base) ca e1) H1) (ht : ∀ ty x, e1 = .inl (ty, x) → ty ∈ tys) :
    am_R D cl tys (am_ad kd base) ca base (h ++ [e1]) H1 := by
  refine ⟨fun i x hx => ?_, by rw [z, hR.2.1, List.length_append]; rfl, fun i ty x hx => ?_⟩
  · by_cases hi : i < h.length
    · rw [List.getElem?_append_left hi] at hx
      exact (hR.1 i x hx).kept (o1 _ (by show base + i < _; rw [hR.2.1]; omega))
    · rw [List.getElem?_append_right (by omega)] at hx
      have hz : i - h.length < 1 := (List.getElem?_eq_some_iff.mp hx).1
      have hi0 : i = h.length := by omega
      subst hi0
      rw [Nat.sub_self] at hx
      cases hx
      rw [← hR.2.1]
      exact he
  · by_cases hi : i < h.length
    · rw [List.getElem?_append_left hi] at hx
      exact hR.2.2 i ty x hx
    · rw [List.getElem?_append_right (by omega)] at hx
      have hz : i - h.length < 1 := (List.getElem?_eq_some_iff.mp hx).1
      have hi0 : i = h.length := by omega
      subst hi0
      rw [Nat.sub_self] at hx
      cases hx
      exact ht _ _ rfl
theorem am_ad_new (hR : am_R D cl tys (am_ad kd base) ca base h H) : Value.ref H.size = am_v (am_ad kd base) (.ref (16 + h.length)) := by
  show Value.ref H.size = .ref (am_ad kd base (16 + h.length))
  rw [am_ad_hi (by omega), hR.2.1, Nat.add_sub_cancel_left]
theorem am_S_push {H1 : Heap} (hS : va_S A s.heap H locs) (z : H1.size = H.size + 1) (o1 : ∀ q, q < H.size → H1[q]? = H[q]?) : va_S A s.heap H1 locs :=
  ⟨Nat.le_trans hS.1 (by omega), fun x h1 h2 => (o1 x (Nat.lt_of_lt_of_le h1 hS.1)).trans (hS.2.1 x h1 h2), hS.2.2⟩
theorem am_dv (f : Nat → Nat) (ty : FieldType) : am_v f (defaultValue ty) = defaultValue ty := by cases ty <;> rfl
set_option maxHeartbeats 4000000 in
theorem am_halloc {X : am_X} {I : Instr} {k0 : Nat}
    (hx : p.tables.exec = Jvm.exec) (hb : c.code = cc) (hts : ∀ w ∈ Ts, w.before args s = true) (hown : s.vm.findClass own = some m.cls) (hd : decode cc pc = .ok (I, am_len X I)) (hok : am_oka cl tys Ts own X I)
    (hcl : am_clok cl tt Ts) (hK : va_K D cl [] s) (hT : ∀ ty ∈ tys, ArrOfT s (ca ty) ty ∧ va_RA s (ca ty) ty) (hO : ∀ C, .object C ∈ tys → va_AO C s) (hS : va_S A s.heap H locs) (hR : am_R D cl tys (am_ad kd base) ca base h H)
    (hs : am_a cl tt I X pc l st h = some ((pc', l', st', h'), k0)) (hcells : cells + 1 ≤ R.cells) (hslots : slots + k0 ≤ R.slots)
    (k : ∀ (H' : Heap), am_R D cl tys (am_ad kd base) ca base h' H' → va_S A s.heap H' locs → l' = l → W p l0 e R s m args below meth c H' locs (cells + 1) (slots + k0) Q (F0 m pc' ls (st'.map (am_v (am_ad kd base))))) :
    W p l0 e R s m args below meth c H locs cells slots Q (F0 m pc ls (st.map (am_v (am_ad kd base)))) := by
  cases I with
  | new i =>
    obtain ⟨r, hc, hw1, hw2, hw3⟩ := hok
    simp only [am_a, hc] at hs
    by_cases hlen : (tt.getD X.1 []).length = r.2.2
    case neg => rw [if_neg hlen] at hs; cases hs
    rw [if_pos hlen] at hs
    simp only [Option.some.injEq, Prod.mk.injEq] at hs; obtain ⟨⟨rfl, rfl, rfl, rfl⟩, rfl⟩ := hs
    have hKn := hK.1 X.1 _ hc
    refine W.newcK hx hb hown (hts _ hw1) (hts _ hw2) (hts _ hw3) rfl hd hcells hslots hKn.2.1 rfl fun H1 kC hkC e1 z1 o1 => ?_
    refine W.eq (g2 := F0 m (pc + 3) ls (am_v (am_ad kd base) (.ref (16 + h.length)) :: st.map (am_v (am_ad kd base)))) (by rw [← am_ad_new hR]) ?_
    refine k H1 (hR.push z1 o1 ?_ (fun ty x hx => by cases hx)) (am_S_push hS z1 o1) rfl
    refine ⟨r, hc, (u_born _ hts (hcl _ r hc).1 hKn hkC e1 (hcl _ r hc).2.1).to (fun j hj => ?_)⟩
    have hj' : j < (tt.getD X.1 []).length := by rw [hlen]; exact hj
    simp only [vp_V, List.getD_eq_getElem?_getD, List.getElem?_map, List.map_map]
    rw [List.getD_eq_getElem?_getD] at hj'
    rw [List.getElem?_eq_getElem hj']
    simp only [Option.getD_some, Option.map_some, Function.comp, am_dv]
  | newarray t =>
    obtain ⟨hw, hty⟩ := hok
    simp only [am_a] at hs
    split at hs
    case h_2 => cases hs
    rename_i n st1
    by_cases hn : n < 0 ∨ 60000000 < n.toNatClampNeg
    · rw [if_pos hn] at hs; cases hs
    rw [if_neg hn] at hs
    have hn0 : ¬ n < 0 := fun q => hn (Or.inl q)
    have hn1 : n.toNatClampNeg ≤ 60000000 := Nat.not_lt.mp fun q => hn (Or.inr q)
    have hnm : s.vm.findClass ("[" ++ (newarray.typeOf t).toString) = some (ca (newarray.typeOf t)) := by
      have := (hT _ hty).2
      cases t <;> exact this
    cases t <;> simp only at hs <;> first
      | (cases hs; done)
      | (simp only [Option.some.injEq, Prod.mk.injEq] at hs; obtain ⟨⟨rfl, rfl, rfl, rfl⟩, rfl⟩ := hs
         refine va_newaK hx hb (hts _ hw) rfl hd rfl hn0 rfl (by simp only [newarray.typeOf, componentBytes]; omega) hcells hslots rfl fun H1 cA e1 z1 o1 hAr hNm => ?_
         refine W.eq (g2 := F0 m (pc + 2) ls (am_v (am_ad kd base) (.ref (16 + h.length)) :: st1.map (am_v (am_ad kd base)))) (by rw [← am_ad_new hR]) ?_
         have hcA := Option.some.inj (hNm.symm.trans hnm)
         subst hcA
         exact k H1 (hR.push z1 o1 e1 (fun ty x hx => by cases hx; exact hty)) (am_S_push hS z1 o1) rfl)
  | anewarray i =>
    obtain ⟨r, hc, hw1, hty⟩ := hok
    have hw2 := hO r.1 hty
    simp only [am_a, hc] at hs
    split at hs
    case h_2 => cases hs
    rename_i n st1
    by_cases hn : n < 0 ∨ 60000000 < n.toNatClampNeg
    · rw [if_pos hn] at hs; cases hs
    rw [if_neg hn] at hs
    have hn0 : ¬ n < 0 := fun q => hn (Or.inl q)
    have hn1 : n.toNatClampNeg ≤ 60000000 := Nat.not_lt.mp fun q => hn (Or.inr q)
    simp only [Option.some.injEq, Prod.mk.injEq] at hs; obtain ⟨⟨rfl, rfl, rfl, rfl⟩, rfl⟩ := hs
    refine W.anew hx hb hown (hts _ hw1) (va_AO.use hw2) rfl hd rfl hn0 (by omega) hcells hslots fun cA kA comp f1 f2 f3 f4 => ?_
    generalize hH1 : H.push ({ cls := cA, slots := Array.replicate n.toNatClampNeg .null, vm := .none } : Cell) = H1
    have z1 : H1.size = H.size + 1 := by rw [← hH1, Array.size_push]
    have e1 : H1[H.size]? = some (arrV cA n.toNatClampNeg (fun _ => .null)) := by rw [← hH1, Array.getElem?_push_size, ← arrV_new]
    have o1 : ∀ q : Nat, q < H.size → H1[q]? = H[q]? := fun q hq => by rw [← hH1, Array.getElem?_push, if_neg (Nat.ne_of_lt hq)]
    refine W.eq (g2 := F0 m (pc + 3) ls (am_v (am_ad kd base) (.ref (16 + h.length)) :: st1.map (am_v (am_ad kd base)))) (by rw [← am_ad_new hR]) ?_
    obtain ⟨_, _, _, _, _, hnm⟩ := (hT _ hty).2
    have hcA := Option.some.inj (f1.symm.trans hnm)
    subst hcA
    exact k H1 (hR.push z1 o1 e1 (fun ty x hx => by cases hx; exact hty)) (am_S_push hS z1 o1) rfl
  | _ => simp [am_a] at hs
end AM3
