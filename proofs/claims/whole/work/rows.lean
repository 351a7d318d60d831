section
/-! an abstract machine: pair lists for locals, a list of cells for the heap, constants at the addresses below 16 -/
abbrev am_E : Type := (FieldType × vp_A) ⊕ (Nat × List Value)
abbrev am_H : Type := List am_E
/-- what a table says of an instruction -/
abbrev am_X : Type := Nat × Nat × Int
abbrev am_L : Type := List (Nat × Value)
abbrev am_F : Type := Nat × am_L × List Value × am_H
/-- a method: name, bytes, locals, return type, its instructions -/
abbrev am_M : Type := MethodName × ByteArray × Nat × Option FieldType × List (Nat × Instr × am_X)
def am_st1 (i : Nat) (v : Value) (l : am_L) : am_L := (i, v) :: l.filter (fun q => !(q.1 == i) && !(q.1 + 1 == i && q.2.category == 2))
def am_st2 (i : Nat) (v : Value) (l : am_L) : am_L := (i, v) :: l.filter (fun q => !(q.1 == i) && (!(q.1 == i + 1) && !(q.1 + 1 == i && q.2.category == 2)))
def am_ld (i : Nat) : am_L → Option Value
  | [] => none
  | q :: l => if q.1 = i then some q.2 else am_ld i l
def am_j (pc : Nat) (off : Int) : Option Nat := if 0 ≤ (pc : Int) + off then some ((pc : Int) + off).toNat else none
def am_br (b : Prop) [Decidable b] (pc : Nat) (off : Int) (l : am_L) (st : List Value) (h : am_H) : Option am_F :=
  match am_j pc off with
  | none => none
  | some t => if b then some (t, l, st, h) else some (pc + 3, l, st, h)
/-- what a field of a type takes as it is -/
def am_fit : FieldType → Value → Bool
  | .int, .int _ => true
  | .long, .long _ => true
  | .boolean, .int x => x == 0 || x == 1
  | .object _, .null => true
  | .object _, .ref _ => true
  | .array _, .null => true
  | .array _, .ref _ => true
  | _, _ => false
def am_len (X : am_X) : Instr → Nat
  | .bipush _ => 2
  | .iload _ => 2
  | .lload _ => 2
  | .aload _ => 2
  | .istore _ => 2
  | .lstore _ => 2
  | .astore _ => 2
  | .ldc _ => 2
  | .newarray _ => 2
  | .tableswitch .. => X.1
  | .sipush _ => 3
  | .ldc_w _ => 3
  | .ldc2_w _ => 3
  | .getfield _ => 3
  | .putfield _ => 3
  | .getstatic _ => 3
  | .invokevirtual _ => 3
  | .invokespecial _ => 3
  | .invokestatic _ => 3
  | .new _ => 3
  | .anewarray _ => 3
  | .goto _ => 3
  | .ifCond .. => 3
  | .if_icmp .. => 3
  | .ifnull _ => 3
  | .ifnonnull _ => 3
  | .iinc .. => 3
  | _ => 1
/-- the instructions that neither call nor end nor make a cell -/
def am_s (cst : List (List Int32)) (cl : List vw_C) (tt : List (List FieldType)) (I : Instr) (X : am_X) (pc : Nat) (l : am_L) (st : List Value) (h : am_H) : Option am_F :=
  match I with
  | .iconst n => some (pc + 1, l, .int (Int32.ofInt n) :: st, h)
  | .bipush n => some (pc + 2, l, .int (Int8.ofInt n).toInt32 :: st, h)
  | .sipush n => some (pc + 3, l, .int (Int16.ofInt n).toInt32 :: st, h)
  | .lconst n => some (pc + 1, l, .long (Int64.ofNat (n : Nat)) :: st, h)
  | .aconst_null => some (pc + 1, l, .null :: st, h)
  | .ldc _ => if X.1 = 0 then some (pc + 2, l, .int (Int32.ofInt X.2.2) :: st, h) else if X.2.1 < 16 then some (pc + 2, l, .ref X.2.1 :: st, h) else none
  | .ldc_w _ => some (pc + 3, l, .int (Int32.ofInt X.2.2) :: st, h)
  | .ldc2_w _ => some (pc + 3, l, .long (Int64.ofInt X.2.2) :: st, h)
  | .getstatic _ => if X.2.1 < 16 then some (pc + 3, l, .ref X.2.1 :: st, h) else none
  | .iload i => match am_ld i l with
    | some (.int x) => some (pc + 2, l, .int x :: st, h)
    | _ => none
  | .iload_n i => match am_ld i l with
    | some (.int x) => some (pc + 1, l, .int x :: st, h)
    | _ => none
  | .lload i => match am_ld i l with
    | some (.long x) => some (pc + 2, l, .long x :: st, h)
    | _ => none
  | .lload_n i => match am_ld i l with
    | some (.long x) => some (pc + 1, l, .long x :: st, h)
    | _ => none
  | .aload i => match am_ld i l with
    | some (.ref x) => some (pc + 2, l, .ref x :: st, h)
    | some .null => some (pc + 2, l, .null :: st, h)
    | _ => none
  | .aload_n i => match am_ld i l with
    | some (.ref x) => some (pc + 1, l, .ref x :: st, h)
    | some .null => some (pc + 1, l, .null :: st, h)
    | _ => none
  | .istore i => match st with
    | .int x :: st => some (pc + 2, am_st1 i (.int x) l, st, h)
    | _ => none
  | .istore_n i => match st with
    | .int x :: st => some (pc + 1, am_st1 i (.int x) l, st, h)
    | _ => none
  | .lstore i => match st with
    | .long x :: st => some (pc + 2, am_st2 i (.long x) l, st, h)
    | _ => none
  | .lstore_n i => match st with
    | .long x :: st => some (pc + 1, am_st2 i (.long x) l, st, h)
    | _ => none
  | .astore i => match st with
    | .ref x :: st => some (pc + 2, am_st1 i (.ref x) l, st, h)
    | .null :: st => some (pc + 2, am_st1 i .null l, st, h)
    | _ => none
  | .astore_n i => match st with
    | .ref x :: st => some (pc + 1, am_st1 i (.ref x) l, st, h)
    | .null :: st => some (pc + 1, am_st1 i .null l, st, h)
    | _ => none
  | .iinc i n => match am_ld i l with
    | some (.int x) => some (pc + 3, am_st1 i (.int (x + Int32.ofInt n)) l, st, h)
    | _ => none
  | .iadd => match st with
    | .int y :: .int x :: st => some (pc + 1, l, .int (x + y) :: st, h)
    | _ => none
  | .isub => match st with
    | .int y :: .int x :: st => some (pc + 1, l, .int (x - y) :: st, h)
    | _ => none
  | .imul => match st with
    | .int y :: .int x :: st => some (pc + 1, l, .int (x * y) :: st, h)
    | _ => none
  | .idiv => match st with
    | .int y :: .int x :: st => if y = 0 then none else some (pc + 1, l, .int (x / y) :: st, h)
    | _ => none
  | .irem => match st with
    | .int y :: .int x :: st => if y = 0 then none else some (pc + 1, l, .int (x - x / y * y) :: st, h)
    | _ => none
  | .iand => match st with
    | .int y :: .int x :: st => some (pc + 1, l, .int (x &&& y) :: st, h)
    | _ => none
  | .ior => match st with
    | .int y :: .int x :: st => some (pc + 1, l, .int (x ||| y) :: st, h)
    | _ => none
  | .ixor => match st with
    | .int y :: .int x :: st => some (pc + 1, l, .int (x ^^^ y) :: st, h)
    | _ => none
  | .ishl => match st with
    | .int y :: .int x :: st => some (pc + 1, l, .int (x <<< (y &&& 31)) :: st, h)
    | _ => none
  | .ishr => match st with
    | .int y :: .int x :: st => some (pc + 1, l, .int (x >>> (y &&& 31)) :: st, h)
    | _ => none
  | .iushr => match st with
    | .int y :: .int x :: st => some (pc + 1, l, .int ((x.toUInt32 >>> (y.toUInt32 &&& Int32.toUInt32 31)).toInt32) :: st, h)
    | _ => none
  | .ladd => match st with
    | .long y :: .long x :: st => some (pc + 1, l, .long (x + y) :: st, h)
    | _ => none
  | .lsub => match st with
    | .long y :: .long x :: st => some (pc + 1, l, .long (x - y) :: st, h)
    | _ => none
  | .lmul => match st with
    | .long y :: .long x :: st => some (pc + 1, l, .long (x * y) :: st, h)
    | _ => none
  | .lcmp => match st with
    | .long y :: .long x :: st => some (pc + 1, l, .int (lg_cmp x y) :: st, h)
    | _ => none
  | .i2l => match st with
    | .int x :: st => some (pc + 1, l, .long x.toInt64 :: st, h)
    | _ => none
  | .l2i => match st with
    | .long x :: st => some (pc + 1, l, .int x.toInt32 :: st, h)
    | _ => none
  | .i2b => match st with
    | .int x :: st => some (pc + 1, l, .int x.toInt8.toInt32 :: st, h)
    | _ => none
  | .pop => match st with
    | v :: st => if v.category = 1 then some (pc + 1, l, st, h) else none
    | _ => none
  | .dup => match st with
    | v :: st => if v.category = 1 then some (pc + 1, l, v :: v :: st, h) else none
    | _ => none
  | .dup2 => match st with
    | v :: w :: st => if v.category = 1 ∧ w.category = 1 then some (pc + 1, l, v :: w :: v :: w :: st, h) else none
    | _ => none
  | .goto off => match am_j pc off with
    | some t => some (t, l, st, h)
    | none => none
  | .ifCond c off => match st with
    | .int x :: st => match c with
      | .eq => am_br (x = 0) pc off l st h
      | .ne => am_br (¬ x = 0) pc off l st h
      | .lt => am_br (x < 0) pc off l st h
      | .ge => am_br (0 ≤ x) pc off l st h
      | .gt => am_br (0 < x) pc off l st h
      | .le => am_br (x ≤ 0) pc off l st h
    | _ => none
  | .if_icmp c off => match st with
    | .int y :: .int x :: st => match c with
      | .eq => am_br (x = y) pc off l st h
      | .ne => am_br (¬ x = y) pc off l st h
      | .lt => am_br (x < y) pc off l st h
      | .ge => am_br (y ≤ x) pc off l st h
      | .gt => am_br (y < x) pc off l st h
      | .le => am_br (x ≤ y) pc off l st h
    | _ => none
  | .ifnull off => match st with
    | .ref _ :: st => some (pc + 3, l, st, h)
    | .null :: st => match am_j pc off with
      | some t => some (t, l, st, h)
      | none => none
    | _ => none
  | .ifnonnull off => match st with
    | .null :: st => some (pc + 3, l, st, h)
    | .ref _ :: st => match am_j pc off with
      | some t => some (t, l, st, h)
      | none => none
    | _ => none
  | .tableswitch dflt lo hi offs => match st with
    | .int x :: st => if x.toInt < lo ∨ hi < x.toInt then (match am_j pc dflt with
        | some t => some (t, l, st, h)
        | none => none) else (match offs[(x.toInt - lo).toNat]? with
        | some off => (match am_j pc off with
          | some t => some (t, l, st, h)
          | none => none)
        | none => none)
    | _ => none
  | .getfield _ => match st with
    | .ref a :: st => if a < 16 then none else match h[a - 16]? with
      | some (.inr (ci, fs)) => if ci = X.1 then (match fs[X.2.1]? with
        | some v => some (pc + 3, l, v :: st, h)
        | none => none) else none
      | _ => none
    | _ => none
  | .putfield _ => match st with
    | v :: .ref a :: st => if a < 16 then none else match h[a - 16]? with
      | some (.inr (ci, fs)) => if ci = X.1 ∧ X.2.1 < fs.length then (match (tt.getD ci []).getD X.2.1 .char with
        | ty => if am_fit ty v = true then some (pc + 3, l, st, h.set (a - 16) (.inr (ci, fs.set X.2.1 v))) else none) else none
      | _ => none
    | _ => none
  | .arraylength => match st with
    | .ref a :: st => if a < 16 then (match cst[a]? with
      | some L => some (pc + 1, l, .int (Int32.ofNat L.length) :: st, h)
      | none => none) else match h[a - 16]? with
      | some (.inl (_, n, _)) => some (pc + 1, l, .int (Int32.ofNat n) :: st, h)
      | _ => none
    | _ => none
  | .iaload => match st with
    | .int i :: .ref a :: st => if a < 16 then (match cst[a]? with
      | some L => if i < 0 ∨ L.length ≤ i.toNatClampNeg then none else some (pc + 1, l, .int (L.getD i.toNatClampNeg 0) :: st, h)
      | none => none) else match h[a - 16]? with
      | some (.inl (.int, n, .inl f)) => if i < 0 ∨ n ≤ i.toNatClampNeg then none else some (pc + 1, l, .int (f i.toNatClampNeg) :: st, h)
      | _ => none
    | _ => none
  | .laload => match st with
    | .int i :: .ref a :: st => if a < 16 then none else match h[a - 16]? with
      | some (.inl (.long, n, .inr (.inl f))) => if i < 0 ∨ n ≤ i.toNatClampNeg then none else some (pc + 1, l, .long (f i.toNatClampNeg) :: st, h)
      | _ => none
    | _ => none
  | .baload => match st with
    | .int i :: .ref a :: st => if a < 16 then none else match h[a - 16]? with
      | some (.inl (.byte, n, .inl f)) => if i < 0 ∨ n ≤ i.toNatClampNeg then none else some (pc + 1, l, .int (f i.toNatClampNeg) :: st, h)
      | some (.inl (.boolean, n, .inl f)) => if i < 0 ∨ n ≤ i.toNatClampNeg then none else some (pc + 1, l, .int (f i.toNatClampNeg) :: st, h)
      | _ => none
    | _ => none
  | .aaload => match st with
    | .int i :: .ref a :: st => if a < 16 then none else match h[a - 16]? with
      | some (.inl (.object _, n, .inr (.inr (.inr (.inr f))))) => if i < 0 ∨ n ≤ i.toNatClampNeg then none else some (pc + 1, l, va_rf (f i.toNatClampNeg) :: st, h)
      | _ => none
    | _ => none
  | .iastore => match st with
    | .int x :: .int i :: .ref a :: st => if a < 16 then none else match h[a - 16]? with
      | some (.inl (.int, n, .inl f)) => if i < 0 ∨ n ≤ i.toNatClampNeg then none else some (pc + 1, l, st, h.set (a - 16) (.inl (.int, n, .inl (upd f i.toNatClampNeg x))))
      | _ => none
    | _ => none
  | .lastore => match st with
    | .long x :: .int i :: .ref a :: st => if a < 16 then none else match h[a - 16]? with
      | some (.inl (.long, n, .inr (.inl f))) => if i < 0 ∨ n ≤ i.toNatClampNeg then none else some (pc + 1, l, st, h.set (a - 16) (.inl (.long, n, .inr (.inl (vp_updL f i.toNatClampNeg x)))))
      | _ => none
    | _ => none
  | .bastore => match st with
    | .int x :: .int i :: .ref a :: st => if a < 16 then none else match h[a - 16]? with
      | some (.inl (.byte, n, .inl f)) => if i < 0 ∨ n ≤ i.toNatClampNeg then none else some (pc + 1, l, st, h.set (a - 16) (.inl (.byte, n, .inl (upd f i.toNatClampNeg (vp_nar .byte x)))))
      | some (.inl (.boolean, n, .inl f)) => if i < 0 ∨ n ≤ i.toNatClampNeg then none else some (pc + 1, l, st, h.set (a - 16) (.inl (.boolean, n, .inl (upd f i.toNatClampNeg (vp_nar .boolean x)))))
      | _ => none
    | _ => none
  | .aastore => match st with
    | .ref v :: .int i :: .ref a :: st => if a < 16 then none else match h[a - 16]? with
      | some (.inl (.object C, n, .inr (.inr (.inr (.inr f))))) => if i < 0 ∨ n ≤ i.toNatClampNeg then none else (if v < 16 then none else match h[v - 16]? with
        | some (.inr (ci, _)) => (match cl[ci]? with
          | some r => if C = r.1 then some (pc + 1, l, st, h.set (a - 16) (.inl (.object C, n, .inr (.inr (.inr (.inr (va_up f i.toNatClampNeg (some v)))))))) else none
          | none => none)
        | _ => none)
      | _ => none
    | _ => none
  | _ => none
end
section
/-! the abstract machine beside the Java machine: addresses, values, cells, what a table must say -/
def am_ad (kd : Nat → Nat) (base k : Nat) : Nat := if k < 16 then kd k else base + (k - 16)
def am_v (f : Nat → Nat) : Value → Value
  | .ref k => .ref (f k)
  | v => v
def am_e (f : Nat → Nat) (ca : FieldType → ClassId) : am_E → va_E
  | .inl (ty, n, .inl g) => .inl (ca ty, n, .inl g)
  | .inl (ty, n, .inr (.inl g)) => .inl (ca ty, n, .inr (.inl g))
  | .inl (ty, n, .inr (.inr (.inl g))) => .inl (ca ty, n, .inr (.inr (.inl g)))
  | .inl (ty, n, .inr (.inr (.inr (.inl g)))) => .inl (ca ty, n, .inr (.inr (.inr (.inl g))))
  | .inl (ty, n, .inr (.inr (.inr (.inr g)))) => .inl (ca ty, n, .inr (.inr (.inr (.inr (fun j => (g j).map f)))))
  | .inr (ci, fs) => .inr (ci, fs.map (am_v f))
def am_R (D : va_G) (cl : List vw_C) (tys : List FieldType) (f : Nat → Nat) (ca : FieldType → ClassId) (base : Nat) (h : am_H) (H : Heap) : Prop :=
  (∀ (i : Nat) (e : am_E), h[i]? = some e → va_at D cl (base + i, am_e f ca e) H) ∧ H.size = base + h.length ∧ ∀ (i : Nat) (ty : FieldType) (a : vp_A), h[i]? = some (.inl (ty, a)) → ty ∈ tys
def am_lc (f : Nat → Nat) (l : am_L) : am_L := l.map (fun q => (q.1, am_v f q.2))
theorem am_v_cat (f : Nat → Nat) (v : Value) : (am_v f v).category = v.category := by cases v <;> rfl
theorem am_ld_mem {i : Nat} {v : Value} : ∀ {l : am_L}, am_ld i l = some v → (i, v) ∈ l
  | [], h => by simp [am_ld] at h
  | q :: l, h => by
    unfold am_ld at h
    by_cases hq : q.1 = i
    · rw [if_pos hq] at h
      cases h
      subst hq
      exact List.mem_cons_self
    · rw [if_neg hq] at h
      exact List.mem_cons_of_mem _ (am_ld_mem h)
theorem am_ld_at {ls : Array Slot} {nL : Nat} {f : Nat → Nat} {l : am_L} {i : Nat} {v : Value} (hl : lv_has ls nL (am_lc f l)) (h : am_ld i l = some v) : ls[i]? = some (.val (am_v f v)) :=
  hl.2.2 (i, am_v f v) (List.mem_map.mpr ⟨(i, v), am_ld_mem h, rfl⟩)
theorem am_st1_lc (f : Nat → Nat) (i : Nat) (v : Value) (l : am_L) : am_lc f (am_st1 i v l) = (i, am_v f v) :: (am_lc f l).filter (fun q => !(q.1 == i) && !(q.1 + 1 == i && q.2.category == 2)) := by
  unfold am_st1 am_lc
  rw [List.map_cons, List.filter_map]
  congr 2
  apply List.filter_congr
  intro q _
  simp only [Function.comp, am_v_cat]
theorem am_st2_lc (f : Nat → Nat) (i : Nat) (v : Value) (l : am_L) : am_lc f (am_st2 i v l) = (i, am_v f v) :: (am_lc f l).filter (fun q => !(q.1 == i) && (!(q.1 == i + 1) && !(q.1 + 1 == i && q.2.category == 2))) := by
  unfold am_st2 am_lc
  rw [List.map_cons, List.filter_map]
  congr 2
  apply List.filter_congr
  intro q _
  simp only [Function.comp, am_v_cat]
theorem am_j_some {pc t : Nat} {off : Int} (h : am_j pc off = some t) : (pc : Int) + off = (t : Int) := by
  unfold am_j at h
  by_cases hp : 0 ≤ (pc : Int) + off
  · rw [if_pos hp] at h
    cases h
    omega
  · rw [if_neg hp] at h
    cases h
theorem am_br_some {b : Prop} [Decidable b] {pc : Nat} {off : Int} {l : am_L} {st : List Value} {h : am_H} {r : am_F} (hs : am_br b pc off l st h = some r) :
    ∃ t : Nat, (pc : Int) + off = (t : Int) ∧ ((b ∧ r = (t, l, st, h)) ∨ (¬ b ∧ r = (pc + 3, l, st, h))) := by
  unfold am_br at hs
  cases hj : am_j pc off with
  | none => rw [hj] at hs; cases hs
  | some t =>
    rw [hj] at hs
    refine ⟨t, am_j_some hj, ?_⟩
    by_cases hb : b
    · simp only [if_pos hb] at hs
      cases hs
      exact Or.inl ⟨hb, rfl⟩
    · simp only [if_neg hb] at hs
      cases hs
      exact Or.inr ⟨hb, rfl⟩
section AM0
variable {D : va_G} {cl : List vw_C} {tys : List FieldType} {kd : Nat → Nat} {ca : FieldType → ClassId} {base : Nat} {h : am_H} {H H1 : Heap} {a : Nat} {e e' : am_E}
theorem am_ad_hi (ha : ¬ a < 16) : am_ad kd base a = base + (a - 16) := by unfold am_ad; rw [if_neg ha]
theorem am_R.at (hR : am_R D cl tys (am_ad kd base) ca base h H) (ha : ¬ a < 16) (he : h[a - 16]? = some e) : va_at D cl (am_ad kd base a, am_e (am_ad kd base) ca e) H := by
  rw [am_ad_hi ha]; exact hR.1 _ _ he
theorem am_R.P (hR : am_R D cl tys (am_ad kd base) ca base h H) (ha : ¬ a < 16) (he : h[a - 16]? = some e) : va_P D cl [(am_ad kd base a, am_e (am_ad kd base) ca e)] H := by
  intro k q hk
  have hz : k < 1 := (List.getElem?_eq_some_iff.mp hk).1
  rw [show k = 0 by omega] at hk
  cases hk
  exact hR.at ha he
theorem am_R.set (hR : am_R D cl tys (am_ad kd base) ca base h H) (ha : ¬ a < 16) (he : h[a - 16]? = some e) (hs : H1.size = H.size) (ho : ∀ q, q ≠ am_ad kd base a → H1[q]? = H[q]?)
    (h1 : va_at D cl (am_ad kd base a, am_e (am_ad kd base) ca e') H1) (ht : ∀ ty x, e' = .inl (ty, x) → ty ∈ tys) : am_R D cl tys (am_ad kd base) ca base (h.set (a - 16) e') H1 := by
  have hl : a - 16 < h.length := (List.getElem?_eq_some_iff.mp he).1
  rw [am_ad_hi ha] at ho h1
  refine ⟨fun i x hx => ?_, by rw [hs, List.length_set]; exact hR.2.1, fun i ty x hx => ?_⟩
  · by_cases hi : i = a - 16
    · subst hi
      rw [List.getElem?_set_self hl] at hx
      cases hx
      exact h1
    · rw [List.getElem?_set_ne (Ne.symm hi)] at hx
      exact (hR.1 i x hx).kept (ho _ (by show base + i ≠ _; omega))
  · by_cases hi : i = a - 16
    · subst hi
      rw [List.getElem?_set_self hl] at hx
      cases hx
      exact ht _ _ rfl
    · rw [List.getElem?_set_ne (Ne.symm hi)] at hx
      exact hR.2.2 i ty x hx
end AM0
/-- the tables of the classes: their words are there, their fields' types and names as the words have them -/
def am_clok (cl : List vw_C) (tt : List (List FieldType)) (Ts : List Cond) : Prop :=
  ∀ (ci : Nat) (r : vw_C), cl[ci]? = some r → (∀ w ∈ u_ws r.1 r.2.1 r.2.2, w ∈ Ts) ∧ (∀ k, k < r.2.2 → parseFieldDescriptor (r.2.1 k).2.2.1 = some ((tt.getD ci []).getD k .char)) ∧ (∀ a, a < r.2.2 → ∀ b, b < r.2.2 → a ≠ b → (r.2.1 a).2.1 ≠ (r.2.1 b).2.1)
/-- what a table must say of an instruction of a method of a class -/
def am_ok (cl : List vw_C) (Ts : List Cond) (sn : List (String × String × String)) (sr : List (String × Nat × String × Nat)) (own : String) (nL : Nat) (init : Bool) (X : am_X) : Instr → Prop
  | .ldc i => (X.1 = 0 → Cond.constant own i (Int32.ofInt X.2.2) ∈ Ts) ∧ (¬ X.1 = 0 → ∃ tx, (own, i, tx, X.2.1) ∈ sr)
  | .ldc_w i => Cond.constant own i (Int32.ofInt X.2.2) ∈ Ts
  | .ldc2_w i => Cond.constantLong own i (Int64.ofInt X.2.2) ∈ Ts
  | .getstatic i => ∃ C n d, sn[X.2.1]? = some (C, n, d) ∧ (Cond.fieldLink own i C n d ∈ Ts ∨ ∃ host, Cond.fieldLinkNest own i C n d host ∈ Ts)
  | .getfield i => ∃ r : vw_C, cl[X.1]? = some r ∧ X.2.1 < r.2.2 ∧ (Cond.fieldLink own i (r.2.1 X.2.1).1 (r.2.1 X.2.1).2.1 (r.2.1 X.2.1).2.2.1 ∈ Ts ∨ ∃ host, Cond.fieldLinkNest own i (r.2.1 X.2.1).1 (r.2.1 X.2.1).2.1 (r.2.1 X.2.1).2.2.1 host ∈ Ts)
  | .putfield i => ∃ r : vw_C, cl[X.1]? = some r ∧ X.2.1 < r.2.2 ∧ ((Cond.fieldLink own i (r.2.1 X.2.1).1 (r.2.1 X.2.1).2.1 (r.2.1 X.2.1).2.2.1 ∈ Ts ∧ ((r.2.1 X.2.1).2.2.2 = false ∨ ((r.2.1 X.2.1).2.2.2 = true ∧ init = true ∧ (r.2.1 X.2.1).1 = own))) ∨ ((r.2.1 X.2.1).2.2.2 = false ∧ ∃ host, Cond.fieldLinkNest own i (r.2.1 X.2.1).1 (r.2.1 X.2.1).2.1 (r.2.1 X.2.1).2.2.1 host ∈ Ts))
  | .istore i => i < nL
  | .istore_n i => (i : Nat) < nL
  | .astore i => i < nL
  | .astore_n i => (i : Nat) < nL
  | .lstore i => i + 1 < nL
  | .lstore_n i => (i : Nat) + 1 < nL
  | .iinc i _ => i < nL
  | _ => True
end
section
def am_isP (X : am_X) : Instr → Prop
  | .ldc _ => X.1 = 0
  | .getstatic _ => False
  | .getfield _ => False
  | .putfield _ => False
  | .arraylength => False
  | .iaload => False
  | .laload => False
  | .baload => False
  | .aaload => False
  | .iastore => False
  | .lastore => False
  | .bastore => False
  | .aastore => False
  | _ => True
section AM1
variable {p : Program} {l0 : Launch} {e : Env} {R : Room} {s : State} {m : MethodId} {args : Array Value} {below : List Frame} {meth : Method} {c : Code} {H : Heap} {locs : List Loc} {cells slots : Nat} {Q : State → Prop}
variable {cc : ByteArray} {pc pc' : Nat} {ls : Array Slot} {f : Nat → Nat} {l l' : am_L} {st st' : List Value} {h h' : am_H} {nL : Nat}
set_option maxHeartbeats 4000000 in
/-- numbers, locals, stack, jumps: nothing of the heap -/
theorem am_pure {cst : List (List Int32)} {cl : List vw_C} {tt : List (List FieldType)} {Ts : List Cond} {sn : List (String × String × String)} {sr : List (String × Nat × String × Nat)} {own : String} {init : Bool} {X : am_X} {I : Instr}
    (hx : p.tables.exec = Jvm.exec) (hb : c.code = cc) (hts : ∀ w ∈ Ts, w.before args s = true) (hown : s.vm.findClass own = some m.cls) (hd : decode cc pc = .ok (I, am_len X I)) (hok : am_ok cl Ts sn sr own nL init X I)
    (hl : lv_has ls nL (am_lc f l)) (hs : am_s cst cl tt I X pc l st h = some (pc', l', st', h'))
    (hI : am_isP X I)
    (k : h' = h → ∀ ls' : Array Slot, lv_has ls' nL (am_lc f l') → W p l0 e R s m args below meth c H locs cells slots Q (F0 m pc' ls' (st'.map (am_v f)))) :
    W p l0 e R s m args below meth c H locs cells slots Q (F0 m pc ls (st.map (am_v f))) := by
  cases I with
  | iconst n => simp only [am_s, Option.some.injEq, Prod.mk.injEq] at hs; obtain ⟨rfl, rfl, rfl, rfl⟩ := hs; exact lv_iconst hx hb hd rfl (k rfl _ hl)
  | bipush n => simp only [am_s, Option.some.injEq, Prod.mk.injEq] at hs; obtain ⟨rfl, rfl, rfl, rfl⟩ := hs; exact lv_bipush hx hb hd rfl (k rfl _ hl)
  | sipush n => simp only [am_s, Option.some.injEq, Prod.mk.injEq] at hs; obtain ⟨rfl, rfl, rfl, rfl⟩ := hs; exact lv_sipush hx hb hd rfl (k rfl _ hl)
  | lconst n => simp only [am_s, Option.some.injEq, Prod.mk.injEq] at hs; obtain ⟨rfl, rfl, rfl, rfl⟩ := hs; exact lv_lconst hx hb hd rfl (k rfl _ hl)
  | aconst_null => simp only [am_s, Option.some.injEq, Prod.mk.injEq] at hs; obtain ⟨rfl, rfl, rfl, rfl⟩ := hs; exact lv_null hx hb hd (k rfl _ hl)
  | ldc i =>
    have h0 : X.1 = 0 := hI
    simp only [am_s, if_pos h0, Option.some.injEq, Prod.mk.injEq] at hs; obtain ⟨rfl, rfl, rfl, rfl⟩ := hs
    exact lv_ldc hx hb hown (hts _ (hok.1 h0)) hd (k rfl _ hl)
  | ldc_w i => simp only [am_s, Option.some.injEq, Prod.mk.injEq] at hs; obtain ⟨rfl, rfl, rfl, rfl⟩ := hs; exact lv_ldcw hx hb hown (hts _ hok) hd (k rfl _ hl)
  | ldc2_w i => simp only [am_s, Option.some.injEq, Prod.mk.injEq] at hs; obtain ⟨rfl, rfl, rfl, rfl⟩ := hs; exact lv_ldc2 hx hb hown (hts _ hok) hd (k rfl _ hl)
  | iload i =>
    simp only [am_s] at hs
    split at hs
    · rename_i x hq
      simp only [Option.some.injEq, Prod.mk.injEq] at hs; obtain ⟨rfl, rfl, rfl, rfl⟩ := hs
      exact lv_iload hx hb hd (am_ld_at hl hq) (k rfl _ hl)
    · cases hs
  | iload_n i =>
    simp only [am_s] at hs
    split at hs
    · rename_i x hq
      simp only [Option.some.injEq, Prod.mk.injEq] at hs; obtain ⟨rfl, rfl, rfl, rfl⟩ := hs
      exact lv_iload_n hx hb hd rfl (am_ld_at hl hq) (k rfl _ hl)
    · cases hs
  | lload i =>
    simp only [am_s] at hs
    split at hs
    · rename_i x hq
      simp only [Option.some.injEq, Prod.mk.injEq] at hs; obtain ⟨rfl, rfl, rfl, rfl⟩ := hs
      exact lv_lload hx hb hd (am_ld_at hl hq) (k rfl _ hl)
    · cases hs
  | lload_n i =>
    simp only [am_s] at hs
    split at hs
    · rename_i x hq
      simp only [Option.some.injEq, Prod.mk.injEq] at hs; obtain ⟨rfl, rfl, rfl, rfl⟩ := hs
      exact lv_lload_n hx hb hd rfl (am_ld_at hl hq) (k rfl _ hl)
    · cases hs
  | aload i =>
    simp only [am_s] at hs
    split at hs
    · rename_i x hq
      simp only [Option.some.injEq, Prod.mk.injEq] at hs; obtain ⟨rfl, rfl, rfl, rfl⟩ := hs
      exact lv_aload hx hb hd (am_ld_at hl hq) (k rfl _ hl)
    · rename_i hq
      simp only [Option.some.injEq, Prod.mk.injEq] at hs; obtain ⟨rfl, rfl, rfl, rfl⟩ := hs
      exact lv_aloadN hx hb hd (am_ld_at hl hq) (k rfl _ hl)
    · cases hs
  | aload_n i =>
    simp only [am_s] at hs
    split at hs
    · rename_i x hq
      simp only [Option.some.injEq, Prod.mk.injEq] at hs; obtain ⟨rfl, rfl, rfl, rfl⟩ := hs
      exact lv_aload_n hx hb hd rfl (am_ld_at hl hq) (k rfl _ hl)
    · rename_i hq
      simp only [Option.some.injEq, Prod.mk.injEq] at hs; obtain ⟨rfl, rfl, rfl, rfl⟩ := hs
      exact lv_aload_nN hx hb hd rfl (am_ld_at hl hq) (k rfl _ hl)
    · cases hs
  | istore i =>
    simp only [am_s] at hs
    split at hs
    · simp only [Option.some.injEq, Prod.mk.injEq] at hs; obtain ⟨rfl, rfl, rfl, rfl⟩ := hs
      exact lv_istore hx hb hd hl hok (am_st1_lc f _ (Value.int _) _).symm (fun ls' hl' => k rfl ls' hl')
    · cases hs
  | istore_n i =>
    simp only [am_s] at hs
    split at hs
    · simp only [Option.some.injEq, Prod.mk.injEq] at hs; obtain ⟨rfl, rfl, rfl, rfl⟩ := hs
      exact lv_istore_n hx hb hd rfl hl hok (am_st1_lc f _ (Value.int _) _).symm (fun ls' hl' => k rfl ls' hl')
    · cases hs
  | lstore i =>
    simp only [am_s] at hs
    split at hs
    · simp only [Option.some.injEq, Prod.mk.injEq] at hs; obtain ⟨rfl, rfl, rfl, rfl⟩ := hs
      exact lv_lstore hx hb hd hl hok (am_st2_lc f _ (Value.long _) _).symm (fun ls' hl' => k rfl ls' hl')
    · cases hs
  | lstore_n i =>
    simp only [am_s] at hs
    split at hs
    · simp only [Option.some.injEq, Prod.mk.injEq] at hs; obtain ⟨rfl, rfl, rfl, rfl⟩ := hs
      exact lv_lstore_n hx hb hd rfl hl hok (am_st2_lc f _ (Value.long _) _).symm (fun ls' hl' => k rfl ls' hl')
    · cases hs
  | astore i =>
    simp only [am_s] at hs
    split at hs
    · simp only [Option.some.injEq, Prod.mk.injEq] at hs; obtain ⟨rfl, rfl, rfl, rfl⟩ := hs
      exact lv_astore hx hb hd hl hok (am_st1_lc f _ (Value.ref _) _).symm (fun ls' hl' => k rfl ls' hl')
    · simp only [Option.some.injEq, Prod.mk.injEq] at hs; obtain ⟨rfl, rfl, rfl, rfl⟩ := hs
      exact lv_astoreN hx hb hd hl hok (am_st1_lc f _ Value.null _).symm (fun ls' hl' => k rfl ls' hl')
    · cases hs
  | astore_n i =>
    simp only [am_s] at hs
    split at hs
    · simp only [Option.some.injEq, Prod.mk.injEq] at hs; obtain ⟨rfl, rfl, rfl, rfl⟩ := hs
      exact lv_astore_n hx hb hd rfl hl hok (am_st1_lc f _ (Value.ref _) _).symm (fun ls' hl' => k rfl ls' hl')
    · simp only [Option.some.injEq, Prod.mk.injEq] at hs; obtain ⟨rfl, rfl, rfl, rfl⟩ := hs
      exact lv_astore_nN hx hb hd rfl hl hok (am_st1_lc f _ Value.null _).symm (fun ls' hl' => k rfl ls' hl')
    · cases hs
  | iinc i n =>
    simp only [am_s] at hs
    split at hs
    · rename_i x hq
      simp only [Option.some.injEq, Prod.mk.injEq] at hs; obtain ⟨rfl, rfl, rfl, rfl⟩ := hs
      obtain ⟨j, hj⟩ := List.getElem?_of_mem (List.mem_map.mpr ⟨(i, Value.int x), am_ld_mem hq, rfl⟩ : ((i, am_v f (Value.int x)) : Nat × Value) ∈ am_lc f l)
      exact lv_iinc hx hb hd hl hj rfl hok (am_st1_lc f _ (Value.int _) _).symm (fun ls' hl' => k rfl ls' hl')
    · cases hs
  | iadd =>
    simp only [am_s] at hs
    split at hs
    · simp only [Option.some.injEq, Prod.mk.injEq] at hs; obtain ⟨rfl, rfl, rfl, rfl⟩ := hs; exact lv_iadd hx hb hd (k rfl _ hl)
    · cases hs
  | isub =>
    simp only [am_s] at hs
    split at hs
    · simp only [Option.some.injEq, Prod.mk.injEq] at hs; obtain ⟨rfl, rfl, rfl, rfl⟩ := hs; exact lv_isub hx hb hd (k rfl _ hl)
    · cases hs
  | imul =>
    simp only [am_s] at hs
    split at hs
    · simp only [Option.some.injEq, Prod.mk.injEq] at hs; obtain ⟨rfl, rfl, rfl, rfl⟩ := hs; exact lv_imul hx hb hd (k rfl _ hl)
    · cases hs
  | iand =>
    simp only [am_s] at hs
    split at hs
    · simp only [Option.some.injEq, Prod.mk.injEq] at hs; obtain ⟨rfl, rfl, rfl, rfl⟩ := hs; exact lv_iand hx hb hd (k rfl _ hl)
    · cases hs
  | ior =>
    simp only [am_s] at hs
    split at hs
    · simp only [Option.some.injEq, Prod.mk.injEq] at hs; obtain ⟨rfl, rfl, rfl, rfl⟩ := hs; exact lv_ior hx hb hd (k rfl _ hl)
    · cases hs
  | ixor =>
    simp only [am_s] at hs
    split at hs
    · simp only [Option.some.injEq, Prod.mk.injEq] at hs; obtain ⟨rfl, rfl, rfl, rfl⟩ := hs; exact lv_ixor hx hb hd (k rfl _ hl)
    · cases hs
  | ishl =>
    simp only [am_s] at hs
    split at hs
    · simp only [Option.some.injEq, Prod.mk.injEq] at hs; obtain ⟨rfl, rfl, rfl, rfl⟩ := hs; exact lv_ishl hx hb hd (k rfl _ hl)
    · cases hs
  | ishr =>
    simp only [am_s] at hs
    split at hs
    · simp only [Option.some.injEq, Prod.mk.injEq] at hs; obtain ⟨rfl, rfl, rfl, rfl⟩ := hs; exact lv_ishr hx hb hd (k rfl _ hl)
    · cases hs
  | iushr =>
    simp only [am_s] at hs
    split at hs
    · simp only [Option.some.injEq, Prod.mk.injEq] at hs; obtain ⟨rfl, rfl, rfl, rfl⟩ := hs; exact lv_iushr hx hb hd rfl (k rfl _ hl)
    · cases hs
  | ladd =>
    simp only [am_s] at hs
    split at hs
    · simp only [Option.some.injEq, Prod.mk.injEq] at hs; obtain ⟨rfl, rfl, rfl, rfl⟩ := hs; exact lv_ladd hx hb hd (k rfl _ hl)
    · cases hs
  | lsub =>
    simp only [am_s] at hs
    split at hs
    · simp only [Option.some.injEq, Prod.mk.injEq] at hs; obtain ⟨rfl, rfl, rfl, rfl⟩ := hs; exact lv_lsub hx hb hd (k rfl _ hl)
    · cases hs
  | lmul =>
    simp only [am_s] at hs
    split at hs
    · simp only [Option.some.injEq, Prod.mk.injEq] at hs; obtain ⟨rfl, rfl, rfl, rfl⟩ := hs; exact lv_lmul hx hb hd (k rfl _ hl)
    · cases hs
  | lcmp =>
    simp only [am_s] at hs
    split at hs
    · simp only [Option.some.injEq, Prod.mk.injEq] at hs; obtain ⟨rfl, rfl, rfl, rfl⟩ := hs; exact W.lcmp hx hb hd (k rfl _ hl)
    · cases hs
  | i2l =>
    simp only [am_s] at hs
    split at hs
    · simp only [Option.some.injEq, Prod.mk.injEq] at hs; obtain ⟨rfl, rfl, rfl, rfl⟩ := hs; exact lv_i2l hx hb hd rfl (k rfl _ hl)
    · cases hs
  | l2i =>
    simp only [am_s] at hs
    split at hs
    · simp only [Option.some.injEq, Prod.mk.injEq] at hs; obtain ⟨rfl, rfl, rfl, rfl⟩ := hs; exact lv_l2i hx hb hd rfl (k rfl _ hl)
    · cases hs
  | i2b =>
    simp only [am_s] at hs
    split at hs
    · simp only [Option.some.injEq, Prod.mk.injEq] at hs; obtain ⟨rfl, rfl, rfl, rfl⟩ := hs; exact lv_i2b hx hb hd rfl (k rfl _ hl)
    · cases hs
  | idiv =>
    simp only [am_s] at hs
    split at hs
    · rename_i y x st1
      by_cases h0 : y = 0
      · rw [if_pos h0] at hs; cases hs
      · rw [if_neg h0] at hs
        simp only [Option.some.injEq, Prod.mk.injEq] at hs; obtain ⟨rfl, rfl, rfl, rfl⟩ := hs
        exact lv_idiv hx hb hd h0 (k rfl _ hl)
    · cases hs
  | irem =>
    simp only [am_s] at hs
    split at hs
    · rename_i y x st1
      by_cases h0 : y = 0
      · rw [if_pos h0] at hs; cases hs
      · rw [if_neg h0] at hs
        simp only [Option.some.injEq, Prod.mk.injEq] at hs; obtain ⟨rfl, rfl, rfl, rfl⟩ := hs
        exact lv_irem hx hb hd h0 (k rfl _ hl)
    · cases hs
  | pop =>
    simp only [am_s] at hs
    split at hs
    · rename_i v st1
      by_cases h0 : v.category = 1
      · rw [if_pos h0] at hs
        simp only [Option.some.injEq, Prod.mk.injEq] at hs; obtain ⟨rfl, rfl, rfl, rfl⟩ := hs
        exact lv_pop hx hb hd (by rw [am_v_cat]; exact h0) (k rfl _ hl)
      · rw [if_neg h0] at hs; cases hs
    · cases hs
  | dup =>
    simp only [am_s] at hs
    split at hs
    · rename_i v st1
      by_cases h0 : v.category = 1
      · rw [if_pos h0] at hs
        simp only [Option.some.injEq, Prod.mk.injEq] at hs; obtain ⟨rfl, rfl, rfl, rfl⟩ := hs
        exact lv_dup hx hb hd (by rw [am_v_cat]; exact h0) (k rfl _ hl)
      · rw [if_neg h0] at hs; cases hs
    · cases hs
  | dup2 =>
    simp only [am_s] at hs
    split at hs
    · rename_i v w st1
      by_cases h0 : v.category = 1 ∧ w.category = 1
      · rw [if_pos h0] at hs
        simp only [Option.some.injEq, Prod.mk.injEq] at hs; obtain ⟨rfl, rfl, rfl, rfl⟩ := hs
        exact lv_dup2_11 hx hb hd (by rw [am_v_cat]; exact h0.1) (by rw [am_v_cat]; exact h0.2) (k rfl _ hl)
      · rw [if_neg h0] at hs; cases hs
    · cases hs
  | goto off =>
    simp only [am_s] at hs
    split at hs
    · rename_i t ht
      simp only [Option.some.injEq, Prod.mk.injEq] at hs; obtain ⟨rfl, rfl, rfl, rfl⟩ := hs
      exact lv_goto hx hb hd (am_j_some ht) (k rfl _ hl)
    · cases hs
  | ifCond cd off =>
    simp only [am_s] at hs
    split at hs
    · rename_i x st1
      cases cd <;> simp only at hs <;> obtain ⟨t, ht, (⟨hc, hr⟩ | ⟨hc, hr⟩)⟩ := am_br_some hs <;> simp only [Prod.mk.injEq] at hr <;> obtain ⟨rfl, rfl, rfl, rfl⟩ := hr
      · exact lv_if_eq hx hb hd ht (fun _ => k rfl _ hl) (fun q => absurd hc q)
      · exact lv_if_eq hx hb hd ht (fun q => absurd q hc) (fun _ => k rfl _ hl)
      · exact lv_if_ne hx hb hd ht (fun _ => k rfl _ hl) (fun q => absurd q hc)
      · exact lv_if_ne hx hb hd ht (fun q => absurd q hc) (fun _ => k rfl _ hl)
      · exact lv_if_lt hx hb hd ht (fun _ => k rfl _ hl) (fun q => absurd hc q)
      · exact lv_if_lt hx hb hd ht (fun q => absurd q hc) (fun _ => k rfl _ hl)
      · exact lv_if_ge hx hb hd ht (fun _ => k rfl _ hl) (fun q => absurd hc q)
      · exact lv_if_ge hx hb hd ht (fun q => absurd q hc) (fun _ => k rfl _ hl)
      · exact lv_if_gt hx hb hd ht (fun _ => k rfl _ hl) (fun q => absurd hc q)
      · exact lv_if_gt hx hb hd ht (fun q => absurd q hc) (fun _ => k rfl _ hl)
      · exact lv_if_le hx hb hd ht (fun _ => k rfl _ hl) (fun q => absurd hc q)
      · exact lv_if_le hx hb hd ht (fun q => absurd q hc) (fun _ => k rfl _ hl)
    · cases hs
  | if_icmp cd off =>
    simp only [am_s] at hs
    split at hs
    · rename_i y x st1
      cases cd <;> simp only at hs <;> obtain ⟨t, ht, (⟨hc, hr⟩ | ⟨hc, hr⟩)⟩ := am_br_some hs <;> simp only [Prod.mk.injEq] at hr <;> obtain ⟨rfl, rfl, rfl, rfl⟩ := hr
      · exact lv_icmp_eq hx hb hd ht (fun _ => k rfl _ hl) (fun q => absurd hc q)
      · exact lv_icmp_eq hx hb hd ht (fun q => absurd q hc) (fun _ => k rfl _ hl)
      · exact lv_icmp_ne hx hb hd ht (fun _ => k rfl _ hl) (fun q => absurd q hc)
      · exact lv_icmp_ne hx hb hd ht (fun q => absurd q hc) (fun _ => k rfl _ hl)
      · exact lv_icmp_lt hx hb hd ht (fun _ => k rfl _ hl) (fun q => absurd hc q)
      · exact lv_icmp_lt hx hb hd ht (fun q => absurd q hc) (fun _ => k rfl _ hl)
      · exact lv_icmp_ge hx hb hd ht (fun _ => k rfl _ hl) (fun q => absurd hc q)
      · exact lv_icmp_ge hx hb hd ht (fun q => absurd q hc) (fun _ => k rfl _ hl)
      · exact lv_icmp_gt hx hb hd ht (fun _ => k rfl _ hl) (fun q => absurd hc q)
      · exact lv_icmp_gt hx hb hd ht (fun q => absurd q hc) (fun _ => k rfl _ hl)
      · exact lv_icmp_le hx hb hd ht (fun _ => k rfl _ hl) (fun q => absurd hc q)
      · exact lv_icmp_le hx hb hd ht (fun q => absurd q hc) (fun _ => k rfl _ hl)
    · cases hs
  | ifnull off =>
    simp only [am_s] at hs
    split at hs
    · simp only [Option.some.injEq, Prod.mk.injEq] at hs; obtain ⟨rfl, rfl, rfl, rfl⟩ := hs
      exact lv_ifnull hx hb hd (k rfl _ hl)
    · split at hs
      · rename_i t ht
        simp only [Option.some.injEq, Prod.mk.injEq] at hs; obtain ⟨rfl, rfl, rfl, rfl⟩ := hs
        exact lv_ifnullN hx hb hd (am_j_some ht) (k rfl _ hl)
      · cases hs
    · cases hs
  | ifnonnull off =>
    simp only [am_s] at hs
    split at hs
    · simp only [Option.some.injEq, Prod.mk.injEq] at hs; obtain ⟨rfl, rfl, rfl, rfl⟩ := hs
      exact lv_ifnonnullN hx hb hd (k rfl _ hl)
    · split at hs
      · rename_i t ht
        simp only [Option.some.injEq, Prod.mk.injEq] at hs; obtain ⟨rfl, rfl, rfl, rfl⟩ := hs
        exact lv_ifnonnull hx hb hd (am_j_some ht) (k rfl _ hl)
      · cases hs
    · cases hs
  | tableswitch dflt lo hi offs =>
    simp only [am_s] at hs
    split at hs
    · rename_i x st1
      by_cases ho : x.toInt < lo ∨ hi < x.toInt
      · rw [if_pos ho] at hs
        split at hs
        · rename_i t ht
          simp only [Option.some.injEq, Prod.mk.injEq] at hs; obtain ⟨rfl, rfl, rfl, rfl⟩ := hs
          exact lv_tableOut hx hb hd ho (am_j_some ht) (k rfl _ hl)
        · cases hs
      · rw [if_neg ho] at hs
        split at hs
        · rename_i off hoff
          split at hs
          · rename_i t ht
            simp only [Option.some.injEq, Prod.mk.injEq] at hs; obtain ⟨rfl, rfl, rfl, rfl⟩ := hs
            exact lv_tableIn hx hb hd (fun q => ho (Or.inl q)) (fun q => ho (Or.inr q)) hoff (am_j_some ht) (k rfl _ hl)
          · cases hs
        · cases hs
    · cases hs
  | _ => first | exact (False.elim hI) | (simp only [am_s] at hs; cases hs; done) | (simp [am_s] at hs; done)
end AM1
end
