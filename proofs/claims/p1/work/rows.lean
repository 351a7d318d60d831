section
/-! an abstract machine: pair lists for locals, a list of cells for the heap, constants at the addresses below 16 -/
abbrev am_E : Type := (FieldType × vp_A) ⊕ (Nat × List Value)
abbrev am_H : Type := List am_E
/-- what a table says of an instruction -/
abbrev am_X : Type := Nat × Nat × Int
/-- constants: rows of ints at the addresses from 0 on, rows of bytes of the texts from 12 on (the texts themselves from 8 on), a reference or null that is only handed on -/
abbrev am_K : Type := List (List Int32) × List (List Int32) × Value
/-- what a static field holds, by its number -/
def am_sv (cst : am_K) (a : Nat) : Value := if a < 8 then .ref a else if a = 8 then .int 1 else cst.2.2
def am_lowv : Value → Bool
  | .ref k => decide (k < 16)
  | _ => true
/-- texts by class and entry, and links to methods of nest mates -/
abbrev am_SR : Type := List (String × Nat × String × Nat) × List (String × Nat × MethodName × String)
abbrev am_L : Type := List (Nat × Value)
abbrev am_F : Type := Nat × am_L × List Value × am_H
/-- a method: name, bytes, locals, return type, its instructions -/
abbrev am_M : Type := MethodName × ByteArray × Nat × Option FieldType × List (Nat × Instr × am_X)
def am_st1 (i : Nat) (v : Value) (l : am_L) : am_L := (i, v) :: l.filter (fun q => !(q.1 == i) && !(q.1 + 1 == i && q.2.category == 2))
def am_st2 (i : Nat) (v : Value) (l : am_L) : am_L := (i, v) :: l.filter (fun q => !(q.1 == i) && (!(q.1 == i + 1) && !(q.1 + 1 == i && q.2.category == 2)))
def am_ld (i : Nat) : am_L → Option Value
  | [] => none
  | q :: l => if q.1 = i then some q.2 else am_ld i l
def am_j (pc : Nat) (off : Int) : Option Nat := if 0 ≤ (pc : Int) + off then some ((pc : Int) + off).toNat else none
def am_br (b : Prop) [Decidable b] (pc : Nat) (off : Int) (l : am_L) (st : List Value) (h : am_H) : Option am_F :=
  match am_j pc off with
  | none => none
  | some t => if b then some (t, l, st, h) else some (pc + 3, l, st, h)
/-- what a field of a type takes as it is -/
def am_fit : FieldType → Value → Bool
  | .int, .int _ => true
  | .long, .long _ => true
  | .boolean, .int x => x == 0 || x == 1
  | .object _, .null => true
  | .object _, .ref _ => true
  | .array _, .null => true
  | .array _, .ref _ => true
  | _, _ => false
def am_len (X : am_X) : Instr → Nat
  | .bipush _ => 2
  | .iload _ => 2
  | .lload _ => 2
  | .aload _ => 2
  | .istore _ => 2
  | .lstore _ => 2
  | .astore _ => 2
  | .ldc _ => 2
  | .newarray _ => 2
  | .tableswitch .. => X.1
  | .sipush _ => 3
  | .ldc_w _ => 3
  | .ldc2_w _ => 3
  | .getfield _ => 3
  | .putfield _ => 3
  | .getstatic _ => 3
  | .invokevirtual _ => 3
  | .invokespecial _ => 3
  | .invokestatic _ => 3
  | .new _ => 3
  | .anewarray _ => 3
  | .goto _ => 3
  | .ifCond .. => 3
  | .if_icmp .. => 3
  | .ifnull _ => 3
  | .ifnonnull _ => 3
  | .iinc .. => 3
  | _ => 1
/-- the instructions that neither call nor end nor make a cell -/
def am_s (cst : am_K) (cl : List vw_C) (tt : List (List FieldType)) (I : Instr) (X : am_X) (pc : Nat) (l : am_L) (st : List Value) (h : am_H) : Option am_F :=
  match I with
  | .iconst n => some (pc + 1, l, .int (Int32.ofInt n) :: st, h)
  | .bipush n => some (pc + 2, l, .int (Int8.ofInt n).toInt32 :: st, h)
  | .sipush n => some (pc + 3, l, .int (Int16.ofInt n).toInt32 :: st, h)
  | .lconst n => some (pc + 1, l, .long (Int64.ofNat (n : Nat)) :: st, h)
  | .aconst_null => some (pc + 1, l, .null :: st, h)
  | .ldc _ => if X.1 = 0 then some (pc + 2, l, .int (Int32.ofInt X.2.2) :: st, h) else if X.2.1 < 16 then some (pc + 2, l, .ref X.2.1 :: st, h) else none
  | .ldc_w _ => if X.1 = 0 then some (pc + 3, l, .int (Int32.ofInt X.2.2) :: st, h) else if X.2.1 < 16 then some (pc + 3, l, .ref X.2.1 :: st, h) else none
  | .ldc2_w _ => some (pc + 3, l, .long (Int64.ofInt X.2.2) :: st, h)
  | .getstatic _ => if am_lowv (am_sv cst X.2.1) = true then some (pc + 3, l, am_sv cst X.2.1 :: st, h) else none
  | .iload i => match am_ld i l with
    | some (.int x) => some (pc + 2, l, .int x :: st, h)
    | _ => none
  | .iload_n i => match am_ld i l with
    | some (.int x) => some (pc + 1, l, .int x :: st, h)
    | _ => none
  | .lload i => match am_ld i l with
    | some (.long x) => some (pc + 2, l, .long x :: st, h)
    | _ => none
  | .lload_n i => match am_ld i l with
    | some (.long x) => some (pc + 1, l, .long x :: st, h)
    | _ => none
  | .aload i => match am_ld i l with
    | some (.ref x) => some (pc + 2, l, .ref x :: st, h)
    | some .null => some (pc + 2, l, .null :: st, h)
    | _ => none
  | .aload_n i => match am_ld i l with
    | some (.ref x) => some (pc + 1, l, .ref x :: st, h)
    | some .null => some (pc + 1, l, .null :: st, h)
    | _ => none
  | .istore i => match st with
    | .int x :: st => some (pc + 2, am_st1 i (.int x) l, st, h)
    | _ => none
  | .istore_n i => match st with
    | .int x :: st => some (pc + 1, am_st1 i (.int x) l, st, h)
    | _ => none
  | .lstore i => match st with
    | .long x :: st => some (pc + 2, am_st2 i (.long x) l, st, h)
    | _ => none
  | .lstore_n i => match st with
    | .long x :: st => some (pc + 1, am_st2 i (.long x) l, st, h)
    | _ => none
  | .astore i => match st with
    | .ref x :: st => some (pc + 2, am_st1 i (.ref x) l, st, h)
    | .null :: st => some (pc + 2, am_st1 i .null l, st, h)
    | _ => none
  | .astore_n i => match st with
    | .ref x :: st => some (pc + 1, am_st1 i (.ref x) l, st, h)
    | .null :: st => some (pc + 1, am_st1 i .null l, st, h)
    | _ => none
  | .iinc i n => match am_ld i l with
    | some (.int x) => some (pc + 3, am_st1 i (.int (x + Int32.ofInt n)) l, st, h)
    | _ => none
  | .iadd => match st with
    | .int y :: .int x :: st => some (pc + 1, l, .int (x + y) :: st, h)
    | _ => none
  | .isub => match st with
    | .int y :: .int x :: st => some (pc + 1, l, .int (x - y) :: st, h)
    | _ => none
  | .imul => match st with
    | .int y :: .int x :: st => some (pc + 1, l, .int (x * y) :: st, h)
    | _ => none
  | .idiv => match st with
    | .int y :: .int x :: st => if y = 0 then none else some (pc + 1, l, .int (x / y) :: st, h)
    | _ => none
  | .irem => match st with
    | .int y :: .int x :: st => if y = 0 then none else some (pc + 1, l, .int (x - x / y * y) :: st, h)
    | _ => none
  | .iand => match st with
    | .int y :: .int x :: st => some (pc + 1, l, .int (x &&& y) :: st, h)
    | _ => none
  | .ior => match st with
    | .int y :: .int x :: st => some (pc + 1, l, .int (x ||| y) :: st, h)
    | _ => none
  | .ixor => match st with
    | .int y :: .int x :: st => some (pc + 1, l, .int (x ^^^ y) :: st, h)
    | _ => none
  | .ishl => match st with
    | .int y :: .int x :: st => some (pc + 1, l, .int (x <<< (y &&& 31)) :: st, h)
    | _ => none
  | .ishr => match st with
    | .int y :: .int x :: st => some (pc + 1, l, .int (x >>> (y &&& 31)) :: st, h)
    | _ => none
  | .iushr => match st with
    | .int y :: .int x :: st => some (pc + 1, l, .int ((x.toUInt32 >>> (y.toUInt32 &&& Int32.toUInt32 31)).toInt32) :: st, h)
    | _ => none
  | .ladd => match st with
    | .long y :: .long x :: st => some (pc + 1, l, .long (x + y) :: st, h)
    | _ => none
  | .lsub => match st with
    | .long y :: .long x :: st => some (pc + 1, l, .long (x - y) :: st, h)
    | _ => none
  | .lmul => match st with
    | .long y :: .long x :: st => some (pc + 1, l, .long (x * y) :: st, h)
    | _ => none
  | .lcmp => match st with
    | .long y :: .long x :: st => some (pc + 1, l, .int (lg_cmp x y) :: st, h)
    | _ => none
  | .i2l => match st with
    | .int x :: st => some (pc + 1, l, .long x.toInt64 :: st, h)
    | _ => none
  | .l2i => match st with
    | .long x :: st => some (pc + 1, l, .int x.toInt32 :: st, h)
    | _ => none
  | .i2c => match st with
    | .int x :: st => some (pc + 1, l, .int (x.toUInt32 % 65536).toInt32 :: st, h)
    | _ => none
  | .i2b => match st with
    | .int x :: st => some (pc + 1, l, .int x.toInt8.toInt32 :: st, h)
    | _ => none
  | .pop => match st with
    | v :: st => if v.category = 1 then some (pc + 1, l, st, h) else none
    | _ => none
  | .dup => match st with
    | v :: st => if v.category = 1 then some (pc + 1, l, v :: v :: st, h) else none
    | _ => none
  | .dup2 => match st with
    | v :: w :: st => if v.category = 1 ∧ w.category = 1 then some (pc + 1, l, v :: w :: v :: w :: st, h) else none
    | _ => none
  | .goto off => match am_j pc off with
    | some t => some (t, l, st, h)
    | none => none
  | .ifCond c off => match st with
    | .int x :: st => match c with
      | .eq => am_br (x = 0) pc off l st h
      | .ne => am_br (¬ x = 0) pc off l st h
      | .lt => am_br (x < 0) pc off l st h
      | .ge => am_br (0 ≤ x) pc off l st h
      | .gt => am_br (0 < x) pc off l st h
      | .le => am_br (x ≤ 0) pc off l st h
    | _ => none
  | .if_icmp c off => match st with
    | .int y :: .int x :: st => match c with
      | .eq => am_br (x = y) pc off l st h
      | .ne => am_br (¬ x = y) pc off l st h
      | .lt => am_br (x < y) pc off l st h
      | .ge => am_br (y ≤ x) pc off l st h
      | .gt => am_br (y < x) pc off l st h
      | .le => am_br (x ≤ y) pc off l st h
    | _ => none
  | .ifnull off => match st with
    | .ref _ :: st => some (pc + 3, l, st, h)
    | .null :: st => match am_j pc off with
      | some t => some (t, l, st, h)
      | none => none
    | _ => none
  | .ifnonnull off => match st with
    | .null :: st => some (pc + 3, l, st, h)
    | .ref _ :: st => match am_j pc off with
      | some t => some (t, l, st, h)
      | none => none
    | _ => none
  | .tableswitch dflt lo hi offs => match st with
    | .int x :: st => if x.toInt < lo ∨ hi < x.toInt then (match am_j pc dflt with
        | some t => some (t, l, st, h)
        | none => none) else (match offs[(x.toInt - lo).toNat]? with
        | some off => (match am_j pc off with
          | some t => some (t, l, st, h)
          | none => none)
        | none => none)
    | _ => none
  | .getfield _ => match st with
    | .ref a :: st => if a < 16 then (if 8 ≤ a ∧ a < 12 ∧ a - 8 < cst.2.1.length then (if X.2.2 = 1 then some (pc + 3, l, .ref (a + 4) :: st, h) else if X.2.2 = 2 then some (pc + 3, l, .int 0 :: st, h) else none) else none) else match h[a - 16]? with
      | some (.inr (ci, fs)) => if ci = X.1 ∧ X.2.2 = 0 then (match fs[X.2.1]? with
        | some v => some (pc + 3, l, v :: st, h)
        | none => none) else none
      | _ => none
    | _ => none
  | .putfield _ => match st with
    | v :: .ref a :: st => if a < 16 then none else match h[a - 16]? with
      | some (.inr (ci, fs)) => if ci = X.1 ∧ X.2.1 < fs.length then (match (tt.getD ci []).getD X.2.1 .char with
        | ty => if am_fit ty v = true then some (pc + 3, l, st, h.set (a - 16) (.inr (ci, fs.set X.2.1 v))) else none) else none
      | _ => none
    | _ => none
  | .arraylength => match st with
    | .ref a :: st => if a < 16 then (match (if 12 ≤ a then cst.2.1[a - 12]? else cst.1[a]?) with
      | some L => some (pc + 1, l, .int (Int32.ofNat L.length) :: st, h)
      | none => none) else match h[a - 16]? with
      | some (.inl (_, n, _)) => some (pc + 1, l, .int (Int32.ofNat n) :: st, h)
      | _ => none
    | _ => none
  | .iaload => match st with
    | .int i :: .ref a :: st => if a < 16 then (match cst.1[a]? with
      | some L => if i < 0 ∨ L.length ≤ i.toNatClampNeg then none else some (pc + 1, l, .int (L.getD i.toNatClampNeg 0) :: st, h)
      | none => none) else match h[a - 16]? with
      | some (.inl (.int, n, .inl f)) => if i < 0 ∨ n ≤ i.toNatClampNeg then none else some (pc + 1, l, .int (f i.toNatClampNeg) :: st, h)
      | _ => none
    | _ => none
  | .laload => match st with
    | .int i :: .ref a :: st => if a < 16 then none else match h[a - 16]? with
      | some (.inl (.long, n, .inr (.inl f))) => if i < 0 ∨ n ≤ i.toNatClampNeg then none else some (pc + 1, l, .long (f i.toNatClampNeg) :: st, h)
      | _ => none
    | _ => none
  | .baload => match st with
    | .int i :: .ref a :: st => if a < 16 then (if 12 ≤ a then (match cst.2.1[a - 12]? with
      | some L => if i < 0 ∨ L.length ≤ i.toNatClampNeg then none else some (pc + 1, l, .int (L.getD i.toNatClampNeg 0) :: st, h)
      | none => none) else none) else match h[a - 16]? with
      | some (.inl (.byte, n, .inl f)) => if i < 0 ∨ n ≤ i.toNatClampNeg then none else some (pc + 1, l, .int (f i.toNatClampNeg) :: st, h)
      | some (.inl (.boolean, n, .inl f)) => if i < 0 ∨ n ≤ i.toNatClampNeg then none else some (pc + 1, l, .int (f i.toNatClampNeg) :: st, h)
      | _ => none
    | _ => none
  | .aaload => match st with
    | .int i :: .ref a :: st => if a < 16 then none else match h[a - 16]? with
      | some (.inl (.object _, n, .inr (.inr (.inr (.inr f))))) => if i < 0 ∨ n ≤ i.toNatClampNeg then none else some (pc + 1, l, va_rf (f i.toNatClampNeg) :: st, h)
      | _ => none
    | _ => none
  | .iastore => match st with
    | .int x :: .int i :: .ref a :: st => if a < 16 then none else match h[a - 16]? with
      | some (.inl (.int, n, .inl f)) => if i < 0 ∨ n ≤ i.toNatClampNeg then none else some (pc + 1, l, st, h.set (a - 16) (.inl (.int, n, .inl (upd f i.toNatClampNeg x))))
      | _ => none
    | _ => none
  | .lastore => match st with
    | .long x :: .int i :: .ref a :: st => if a < 16 then none else match h[a - 16]? with
      | some (.inl (.long, n, .inr (.inl f))) => if i < 0 ∨ n ≤ i.toNatClampNeg then none else some (pc + 1, l, st, h.set (a - 16) (.inl (.long, n, .inr (.inl (vp_updL f i.toNatClampNeg x)))))
      | _ => none
    | _ => none
  | .bastore => match st with
    | .int x :: .int i :: .ref a :: st => if a < 16 then none else match h[a - 16]? with
      | some (.inl (.byte, n, .inl f)) => if i < 0 ∨ n ≤ i.toNatClampNeg then none else some (pc + 1, l, st, h.set (a - 16) (.inl (.byte, n, .inl (upd f i.toNatClampNeg (vp_nar .byte x)))))
      | some (.inl (.boolean, n, .inl f)) => if i < 0 ∨ n ≤ i.toNatClampNeg then none else some (pc + 1, l, st, h.set (a - 16) (.inl (.boolean, n, .inl (upd f i.toNatClampNeg (vp_nar .boolean x)))))
      | _ => none
    | _ => none
  | .aastore => match st with
    | .ref v :: .int i :: .ref a :: st => if a < 16 then none else match h[a - 16]? with
      | some (.inl (.object C, n, .inr (.inr (.inr (.inr f))))) => if i < 0 ∨ n ≤ i.toNatClampNeg then none else (if v < 16 then none else match h[v - 16]? with
        | some (.inr (ci, _)) => (match cl[ci]? with
          | some r => if C = r.1 then some (pc + 1, l, st, h.set (a - 16) (.inl (.object C, n, .inr (.inr (.inr (.inr (va_up f i.toNatClampNeg (some v)))))))) else none
          | none => none)
        | _ => none)
      | _ => none
    | _ => none
  | _ => none
end
section
/-! the abstract machine beside the Java machine: addresses, values, cells, what a table must say -/
def am_ad (kd : Nat → Nat) (base k : Nat) : Nat := if k < 16 then kd k else base + (k - 16)
def am_v (f : Nat → Nat) : Value → Value
  | .ref k => .ref (f k)
  | v => v
def am_e (f : Nat → Nat) (ca : FieldType → ClassId) : am_E → va_E
  | .inl (ty, n, .inl g) => .inl (ca ty, n, .inl g)
  | .inl (ty, n, .inr (.inl g)) => .inl (ca ty, n, .inr (.inl g))
  | .inl (ty, n, .inr (.inr (.inl g))) => .inl (ca ty, n, .inr (.inr (.inl g)))
  | .inl (ty, n, .inr (.inr (.inr (.inl g)))) => .inl (ca ty, n, .inr (.inr (.inr (.inl g))))
  | .inl (ty, n, .inr (.inr (.inr (.inr g)))) => .inl (ca ty, n, .inr (.inr (.inr (.inr (fun j => (g j).map f)))))
  | .inr (ci, fs) => .inr (ci, fs.map (am_v f))
def am_R (D : va_G) (cl : List vw_C) (tys : List FieldType) (f : Nat → Nat) (ca : FieldType → ClassId) (base : Nat) (h : am_H) (H : Heap) : Prop :=
  (∀ (i : Nat) (e : am_E), h[i]? = some e → va_at D cl (base + i, am_e f ca e) H) ∧ H.size = base + h.length ∧ ∀ (i : Nat) (ty : FieldType) (a : vp_A), h[i]? = some (.inl (ty, a)) → ty ∈ tys
def am_lc (f : Nat → Nat) (l : am_L) : am_L := l.map (fun q => (q.1, am_v f q.2))
theorem am_v_cat (f : Nat → Nat) (v : Value) : (am_v f v).category = v.category := by cases v <;> rfl
theorem am_ld_mem {i : Nat} {v : Value} : ∀ {l : am_L}, am_ld i l = some v → (i, v) ∈ l
  | [], h => by simp [am_ld] at h
  | q :: l, h => by
    unfold am_ld at h
    by_cases hq : q.1 = i
    · rw [if_pos hq] at h
      cases h
      subst hq
      exact List.mem_cons_self
    · rw [if_neg hq] at h
      exact List.mem_cons_of_mem _ (am_ld_mem h)
theorem am_ld_at {ls : Array Slot} {nL : Nat} {f : Nat → Nat} {l : am_L} {i : Nat} {v : Value} (hl : lv_has ls nL (am_lc f l)) (h : am_ld i l = some v) : ls[i]? = some (.val (am_v f v)) :=
  hl.2.2 (i, am_v f v) (List.mem_map.mpr ⟨(i, v), am_ld_mem h, rfl⟩)
theorem am_st1_lc (f : Nat → Nat) (i : Nat) (v : Value) (l : am_L) : am_lc f (am_st1 i v l) = (i, am_v f v) :: (am_lc f l).filter (fun q => !(q.1 == i) && !(q.1 + 1 == i && q.2.category == 2)) := by
  unfold am_st1 am_lc
  rw [List.map_cons, List.filter_map]
  congr 2
  apply List.filter_congr
  intro q _
  simp only [Function.comp, am_v_cat]
theorem am_st2_lc (f : Nat → Nat) (i : Nat) (v : Value) (l : am_L) : am_lc f (am_st2 i v l) = (i, am_v f v) :: (am_lc f l).filter (fun q => !(q.1 == i) && (!(q.1 == i + 1) && !(q.1 + 1 == i && q.2.category == 2))) := by
  unfold am_st2 am_lc
  rw [List.map_cons, List.filter_map]
  congr 2
  apply List.filter_congr
  intro q _
  simp only [Function.comp, am_v_cat]
theorem am_j_some {pc t : Nat} {off : Int} (h : am_j pc off = some t) : (pc : Int) + off = (t : Int) := by
  unfold am_j at h
  by_cases hp : 0 ≤ (pc : Int) + off
  · rw [if_pos hp] at h
    cases h
    omega
  · rw [if_neg hp] at h
    cases h
theorem am_br_some {b : Prop} [Decidable b] {pc : Nat} {off : Int} {l : am_L} {st : List Value} {h : am_H} {r : am_F} (hs : am_br b pc off l st h = some r) :
    ∃ t : Nat, (pc : Int) + off = (t : Int) ∧ ((b ∧ r = (t, l, st, h)) ∨ (¬ b ∧ r = (pc + 3, l, st, h))) := by
  unfold am_br at hs
  cases hj : am_j pc off with
  | none => rw [hj] at hs; cases hs
  | some t =>
    rw [hj] at hs
    refine ⟨t, am_j_some hj, ?_⟩
    by_cases hb : b
    · simp only [if_pos hb] at hs
      cases hs
      exact Or.inl ⟨hb, rfl⟩
    · simp only [if_neg hb] at hs
      cases hs
      exact Or.inr ⟨hb, rfl⟩
section AM0
variable {D : va_G} {cl : List vw_C} {tys : List FieldType} {kd : Nat → Nat} {ca : FieldType → ClassId} {base : Nat} {h : am_H} {H H1 : Heap} {a : Nat} {e e' : am_E}
theorem am_ad_hi (ha : ¬ a < 16) : am_ad kd base a = base + (a - 16) := by unfold am_ad; rw [if_neg ha]
theorem am_R.at (hR : am_R D cl tys (am_ad kd base) ca base h H) (ha : ¬ a < 16) (he : h[a - 16]? = some e) : va_at D cl (am_ad kd base a, am_e (am_ad kd base) ca e) H := by
  rw [am_ad_hi ha]; exact hR.1 _ _ he
theorem am_R.P (hR : am_R D cl tys (am_ad kd base) ca base h H) (ha : ¬ a < 16) (he : h[a - 16]? = some e) : va_P D cl [(am_ad kd base a, am_e (am_ad kd base) ca e)] H := by
  intro k q hk
  have hz : k < 1 := (List.getElem?_eq_some_iff.mp hk).1
  rw [show k = 0 by omega] at hk
  cases hk
  exact hR.at ha he
theorem am_R.set (hR : am_R D cl tys (am_ad kd base) ca base h H) (ha : ¬ a < 16) (he : h[a - 16]? = some e) (hs : H1.size = H.size) (ho : ∀ q, q ≠ am_ad kd base a → H1[q]? = H[q]?)
    (h1 : va_at D cl (am_ad kd base a, am_e (am_ad kd base) ca e') H1) (ht : ∀ ty x, e' = .inl (ty, x) → ty ∈ tys) : am_R D cl tys (am_ad kd base) ca base (h.set (a - 16) e') H1 := by
  have hl : a - 16 < h.length := (List.getElem?_eq_some_iff.mp he).1
  rw [am_ad_hi ha] at ho h1
  refine ⟨fun i x hx => ?_, by rw [hs, List.length_set]; exact hR.2.1, fun i ty x hx => ?_⟩
  · by_cases hi : i = a - 16
    · subst hi
      rw [List.getElem?_set_self hl] at hx
      cases hx
      exact h1
    · rw [List.getElem?_set_ne (Ne.symm hi)] at hx
      exact (hR.1 i x hx).kept (ho _ (by show base + i ≠ _; omega))
  · by_cases hi : i = a - 16
    · subst hi
      rw [List.getElem?_set_self hl] at hx
      cases hx
      exact ht _ _ rfl
    · rw [List.getElem?_set_ne (Ne.symm hi)] at hx
      exact hR.2.2 i ty x hx
end AM0
/-- the tables of the classes: their words are there, their fields' types and names as the words have them -/
def am_clok (cl : List vw_C) (tt : List (List FieldType)) (Ts : List Cond) : Prop :=
  ∀ (ci : Nat) (r : vw_C), cl[ci]? = some r → (∀ w ∈ u_ws r.1 r.2.1 r.2.2, w ∈ Ts) ∧ (∀ k, k < r.2.2 → parseFieldDescriptor (r.2.1 k).2.2.1 = some ((tt.getD ci []).getD k .char)) ∧ (∀ a, a < r.2.2 → ∀ b, b < r.2.2 → a ≠ b → (r.2.1 a).2.1 ≠ (r.2.1 b).2.1)
/-- what a table must say of an instruction of a method of a class -/
def am_ok (cl : List vw_C) (Ts : List Cond) (sn : List (Nat × String × String × String)) (sr : am_SR) (own : String) (nL : Nat) (init : Bool) (X : am_X) : Instr → Prop
  | .ldc i => (X.1 = 0 → Cond.constant own i (Int32.ofInt X.2.2) ∈ Ts) ∧ (¬ X.1 = 0 → ∃ tx, (own, i, tx, X.2.1) ∈ sr.1)
  | .ldc_w i => (X.1 = 0 → Cond.constant own i (Int32.ofInt X.2.2) ∈ Ts) ∧ (¬ X.1 = 0 → ∃ tx, (own, i, tx, X.2.1) ∈ sr.1)
  | .ldc2_w i => Cond.constantLong own i (Int64.ofInt X.2.2) ∈ Ts
  | .getstatic i => ∃ C n d, (X.2.1, C, n, d) ∈ sn ∧ (Cond.fieldLink own i C n d ∈ Ts ∨ ∃ host, Cond.fieldLinkNest own i C n d host ∈ Ts)
  | .getfield i => (X.2.2 = 1 → Cond.fieldLink own i "java/lang/String" "value" "[B" ∈ Ts) ∧ (X.2.2 = 2 → Cond.fieldLink own i "java/lang/String" "coder" "B" ∈ Ts) ∧ (X.2.2 = 0 → ∃ r : vw_C, cl[X.1]? = some r ∧ X.2.1 < r.2.2 ∧ (Cond.fieldLink own i (r.2.1 X.2.1).1 (r.2.1 X.2.1).2.1 (r.2.1 X.2.1).2.2.1 ∈ Ts ∨ ∃ host, Cond.fieldLinkNest own i (r.2.1 X.2.1).1 (r.2.1 X.2.1).2.1 (r.2.1 X.2.1).2.2.1 host ∈ Ts))
  | .putfield i => ∃ r : vw_C, cl[X.1]? = some r ∧ X.2.1 < r.2.2 ∧ ((Cond.fieldLink own i (r.2.1 X.2.1).1 (r.2.1 X.2.1).2.1 (r.2.1 X.2.1).2.2.1 ∈ Ts ∧ ((r.2.1 X.2.1).2.2.2 = false ∨ ((r.2.1 X.2.1).2.2.2 = true ∧ init = true ∧ (r.2.1 X.2.1).1 = own))) ∨ ((r.2.1 X.2.1).2.2.2 = false ∧ ∃ host, Cond.fieldLinkNest own i (r.2.1 X.2.1).1 (r.2.1 X.2.1).2.1 (r.2.1 X.2.1).2.2.1 host ∈ Ts))
  | .istore i => i < nL
  | .istore_n i => (i : Nat) < nL
  | .astore i => i < nL
  | .astore_n i => (i : Nat) < nL
  | .lstore i => i + 1 < nL
  | .lstore_n i => (i : Nat) + 1 < nL
  | .iinc i _ => i < nL
  | _ => True
end
section
def am_isP (X : am_X) : Instr → Prop
  | .ldc _ => X.1 = 0
  | .ldc_w _ => X.1 = 0
  | .getstatic _ => False
  | .getfield _ => False
  | .putfield _ => False
  | .arraylength => False
  | .iaload => False
  | .laload => False
  | .baload => False
  | .aaload => False
  | .iastore => False
  | .lastore => False
  | .bastore => False
  | .aastore => False
  | _ => True
section AM1
variable {p : Program} {l0 : Launch} {e : Env} {R : Room} {s : State} {m : MethodId} {args : Array Value} {below : List Frame} {meth : Method} {c : Code} {H : Heap} {locs : List Loc} {cells slots : Nat} {Q : State → Prop}
variable {cc : ByteArray} {pc pc' : Nat} {ls : Array Slot} {f : Nat → Nat} {l l' : am_L} {st st' : List Value} {h h' : am_H} {nL : Nat}
set_option maxHeartbeats 4000000 in
/-- numbers, locals, stack, jumps: nothing of the heap -/
theorem am_pure {cst : am_K} {cl : List vw_C} {tt : List (List FieldType)} {Ts : List Cond} {sn : List (Nat × String × String × String)} {sr : am_SR} {own : String} {init : Bool} {X : am_X} {I : Instr}
    (hx : p.tables.exec = Jvm.exec) (hb : c.code = cc) (hts : ∀ w ∈ Ts, w.before args s = true) (hown : s.vm.findClass own = some m.cls) (hd : decode cc pc = .ok (I, am_len X I)) (hok : am_ok cl Ts sn sr own nL init X I)
    (hl : lv_has ls nL (am_lc f l)) (hs : am_s cst cl tt I X pc l st h = some (pc', l', st', h'))
    (hI : am_isP X I)
    (k : h' = h → ∀ ls' : Array Slot, lv_has ls' nL (am_lc f l') → W p l0 e R s m args below meth c H locs cells slots Q (F0 m pc' ls' (st'.map (am_v f)))) :
    W p l0 e R s m args below meth c H locs cells slots Q (F0 m pc ls (st.map (am_v f))) := by
  cases I with
  | iconst n => simp only [am_s, Option.some.injEq, Prod.mk.injEq] at hs; obtain ⟨rfl, rfl, rfl, rfl⟩ := hs; exact lv_iconst hx hb hd rfl (k rfl _ hl)
  | bipush n => simp only [am_s, Option.some.injEq, Prod.mk.injEq] at hs; obtain ⟨rfl, rfl, rfl, rfl⟩ := hs; exact lv_bipush hx hb hd rfl (k rfl _ hl)
  | sipush n => simp only [am_s, Option.some.injEq, Prod.mk.injEq] at hs; obtain ⟨rfl, rfl, rfl, rfl⟩ := hs; exact lv_sipush hx hb hd rfl (k rfl _ hl)
  | lconst n => simp only [am_s, Option.some.injEq, Prod.mk.injEq] at hs; obtain ⟨rfl, rfl, rfl, rfl⟩ := hs; exact lv_lconst hx hb hd rfl (k rfl _ hl)
  | aconst_null => simp only [am_s, Option.some.injEq, Prod.mk.injEq] at hs; obtain ⟨rfl, rfl, rfl, rfl⟩ := hs; exact lv_null hx hb hd (k rfl _ hl)
  | ldc i =>
    have h0 : X.1 = 0 := hI
    simp only [am_s, if_pos h0, Option.some.injEq, Prod.mk.injEq] at hs; obtain ⟨rfl, rfl, rfl, rfl⟩ := hs
    exact lv_ldc hx hb hown (hts _ (hok.1 h0)) hd (k rfl _ hl)
  | ldc_w i =>
    have h0 : X.1 = 0 := hI
    simp only [am_s, if_pos h0, Option.some.injEq, Prod.mk.injEq] at hs; obtain ⟨rfl, rfl, rfl, rfl⟩ := hs
    exact lv_ldcw hx hb hown (hts _ (hok.1 h0)) hd (k rfl _ hl)
  | ldc2_w i => simp only [am_s, Option.some.injEq, Prod.mk.injEq] at hs; obtain ⟨rfl, rfl, rfl, rfl⟩ := hs; exact lv_ldc2 hx hb hown (hts _ hok) hd (k rfl _ hl)
  | iload i =>
    simp only [am_s] at hs
    split at hs
    · rename_i x hq
      simp only [Option.some.injEq, Prod.mk.injEq] at hs; obtain ⟨rfl, rfl, rfl, rfl⟩ := hs
      exact lv_iload hx hb hd (am_ld_at hl hq) (k rfl _ hl)
    · cases hs
  | iload_n i =>
    simp only [am_s] at hs
    split at hs
    · rename_i x hq
      simp only [Option.some.injEq, Prod.mk.injEq] at hs; obtain ⟨rfl, rfl, rfl, rfl⟩ := hs
      exact lv_iload_n hx hb hd rfl (am_ld_at hl hq) (k rfl _ hl)
    · cases hs
  | lload i =>
    simp only [am_s] at hs
    split at hs
    · rename_i x hq
      simp only [Option.some.injEq, Prod.mk.injEq] at hs; obtain ⟨rfl, rfl, rfl, rfl⟩ := hs
      exact lv_lload hx hb hd (am_ld_at hl hq) (k rfl _ hl)
    · cases hs
  | lload_n i =>
    simp only [am_s] at hs
    split at hs
    · rename_i x hq
      simp only [Option.some.injEq, Prod.mk.injEq] at hs; obtain ⟨rfl, rfl, rfl, rfl⟩ := hs
      exact lv_lload_n hx hb hd rfl (am_ld_at hl hq) (k rfl _ hl)
    · cases hs
  | aload i =>
    simp only [am_s] at hs
    split at hs
    · rename_i x hq
      simp only [Option.some.injEq, Prod.mk.injEq] at hs; obtain ⟨rfl, rfl, rfl, rfl⟩ := hs
      exact lv_aload hx hb hd (am_ld_at hl hq) (k rfl _ hl)
    · rename_i hq
      simp only [Option.some.injEq, Prod.mk.injEq] at hs; obtain ⟨rfl, rfl, rfl, rfl⟩ := hs
      exact lv_aloadN hx hb hd (am_ld_at hl hq) (k rfl _ hl)
    · cases hs
  | aload_n i =>
    simp only [am_s] at hs
    split at hs
    · rename_i x hq
      simp only [Option.some.injEq, Prod.mk.injEq] at hs; obtain ⟨rfl, rfl, rfl, rfl⟩ := hs
      exact lv_aload_n hx hb hd rfl (am_ld_at hl hq) (k rfl _ hl)
    · rename_i hq
      simp only [Option.some.injEq, Prod.mk.injEq] at hs; obtain ⟨rfl, rfl, rfl, rfl⟩ := hs
      exact lv_aload_nN hx hb hd rfl (am_ld_at hl hq) (k rfl _ hl)
    · cases hs
  | istore i =>
    simp only [am_s] at hs
    split at hs
    · simp only [Option.some.injEq, Prod.mk.injEq] at hs; obtain ⟨rfl, rfl, rfl, rfl⟩ := hs
      exact lv_istore hx hb hd hl hok (am_st1_lc f _ (Value.int _) _).symm (fun ls' hl' => k rfl ls' hl')
    · cases hs
  | istore_n i =>
    simp only [am_s] at hs
    split at hs
    · simp only [Option.some.injEq, Prod.mk.injEq] at hs; obtain ⟨rfl, rfl, rfl, rfl⟩ := hs
      exact lv_istore_n hx hb hd rfl hl hok (am_st1_lc f _ (Value.int _) _).symm (fun ls' hl' => k rfl ls' hl')
    · cases hs
  | lstore i =>
    simp only [am_s] at hs
    split at hs
    · simp only [Option.some.injEq, Prod.mk.injEq] at hs; obtain ⟨rfl, rfl, rfl, rfl⟩ := hs
      exact lv_lstore hx hb hd hl hok (am_st2_lc f _ (Value.long _) _).symm (fun ls' hl' => k rfl ls' hl')
    · cases hs
  | lstore_n i =>
    simp only [am_s] at hs
    split at hs
    · simp only [Option.some.injEq, Prod.mk.injEq] at hs; obtain ⟨rfl, rfl, rfl, rfl⟩ := hs
      exact lv_lstore_n hx hb hd rfl hl hok (am_st2_lc f _ (Value.long _) _).symm (fun ls' hl' => k rfl ls' hl')
    · cases hs
  | astore i =>
    simp only [am_s] at hs
    split at hs
    · simp only [Option.some.injEq, Prod.mk.injEq] at hs; obtain ⟨rfl, rfl, rfl, rfl⟩ := hs
      exact lv_astore hx hb hd hl hok (am_st1_lc f _ (Value.ref _) _).symm (fun ls' hl' => k rfl ls' hl')
    · simp only [Option.some.injEq, Prod.mk.injEq] at hs; obtain ⟨rfl, rfl, rfl, rfl⟩ := hs
      exact lv_astoreN hx hb hd hl hok (am_st1_lc f _ Value.null _).symm (fun ls' hl' => k rfl ls' hl')
    · cases hs
  | astore_n i =>
    simp only [am_s] at hs
    split at hs
    · simp only [Option.some.injEq, Prod.mk.injEq] at hs; obtain ⟨rfl, rfl, rfl, rfl⟩ := hs
      exact lv_astore_n hx hb hd rfl hl hok (am_st1_lc f _ (Value.ref _) _).symm (fun ls' hl' => k rfl ls' hl')
    · simp only [Option.some.injEq, Prod.mk.injEq] at hs; obtain ⟨rfl, rfl, rfl, rfl⟩ := hs
      exact lv_astore_nN hx hb hd rfl hl hok (am_st1_lc f _ Value.null _).symm (fun ls' hl' => k rfl ls' hl')
    · cases hs
  | iinc i n =>
    simp only [am_s] at hs
    split at hs
    · rename_i x hq
      simp only [Option.some.injEq, Prod.mk.injEq] at hs; obtain ⟨rfl, rfl, rfl, rfl⟩ := hs
      obtain ⟨j, hj⟩ := List.getElem?_of_mem (List.mem_map.mpr ⟨(i, Value.int x), am_ld_mem hq, rfl⟩ : ((i, am_v f (Value.int x)) : Nat × Value) ∈ am_lc f l)
      exact lv_iinc hx hb hd hl hj rfl hok (am_st1_lc f _ (Value.int _) _).symm (fun ls' hl' => k rfl ls' hl')
    · cases hs
  | iadd =>
    simp only [am_s] at hs
    split at hs
    · simp only [Option.some.injEq, Prod.mk.injEq] at hs; obtain ⟨rfl, rfl, rfl, rfl⟩ := hs; exact lv_iadd hx hb hd (k rfl _ hl)
    · cases hs
  | isub =>
    simp only [am_s] at hs
    split at hs
    · simp only [Option.some.injEq, Prod.mk.injEq] at hs; obtain ⟨rfl, rfl, rfl, rfl⟩ := hs; exact lv_isub hx hb hd (k rfl _ hl)
    · cases hs
  | imul =>
    simp only [am_s] at hs
    split at hs
    · simp only [Option.some.injEq, Prod.mk.injEq] at hs; obtain ⟨rfl, rfl, rfl, rfl⟩ := hs; exact lv_imul hx hb hd (k rfl _ hl)
    · cases hs
  | iand =>
    simp only [am_s] at hs
    split at hs
    · simp only [Option.some.injEq, Prod.mk.injEq] at hs; obtain ⟨rfl, rfl, rfl, rfl⟩ := hs; exact lv_iand hx hb hd (k rfl _ hl)
    · cases hs
  | ior =>
    simp only [am_s] at hs
    split at hs
    · simp only [Option.some.injEq, Prod.mk.injEq] at hs; obtain ⟨rfl, rfl, rfl, rfl⟩ := hs; exact lv_ior hx hb hd (k rfl _ hl)
    · cases hs
  | ixor =>
    simp only [am_s] at hs
    split at hs
    · simp only [Option.some.injEq, Prod.mk.injEq] at hs; obtain ⟨rfl, rfl, rfl, rfl⟩ := hs; exact lv_ixor hx hb hd (k rfl _ hl)
    · cases hs
  | ishl =>
    simp only [am_s] at hs
    split at hs
    · simp only [Option.some.injEq, Prod.mk.injEq] at hs; obtain ⟨rfl, rfl, rfl, rfl⟩ := hs; exact lv_ishl hx hb hd (k rfl _ hl)
    · cases hs
  | ishr =>
    simp only [am_s] at hs
    split at hs
    · simp only [Option.some.injEq, Prod.mk.injEq] at hs; obtain ⟨rfl, rfl, rfl, rfl⟩ := hs; exact lv_ishr hx hb hd (k rfl _ hl)
    · cases hs
  | iushr =>
    simp only [am_s] at hs
    split at hs
    · simp only [Option.some.injEq, Prod.mk.injEq] at hs; obtain ⟨rfl, rfl, rfl, rfl⟩ := hs; exact lv_iushr hx hb hd rfl (k rfl _ hl)
    · cases hs
  | ladd =>
    simp only [am_s] at hs
    split at hs
    · simp only [Option.some.injEq, Prod.mk.injEq] at hs; obtain ⟨rfl, rfl, rfl, rfl⟩ := hs; exact lv_ladd hx hb hd (k rfl _ hl)
    · cases hs
  | lsub =>
    simp only [am_s] at hs
    split at hs
    · simp only [Option.some.injEq, Prod.mk.injEq] at hs; obtain ⟨rfl, rfl, rfl, rfl⟩ := hs; exact lv_lsub hx hb hd (k rfl _ hl)
    · cases hs
  | lmul =>
    simp only [am_s] at hs
    split at hs
    · simp only [Option.some.injEq, Prod.mk.injEq] at hs; obtain ⟨rfl, rfl, rfl, rfl⟩ := hs; exact lv_lmul hx hb hd (k rfl _ hl)
    · cases hs
  | lcmp =>
    simp only [am_s] at hs
    split at hs
    · simp only [Option.some.injEq, Prod.mk.injEq] at hs; obtain ⟨rfl, rfl, rfl, rfl⟩ := hs; exact W.lcmp hx hb hd (k rfl _ hl)
    · cases hs
  | i2l =>
    simp only [am_s] at hs
    split at hs
    · simp only [Option.some.injEq, Prod.mk.injEq] at hs; obtain ⟨rfl, rfl, rfl, rfl⟩ := hs; exact lv_i2l hx hb hd rfl (k rfl _ hl)
    · cases hs
  | l2i =>
    simp only [am_s] at hs
    split at hs
    · simp only [Option.some.injEq, Prod.mk.injEq] at hs; obtain ⟨rfl, rfl, rfl, rfl⟩ := hs; exact lv_l2i hx hb hd rfl (k rfl _ hl)
    · cases hs
  | i2c =>
    simp only [am_s] at hs
    split at hs
    · simp only [Option.some.injEq, Prod.mk.injEq] at hs; obtain ⟨rfl, rfl, rfl, rfl⟩ := hs; exact lv_i2c hx hb hd rfl (k rfl _ hl)
    · cases hs
  | i2b =>
    simp only [am_s] at hs
    split at hs
    · simp only [Option.some.injEq, Prod.mk.injEq] at hs; obtain ⟨rfl, rfl, rfl, rfl⟩ := hs; exact lv_i2b hx hb hd rfl (k rfl _ hl)
    · cases hs
  | idiv =>
    simp only [am_s] at hs
    split at hs
    · rename_i y x st1
      by_cases h0 : y = 0
      · rw [if_pos h0] at hs; cases hs
      · rw [if_neg h0] at hs
        simp only [Option.some.injEq, Prod.mk.injEq] at hs; obtain ⟨rfl, rfl, rfl, rfl⟩ := hs
        exact lv_idiv hx hb hd h0 (k rfl _ hl)
    · cases hs
  | irem =>
    simp only [am_s] at hs
    split at hs
    · rename_i y x st1
      by_cases h0 : y = 0
      · rw [if_pos h0] at hs; cases hs
      · rw [if_neg h0] at hs
        simp only [Option.some.injEq, Prod.mk.injEq] at hs; obtain ⟨rfl, rfl, rfl, rfl⟩ := hs
        exact lv_irem hx hb hd h0 (k rfl _ hl)
    · cases hs
  | pop =>
    simp only [am_s] at hs
    split at hs
    · rename_i v st1
      by_cases h0 : v.category = 1
      · rw [if_pos h0] at hs
        simp only [Option.some.injEq, Prod.mk.injEq] at hs; obtain ⟨rfl, rfl, rfl, rfl⟩ := hs
        exact lv_pop hx hb hd (by rw [am_v_cat]; exact h0) (k rfl _ hl)
      · rw [if_neg h0] at hs; cases hs
    · cases hs
  | dup =>
    simp only [am_s] at hs
    split at hs
    · rename_i v st1
      by_cases h0 : v.category = 1
      · rw [if_pos h0] at hs
        simp only [Option.some.injEq, Prod.mk.injEq] at hs; obtain ⟨rfl, rfl, rfl, rfl⟩ := hs
        exact lv_dup hx hb hd (by rw [am_v_cat]; exact h0) (k rfl _ hl)
      · rw [if_neg h0] at hs; cases hs
    · cases hs
  | dup2 =>
    simp only [am_s] at hs
    split at hs
    · rename_i v w st1
      by_cases h0 : v.category = 1 ∧ w.category = 1
      · rw [if_pos h0] at hs
        simp only [Option.some.injEq, Prod.mk.injEq] at hs; obtain ⟨rfl, rfl, rfl, rfl⟩ := hs
        exact lv_dup2_11 hx hb hd (by rw [am_v_cat]; exact h0.1) (by rw [am_v_cat]; exact h0.2) (k rfl _ hl)
      · rw [if_neg h0] at hs; cases hs
    · cases hs
  | goto off =>
    simp only [am_s] at hs
    split at hs
    · rename_i t ht
      simp only [Option.some.injEq, Prod.mk.injEq] at hs; obtain ⟨rfl, rfl, rfl, rfl⟩ := hs
      exact lv_goto hx hb hd (am_j_some ht) (k rfl _ hl)
    · cases hs
  | ifCond cd off =>
    simp only [am_s] at hs
    split at hs
    · rename_i x st1
      cases cd <;> simp only at hs <;> obtain ⟨t, ht, (⟨hc, hr⟩ | ⟨hc, hr⟩)⟩ := am_br_some hs <;> simp only [Prod.mk.injEq] at hr <;> obtain ⟨rfl, rfl, rfl, rfl⟩ := hr
      · exact lv_if_eq hx hb hd ht (fun _ => k rfl _ hl) (fun q => absurd hc q)
      · exact lv_if_eq hx hb hd ht (fun q => absurd q hc) (fun _ => k rfl _ hl)
      · exact lv_if_ne hx hb hd ht (fun _ => k rfl _ hl) (fun q => absurd q hc)
      · exact lv_if_ne hx hb hd ht (fun q => absurd q hc) (fun _ => k rfl _ hl)
      · exact lv_if_lt hx hb hd ht (fun _ => k rfl _ hl) (fun q => absurd hc q)
      · exact lv_if_lt hx hb hd ht (fun q => absurd q hc) (fun _ => k rfl _ hl)
      · exact lv_if_ge hx hb hd ht (fun _ => k rfl _ hl) (fun q => absurd hc q)
      · exact lv_if_ge hx hb hd ht (fun q => absurd q hc) (fun _ => k rfl _ hl)
      · exact lv_if_gt hx hb hd ht (fun _ => k rfl _ hl) (fun q => absurd hc q)
      · exact lv_if_gt hx hb hd ht (fun q => absurd q hc) (fun _ => k rfl _ hl)
      · exact lv_if_le hx hb hd ht (fun _ => k rfl _ hl) (fun q => absurd hc q)
      · exact lv_if_le hx hb hd ht (fun q => absurd q hc) (fun _ => k rfl _ hl)
    · cases hs
  | if_icmp cd off =>
    simp only [am_s] at hs
    split at hs
    · rename_i y x st1
      cases cd <;> simp only at hs <;> obtain ⟨t, ht, (⟨hc, hr⟩ | ⟨hc, hr⟩)⟩ := am_br_some hs <;> simp only [Prod.mk.injEq] at hr <;> obtain ⟨rfl, rfl, rfl, rfl⟩ := hr
      · exact lv_icmp_eq hx hb hd ht (fun _ => k rfl _ hl) (fun q => absurd hc q)
      · exact lv_icmp_eq hx hb hd ht (fun q => absurd q hc) (fun _ => k rfl _ hl)
      · exact lv_icmp_ne hx hb hd ht (fun _ => k rfl _ hl) (fun q => absurd q hc)
      · exact lv_icmp_ne hx hb hd ht (fun q => absurd q hc) (fun _ => k rfl _ hl)
      · exact lv_icmp_lt hx hb hd ht (fun _ => k rfl _ hl) (fun q => absurd hc q)
      · exact lv_icmp_lt hx hb hd ht (fun q => absurd q hc) (fun _ => k rfl _ hl)
      · exact lv_icmp_ge hx hb hd ht (fun _ => k rfl _ hl) (fun q => absurd hc q)
      · exact lv_icmp_ge hx hb hd ht (fun q => absurd q hc) (fun _ => k rfl _ hl)
      · exact lv_icmp_gt hx hb hd ht (fun _ => k rfl _ hl) (fun q => absurd hc q)
      · exact lv_icmp_gt hx hb hd ht (fun q => absurd q hc) (fun _ => k rfl _ hl)
      · exact lv_icmp_le hx hb hd ht (fun _ => k rfl _ hl) (fun q => absurd hc q)
      · exact lv_icmp_le hx hb hd ht (fun q => absurd q hc) (fun _ => k rfl _ hl)
    · cases hs
  | ifnull off =>
    simp only [am_s] at hs
    split at hs
    · simp only [Option.some.injEq, Prod.mk.injEq] at hs; obtain ⟨rfl, rfl, rfl, rfl⟩ := hs
      exact lv_ifnull hx hb hd (k rfl _ hl)
    · split at hs
      · rename_i t ht
        simp only [Option.some.injEq, Prod.mk.injEq] at hs; obtain ⟨rfl, rfl, rfl, rfl⟩ := hs
        exact lv_ifnullN hx hb hd (am_j_some ht) (k rfl _ hl)
      · cases hs
    · cases hs
  | ifnonnull off =>
    simp only [am_s] at hs
    split at hs
    · simp only [Option.some.injEq, Prod.mk.injEq] at hs; obtain ⟨rfl, rfl, rfl, rfl⟩ := hs
      exact lv_ifnonnullN hx hb hd (k rfl _ hl)
    · split at hs
      · rename_i t ht
        simp only [Option.some.injEq, Prod.mk.injEq] at hs; obtain ⟨rfl, rfl, rfl, rfl⟩ := hs
        exact lv_ifnonnull hx hb hd (am_j_some ht) (k rfl _ hl)
      · cases hs
    · cases hs
  | tableswitch dflt lo hi offs =>
    simp only [am_s] at hs
    split at hs
    · rename_i x st1
      by_cases ho : x.toInt < lo ∨ hi < x.toInt
      · rw [if_pos ho] at hs
        split at hs
        · rename_i t ht
          simp only [Option.some.injEq, Prod.mk.injEq] at hs; obtain ⟨rfl, rfl, rfl, rfl⟩ := hs
          exact lv_tableOut hx hb hd ho (am_j_some ht) (k rfl _ hl)
        · cases hs
      · rw [if_neg ho] at hs
        split at hs
        · rename_i off hoff
          split at hs
          · rename_i t ht
            simp only [Option.some.injEq, Prod.mk.injEq] at hs; obtain ⟨rfl, rfl, rfl, rfl⟩ := hs
            exact lv_tableIn hx hb hd (fun q => ho (Or.inl q)) (fun q => ho (Or.inr q)) hoff (am_j_some ht) (k rfl _ hl)
          · cases hs
        · cases hs
    · cases hs
  | _ => first | exact (False.elim hI) | (simp only [am_s] at hs; cases hs; done) | (simp [am_s] at hs; done)
end AM1
end
section
section AM2
variable {p : Program} {l0 : Launch} {e : Env} {R : Room} {s : State} {m : MethodId} {args : Array Value} {below : List Frame} {meth : Method} {c : Code} {H : Heap} {locs : List Loc} {cells slots : Nat} {Q : State → Prop}
variable {cc : ByteArray} {pc pc' : Nat} {ls : Array Slot} {l l' : am_L} {st st' : List Value} {h h' : am_H} {nL : Nat}
variable {D : va_G} {cl : List vw_C} {tys : List FieldType} {kd : Nat → Nat} {ca : FieldType → ClassId} {base : Nat} {A : Nat → Prop} {Ts : List Cond} {tt : List (List FieldType)} {own : String}
theorem am_ldcwS {tx : String} {index q : Nat} {rest : List Value} (hx : p.tables.exec = Jvm.exec) (hb : c.code = cc) (hown : s.vm.findClass own = some m.cls) (hZ : vk_R own index tx q s) (hdg : decode cc pc = .ok (.ldc_w index, 3))
    (kk : W p l0 e R s m args below meth c H locs cells slots Q (F0 m (pc + 3) ls (.ref q :: rest))) : W p l0 e R s m args below meth c H locs cells slots Q (F0 m pc ls rest) := by
  intro T hT X
  obtain ⟨t, a1, b1⟩ := kk T hT X
  refine ⟨t, ?_, b1⟩
  obtain ⟨k, cf, i, a', hk, hcf, hcp, -, hr, hev'⟩ := Cond.stringRef_spec hown hZ.1
  cases hZ.2.symm.trans hev'
  obtain ⟨k', hk', he⟩ := X.warmed.alike.2.2 _ _ hk
  have hr' : k'.resolved[index]? = some (some (.string q)) := by
    rcases X.warmed.entry hk hk' index with h | ⟨h, -⟩
    · rw [h]; exact hr
    · rw [hr] at h; cases h
  jvm_step X.here [hx, hb, hdg, ldc_w.wp_string (s := T) (f := F0 m pc ls rest) X.here.top hk' (by rw [he]; exact hcf) hcp hr']
  exact a1
/-- the texts' cells -/
def am_tx (kd : Nat → Nat) (A : Nat → Prop) (cst : am_K) (U : State) : Prop := ∀ (i : Nat) (L : List Int32), cst.2.1[i]? = some L → va_OF "java/lang/String" "value" "[B" (.ref (kd (12 + i))) (kd (8 + i)) A U U.heap ∧ va_OF "java/lang/String" "coder" "B" (.int 0) (kd (8 + i)) A U U.heap ∧ va_T .byte (kd (12 + i)) L.length (fun j => .int (L.getD j 0)) A U U.heap
theorem am_K1 (hK : va_K D cl [] s) (hT : ∀ ty ∈ tys, ArrOfT s (ca ty) ty ∧ va_RA s (ca ty) ty) {ty : FieldType} (ht : ty ∈ tys) : va_K D cl [(ca ty, ty)] s :=
  ⟨hK.1, fun k q hk => by
    have hz : k < 1 := (List.getElem?_eq_some_iff.mp hk).1
    rw [show k = 0 by omega] at hk
    cases hk
    exact hT ty ht⟩
theorem am_fit_ok {ty : FieldType} {v : Value} (f : Nat → Nat) (h : am_fit ty v = true) : narrow ty (am_v f v) = am_v f v ∧ fits ty (am_v f v) = true := by
  cases ty <;> cases v <;> first | (exact ⟨rfl, rfl⟩) | (simp [am_fit] at h; done) | skip
  rename_i x
  simp only [am_fit, Bool.or_eq_true, beq_iff_eq] at h
  rcases h with rfl | rfl
  · exact ⟨(by decide : narrow .boolean (.int 0) = .int 0), (by decide : fits .boolean (.int 0) = true)⟩
  · exact ⟨(by decide : narrow .boolean (.int 1) = .int 1), (by decide : fits .boolean (.int 1) = true)⟩
/-- a field is written: the cell behind it -/
theorem am_put_at {r : vw_C} {a ci k : Nat} {fs : List Value} {v : Value} {cell : Cell} {H' : Heap} (hts : ∀ w ∈ Ts, w.before args s = true) (hcl : am_clok cl tt Ts) (hK : va_K D cl [] s) (hR : am_R D cl tys (am_ad kd base) ca base h H) (ha : ¬ a < 16) (he : h[a - 16]? = some (.inr (ci, fs))) (hc : cl[ci]? = some r) (hk : k < r.2.2) (hl : k < fs.length)
    (q2 : cell.cls = D.1 ci) (q3 : cell.vm = .none) (q4 : ∀ k, k < r.2.2 → cell.slots[D.2 ci k]? = some (vp_V (fs.map (am_v (am_ad kd base))) k))
    (e1 : H'[am_ad kd base a]? = some (cell.setSlot (D.2 ci k) (am_v (am_ad kd base) v))) (e2 : H'.size = H.size) (e3 : ∀ q, q ≠ am_ad kd base a → H'[q]? = H[q]?) :
    am_R D cl tys (am_ad kd base) ca base (h.set (a - 16) (.inr (ci, fs.set k v))) H' := by
  have hap := va_apart (args := args) (s := s) (D := D) (cl := cl) (tys := []) (own := "") (C := r.1) (T := r.2.1) (N := r.2.2) (ci := ci) hts (hcl ci r hc).1 _ (hcl ci r hc).2.1 (hcl ci r hc).2.2 hK hc
  refine hR.set ha he e2 e3 ⟨r, hc, t_OB.to (V := updV (vp_V (fs.map (am_v (am_ad kd base)))) k (am_v (am_ad kd base) v)) ⟨_, e1, q2, q3, t_set q4 hap hk _⟩ (fun j _ => ?_)⟩ (fun ty x hx => by cases hx)
  rw [vp_updV_set (by rw [List.length_map]; exact hl), ← List.map_set]
set_option maxHeartbeats 4000000 in
theorem am_hput {init : Bool} {X : am_X} {i : Nat} {cst : am_K} {sn : List (Nat × String × String × String)} {sr : am_SR}
    (hx : p.tables.exec = Jvm.exec) (hb : c.code = cc) (hts : ∀ w ∈ Ts, w.before args s = true) (hown : s.vm.findClass own = some m.cls) (hd : decode cc pc = .ok (.putfield i, 3)) (hok : am_ok cl Ts sn sr own nL init X (.putfield i))
    (hcl : am_clok cl tt Ts) (hK : va_K D cl [] s) (hinit : init = true → meth.name = "<init>") (hA : ∀ q, base ≤ q → A q) (hS : va_S A s.heap H locs) (hR : am_R D cl tys (am_ad kd base) ca base h H)
    (hs : am_s cst cl tt (.putfield i) X pc l st h = some (pc', l', st', h'))
    (k : ∀ (H' : Heap) (locs' : List Loc), am_R D cl tys (am_ad kd base) ca base h' H' → va_S A s.heap H' locs' → l' = l → W p l0 e R s m args below meth c H' locs' cells slots Q (F0 m pc' ls (st'.map (am_v (am_ad kd base))))) :
    W p l0 e R s m args below meth c H locs cells slots Q (F0 m pc ls (st.map (am_v (am_ad kd base)))) := by
  simp only [am_s] at hs
  split at hs
  case h_2 => cases hs
  rename_i v a st1
  by_cases ha : a < 16
  · rw [if_pos ha] at hs; cases hs
  rw [if_neg ha] at hs
  split at hs
  case h_2 => cases hs
  rename_i ci fs he
  by_cases hcx : ci = X.1 ∧ X.2.1 < fs.length
  case neg => rw [if_neg hcx] at hs; cases hs
  rw [if_pos hcx] at hs
  by_cases hf : am_fit ((tt.getD ci []).getD X.2.1 .char) v = true
  case neg => rw [if_neg hf] at hs; cases hs
  rw [if_pos hf] at hs
  simp only [Option.some.injEq, Prod.mk.injEq] at hs; obtain ⟨rfl, rfl, rfl, rfl⟩ := hs
  obtain ⟨hci, hlen⟩ := hcx
  obtain ⟨r, hc, hk, hcase⟩ := hok
  rw [← hci] at hc
  obtain ⟨hn, hft⟩ := am_fit_ok (am_ad kd base) hf
  have hpd := (hcl ci r hc).2.1 _ hk
  obtain ⟨r', h1, cell, q1, q2, q3, q4⟩ := hR.at ha he
  have hr : r' = r := Option.some.inj (h1.symm.trans hc)
  subst hr
  obtain ⟨hSl, hfc, kC, hkC, hkind⟩ := hK.1 ci _ hc
  obtain ⟨cf, kf, fi, fd, hi, hsl⟩ := hSl X.2.1 hk
  have hin := (hcl ci r' hc).1
  have hlay := hts _ (hin _ (u_in_lay hk))
  have hst := (u_facts hfc hkC (u_lays hts hin hk) hi).1
  have hAa : A (am_ad kd base a) := hA _ (by rw [am_ad_hi ha]; omega)
  unfold u_lay at hlay
  rcases hcase with ⟨hlink, hfin | ⟨hfin, hini, hdecl⟩⟩ | ⟨hfin, host, hlink⟩
  · rw [if_neg (by rw [hfin]; decide)] at hlay
    have h6 := u_store hfc hkC hkind hlay hi hpd hn hft
    refine W.putK hx hb (f := fd) ⟨hown, hts _ hlink, ⟨_, _, _, hi⟩, hst⟩ (by rw [q2]; exact h6) q1 q3 (by rw [hsl]; exact k2_hasslot (q4 _ hk)) rfl rfl hd fun H' e1 e2 e3 => ?_
    rw [hsl] at e1 ⊢
    exact k H' _ (am_put_at hts hcl hK hR ha he hc hk hlen q2 q3 q4 e1 e2 e3) (hS.put e2 e3 hAa) rfl
  · rw [if_pos hfin] at hlay
    have hcf : m.cls = cf := by
      obtain ⟨_, _, c', _, _, _, -, -, hf', -, -, -, hown2, -⟩ := Cond.laysFinal_spec hlay
      have e1 : c' = cf := by have := hi.symm.trans hf'; simp at this; exact this.1.symm
      rw [hdecl] at hown2
      rw [← e1]; exact Option.some.inj (hown.symm.trans hown2)
    have h6 := u_fits hfc hkC hkind (Or.inr hlay) hi hpd hn hft
    refine W.putFinK hx hb hown (hts _ hlink) hi hst hcf (hinit hini) (by rw [q2]; exact h6) q1 q3 (by rw [hsl]; exact k2_hasslot (q4 _ hk)) rfl rfl hd fun H' e1 e2 e3 => ?_
    rw [hsl] at e1 ⊢
    exact k H' _ (am_put_at hts hcl hK hR ha he hc hk hlen q2 q3 q4 e1 e2 e3) (hS.put e2 e3 hAa) rfl
  · rw [if_neg (by rw [hfin]; decide)] at hlay
    have h6 := u_store hfc hkC hkind hlay hi hpd hn hft
    refine va_WputK hx hb (f := fd) hown (hts _ hlink) hi hst (by rw [q2]; exact h6) q1 q3 (by rw [hsl]; exact k2_hasslot (q4 _ hk)) rfl rfl hd fun H' e1 e2 e3 => ?_
    rw [hsl] at e1 ⊢
    exact k H' _ (am_put_at hts hcl hK hR ha he hc hk hlen q2 q3 q4 e1 e2 e3) (hS.put e2 e3 hAa) rfl
set_option maxHeartbeats 4000000 in
theorem am_hget {init : Bool} {X : am_X} {i : Nat} {cst : am_K} {sn : List (Nat × String × String × String)} {sr : am_SR}
    (hx : p.tables.exec = Jvm.exec) (hb : c.code = cc) (hts : ∀ w ∈ Ts, w.before args s = true) (hown : s.vm.findClass own = some m.cls) (hd : decode cc pc = .ok (.getfield i, 3)) (hok : am_ok cl Ts sn sr own nL init X (.getfield i))
    (hcl : am_clok cl tt Ts) (hK : va_K D cl [] s) (hR : am_R D cl tys (am_ad kd base) ca base h H) (hS : va_S A s.heap H locs) (hX : am_tx kd A cst s)
    (hs : am_s cst cl tt (.getfield i) X pc l st h = some (pc', l', st', h'))
    (k : h' = h → l' = l → W p l0 e R s m args below meth c H locs cells slots Q (F0 m pc' ls (st'.map (am_v (am_ad kd base))))) :
    W p l0 e R s m args below meth c H locs cells slots Q (F0 m pc ls (st.map (am_v (am_ad kd base)))) := by
  simp only [am_s] at hs
  split at hs
  case h_2 => cases hs
  rename_i a st1
  by_cases ha : a < 16
  · rw [if_pos ha] at hs
    by_cases h8 : 8 ≤ a ∧ a < 12 ∧ a - 8 < cst.2.1.length
    case neg => rw [if_neg h8] at hs; cases hs
    rw [if_pos h8] at hs
    obtain ⟨hL, hLe⟩ : ∃ L, cst.2.1[a - 8]? = some L := ⟨_, List.getElem?_eq_getElem h8.2.2⟩
    have hF := hX _ _ hLe
    have e8 : 8 + (a - 8) = a := Nat.add_sub_cancel' h8.1
    have e12 : 12 + (a - 8) = a + 4 := by rw [show (12 : Nat) = 4 + 8 from rfl, Nat.add_assoc, e8, Nat.add_comm]
    rw [e8, e12] at hF
    have a1 : am_ad kd base a = kd a := by unfold am_ad; rw [if_pos ha]
    have a2 : am_ad kd base (a + 4) = kd (a + 4) := by unfold am_ad; rw [if_pos (Nat.add_lt_add_right h8.2.1 4)]
    by_cases h1 : X.2.2 = 1
    · rw [if_pos h1] at hs
      simp only [Option.some.injEq, Prod.mk.injEq] at hs; obtain ⟨rfl, rfl, rfl, rfl⟩ := hs
      have hv := hF.1
      rw [← a1, ← a2] at hv
      exact vk_getf hx hb hv hS hown (hts _ (hok.1 h1)) (fun _ h9 => h9) hd (k rfl rfl)
    · rw [if_neg h1] at hs
      by_cases h2 : X.2.2 = 2
      case neg => rw [if_neg h2] at hs; cases hs
      rw [if_pos h2] at hs
      simp only [Option.some.injEq, Prod.mk.injEq] at hs; obtain ⟨rfl, rfl, rfl, rfl⟩ := hs
      have hv := hF.2.1
      rw [← a1] at hv
      exact vk_getf hx hb hv hS hown (hts _ (hok.2.1 h2)) (fun _ h9 => h9) hd (k rfl rfl)
  rw [if_neg ha] at hs
  split at hs
  case h_2 => cases hs
  rename_i ci fs he
  by_cases hcx : ci = X.1 ∧ X.2.2 = 0
  case neg => rw [if_neg hcx] at hs; cases hs
  rw [if_pos hcx] at hs
  split at hs
  case h_2 => cases hs
  rename_i v hv
  simp only [Option.some.injEq, Prod.mk.injEq] at hs; obtain ⟨rfl, rfl, rfl, rfl⟩ := hs
  obtain ⟨r, hc, hk, hcase⟩ := hok.2.2 hcx.2
  rw [← hcx.1] at hc
  have hv' : (fs.map (am_v (am_ad kd base)))[X.2.1]? = some (am_v (am_ad kd base) v) := by rw [List.getElem?_map, hv]; rfl
  rcases hcase with hlink | ⟨host, hlink⟩
  · exact va_get (D := D) (cl := cl) (tys := []) (C := r.1) (T := r.2.1) (N := r.2.2) hx hb hts (hcl ci r hc).1 hown hK (hR.P ha he) 0 rfl hc X.2.1 hk (hts _ hlink) (fun _ h9 => h9) hv' hd (k rfl rfl)
  · exact va_getN (D := D) (cl := cl) (tys := []) (C := r.1) (T := r.2.1) (N := r.2.2) hx hb hts (hcl ci r hc).1 hown hK (hR.P ha he) 0 rfl hc X.2.1 hk (hts _ hlink) (fun _ h9 => h9) hv' hd (k rfl rfl)
set_option maxHeartbeats 4000000 in
/-- loads of arrays, and the constants -/
theorem am_hload {init : Bool} {X : am_X} {I : Instr} {cst : am_K} {sn : List (Nat × String × String × String)} {sr : am_SR}
    (hx : p.tables.exec = Jvm.exec) (hb : c.code = cc) (hts : ∀ w ∈ Ts, w.before args s = true) (hown : s.vm.findClass own = some m.cls) (hd : decode cc pc = .ok (I, am_len X I)) (hok : am_ok cl Ts sn sr own nL init X I)
    (hK : va_K D cl [] s) (hT : ∀ ty ∈ tys, ArrOfT s (ca ty) ty ∧ va_RA s (ca ty) ty) (hS : va_S A s.heap H locs) (hR : am_R D cl tys (am_ad kd base) ca base h H)
    (hC1 : ∀ (a : Nat) (L : List Int32), a < 16 → cst.1[a]? = some L → va_T .int (kd a) L.length (fun j => .int (L.getD j 0)) A s s.heap)
    (hC2 : ∀ (a : Nat) (C n d : String), (a, C, n, d) ∈ sn → va_Z C n d (am_v kd (am_sv cst a)) A s s.heap) (hX : am_tx kd A cst s)
    (hC3 : ∀ (o : String) (i : Nat) (tx : String) (a : Nat), (o, i, tx, a) ∈ sr.1 → vk_R o i tx (kd a) s)
    (hI : I = .arraylength ∨ I = .iaload ∨ I = .laload ∨ I = .baload ∨ I = .aaload ∨ (∃ i, I = .getstatic i) ∨ ((∃ i, I = .ldc i) ∧ ¬ X.1 = 0) ∨ ((∃ i, I = .ldc_w i) ∧ ¬ X.1 = 0))
    (hs : am_s cst cl tt I X pc l st h = some (pc', l', st', h'))
    (k : h' = h → l' = l → W p l0 e R s m args below meth c H locs cells slots Q (F0 m pc' ls (st'.map (am_v (am_ad kd base))))) :
    W p l0 e R s m args below meth c H locs cells slots Q (F0 m pc ls (st.map (am_v (am_ad kd base)))) := by
  have hlo : ∀ a : Nat, a < 16 → am_ad kd base a = kd a := fun a ha => by unfold am_ad; rw [if_pos ha]
  rcases hI with rfl | rfl | rfl | rfl | rfl | ⟨i, rfl⟩ | ⟨⟨i, rfl⟩, h0⟩ | ⟨⟨i, rfl⟩, h0⟩
  · simp only [am_s] at hs
    split at hs
    case h_2 => cases hs
    rename_i a st1
    by_cases ha : a < 16
    · rw [if_pos ha] at hs
      split at hs
      case h_2 => cases hs
      rename_i L hL
      simp only [Option.some.injEq, Prod.mk.injEq] at hs; obtain ⟨rfl, rfl, rfl, rfl⟩ := hs
      by_cases h12 : 12 ≤ a
      · rw [if_pos h12] at hL
        have hT1 := (hX _ _ hL).2.2
        rw [show 12 + (a - 12) = a from Nat.add_sub_cancel' h12, ← hlo a ha] at hT1
        exact va_tlen hx hb hT1 hS rfl hd (k rfl rfl)
      · rw [if_neg h12] at hL
        have hT1 := hC1 a L ha hL
        rw [← hlo a ha] at hT1
        exact va_tlen hx hb hT1 hS rfl hd (k rfl rfl)
    · rw [if_neg ha] at hs
      split at hs
      case h_2 => cases hs
      rename_i ty n z he
      simp only [Option.some.injEq, Prod.mk.injEq] at hs; obtain ⟨rfl, rfl, rfl, rfl⟩ := hs
      have ht := hR.2.2 _ _ _ he
      have hP := hR.P ha he
      rcases z with g | g | g | g | g
      · exact va_alen hx hb (am_K1 hK hT ht) hP 0 0 rfl rfl rfl hd (k rfl rfl)
      · exact va_alen hx hb (am_K1 hK hT ht) hP 0 0 rfl rfl rfl hd (k rfl rfl)
      · exact va_alen hx hb (am_K1 hK hT ht) hP 0 0 rfl rfl rfl hd (k rfl rfl)
      · exact va_alen hx hb (am_K1 hK hT ht) hP 0 0 rfl rfl rfl hd (k rfl rfl)
      · exact va_alen hx hb (am_K1 hK hT ht) hP 0 0 rfl rfl rfl hd (k rfl rfl)
  · simp only [am_s] at hs
    split at hs
    case h_2 => cases hs
    rename_i i a st1
    by_cases ha : a < 16
    · rw [if_pos ha] at hs
      split at hs
      case h_2 => cases hs
      rename_i L hL
      by_cases hin : i < 0 ∨ L.length ≤ i.toNatClampNeg
      · rw [if_pos hin] at hs; cases hs
      rw [if_neg hin] at hs
      simp only [Option.some.injEq, Prod.mk.injEq] at hs; obtain ⟨rfl, rfl, rfl, rfl⟩ := hs
      have hT1 := hC1 a L ha hL
      rw [← hlo a ha] at hT1
      exact va_ti hx hb hT1 hS hin rfl hd (k rfl rfl)
    · rw [if_neg ha] at hs
      split at hs
      case h_2 => cases hs
      rename_i n g he
      by_cases hin : i < 0 ∨ n ≤ i.toNatClampNeg
      · rw [if_pos hin] at hs; cases hs
      rw [if_neg hin] at hs
      simp only [Option.some.injEq, Prod.mk.injEq] at hs; obtain ⟨rfl, rfl, rfl, rfl⟩ := hs
      exact va_iald hx hb (am_K1 hK hT (hR.2.2 _ _ _ he)) (hR.P ha he) 0 0 rfl rfl hin hd (k rfl rfl)
  · simp only [am_s] at hs
    split at hs
    case h_2 => cases hs
    rename_i i a st1
    by_cases ha : a < 16
    · rw [if_pos ha] at hs; cases hs
    · rw [if_neg ha] at hs
      split at hs
      case h_2 => cases hs
      rename_i n g he
      by_cases hin : i < 0 ∨ n ≤ i.toNatClampNeg
      · rw [if_pos hin] at hs; cases hs
      rw [if_neg hin] at hs
      simp only [Option.some.injEq, Prod.mk.injEq] at hs; obtain ⟨rfl, rfl, rfl, rfl⟩ := hs
      exact va_lald hx hb (am_K1 hK hT (hR.2.2 _ _ _ he)) (hR.P ha he) 0 0 rfl rfl hin hd (k rfl rfl)
  · simp only [am_s] at hs
    split at hs
    case h_2 => cases hs
    rename_i i a st1
    by_cases ha : a < 16
    · rw [if_pos ha] at hs
      by_cases h12 : 12 ≤ a
      case neg => rw [if_neg h12] at hs; cases hs
      rw [if_pos h12] at hs
      split at hs
      case h_2 => cases hs
      rename_i L hL
      by_cases hin : i < 0 ∨ L.length ≤ i.toNatClampNeg
      · rw [if_pos hin] at hs; cases hs
      rw [if_neg hin] at hs
      simp only [Option.some.injEq, Prod.mk.injEq] at hs; obtain ⟨rfl, rfl, rfl, rfl⟩ := hs
      have hT1 := (hX _ _ hL).2.2
      rw [show 12 + (a - 12) = a from Nat.add_sub_cancel' h12, ← hlo a ha] at hT1
      exact va_tb hx hb hT1 hS hin rfl hd (k rfl rfl)
    · rw [if_neg ha] at hs
      split at hs
      case h_3 => cases hs
      · rename_i n g he
        by_cases hin : i < 0 ∨ n ≤ i.toNatClampNeg
        · rw [if_pos hin] at hs; cases hs
        rw [if_neg hin] at hs
        simp only [Option.some.injEq, Prod.mk.injEq] at hs; obtain ⟨rfl, rfl, rfl, rfl⟩ := hs
        exact va_bald hx hb (am_K1 hK hT (hR.2.2 _ _ _ he)) (hR.P ha he) 0 0 rfl rfl hin hd (k rfl rfl)
      · rename_i n g he
        by_cases hin : i < 0 ∨ n ≤ i.toNatClampNeg
        · rw [if_pos hin] at hs; cases hs
        rw [if_neg hin] at hs
        simp only [Option.some.injEq, Prod.mk.injEq] at hs; obtain ⟨rfl, rfl, rfl, rfl⟩ := hs
        exact va_zald hx hb (am_K1 hK hT (hR.2.2 _ _ _ he)) (hR.P ha he) 0 0 rfl rfl hin hd (k rfl rfl)
  · simp only [am_s] at hs
    split at hs
    case h_2 => cases hs
    rename_i i a st1
    by_cases ha : a < 16
    · rw [if_pos ha] at hs; cases hs
    · rw [if_neg ha] at hs
      split at hs
      case h_2 => cases hs
      rename_i C n g he
      by_cases hin : i < 0 ∨ n ≤ i.toNatClampNeg
      · rw [if_pos hin] at hs; cases hs
      rw [if_neg hin] at hs
      simp only [Option.some.injEq, Prod.mk.injEq] at hs; obtain ⟨rfl, rfl, rfl, rfl⟩ := hs
      refine va_aldq (C := C) hx hb (am_K1 hK hT (hR.2.2 _ _ _ he)) (hR.P ha he) 0 0 rfl rfl hin hd ?_
      have hv : va_rf ((g i.toNatClampNeg).map (am_ad kd base)) = am_v (am_ad kd base) (va_rf (g i.toNatClampNeg)) := by cases g i.toNatClampNeg <;> rfl
      show W p l0 e R s m args below meth c H locs cells slots Q (F0 m _ ls (va_rf ((g i.toNatClampNeg).map (am_ad kd base)) :: _))
      rw [hv]
      exact k rfl rfl
  · simp only [am_s] at hs
    by_cases ha : am_lowv (am_sv cst X.2.1) = true
    case neg => rw [if_neg ha] at hs; cases hs
    rw [if_pos ha] at hs
    simp only [Option.some.injEq, Prod.mk.injEq] at hs; obtain ⟨rfl, rfl, rfl, rfl⟩ := hs
    obtain ⟨C, n, d, hn, hcase⟩ := hok
    have hZ := hC2 _ _ _ _ hn
    have hvv : am_v kd (am_sv cst X.2.1) = am_v (am_ad kd base) (am_sv cst X.2.1) := by
      generalize am_sv cst X.2.1 = w at ha
      cases w with
      | ref q => exact congrArg Value.ref (hlo q (of_decide_eq_true ha)).symm
      | _ => rfl
    rw [hvv] at hZ
    rcases hcase with hlink | ⟨host, hlink⟩
    · exact va_gets hx hb hZ hS hown (hts _ hlink) (fun _ h9 => h9) hd (k rfl rfl)
    · exact va_getsN hx hb hZ hS hown (hts _ hlink) (fun _ h9 => h9) hd (k rfl rfl)
  · simp only [am_s, if_neg h0] at hs
    by_cases ha : X.2.1 < 16
    case neg => rw [if_neg ha] at hs; cases hs
    rw [if_pos ha] at hs
    simp only [Option.some.injEq, Prod.mk.injEq] at hs; obtain ⟨rfl, rfl, rfl, rfl⟩ := hs
    obtain ⟨tx, hm⟩ := hok.2 h0
    have hZ := hC3 _ _ _ _ hm
    rw [← hlo _ ha] at hZ
    exact va_ldcS hx hb hown hZ hd (k rfl rfl)
  · simp only [am_s, if_neg h0] at hs
    by_cases ha : X.2.1 < 16
    case neg => rw [if_neg ha] at hs; cases hs
    rw [if_pos ha] at hs
    simp only [Option.some.injEq, Prod.mk.injEq] at hs; obtain ⟨rfl, rfl, rfl, rfl⟩ := hs
    obtain ⟨tx, hm⟩ := hok.2 h0
    have hZ := hC3 _ _ _ _ hm
    rw [← hlo _ ha] at hZ
    exact am_ldcwS hx hb hown hZ hd (k rfl rfl)
set_option maxHeartbeats 4000000 in
/-- stores into arrays -/
theorem am_hstore {X : am_X} {I : Instr} {cst : am_K}
    (hx : p.tables.exec = Jvm.exec) (hb : c.code = cc) (hd : decode cc pc = .ok (I, am_len X I))
    (hK : va_K D cl [] s) (hT : ∀ ty ∈ tys, ArrOfT s (ca ty) ty ∧ va_RA s (ca ty) ty) (hA : ∀ q, base ≤ q → A q) (hS : va_S A s.heap H locs) (hR : am_R D cl tys (am_ad kd base) ca base h H)
    (hI : I = .iastore ∨ I = .lastore ∨ I = .bastore ∨ I = .aastore)
    (hs : am_s cst cl tt I X pc l st h = some (pc', l', st', h'))
    (k : ∀ (H' : Heap) (locs' : List Loc), am_R D cl tys (am_ad kd base) ca base h' H' → va_S A s.heap H' locs' → l' = l → W p l0 e R s m args below meth c H' locs' cells slots Q (F0 m pc' ls (st'.map (am_v (am_ad kd base))))) :
    W p l0 e R s m args below meth c H locs cells slots Q (F0 m pc ls (st.map (am_v (am_ad kd base)))) := by
  rcases hI with rfl | rfl | rfl | rfl
  · simp only [am_s] at hs
    split at hs
    case h_2 => cases hs
    rename_i x i a st1
    by_cases ha : a < 16
    · rw [if_pos ha] at hs; cases hs
    rw [if_neg ha] at hs
    split at hs
    case h_2 => cases hs
    rename_i n g he
    by_cases hin : i < 0 ∨ n ≤ i.toNatClampNeg
    · rw [if_pos hin] at hs; cases hs
    rw [if_neg hin] at hs
    simp only [Option.some.injEq, Prod.mk.injEq] at hs; obtain ⟨rfl, rfl, rfl, rfl⟩ := hs
    have ht := hR.2.2 _ _ _ he
    refine W.iast hx hb (hR.at ha he) ((hT _ ht).1 n (fun j => .int (g j))) (fun q => by cases q) (by show ¬ (i < 0 ∨ (arrV _ _ _).slots.size ≤ _); rw [arrV_size]; exact hin) rfl rfl hd fun H1 e1 z oq => ?_
    refine k H1 _ (hR.set ha he z oq ?_ (fun ty y hy => by cases hy; exact ht)) (hS.put z oq (hA _ (by rw [am_ad_hi ha]; omega))) rfl
    show H1[am_ad kd base a]? = some (vp_cell _ _)
    rw [e1, vp_cell_i, vp_cell_i, arrV_store]
    congr 2
    funext q
    by_cases hq : q = i.toNatClampNeg
    · subst hq; simp [updV, upd]
    · simp [updV, upd, hq]
  · simp only [am_s] at hs
    split at hs
    case h_2 => cases hs
    rename_i x i a st1
    by_cases ha : a < 16
    · rw [if_pos ha] at hs; cases hs
    rw [if_neg ha] at hs
    split at hs
    case h_2 => cases hs
    rename_i n g he
    by_cases hin : i < 0 ∨ n ≤ i.toNatClampNeg
    · rw [if_pos hin] at hs; cases hs
    rw [if_neg hin] at hs
    simp only [Option.some.injEq, Prod.mk.injEq] at hs; obtain ⟨rfl, rfl, rfl, rfl⟩ := hs
    have ht := hR.2.2 _ _ _ he
    refine W.last hx hb (hR.at ha he) ((hT _ ht).1 n (fun j => .long (g j))) (fun q => by cases q) (by show ¬ (i < 0 ∨ (arrV _ _ _).slots.size ≤ _); rw [arrV_size]; exact hin) rfl rfl hd fun H1 e1 z oq => ?_
    refine k H1 _ (hR.set ha he z oq ?_ (fun ty y hy => by cases hy; exact ht)) (hS.put z oq (hA _ (by rw [am_ad_hi ha]; omega))) rfl
    show H1[am_ad kd base a]? = some (vp_cell _ _)
    rw [e1, vp_cell_l, vp_cell_l, arrV_store]
    congr 2
    funext q
    by_cases hq : q = i.toNatClampNeg
    · subst hq; simp [updV, vp_updL]
    · simp [updV, vp_updL, hq]
  · simp only [am_s] at hs
    split at hs
    case h_2 => cases hs
    rename_i x i a st1
    by_cases ha : a < 16
    · rw [if_pos ha] at hs; cases hs
    rw [if_neg ha] at hs
    split at hs
    case h_3 => cases hs
    · rename_i n g he
      by_cases hin : i < 0 ∨ n ≤ i.toNatClampNeg
      · rw [if_pos hin] at hs; cases hs
      rw [if_neg hin] at hs
      simp only [Option.some.injEq, Prod.mk.injEq] at hs; obtain ⟨rfl, rfl, rfl, rfl⟩ := hs
      have ht := hR.2.2 _ _ _ he
      refine W.bast hx hb (hR.at ha he) ((hT _ ht).1 n (fun j => .int (g j))) (fun q => by cases q) (by show ¬ (i < 0 ∨ (arrV _ _ _).slots.size ≤ _); rw [arrV_size]; exact hin) rfl rfl hd fun H1 e1 z oq => ?_
      refine k H1 _ (hR.set ha he z oq ?_ (fun ty y hy => by cases hy; exact ht)) (hS.put z oq (hA _ (by rw [am_ad_hi ha]; omega))) rfl
      show H1[am_ad kd base a]? = some (vp_cell _ _)
      rw [e1, vp_cell_i, vp_cell_i, arrV_store]
      congr 2
      funext q
      by_cases hq : q = i.toNatClampNeg
      · subst hq; simp [updV, upd, vp_nar]; try rfl
      · simp [updV, upd, hq]
    · rename_i n g he
      by_cases hin : i < 0 ∨ n ≤ i.toNatClampNeg
      · rw [if_pos hin] at hs; cases hs
      rw [if_neg hin] at hs
      simp only [Option.some.injEq, Prod.mk.injEq] at hs; obtain ⟨rfl, rfl, rfl, rfl⟩ := hs
      have ht := hR.2.2 _ _ _ he
      refine W.zast hx hb (hR.at ha he) ((hT _ ht).1 n (fun j => .int (g j))) (fun q => by cases q) (by show ¬ (i < 0 ∨ (arrV _ _ _).slots.size ≤ _); rw [arrV_size]; exact hin) rfl rfl hd fun H1 e1 z oq => ?_
      refine k H1 _ (hR.set ha he z oq ?_ (fun ty y hy => by cases hy; exact ht)) (hS.put z oq (hA _ (by rw [am_ad_hi ha]; omega))) rfl
      show H1[am_ad kd base a]? = some (vp_cell _ _)
      rw [e1, vp_cell_i, vp_cell_i, arrV_store]
      congr 2
      funext q
      by_cases hq : q = i.toNatClampNeg
      · subst hq; simp [updV, upd, vp_nar]; try rfl
      · simp [updV, upd, hq]
  · simp only [am_s] at hs
    split at hs
    case h_2 => cases hs
    rename_i v i a st1
    by_cases ha : a < 16
    · rw [if_pos ha] at hs; cases hs
    rw [if_neg ha] at hs
    split at hs
    case h_2 => cases hs
    rename_i C n g he
    by_cases hin : i < 0 ∨ n ≤ i.toNatClampNeg
    · rw [if_pos hin] at hs; cases hs
    rw [if_neg hin] at hs
    by_cases hv : v < 16
    · rw [if_pos hv] at hs; cases hs
    rw [if_neg hv] at hs
    split at hs
    case h_2 => cases hs
    rename_i ci vs hve
    split at hs
    case h_2 => cases hs
    rename_i r hc
    by_cases hC : C = r.1
    case neg => rw [if_neg hC] at hs; cases hs
    rw [if_pos hC] at hs
    simp only [Option.some.injEq, Prod.mk.injEq] at hs; obtain ⟨rfl, rfl, rfl, rfl⟩ := hs
    have ht := hR.2.2 _ _ _ he
    have hlt : i.toNatClampNeg < n := Nat.not_le.mp fun q => hin (Or.inr q)
    have h0 : ¬ i < 0 := fun q => hin (Or.inl q)
    obtain ⟨r', hr', cellV, g1, g2, g3, -⟩ := hR.at hv hve
    have hcls := (hK.1 ci r hc).2
    subst hC
    obtain ⟨kA, comp, k1, k2, k3, -⟩ := (hT _ ht).2
    have hcomp : comp = D.1 ci := Option.some.inj (k3.symm.trans hcls.1)
    subst hcomp
    obtain ⟨kC, hkC, -⟩ := hcls.2
    refine W.aast hx hb (hR.at ha he) (fun q h => by cases h) (fun h => by cases h) k1 k2 rfl hkC ⟨h0, by show _ < (arrV _ _ _).slots.size; rw [arrV_size]; exact hlt⟩ g1 (fun q h => by rw [g3] at h; cases h) (by rw [g2]; exact hkC) (by rw [g2]; exact va_assign hcls) rfl rfl hd fun H1 e1 z oq => ?_
    refine k H1 _ (hR.set ha he z oq ?_ (fun ty y hy => by cases hy; exact ht)) (hS.put z oq (hA _ (by rw [am_ad_hi ha]; omega))) rfl
    show H1[am_ad kd base a]? = some (vp_cell _ _)
    rw [e1, vp_cell_q, vp_cell_q, arrV_store]
    congr 2
    funext q
    by_cases hq : q = i.toNatClampNeg
    · subst hq; simp [updV, va_up, va_rf]
    · simp [updV, va_up, hq]
end AM2
end
section
/-! cells that are made; the state behind it and its slots -/
def am_a (cl : List vw_C) (tt : List (List FieldType)) (I : Instr) (X : am_X) (pc : Nat) (l : am_L) (st : List Value) (h : am_H) : Option (am_F × Nat) :=
  match I with
  | .new _ => match cl[X.1]? with
    | some r => if (tt.getD X.1 []).length = r.2.2 then some ((pc + 3, l, .ref (16 + h.length) :: st, h ++ [.inr (X.1, (tt.getD X.1 []).map defaultValue)]), r.2.2) else none
    | none => none
  | .newarray t => match st with
    | .int n :: st => if n < 0 ∨ 60000000 < n.toNatClampNeg then none else match t with
      | .int => some ((pc + 2, l, .ref (16 + h.length) :: st, h ++ [.inl (.int, n.toNatClampNeg, .inl (fun _ => 0))]), n.toNatClampNeg)
      | .long => some ((pc + 2, l, .ref (16 + h.length) :: st, h ++ [.inl (.long, n.toNatClampNeg, .inr (.inl (fun _ => 0)))]), n.toNatClampNeg)
      | .byte => some ((pc + 2, l, .ref (16 + h.length) :: st, h ++ [.inl (.byte, n.toNatClampNeg, .inl (fun _ => 0))]), n.toNatClampNeg)
      | .boolean => some ((pc + 2, l, .ref (16 + h.length) :: st, h ++ [.inl (.boolean, n.toNatClampNeg, .inl (fun _ => 0))]), n.toNatClampNeg)
      | _ => none
    | _ => none
  | .anewarray _ => match st with
    | .int n :: st => if n < 0 ∨ 60000000 < n.toNatClampNeg then none else match cl[X.1]? with
      | some r => some ((pc + 3, l, .ref (16 + h.length) :: st, h ++ [.inl (.object r.1, n.toNatClampNeg, .inr (.inr (.inr (.inr (fun _ => none)))))]), n.toNatClampNeg)
      | none => none
    | _ => none
  | _ => none
/-- what a table must say of an instruction that makes a cell -/
def am_oka (cl : List vw_C) (tys : List FieldType) (Ts : List Cond) (own : String) (X : am_X) : Instr → Prop
  | .new i => ∃ r : vw_C, cl[X.1]? = some r ∧ Cond.classLink own i r.1 ∈ Ts ∧ Cond.instantiable r.1 r.2.2 ∈ Ts ∧ Cond.initialized r.1 ∈ Ts
  | .newarray t => Cond.arrayClass (newarray.typeOf t) ∈ Ts ∧ newarray.typeOf t ∈ tys
  | .anewarray i => ∃ r : vw_C, cl[X.1]? = some r ∧ Cond.classLink own i r.1 ∈ Ts ∧ .object r.1 ∈ tys
  | _ => True
section AM3
variable {p : Program} {l0 : Launch} {e : Env} {R : Room} {s : State} {m : MethodId} {args : Array Value} {below : List Frame} {meth : Method} {c : Code} {H : Heap} {locs : List Loc} {cells slots : Nat} {Q : State → Prop}
variable {cc : ByteArray} {pc pc' : Nat} {ls : Array Slot} {l l' : am_L} {st st' : List Value} {h h' : am_H} {nL : Nat}
variable {D : va_G} {cl : List vw_C} {tys : List FieldType} {kd : Nat → Nat} {ca : FieldType → ClassId} {base : Nat} {A : Nat → Prop} {Ts : List Cond} {tt : List (List FieldType)} {own : String}
theorem am_R.push {H1 : Heap} {e1 : am_E} (hR : am_R D cl tys (am_ad kd base) ca base h H) (z : H1.size = H.size + 1) (o1 : ∀ q, q < H.size → H1[q]? = H[q]?) (he : va_at D cl (H.size, am_e (am_ad kd base) ca e1) H1) (ht : ∀ ty x, e1 = .inl (ty, x) → ty ∈ tys) :
    am_R D cl tys (am_ad kd base) ca base (h ++ [e1]) H1 := by
  refine ⟨fun i x hx => ?_, by rw [z, hR.2.1, List.length_append]; rfl, fun i ty x hx => ?_⟩
  · by_cases hi : i < h.length
    · rw [List.getElem?_append_left hi] at hx
      exact (hR.1 i x hx).kept (o1 _ (by show base + i < _; rw [hR.2.1]; omega))
    · rw [List.getElem?_append_right (by omega)] at hx
      have hz : i - h.length < 1 := (List.getElem?_eq_some_iff.mp hx).1
      have hi0 : i = h.length := by omega
      subst hi0
      rw [Nat.sub_self] at hx
      cases hx
      rw [← hR.2.1]
      exact he
  · by_cases hi : i < h.length
    · rw [List.getElem?_append_left hi] at hx
      exact hR.2.2 i ty x hx
    · rw [List.getElem?_append_right (by omega)] at hx
      have hz : i - h.length < 1 := (List.getElem?_eq_some_iff.mp hx).1
      have hi0 : i = h.length := by omega
      subst hi0
      rw [Nat.sub_self] at hx
      cases hx
      exact ht _ _ rfl
theorem am_ad_new (hR : am_R D cl tys (am_ad kd base) ca base h H) : Value.ref H.size = am_v (am_ad kd base) (.ref (16 + h.length)) := by
  show Value.ref H.size = .ref (am_ad kd base (16 + h.length))
  rw [am_ad_hi (by omega), hR.2.1, Nat.add_sub_cancel_left]
theorem am_S_push {H1 : Heap} (hS : va_S A s.heap H locs) (z : H1.size = H.size + 1) (o1 : ∀ q, q < H.size → H1[q]? = H[q]?) : va_S A s.heap H1 locs :=
  ⟨Nat.le_trans hS.1 (by omega), fun x h1 h2 => (o1 x (Nat.lt_of_lt_of_le h1 hS.1)).trans (hS.2.1 x h1 h2), hS.2.2⟩
theorem am_dv (f : Nat → Nat) (ty : FieldType) : am_v f (defaultValue ty) = defaultValue ty := by cases ty <;> rfl
set_option maxHeartbeats 4000000 in
theorem am_halloc {X : am_X} {I : Instr} {k0 : Nat}
    (hx : p.tables.exec = Jvm.exec) (hb : c.code = cc) (hts : ∀ w ∈ Ts, w.before args s = true) (hown : s.vm.findClass own = some m.cls) (hd : decode cc pc = .ok (I, am_len X I)) (hok : am_oka cl tys Ts own X I)
    (hcl : am_clok cl tt Ts) (hK : va_K D cl [] s) (hT : ∀ ty ∈ tys, ArrOfT s (ca ty) ty ∧ va_RA s (ca ty) ty) (hO : ∀ C, .object C ∈ tys → va_AO C s) (hS : va_S A s.heap H locs) (hR : am_R D cl tys (am_ad kd base) ca base h H)
    (hs : am_a cl tt I X pc l st h = some ((pc', l', st', h'), k0)) (hcells : cells + 1 ≤ R.cells) (hslots : slots + k0 ≤ R.slots)
    (k : ∀ (H' : Heap), am_R D cl tys (am_ad kd base) ca base h' H' → va_S A s.heap H' locs → l' = l → W p l0 e R s m args below meth c H' locs (cells + 1) (slots + k0) Q (F0 m pc' ls (st'.map (am_v (am_ad kd base))))) :
    W p l0 e R s m args below meth c H locs cells slots Q (F0 m pc ls (st.map (am_v (am_ad kd base)))) := by
  cases I with
  | new i =>
    obtain ⟨r, hc, hw1, hw2, hw3⟩ := hok
    simp only [am_a, hc] at hs
    by_cases hlen : (tt.getD X.1 []).length = r.2.2
    case neg => rw [if_neg hlen] at hs; cases hs
    rw [if_pos hlen] at hs
    simp only [Option.some.injEq, Prod.mk.injEq] at hs; obtain ⟨⟨rfl, rfl, rfl, rfl⟩, rfl⟩ := hs
    have hKn := hK.1 X.1 _ hc
    refine W.newcK hx hb hown (hts _ hw1) (hts _ hw2) (hts _ hw3) rfl hd hcells hslots hKn.2.1 rfl fun H1 kC hkC e1 z1 o1 => ?_
    refine W.eq (g2 := F0 m (pc + 3) ls (am_v (am_ad kd base) (.ref (16 + h.length)) :: st.map (am_v (am_ad kd base)))) (by rw [← am_ad_new hR]) ?_
    refine k H1 (hR.push z1 o1 ?_ (fun ty x hx => by cases hx)) (am_S_push hS z1 o1) rfl
    refine ⟨r, hc, (u_born _ hts (hcl _ r hc).1 hKn hkC e1 (hcl _ r hc).2.1).to (fun j hj => ?_)⟩
    have hj' : j < (tt.getD X.1 []).length := by rw [hlen]; exact hj
    simp only [vp_V, List.getD_eq_getElem?_getD, List.getElem?_map, List.map_map]
    rw [List.getD_eq_getElem?_getD] at hj'
    rw [List.getElem?_eq_getElem hj']
    simp only [Option.getD_some, Option.map_some, Function.comp, am_dv]
  | newarray t =>
    obtain ⟨hw, hty⟩ := hok
    simp only [am_a] at hs
    split at hs
    case h_2 => cases hs
    rename_i n st1
    by_cases hn : n < 0 ∨ 60000000 < n.toNatClampNeg
    · rw [if_pos hn] at hs; cases hs
    rw [if_neg hn] at hs
    have hn0 : ¬ n < 0 := fun q => hn (Or.inl q)
    have hn1 : n.toNatClampNeg ≤ 60000000 := Nat.not_lt.mp fun q => hn (Or.inr q)
    have hnm : s.vm.findClass ("[" ++ (newarray.typeOf t).toString) = some (ca (newarray.typeOf t)) := by
      have := (hT _ hty).2
      cases t <;> exact this
    cases t <;> simp only at hs <;> first
      | (cases hs; done)
      | (simp only [Option.some.injEq, Prod.mk.injEq] at hs; obtain ⟨⟨rfl, rfl, rfl, rfl⟩, rfl⟩ := hs
         refine va_newaK hx hb (hts _ hw) rfl hd rfl hn0 rfl (by simp only [newarray.typeOf, componentBytes]; omega) hcells hslots rfl fun H1 cA e1 z1 o1 hAr hNm => ?_
         refine W.eq (g2 := F0 m (pc + 2) ls (am_v (am_ad kd base) (.ref (16 + h.length)) :: st1.map (am_v (am_ad kd base)))) (by rw [← am_ad_new hR]) ?_
         have hcA := Option.some.inj (hNm.symm.trans hnm)
         subst hcA
         exact k H1 (hR.push z1 o1 e1 (fun ty x hx => by cases hx; exact hty)) (am_S_push hS z1 o1) rfl)
  | anewarray i =>
    obtain ⟨r, hc, hw1, hty⟩ := hok
    have hw2 := hO r.1 hty
    simp only [am_a, hc] at hs
    split at hs
    case h_2 => cases hs
    rename_i n st1
    by_cases hn : n < 0 ∨ 60000000 < n.toNatClampNeg
    · rw [if_pos hn] at hs; cases hs
    rw [if_neg hn] at hs
    have hn0 : ¬ n < 0 := fun q => hn (Or.inl q)
    have hn1 : n.toNatClampNeg ≤ 60000000 := Nat.not_lt.mp fun q => hn (Or.inr q)
    simp only [Option.some.injEq, Prod.mk.injEq] at hs; obtain ⟨⟨rfl, rfl, rfl, rfl⟩, rfl⟩ := hs
    refine W.anew hx hb hown (hts _ hw1) (va_AO.use hw2) rfl hd rfl hn0 (by omega) hcells hslots fun cA kA comp f1 f2 f3 f4 => ?_
    generalize hH1 : H.push ({ cls := cA, slots := Array.replicate n.toNatClampNeg .null, vm := .none } : Cell) = H1
    have z1 : H1.size = H.size + 1 := by rw [← hH1, Array.size_push]
    have e1 : H1[H.size]? = some (arrV cA n.toNatClampNeg (fun _ => .null)) := by rw [← hH1, Array.getElem?_push_size, ← arrV_new]
    have o1 : ∀ q : Nat, q < H.size → H1[q]? = H[q]? := fun q hq => by rw [← hH1, Array.getElem?_push, if_neg (Nat.ne_of_lt hq)]
    refine W.eq (g2 := F0 m (pc + 3) ls (am_v (am_ad kd base) (.ref (16 + h.length)) :: st1.map (am_v (am_ad kd base)))) (by rw [← am_ad_new hR]) ?_
    obtain ⟨_, _, _, _, _, hnm⟩ := (hT _ hty).2
    have hcA := Option.some.inj (f1.symm.trans hnm)
    subst hcA
    exact k H1 (hR.push z1 o1 e1 (fun ty x hx => by cases hx; exact hty)) (am_S_push hS z1 o1) rfl
  | _ => simp [am_a] at hs
end AM3
end
section
/-! answers: the value, the heap, the cells and the slots that were made -/
abbrev am_Q : Type := Option Value × am_H × Nat × Nat
def am_find (pc : Nat) : List (Nat × Instr × am_X) → Option (Instr × am_X)
  | [] => none
  | q :: L => if q.1 = pc then some q.2 else am_find pc L
/-- the value that a return hands out -/
def am_r (ret : Option FieldType) (I : Instr) (st : List Value) : Option (Option Value) :=
  match I with
  | .ireturn => match st with
    | [.int v] => match ret with
      | some .int => some (some (.int v))
      | some .boolean => if v = 0 ∨ v = 1 then some (some (.int v)) else none
      | some .byte => if v.toInt8.toInt32 = v then some (some (.int v)) else none
      | some .char => if v.toUInt32.toUInt16.toUInt32.toInt32 = v then some (some (.int v)) else none
      | _ => none
    | _ => none
  | .lreturn => match st with
    | [.long v] => if ret = some .long then some (some (.long v)) else none
    | _ => none
  | .areturn => match st with
    | [.ref a] => match ret with
      | some (.object _) => some (some (.ref a))
      | some (.array _) => some (some (.ref a))
      | _ => none
    | [.null] => match ret with
      | some (.object _) => some (some .null)
      | some (.array _) => some (some .null)
      | _ => none
    | _ => none
  | .return_ => match st with
    | [] => if ret = none then some none else none
    | _ => none
  | _ => none
/-- the receiver of a call: an object of the class, or a constant text -/
def am_rc (cl : List vw_C) (strs : List Nat) (C : String) (v : Value) (h : am_H) : Prop :=
  ∃ a, v = .ref a ∧ ((¬ a < 16 ∧ ∃ ci fs r, h[a - 16]? = some (.inr (ci, fs)) ∧ cl[ci]? = some r ∧ r.1 = C) ∨ (a < 16 ∧ a ∈ strs ∧ C = "java/lang/String"))
/-- a call by its table: N values off the stack, the first of them below -/
def am_c (cl : List vw_C) (P : List am_M) (strs : List Nat) (I : Instr) (X : am_X) (st : List Value) (h : am_H) : Prop :=
  X.2.1 ≤ st.length ∧ ((st.drop X.2.1).map fun v => v.category).sum ≤ 8 ∧ X.2.2 = 0 ∧
  match I with
  | .invokestatic _ => True
  | .invokevirtual _ => ∃ v As M, (st.take X.2.1).reverse = v :: As ∧ P[X.1]? = some M ∧ am_rc cl strs M.1.cls v h
  | .invokespecial _ => ∃ a As, (st.take X.2.1).reverse = .ref a :: As
  | _ => False
/-- arraycopy of ints -/
def am_copy (I : Instr) (X : am_X) (st : List Value) (h : am_H) : Option (List Value × am_H) :=
  match I with
  | .invokestatic _ => if X.2.2 = 2 then (match st with
    | .int n :: .int dp :: .ref b :: .int sp :: .ref a :: st => if a < 16 ∨ b < 16 ∨ n < 0 ∨ dp < 0 ∨ sp < 0 ∨ ¬ (st.map fun v => v.category).sum ≤ 8 then none else (match h[a - 16]?, h[b - 16]? with
      | some (.inl (.int, n0, .inl f)), some (.inl (.int, n1, .inl g)) => if sp.toNatClampNeg + n.toNatClampNeg ≤ n0 ∧ dp.toNatClampNeg + n.toNatClampNeg ≤ n1 then some (st, h.set (b - 16) (.inl (.int, n1, .inl (va_cpy f g sp.toNatClampNeg dp.toNatClampNeg n.toNatClampNeg)))) else none
      | _, _ => none)
    | _ => none) else none
  | _ => none
/-- Object's own constructor -/
def am_obj (I : Instr) (X : am_X) (st : List Value) : Option (List Value) :=
  match I with
  | .invokespecial _ => if X.2.2 = 1 then (match st with
    | .ref _ :: st => if (st.map fun v => v.category).sum ≤ 8 then some st else none
    | _ => none) else none
  | _ => none
section AM4
variable (cst : am_K) (cl : List vw_C) (tt : List (List FieldType)) (P : List am_M) (strs : List Nat) (call : Nat → List Value → am_H → am_Q → Prop) (M : am_M)
/-- a run of a method from a point to its end, within n instructions of its own -/
def am_Go : Nat → Nat → am_L → List Value → am_H → am_Q → Prop
  | 0, _, _, _, _, _ => False
  | n + 1, pc, l, st, h, r => ∃ I X, am_find pc M.2.2.2.2 = some (I, X) ∧
      ((∃ F, am_s cst cl tt I X pc l st h = some F ∧ am_Go n F.1 F.2.1 F.2.2.1 F.2.2.2 r) ∨
       (∃ F k r1, am_a cl tt I X pc l st h = some (F, k) ∧ am_Go n F.1 F.2.1 F.2.2.1 F.2.2.2 r1 ∧ r = (r1.1, r1.2.1, 1 + r1.2.2.1, k + r1.2.2.2)) ∨
       (∃ v, am_r M.2.2.2.1 I st = some v ∧ r = (v, h, 0, 0)) ∨
       (∃ r1 r2, am_c cl P strs I X st h ∧ call X.1 (st.take X.2.1).reverse h r1 ∧ am_Go n (pc + 3) l (r1.1.toList ++ st.drop X.2.1) r1.2.1 r2 ∧ r = (r2.1, r2.2.1, r1.2.2.1 + r2.2.2.1, r1.2.2.2 + r2.2.2.2)) ∨
       (∃ st1, am_obj I X st = some st1 ∧ am_Go n (pc + 3) l st1 h r) ∨
       (∃ st1 h1, am_copy I X st h = some (st1, h1) ∧ am_Go n (pc + 3) l st1 h1 r))
end AM4
/-- what a table must say of a call -/
def am_okc (P : List am_M) (Ts : List Cond) (sr : am_SR) (own : String) (X : am_X) : Instr → Prop
  | .invokevirtual i => X.2.2 = 0 → ∃ M, P[X.1]? = some M ∧ Cond.instanceMethod M.1 ∈ Ts ∧ Cond.selects M.1.cls M.1 M.1 ∈ Ts ∧ Cond.initialized M.1.cls ∈ Ts ∧ (M.1.cls ≠ "java/lang/invoke/MethodHandle" ∧ M.1.cls ≠ "java/lang/invoke/VarHandle" ∧ (parseMethodDescriptor M.1.desc).map (fun d => d.parameters.length + 1) = some X.2.1) ∧ (Cond.methodLink own i M.1 ∈ Ts ∨ ∃ host, (own, i, M.1, host) ∈ sr.2)
  | .invokestatic i => (X.2.2 = 0 → ∃ M, P[X.1]? = some M ∧ Cond.static M.1 ∈ Ts ∧ Cond.initialized M.1.cls ∈ Ts ∧ (M.1.cls ≠ "java/lang/invoke/MethodHandle" ∧ M.1.cls ≠ "java/lang/invoke/VarHandle" ∧ (parseMethodDescriptor M.1.desc).map (fun d => d.parameters.length) = some X.2.1) ∧ (Cond.methodLink own i M.1 ∈ Ts ∨ ∃ host, (own, i, M.1, host) ∈ sr.2)) ∧
      (X.2.2 = 2 → Cond.methodLink own i arraycopyName ∈ Ts ∧ Cond.native arraycopyName ∈ Ts ∧ Cond.static arraycopyName ∈ Ts ∧ Cond.initialized "java/lang/System" ∈ Ts)
  | .invokespecial i => (X.2.2 = 0 → ∃ M, P[X.1]? = some M ∧ M.1.name = "<init>" ∧ M.2.2.2.1 = none ∧ Cond.instanceMethod M.1 ∈ Ts ∧ Cond.initialized M.1.cls ∈ Ts ∧ (M.1.cls ≠ "java/lang/invoke/MethodHandle" ∧ M.1.cls ≠ "java/lang/invoke/VarHandle" ∧ (parseMethodDescriptor M.1.desc).map (fun d => d.parameters.length + 1) = some X.2.1) ∧ (Cond.methodLink own i M.1 ∈ Ts ∨ ∃ host, (own, i, M.1, host) ∈ sr.2)) ∧
      (X.2.2 = 1 → Cond.methodLink own i Lib.objectInit ∈ Ts ∧ Cond.instanceMethod Lib.objectInit ∈ Ts ∧ Cond.code Lib.objectInit ⟨#[0xb1]⟩ 1 none ∈ Ts)
  | _ => True
/-- what holds of the tables and constants at every method's entry -/
def am_W (D : va_G) (cl : List vw_C) (tys : List FieldType) (ca : FieldType → ClassId) (kd : Nat → Nat) (A : Nat → Prop) (cst : am_K) (sn : List (Nat × String × String × String)) (sr : am_SR) (strs : List Nat) (lens : List Nat) (byts : List (List Int32)) (adV : Nat → Nat) (U : State) : Prop :=
  va_K D cl [] U ∧ (∀ ty ∈ tys, ArrOfT U (ca ty) ty ∧ va_RA U (ca ty) ty) ∧
  (∀ (a : Nat) (L : List Int32), a < 16 → cst.1[a]? = some L → va_T .int (kd a) L.length (fun j => .int (L.getD j 0)) A U U.heap) ∧
  (∀ (a : Nat) (C n d : String), (a, C, n, d) ∈ sn → va_Z C n d (am_v kd (am_sv cst a)) A U U.heap) ∧
  (∀ (o : String) (i : Nat) (tx : String) (a : Nat), (o, i, tx, a) ∈ sr.1 → vk_R o i tx (kd a) U) ∧
  (∀ a ∈ strs, va_O "java/lang/String" (kd a) A U U.heap) ∧
  am_tx kd A cst U ∧ (∀ q ∈ sr.2, va_Nw (.methodLinkNest q.1 q.2.1 q.2.2.1 q.2.2.2) U) ∧ ∀ C, .object C ∈ tys → va_AO C U
section AM5
variable {D : va_G} {cl : List vw_C} {tys : List FieldType} {ca : FieldType → ClassId} {kd : Nat → Nat} {A : Nat → Prop} {cst : am_K} {sn : List (Nat × String × String × String)} {sr : am_SR} {strs : List Nat} {lens : List Nat} {byts : List (List Int32)} {adV : Nat → Nat}
theorem am_W.to {s U : State} (hw : am_W D cl tys ca kd A cst sn sr strs lens byts adV s) (hW : s.WarmedH U.vm) (hq : ∀ a : Nat, a < s.heap.size → ¬ A a → U.heap[a]? = s.heap[a]?) : am_W D cl tys ca kd A cst sn sr strs lens byts adV U := by
  obtain ⟨h1, h2, h3, h4, h5, h6, h7, h8, h9⟩ := hw
  have ha := hW.alike
  exact ⟨h1.moved ha, fun ty ht => ⟨arrOfT_moved ha (h2 ty ht).1, (h2 ty ht).2.moved ha⟩, fun a L x y => ((h3 a L x y).moved ha).kept hq, fun a C n d x => ((h4 a C n d x).moved ha).kept hq, fun o i tx a x => (h5 o i tx a x).warm hW, fun a x => ((h6 a x).moved ha).kept hq, fun i L x => ⟨((h7 i L x).1.moved ha).kept hq, ((h7 i L x).2.1.moved ha).kept hq, ((h7 i L x).2.2.moved ha).kept hq⟩, fun q hx => va_Nw.warmM hW (h8 q hx), fun C hC => va_AO.moved ha (h9 C hC)⟩
theorem am_W.call {U : State} {g : JFrame} {mk : MethodId} {a : Array Value} (hw : am_W D cl tys ca kd A cst sn sr strs lens byts adV U) : am_W D cl tys ca kd A cst sn sr strs lens byts adV (U.calling g mk a) := by
  obtain ⟨h1, h2, h3, h4, h5, h6, h7, h8, h9⟩ := hw
  have ha : U.vm.Alike (U.calling g mk a).vm := Vm.Alike.refl U.vm
  exact ⟨h1.moved ha, fun ty ht => ⟨arrOfT_moved ha (h2 ty ht).1, (h2 ty ht).2.moved ha⟩, fun a L x y => (h3 a L x y).moved ha, fun a C n d x => (h4 a C n d x).moved ha, fun o i tx a x => (h5 o i tx a x).same rfl, fun a x => (h6 a x).moved ha, fun i L x => ⟨(h7 i L x).1.moved ha, (h7 i L x).2.1.moved ha, (h7 i L x).2.2.moved ha⟩, fun q hx => va_Nw.same rfl rfl (h8 q hx), fun C hC => va_AO.moved ha (h9 C hC)⟩
end AM5
end
section
section AM6
variable {D : va_G} {cl : List vw_C} {tys : List FieldType} {ca : FieldType → ClassId} {kd : Nat → Nat} {base : Nat} {A : Nat → Prop} {cst : am_K} {sn : List (Nat × String × String × String)} {sr : am_SR} {strs : List Nat} {lens : List Nat} {byts : List (List Int32)} {adV : Nat → Nat} {tt : List (List FieldType)} {P : List am_M} {Ts : List Cond} {call : Nat → List Value → am_H → am_Q → Prop} {l0 : Launch}
variable (D cl tys ca kd base A cst sn sr strs lens byts adV)
def am_Pc (av : List Value) (h : am_H) : Array Value → State → Prop := fun v U => v = (av.map (am_v (am_ad kd base))).toArray ∧ am_R D cl tys (am_ad kd base) ca base h U.heap ∧ am_W D cl tys ca kd A cst sn sr strs lens byts adV U
def am_Qc (r : am_Q) : Array Value → State → Outcome → State → Prop := fun _ st o t => o = .returned (r.1.map (am_v (am_ad kd base))) ∧ am_R D cl tys (am_ad kd base) ca base r.2.1 t.heap ∧ va_F A st t
variable {D cl tys ca kd base A cst sn sr strs lens byts adV}
theorem am_blind {av : List Value} {h : am_H} : FrameBlind (am_Pc D cl tys ca kd base A cst sn sr strs lens byts adV av h) := fun _ _ _ _ hq => ⟨hq.1, hq.2.1, hq.2.2.call⟩
/-- what is asked of the program's table, of its words, and of the callees -/
def am_ctx (cl : List vw_C) (tys : List FieldType) (tt : List (List FieldType)) (P : List am_M) (Ts : List Cond) : Prop :=
  am_clok cl tt Ts ∧ (∀ w ∈ Ts, (w.onTables && w.keeps) = true ∨ ∃ ty, w = .arrayClass ty) ∧ ∀ (mi : Nat) (M : am_M), P[mi]? = some M → Cond.code M.1 M.2.1 M.2.2.1 M.2.2.2.1 ∈ Ts ∧ M.2.2.1 ≤ 100
def am_tab (cl : List vw_C) (tys : List FieldType) (P : List am_M) (Ts : List Cond) (sn : List (Nat × String × String × String)) (sr : am_SR) (M : am_M) (init : Bool) : Prop :=
  ∀ (pc : Nat) (I : Instr) (X : am_X), am_find pc M.2.2.2.2 = some (I, X) → decode M.2.1 pc = .ok (I, am_len X I) ∧ am_ok cl Ts sn sr M.1.cls M.2.2.1 init X I ∧ am_oka cl tys Ts M.1.cls X I ∧ am_okc P Ts sr M.1.cls X I
theorem am_goodIn (hC : am_ctx cl tys tt P Ts) {mi : Nat} {M : am_M} (hM : P[mi]? = some M) : GoodIn Ts (Cond.code M.1 M.2.1 M.2.2.1 M.2.2.2.1 :: Ts) := by
  intro w hw
  rcases List.mem_cons.mp hw with rfl | h
  · exact ⟨(hC.2.2 mi M hM).1, hC.2.1 _ (hC.2.2 mi M hM).1⟩
  · exact ⟨h, hC.2.1 w h⟩
variable {p : Program} {e : Env} {R : Room} {s : State} {m : MethodId} {args : Array Value} {below : List Frame} {meth : Method} {c : Code} {H : Heap} {locs : List Loc} {cells slots : Nat} {Q : State → Prop}
theorem am_after {r : am_Q} {a : Array Value} {pc mc ms : Nat} {ls : Array Slot} {st0 rest : List Value} (hr : va_Run p l0 e R s m args below meth c H locs cells slots mc ms (F0 m pc ls st0) rest (am_Qc D cl tys ca kd base A r a) A) (hS : va_S A s.heap H locs)
    (kk : ∀ (H1 : Heap) (locs1 : List Loc), am_R D cl tys (am_ad kd base) ca base r.2.1 H1 → va_S A s.heap H1 locs1 → W p l0 e R s m args below meth c H1 locs1 (cells + mc) (slots + ms) Q (F0 m (pc + 3) ls ((r.1.map (am_v (am_ad kd base))).toList ++ rest))) : W p l0 e R s m args below meth c H locs cells slots Q (F0 m pc ls st0) := by
  intro T hT X
  obtain ⟨v, st₀, t, T', L, h0, X', hL, e1, e2, ⟨hv, hR, hz, hk⟩, st⟩ := hr T hT X
  cases hv
  rw [h0] at hz hk
  obtain ⟨t2, a1, b1⟩ := kk T'.heap (locs ++ L) (by rw [e1]; exact hR) ⟨Nat.le_trans hS.1 (by rw [e1]; exact hz), fun q h1 h2 => by rw [e1, hk q (Nat.lt_of_lt_of_le h1 hS.1) h2]; exact hS.2.1 q h1 h2, fun q hq => by
      rcases List.mem_append.mp hq with h | h
      · exact hS.2.2 q h
      · exact hL q h⟩ T' rfl X'
  exact ⟨t2, st t2 a1, b1⟩
theorem am_obj_some {I : Instr} {X : am_X} {st st1 : List Value} (h : am_obj I X st = some st1) : ∃ i a, I = .invokespecial i ∧ X.2.2 = 1 ∧ st = .ref a :: st1 ∧ (st1.map fun v => v.category).sum ≤ 8 := by
  unfold am_obj at h
  split at h
  case h_2 => cases h
  by_cases hX : X.2.2 = 1
  case neg => rw [if_neg hX] at h; cases h
  rw [if_pos hX] at h
  split at h
  case h_2 => cases h
  rename_i a st2
  by_cases hs : (st2.map fun v => v.category).sum ≤ 8
  case neg => rw [if_neg hs] at h; cases h
  rw [if_pos hs] at h
  cases h
  exact ⟨_, _, rfl, hX, rfl, hs⟩
theorem am_cats (f : Nat → Nat) (st : List Value) : ((st.map (am_v f)).map fun v => v.category) = st.map fun v => v.category := by
  rw [List.map_map]
  apply List.map_congr_left
  intro v _
  exact am_v_cat f v
end AM6
end
section
section AM7
variable {D : va_G} {cl : List vw_C} {tys : List FieldType} {ca : FieldType → ClassId} {kd : Nat → Nat} {base : Nat} {A : Nat → Prop} {cst : am_K} {sn : List (Nat × String × String × String)} {sr : am_SR} {strs : List Nat} {lens : List Nat} {byts : List (List Int32)} {adV : Nat → Nat} {tt : List (List FieldType)} {P : List am_M} {Ts : List Cond} {call : Nat → List Value → am_H → am_Q → Prop} {l0 : Launch}
variable {p : Program} {e : Env} {R : Room} {s : State} {m : MethodId} {args : Array Value} {below : List Frame} {meth : Method} {c : Code} {H : Heap} {locs : List Loc} {cells slots : Nat} {Q : State → Prop}
theorem am_clamp {z : Int32} (hz : ¬ z < 0) : z.toInt = (z.toNatClampNeg : Int) := by
  have hz0 : (0 : Int) ≤ z.toInt := by
    have := Int32.not_lt.mp hz
    simpa using Int32.le_iff_toInt_le.mp this
  show z.toInt = ((z.toInt.toNat : Nat) : Int)
  omega
set_option maxHeartbeats 4000000 in
theorem am_hcopy {cc : ByteArray} {pc : Nat} {ls : Array Slot} {I : Instr} {X : am_X} {st st1 : List Value} {h h1 : am_H} {own : String}
    (hx : p.tables.exec = Jvm.exec) (hb : c.code = cc) (hml : c.maxLocals = ls.size) (hts : ∀ w ∈ Ts, w.before args s = true) (hown : s.vm.findClass own = some m.cls) (hd : decode cc pc = .ok (I, am_len X I)) (hok : am_okc P Ts sr own X I)
    (hT : ∀ ty ∈ tys, ArrOfT s (ca ty) ty ∧ va_RA s (ca ty) ty) (hA : ∀ q, base ≤ q → A q) (hS : va_S A s.heap H locs) (hR : am_R D cl tys (am_ad kd base) ca base h H)
    (hs : am_copy I X st h = some (st1, h1)) (hf : 1 ≤ R.frames) (hlo : 100 ≤ R.locals)
    (k : ∀ (H' : Heap) (locs' : List Loc), am_R D cl tys (am_ad kd base) ca base h1 H' → va_S A s.heap H' locs' → W p l0 e R s m args below meth c H' locs' cells slots Q (F0 m (pc + 3) ls (st1.map (am_v (am_ad kd base))))) :
    W p l0 e R s m args below meth c H locs cells slots Q (F0 m pc ls (st.map (am_v (am_ad kd base)))) := by
  unfold am_copy at hs
  split at hs
  case h_2 => cases hs
  rename_i i
  by_cases hX : X.2.2 = 2
  case neg => rw [if_neg hX] at hs; cases hs
  rw [if_pos hX] at hs
  split at hs
  case h_2 => cases hs
  rename_i n dp b sp a st2
  split at hs
  · cases hs
  rename_i hneg
  simp only [not_or, Decidable.not_not] at hneg
  obtain ⟨ha, hb2, hn, hdp, hsp, hsum⟩ := hneg
  split at hs
  case h_2 => cases hs
  rename_i n0 f n1 g hea heb
  split at hs
  case isFalse => cases hs
  rename_i hlen
  cases hs
  obtain ⟨hw1, hw2, hw3, hw4⟩ := hok.2 hX
  have hta := hR.2.2 _ _ _ hea
  intro T hT0 XS
  have hc0 : H[am_ad kd base a]? = some (vp_cell (ca .int) (n0, .inl f)) := hR.at ha hea
  have hc1 : H[am_ad kd base b]? = some (vp_cell (ca .int) (n1, .inl g)) := hR.at hb2 heb
  obtain ⟨-, k0, hk0, cm0, hkk0⟩ := (hT _ hta).1 n0 (fun j => .int (f j))
  obtain ⟨-, k1, hk1, cm1, hkk1⟩ := (hT _ hta).1 n1 (fun j => .int (g j))
  obtain ⟨vm', X', step⟩ := XS.arraycopy hx hown (hts _ hw1) (hts _ hw2) (hts _ hw3) (hts _ hw4) (src := am_ad kd base a) (dst := am_ad kd base b) (cs := vp_cell (ca .int) (n0, .inl f)) (cd := vp_cell (ca .int) (n1, .inl g)) (srcPos := sp) (destPos := dp) (n := n) (by rw [hT0]; exact hc0) (by rw [hT0]; exact hc1)
    (fun _ h => by cases h) (fun _ h => by cases h) (fun h => by cases h) (fun h => by cases h) hk0 hk1 hkk0 hkk1 (by simp [refKind]) hsp hdp hn
    (by rw [am_clamp hsp, am_clamp hn]; show ¬ _ > ((arrV (ca .int) n0 (fun j => .int (f j))).slots.size : Int); rw [arrV_size]; omega)
    (by rw [am_clamp hdp, am_clamp hn]; show ¬ _ > ((arrV (ca .int) n1 (fun j => .int (g j))).slots.size : Int); rw [arrV_size]; omega)
    (fun vm₁ _ i hi => by
      have e : (vp_cell (ca .int) (n0, .inl f)).slots.getD (sp.toNatClampNeg + i) .null = .int (f (sp.toNatClampNeg + i)) := by
        show (arrV (ca .int) n0 (fun j => .int (f j))).slots.getD _ _ = _
        rw [Array.getD_eq_getD_getElem?, arrV_read _ _ (by omega)]
        rfl
      refine ⟨?_, ?_⟩
      · rw [e]; rfl
      · rw [e]; exact trivial)
    (g := F0 m pc ls (.int n :: .int dp :: .ref (am_ad kd base b) :: .int sp :: .ref (am_ad kd base a) :: st1.map (am_v (am_ad kd base)))) rfl (by rw [hml]) (rest := st1.map (am_v (am_ad kd base))) rfl (by rw [hb]; exact hd) hf (by
      rw [am_cats]
      show 2 * 0 + _ + (nativeFrameWords "java/lang/System" "arraycopy" 5 + 11) ≤ _
      have : nativeFrameWords "java/lang/System" "arraycopy" 5 = 7 := by decide
      rw [this]
      omega)
  have e1 : copied (vp_cell (ca .int) (n0, .inl f)) (vp_cell (ca .int) (n1, .inl g)) sp dp n = vp_cell (ca .int) (n1, .inl (va_cpy f g sp.toNatClampNeg dp.toNatClampNeg n.toNatClampNeg)) := va_copied (fun z => .int z) (ca .int) (ca .int) f g hlen.1
  rw [e1] at X' step
  have hl : am_ad kd base b < H.size := (Array.getElem?_eq_some_iff.mp hc1).1
  generalize hcell : vp_cell (ca .int) (n1, .inl (va_cpy f g sp.toNatClampNeg dp.toNatClampNeg n.toNatClampNeg)) = cellN at X' step
  have hheap : ((T.setVm vm').setCell (am_ad kd base b) cellN).heap = H.setIfInBounds (am_ad kd base b) cellN := by rw [← hT0]; rfl
  have oq : ∀ q : Nat, q ≠ am_ad kd base b → (H.setIfInBounds (am_ad kd base b) cellN)[q]? = H[q]? := fun q hq => by simp [Array.getElem?_setIfInBounds, Ne.symm hq]
  have hAb : A (am_ad kd base b) := hA _ (by rw [am_ad_hi hb2]; omega)
  obtain ⟨t, a1, b1⟩ := k _ _ (hR.set hb2 heb (H1 := H.setIfInBounds (am_ad kd base b) cellN) (by simp) oq (show (H.setIfInBounds (am_ad kd base b) cellN)[am_ad kd base b]? = some _ by rw [← hcell]; simp [Array.getElem?_setIfInBounds, hl, am_e]) (fun ty y hy => by cases hy; exact hta))
    ⟨by simp; exact hS.1, fun q g1 g2 => by
      rw [oq q (fun e => g2 (by rw [e]; exact hAb))]
      exact hS.2.1 q g1 g2, fun q hq => by
      rcases List.mem_append.mp hq with h | h
      · exact hS.2.2 q h
      · obtain ⟨z, -, hz⟩ := List.mem_map.mp h
        rw [← hz]
        exact hAb⟩ _ hheap X'
  exact ⟨t, step t a1, b1⟩
end AM7
end
section
section AM8
variable {D : va_G} {cl : List vw_C} {tys : List FieldType} {ca : FieldType → ClassId} {kd : Nat → Nat} {base : Nat} {A : Nat → Prop} {cst : am_K} {sn : List (Nat × String × String × String)} {sr : am_SR} {strs : List Nat} {lens : List Nat} {byts : List (List Int32)} {adV : Nat → Nat} {tt : List (List FieldType)} {P : List am_M} {Ts : List Cond} {call : Nat → List Value → am_H → am_Q → Prop} {l0 : Launch}
variable {p : Program} {e : Env} {R : Room} {s : State} {m : MethodId} {args : Array Value} {below : List Frame} {meth : Method} {c : Code} {H : Heap} {locs : List Loc} {cells slots : Nat} {Q : State → Prop}
/-- what the callees are known to do, at a depth -/
def am_calls (D : va_G) (cl : List vw_C) (tys : List FieldType) (ca : FieldType → ClassId) (kd : Nat → Nat) (base : Nat) (A : Nat → Prop) (cst : am_K) (sn : List (Nat × String × String × String)) (sr : am_SR) (strs : List Nat) (lens : List Nat) (byts : List (List Int32)) (adV : Nat → Nat) (P : List am_M) (Ts : List Cond) (l0 : Launch) (d : Nat) (call : Nat → List Value → am_H → am_Q → Prop) : Prop :=
  ∀ (mi : Nat) (M : am_M) (av : List Value) (h : am_H) (r : am_Q), P[mi]? = some M → call mi av h r →
    Met l0 M.1 (Cond.code M.1 M.2.1 M.2.2.1 M.2.2.2.1 :: Ts) ({ frames := d, cells := r.2.2.1, slots := r.2.2.2, locals := 200 * d } : Room) (am_Pc D cl tys ca kd base A cst sn sr strs lens byts adV av h) (am_Qc D cl tys ca kd base A r) r.2.2.1 r.2.2.2 A
theorem am_recv {C : String} {v : Value} {h : am_H} (hw : am_W D cl tys ca kd A cst sn sr strs lens byts adV s) (hS : va_S A s.heap H locs) (hR : am_R D cl tys (am_ad kd base) ca base h H) (hv : am_rc cl strs C v h) :
    ∃ a, v = .ref a ∧ ∃ cell : Cell, H[am_ad kd base a]? = some cell ∧ cell.vm.isStatics = false ∧ s.vm.findClass C = some cell.cls := by
  obtain ⟨a, rfl, (⟨ha, ci, fs, r, he, hc, hC⟩ | ⟨ha, hin, hC⟩)⟩ := hv
  · refine ⟨a, rfl, ?_⟩
    obtain ⟨r', h1, cell, q1, q2, q3, -⟩ := hR.at ha he
    exact ⟨cell, q1, by rw [q3]; rfl, by rw [q2, ← hC]; exact (hw.1.1 ci r hc).2.1⟩
  · refine ⟨a, rfl, ?_⟩
    obtain ⟨cell, q1, q2, q3, q4⟩ := hw.2.2.2.2.2.1 a hin
    refine ⟨cell, ?_, q2, by rw [hC]; exact q3⟩
    have : am_ad kd base a = kd a := by unfold am_ad; rw [if_pos ha]
    rw [this, hS.2.1 _ (Array.getElem?_eq_some_iff.mp q1).1 q4]
    exact q1
theorem am_desc {x : Option MethodDescriptor} {N n : Nat} (h : x.map (fun d => d.parameters.length + 1) = some N) (hn : N = n + 1) : x.map (fun d => d.parameters.length) = some n := by
  cases x with
  | none => cases h
  | some y =>
    simp only [Option.map_some, Option.some.injEq] at h ⊢
    omega
set_option maxHeartbeats 4000000 in
theorem am_hcall {cc : ByteArray} {pc d : Nat} {ls : Array Slot} {I : Instr} {X : am_X} {st : List Value} {h : am_H} {r1 : am_Q} {own : String}
    (hx : p.tables.exec = Jvm.exec) (hb : c.code = cc) (hml : c.maxLocals = ls.size) (hts : ∀ w ∈ Ts, w.before args s = true) (hown : s.vm.findClass own = some m.cls) (hd : decode cc pc = .ok (I, am_len X I)) (hok : am_okc P Ts sr own X I)
    (hC : am_ctx cl tys tt P Ts) (hw : am_W D cl tys ca kd A cst sn sr strs lens byts adV s) (hcs : am_calls D cl tys ca kd base A cst sn sr strs lens byts adV P Ts l0 d call)
    (hS : va_S A s.heap H locs) (hR : am_R D cl tys (am_ad kd base) ca base h H)
    (hc : am_c cl P strs I X st h) (hcl : call X.1 (st.take X.2.1).reverse h r1) (hRf : d + 1 ≤ R.frames) (hRl : 200 * d + 200 ≤ R.locals) (hcells : cells + r1.2.2.1 ≤ R.cells) (hslots : slots + r1.2.2.2 ≤ R.slots)
    (k : ∀ (H' : Heap) (locs' : List Loc), am_R D cl tys (am_ad kd base) ca base r1.2.1 H' → va_S A s.heap H' locs' → W p l0 e R s m args below meth c H' locs' (cells + r1.2.2.1) (slots + r1.2.2.2) Q (F0 m (pc + 3) ls ((r1.1.toList ++ st.drop X.2.1).map (am_v (am_ad kd base))))) :
    W p l0 e R s m args below meth c H locs cells slots Q (F0 m pc ls (st.map (am_v (am_ad kd base)))) := by
  obtain ⟨hN, hsum, h0, hI⟩ := hc
  have hsum' : 2 * (F0 m pc ls (st.map (am_v (am_ad kd base)))).monitorRoom + (((st.drop X.2.1).map (am_v (am_ad kd base))).map fun v => v.category).sum ≤ 8 := by
    rw [am_cats]; exact lv_room hsum
  have hk : ∀ (H' : Heap) (locs' : List Loc), am_R D cl tys (am_ad kd base) ca base r1.2.1 H' → va_S A s.heap H' locs' → W p l0 e R s m args below meth c H' locs' (cells + r1.2.2.1) (slots + r1.2.2.2) Q (F0 m (pc + 3) ls ((r1.1.map (am_v (am_ad kd base))).toList ++ (st.drop X.2.1).map (am_v (am_ad kd base)))) := by
    intro H' locs' q1 q2
    refine W.eq ?_ (k H' locs' q1 q2)
    rw [List.map_append]
    congr 2
    cases r1.1 <;> rfl
  have hpre : ∀ U : State, U.heap = H → s.WarmedH U.vm → am_Pc D cl tys ca kd base A cst sn sr strs lens byts adV (st.take X.2.1).reverse h (((st.take X.2.1).reverse.map (am_v (am_ad kd base))).toArray) U := fun U hU hW => ⟨rfl, by rw [hU]; exact hR, hw.to hW (fun a g1 g2 => by rw [hU]; exact hS.2.1 a g1 g2)⟩
  cases I with
  | invokestatic i =>
    obtain ⟨M, hM, hst, hin, hdd, hlink⟩ := hok.1 h0
    have hstk : st.map (am_v (am_ad kd base)) = ((st.take X.2.1).reverse.map (am_v (am_ad kd base))).reverse ++ (st.drop X.2.1).map (am_v (am_ad kd base)) := by
      rw [List.map_reverse, List.reverse_reverse, ← List.map_append, List.take_append_drop]
    have hlen : ((st.take X.2.1).reverse.map (am_v (am_ad kd base))).length = X.2.1 := by simp; omega
    have hmL := (hC.2.2 _ M hM).2
    rcases hlink with hlink | ⟨host, hlink⟩
    · exact am_after (va_runS (Ts := Ts) ⟨hx, hb, hml, hown, hts⟩ (hcs _ M _ _ _ hM hcl) ⟨callB_of X.2.1 hts (am_goodIn hC hM) rfl rfl rfl (hts _ hin) (hts _ hlink) hdd ⟨hRf, by show 8 + (_ + 11) + 200 * d ≤ _; omega⟩, hts _ hst⟩ ⟨am_blind, hpre⟩ rfl hlen rfl hstk hsum' hd ⟨hcells, hslots⟩) hS hk
    · exact am_after (va_runSN (Ts := Ts) (host := host) ⟨hx, hb, hml, hown, hts⟩ (hcs _ M _ _ _ hM hcl) ⟨va_cnB X.2.1 hts (am_goodIn hC hM) rfl rfl rfl (hw.2.2.2.2.2.2.2.1 _ hlink) (hts _ hin) hdd ⟨hRf, by show 8 + (_ + 11) + 200 * d ≤ _; omega⟩, hts _ hst, trivial⟩ ⟨am_blind, hpre⟩ rfl hlen rfl hstk hsum' hd ⟨hcells, hslots⟩) hS hk
  | invokevirtual i =>
    obtain ⟨M, hM, hins, hsel, hin, hdd, hlink⟩ := hok h0
    obtain ⟨v, As, M', hA, hM', hrc⟩ := hI
    cases hM.symm.trans hM'
    obtain ⟨a, rfl, hcell⟩ := am_recv hw hS hR hrc
    rw [hA] at hpre hcl
    have hN' : X.2.1 = As.length + 1 := by
      have := congrArg List.length hA
      simp at this
      omega
    have htk : st.take X.2.1 = As.reverse ++ [.ref a] := by
      have := congrArg List.reverse hA
      simpa using this
    have hstk : st.map (am_v (am_ad kd base)) = (As.map (am_v (am_ad kd base))).reverse ++ .ref (am_ad kd base a) :: (st.drop X.2.1).map (am_v (am_ad kd base)) := by
      have e1 : st = (As.reverse ++ [.ref a]) ++ st.drop X.2.1 := by rw [← htk, List.take_append_drop]
      have e2 := congrArg (List.map (am_v (am_ad kd base))) e1
      rw [e2]
      simp [List.map_append, List.map_reverse, am_v]
    have hlen : (As.map (am_v (am_ad kd base))).length = As.length := List.length_map _
    have hmL := (hC.2.2 _ M hM).2
    rcases hlink with hlink | ⟨host, hlink⟩
    · exact am_after (va_runV (Ts := Ts) (C := M.1.cls) ⟨hx, hb, hml, hown, hts⟩ (hcs _ M _ _ _ hM hcl) ⟨callB_of As.length hts (am_goodIn hC hM) rfl rfl rfl (hts _ hin) (hts _ hlink) ⟨hdd.1, hdd.2.1, am_desc hdd.2.2 hN'⟩ ⟨hRf, by show 8 + (_ + 11) + 200 * d ≤ _; omega⟩, hts _ hins, hts _ hsel⟩ ⟨am_blind, hcell, hpre⟩ rfl hlen rfl hstk hsum' hd ⟨hcells, hslots⟩) hS hk
    · exact am_after (va_runVN (Ts := Ts) (C := M.1.cls) (host := host) ⟨hx, hb, hml, hown, hts⟩ (hcs _ M _ _ _ hM hcl) ⟨va_cnB As.length hts (am_goodIn hC hM) rfl rfl rfl (hw.2.2.2.2.2.2.2.1 _ hlink) (hts _ hin) ⟨hdd.1, hdd.2.1, am_desc hdd.2.2 hN'⟩ ⟨hRf, by show 8 + (_ + 11) + 200 * d ≤ _; omega⟩, hts _ hins, hts _ hsel⟩ ⟨am_blind, hcell, hpre⟩ rfl hlen rfl hstk hsum' hd ⟨hcells, hslots⟩) hS hk
  | invokespecial i =>
    obtain ⟨M, hM, hnm, hrt, hins, hin, hdd, hlink⟩ := hok.1 h0
    obtain ⟨a, As, hA⟩ := hI
    rw [hA] at hpre hcl
    have hN' : X.2.1 = As.length + 1 := by
      have := congrArg List.length hA
      simp at this
      omega
    have htk : st.take X.2.1 = As.reverse ++ [.ref a] := by
      have := congrArg List.reverse hA
      simpa using this
    have hstk : st.map (am_v (am_ad kd base)) = (As.map (am_v (am_ad kd base))).reverse ++ .ref (am_ad kd base a) :: (st.drop X.2.1).map (am_v (am_ad kd base)) := by
      have e1 : st = (As.reverse ++ [.ref a]) ++ st.drop X.2.1 := by rw [← htk, List.take_append_drop]
      have e2 := congrArg (List.map (am_v (am_ad kd base))) e1
      rw [e2]
      simp [List.map_append, List.map_reverse, am_v]
    have hlen : (As.map (am_v (am_ad kd base))).length = As.length := List.length_map _
    have hmL := (hC.2.2 _ M hM).2
    have hMet := hcs _ M _ _ _ hM hcl
    have hG := am_goodIn hC hM
    obtain ⟨y, bytes, maxL, ret, L⟩ := M
    dsimp only at hrt hMet hG hmL hnm hins hin hdd hlink
    subst hrt
    rcases hlink with hlink | ⟨host, hlink⟩
    · exact am_after (va_runI (Ts := Ts) ⟨hx, hb, hml, hown, hts⟩ hMet ⟨callB_of As.length hts hG rfl rfl rfl (hts _ hin) (hts _ hlink) ⟨hdd.1, hdd.2.1, am_desc hdd.2.2 hN'⟩ ⟨hRf, by show 8 + (_ + 11) + 200 * d ≤ _; omega⟩, hnm, hts _ hins⟩ ⟨am_blind, hpre⟩ rfl hlen rfl hstk hsum' hd ⟨hcells, hslots⟩) hS hk
    · exact am_after (va_runIN (Ts := Ts) (host := host) ⟨hx, hb, hml, hown, hts⟩ hMet ⟨va_cnB As.length hts hG rfl rfl rfl (hw.2.2.2.2.2.2.2.1 _ hlink) (hts _ hin) ⟨hdd.1, hdd.2.1, am_desc hdd.2.2 hN'⟩ ⟨hRf, by show 8 + (_ + 11) + 200 * d ≤ _; omega⟩, hnm, hts _ hins⟩ ⟨am_blind, hpre⟩ rfl hlen rfl hstk hsum' hd ⟨hcells, hslots⟩) hS hk
  | _ => exact hI.elim
end AM8
end
section
theorem am_kinds (X : am_X) (I : Instr) : am_isP X I ∨ (∃ i, I = .getfield i) ∨ (∃ i, I = .putfield i) ∨ (I = .arraylength ∨ I = .iaload ∨ I = .laload ∨ I = .baload ∨ I = .aaload ∨ (∃ i, I = .getstatic i) ∨ ((∃ i, I = .ldc i) ∧ ¬ X.1 = 0) ∨ ((∃ i, I = .ldc_w i) ∧ ¬ X.1 = 0)) ∨ (I = .iastore ∨ I = .lastore ∨ I = .bastore ∨ I = .aastore) := by
  cases I with
  | ldc i =>
    by_cases h : X.1 = 0
    · exact Or.inl h
    · exact Or.inr (Or.inr (Or.inr (Or.inl (Or.inr (Or.inr (Or.inr (Or.inr (Or.inr (Or.inr (Or.inl ⟨⟨i, rfl⟩, h⟩))))))))))
  | ldc_w i =>
    by_cases h : X.1 = 0
    · exact Or.inl h
    · exact Or.inr (Or.inr (Or.inr (Or.inl (Or.inr (Or.inr (Or.inr (Or.inr (Or.inr (Or.inr (Or.inr ⟨⟨i, rfl⟩, h⟩))))))))))
  | getfield i => exact Or.inr (Or.inl ⟨i, rfl⟩)
  | putfield i => exact Or.inr (Or.inr (Or.inl ⟨i, rfl⟩))
  | arraylength => simp
  | iaload => simp
  | laload => simp
  | baload => simp
  | aaload => simp
  | getstatic i => simp
  | iastore => simp
  | lastore => simp
  | bastore => simp
  | aastore => simp
  | _ => exact Or.inl trivial
theorem am_args_lc (f : Nat → Nat) : ∀ (av : List Value) (i : Nat), lv_args i (av.map (am_v f)) = am_lc f (lv_args i av)
  | [], _ => rfl
  | v :: av, i => by
    simp only [List.map_cons, lv_args, am_lc, am_v_cat]
    congr 1
    exact am_args_lc f av _
theorem am_sl_len (f : Nat → Nat) (av : List Value) : (lg_sl (av.map (am_v f))).length = (lg_sl av).length := by
  unfold lg_sl
  rw [List.flatMap_map]
  simp only [List.length_flatMap]
  congr 1
  apply List.map_congr_left
  intro v _
  simp only [am_v_cat]
  split <;> rfl
section AM9
variable {D : va_G} {cl : List vw_C} {tys : List FieldType} {ca : FieldType → ClassId} {kd : Nat → Nat} {base : Nat} {A : Nat → Prop} {cst : am_K} {sn : List (Nat × String × String × String)} {sr : am_SR} {strs : List Nat} {lens : List Nat} {byts : List (List Int32)} {adV : Nat → Nat} {tt : List (List FieldType)} {P : List am_M} {Ts : List Cond} {call : Nat → List Value → am_H → am_Q → Prop} {l0 : Launch}
variable {p : Program} {e : Env} {R : Room} {s : State} {m : MethodId} {args : Array Value} {below : List Frame} {meth : Method} {c : Code} {Q : State → Prop}
set_option maxHeartbeats 4000000 in
/-- a run of the abstract machine is a walk of the Java machine -/
theorem am_sim {M : am_M} {init : Bool} {d : Nat} (hx : p.tables.exec = Jvm.exec) (hb : c.code = M.2.1) (hml : c.maxLocals = M.2.2.1) (hts : ∀ w ∈ Ts, w.before args s = true) (hown : s.vm.findClass M.1.cls = some m.cls) (hinit : init = true → meth.name = "<init>")
    (htab : am_tab cl tys P Ts sn sr M init) (hC : am_ctx cl tys tt P Ts) (hw : am_W D cl tys ca kd A cst sn sr strs lens byts adV s) (hcs : am_calls D cl tys ca kd base A cst sn sr strs lens byts adV P Ts l0 d call) (hA : ∀ q, base ≤ q → A q) (hRf : d + 1 ≤ R.frames) (hRl : 200 * d + 200 ≤ R.locals) :
    ∀ (n pc : Nat) (l : am_L) (st : List Value) (h : am_H) (r : am_Q) (H : Heap) (locs : List Loc) (cells slots : Nat) (ls : Array Slot), am_Go cst cl tt P strs call M n pc l st h r → lv_has ls M.2.2.1 (am_lc (am_ad kd base) l) → am_R D cl tys (am_ad kd base) ca base h H → va_S A s.heap H locs → cells + r.2.2.1 ≤ R.cells → slots + r.2.2.2 ≤ R.slots →
      (∀ (pcr : Nat) (I : Instr) (X : am_X) (st' : List Value) (ls' : Array Slot) (H' : Heap) (locs' : List Loc), am_find pcr M.2.2.2.2 = some (I, X) → am_r M.2.2.2.1 I st' = some r.1 → am_R D cl tys (am_ad kd base) ca base r.2.1 H' → va_S A s.heap H' locs' → W p l0 e R s m args below meth c H' locs' (cells + r.2.2.1) (slots + r.2.2.2) Q (F0 m pcr ls' (st'.map (am_v (am_ad kd base))))) →
      W p l0 e R s m args below meth c H locs cells slots Q (F0 m pc ls (st.map (am_v (am_ad kd base)))) := by
  intro n
  induction n with
  | zero => intro pc l st h r H locs cells slots ls hgo; exact hgo.elim
  | succ n ih =>
    intro pc l st h r H locs cells slots ls hgo hl hR hS hcells hslots hret
    obtain ⟨I, X, hf, hcase⟩ := hgo
    obtain ⟨hd, hok, hoka, hokc⟩ := htab pc I X hf
    rcases hcase with ⟨F, hs, hgo⟩ | ⟨F, k0, r1, hs, hgo, rfl⟩ | ⟨v, hv, rfl⟩ | ⟨r1, r2, hc, hcl, hgo, rfl⟩ | ⟨st1, hs, hgo⟩ | ⟨st1, h1, hs, hgo⟩
    · obtain ⟨pc', l', st', h'⟩ := F
      rcases am_kinds X I with hk | ⟨i, rfl⟩ | ⟨i, rfl⟩ | hk | hk
      · refine am_pure hx hb hts hown hd hok hl hs hk (fun hh ls' hl' => ?_)
        subst hh
        exact ih _ _ _ _ _ _ _ _ _ _ hgo hl' hR hS hcells hslots hret
      · refine am_hget hx hb hts hown hd hok hC.1 hw.1 hR hS hw.2.2.2.2.2.2.1 hs (fun hh hll => ?_)
        subst hh; subst hll
        exact ih _ _ _ _ _ _ _ _ _ _ hgo hl hR hS hcells hslots hret
      · refine am_hput hx hb hts hown hd hok hC.1 hw.1 hinit hA hS hR hs (fun H' locs' hR' hS' hll => ?_)
        subst hll
        exact ih _ _ _ _ _ _ _ _ _ _ hgo hl hR' hS' hcells hslots hret
      · refine am_hload hx hb hts hown hd hok hw.1 hw.2.1 hS hR hw.2.2.1 hw.2.2.2.1 hw.2.2.2.2.2.2.1 hw.2.2.2.2.1 hk hs (fun hh hll => ?_)
        subst hh; subst hll
        exact ih _ _ _ _ _ _ _ _ _ _ hgo hl hR hS hcells hslots hret
      · refine am_hstore hx hb hd hw.1 hw.2.1 hA hS hR hk hs (fun H' locs' hR' hS' hll => ?_)
        subst hll
        exact ih _ _ _ _ _ _ _ _ _ _ hgo hl hR' hS' hcells hslots hret
    · obtain ⟨pc', l', st', h'⟩ := F
      dsimp only at hcells hslots hret
      refine am_halloc hx hb hts hown hd hoka hC.1 hw.1 hw.2.1 hw.2.2.2.2.2.2.2.2 hS hR hs (by omega) (by omega) (fun H' hR' hS' hll => ?_)
      subst hll
      refine ih _ _ _ _ _ _ _ _ _ _ hgo hl hR' hS' (by omega) (by omega) (fun pcr I' X' st2 ls2 H2 locs2 g1 g2 g3 g4 => ?_)
      have := hret pcr I' X' st2 ls2 H2 locs2 g1 g2 g3 g4
      rwa [← Nat.add_assoc, ← Nat.add_assoc] at this
    · exact hret pc I X st ls H locs hf hv hR hS
    · dsimp only at hcells hslots hret
      refine am_hcall hx hb (hml.trans hl.1.symm) hts hown hd hokc hC hw hcs hS hR hc hcl hRf hRl (by omega) (by omega) (fun H' locs' hR' hS' => ?_)
      refine ih _ _ _ _ _ _ _ _ _ _ hgo hl hR' hS' (by omega) (by omega) (fun pcr I' X' st2 ls2 H2 locs2 g1 g2 g3 g4 => ?_)
      have := hret pcr I' X' st2 ls2 H2 locs2 g1 g2 g3 g4
      rwa [← Nat.add_assoc, ← Nat.add_assoc] at this
    · obtain ⟨i, a, rfl, hX, rfl, hsum⟩ := am_obj_some hs
      obtain ⟨w1, w2, w3⟩ := hokc.2 hX
      refine W.objInit hx hb hown (hts _ w1) (hts _ w2) (hts _ w3) rfl (hl.1.trans hml.symm) rfl hd (by omega) ?_ ?_
      · rw [am_cats]
        have := lv_room (m := m) (pc := pc) (ls := ls) (rest := []) hsum
        show 2 * 0 + _ + 12 ≤ _
        omega
      · exact ih _ _ _ _ _ _ _ _ _ _ hgo hl hR hS hcells hslots hret
    · refine am_hcopy hx hb (hml.trans hl.1.symm) hts hown hd hokc hw.2.1 hA hS hR hs (by omega) (by omega) (fun H' locs' hR' hS' => ?_)
      exact ih _ _ _ _ _ _ _ _ _ _ hgo hl hR' hS' hcells hslots hret
end AM9
/-- a run of a method from its entry, at a depth; bi: what else may be called -/
def am_Run (cst : am_K) (cl : List vw_C) (tt : List (List FieldType)) (P : List am_M) (strs : List Nat) (bi : Nat → List Value → am_H → am_Q → Prop) : Nat → Nat → List Value → am_H → am_Q → Prop
  | 0, _, _, _, _ => False
  | d + 1, mi, av, h, r => (3 ≤ d ∧ bi mi av h r) ∨ ∃ M n, P[mi]? = some M ∧ (lg_sl av).length ≤ M.2.2.1 ∧ am_Go cst cl tt P strs (am_Run cst cl tt P strs bi d) M n 0 (lv_args 0 av) [] h r
end
section
section AM10
variable {D : va_G} {cl : List vw_C} {tys : List FieldType} {ca : FieldType → ClassId} {kd : Nat → Nat} {base : Nat} {A : Nat → Prop} {cst : am_K} {sn : List (Nat × String × String × String)} {sr : am_SR} {strs : List Nat} {lens : List Nat} {byts : List (List Int32)} {adV : Nat → Nat} {tt : List (List FieldType)} {P : List am_M} {Ts : List Cond} {bi : Nat → List Value → am_H → am_Q → Prop} {l0 : Launch}
/-- the tables of all methods -/
def am_tabs (cl : List vw_C) (tys : List FieldType) (P : List am_M) (Ts : List Cond) (sn : List (Nat × String × String × String)) (sr : am_SR) : Prop :=
  ∀ (mi : Nat) (M : am_M), P[mi]? = some M → plainFor M.1 = true ∧ am_tab cl tys P Ts sn sr M (M.1.name == "<init>")
theorem am_r_end {p : Program} {e : Env} {R : Room} {s : State} {m : MethodId} {args : Array Value} {below : List Frame} {meth : Method} {c : Code} {H : Heap} {locs : List Loc} {cells slots : Nat} {cc : ByteArray} {pc : Nat} {ls : Array Slot} {ret : Option FieldType} {I : Instr} {X : am_X} {st : List Value} {v : Option Value} {f : Nat → Nat} {Qc : Array Value → State → Outcome → State → Prop} {free : Addr → Prop}
    (hx : p.tables.exec = Jvm.exec) (hb : c.code = cc) (hr : meth.sig.returnType = ret) (hlocks : meth.locks = false) (hd : decode cc pc = .ok (I, am_len X I)) (hv : am_r ret I st = some v)
    (hq : ∀ t : State, t.heap = H → s.WarmedH t.vm → Qc args s (.returned (v.map (am_v f))) t) (hf : ∀ q ∈ locs, free q.base) :
    W p l0 e R s m args below meth c H locs cells slots (MQ below Qc args s cells slots free) (F0 m pc ls (st.map (am_v f))) := by
  cases I with
  | ireturn =>
    simp only [am_r] at hv
    split at hv
    case h_2 => cases hv
    rename_i x
    split at hv
    · cases hv
      exact W.iret hx hb hr hq hf hd hlocks
    · by_cases h01 : x = 0 ∨ x = 1
      case neg => rw [if_neg h01] at hv; cases hv
      rw [if_pos h01] at hv
      cases hv
      refine W.zret (ty := .boolean) hx hb hr ?_ hq hf hd hlocks
      rcases h01 with rfl | rfl
      · exact (by decide : narrow .boolean (.int 0) = .int 0)
      · exact (by decide : narrow .boolean (.int 1) = .int 1)
    · by_cases h01 : x.toInt8.toInt32 = x
      case neg => rw [if_neg h01] at hv; cases hv
      rw [if_pos h01] at hv
      cases hv
      exact W.zret (ty := .byte) hx hb hr (congrArg Value.int h01) hq hf hd hlocks
    · by_cases h01 : x.toUInt32.toUInt16.toUInt32.toInt32 = x
      case neg => rw [if_neg h01] at hv; cases hv
      rw [if_pos h01] at hv
      cases hv
      exact W.zret (ty := .char) hx hb hr (congrArg Value.int h01) hq hf hd hlocks
    · cases hv
  | lreturn =>
    simp only [am_r] at hv
    split at hv
    case h_2 => cases hv
    by_cases h1 : ret = some .long
    case neg => rw [if_neg h1] at hv; cases hv
    rw [if_pos h1] at hv
    cases hv
    exact W.lret hx hb (hr.trans h1) hq hf hd hlocks
  | areturn =>
    simp only [am_r] at hv
    split at hv
    · split at hv
      · cases hv
        exact W.aret hx hb hr (Or.inl ⟨_, rfl⟩) (Or.inr ⟨_, rfl⟩) hq hf hd hlocks
      · cases hv
        exact W.aret hx hb hr (Or.inr ⟨_, rfl⟩) (Or.inr ⟨_, rfl⟩) hq hf hd hlocks
      · cases hv
    · split at hv
      · cases hv
        exact W.aret hx hb hr (Or.inl ⟨_, rfl⟩) (Or.inl rfl) hq hf hd hlocks
      · cases hv
        exact W.aret hx hb hr (Or.inr ⟨_, rfl⟩) (Or.inl rfl) hq hf hd hlocks
      · cases hv
    · cases hv
  | return_ =>
    simp only [am_r] at hv
    split at hv
    case h_2 => cases hv
    by_cases h1 : ret = none
    case neg => rw [if_neg h1] at hv; cases hv
    rw [if_pos h1] at hv
    cases hv
    exact W.vret hx hb (hr.trans h1) hq hf hd hlocks
  | _ => simp [am_r] at hv
set_option maxHeartbeats 4000000 in
/-- every run is a contract -/
theorem am_met (hC : am_ctx cl tys tt P Ts) (hP : am_tabs cl tys P Ts sn sr) (hA : ∀ q, base ≤ q → A q)
    (hbi : ∀ (d mi : Nat) (M : am_M) (av : List Value) (h : am_H) (r : am_Q), 3 ≤ d → P[mi]? = some M → bi mi av h r →
      Met l0 M.1 (Cond.code M.1 M.2.1 M.2.2.1 M.2.2.2.1 :: Ts) ({ frames := d + 1, cells := r.2.2.1, slots := r.2.2.2, locals := 200 * (d + 1) } : Room) (am_Pc D cl tys ca kd base A cst sn sr strs lens byts adV av h) (am_Qc D cl tys ca kd base A r) r.2.2.1 r.2.2.2 A) :
    ∀ d : Nat, am_calls D cl tys ca kd base A cst sn sr strs lens byts adV P Ts l0 d (am_Run cst cl tt P strs bi d) := by
  intro d
  induction d with
  | zero => intro mi M av h r hM hrun; exact hrun.elim
  | succ d ih =>
    intro mi M av h r hM hrun
    rcases hrun with ⟨hd, hb⟩ | ⟨M', n, hM', hsl, hgo⟩
    · exact hbi d mi M av h r hd hM hb
    cases hM.symm.trans hM'
    obtain ⟨hpl, htab⟩ := hP mi M hM
    refine va_MetF (cc := M.2.1) (maxL := M.2.2.1) (ret := M.2.2.2.1) hpl rfl ?_
    intro p e s m args below meth c s₁ B hml hv
    obtain ⟨rfl, hR, hw⟩ := hv
    have hx := B.exec
    have hb := B.bytes
    have hr := B.returns
    have hts0 := atoms_spec (ws := Cond.code M.1 M.2.1 M.2.2.1 M.2.2.2.1 :: Ts) B.pre
    have hts : ∀ w ∈ Ts, w.before (av.map (am_v (am_ad kd base))).toArray s = true := fun w hw => hts0 w (List.mem_cons_of_mem _ hw)
    have hown : s.vm.findClass M.1.cls = some m.cls := findClass_of_methodNamed B.named
    have hlocks := B.notSynchronized
    have hl := lv_entry (av.map (am_v (am_ad kd base))) (n := M.2.2.1) (by rw [am_sl_len]; exact hsl)
    rw [am_args_lc] at hl
    rw [lg_entry_eq]
    refine am_sim (R := (headSpec (Cond.code M.1 M.2.1 M.2.2.1 M.2.2.2.1 :: Ts) ({ frames := d + 1, cells := r.2.2.1, slots := r.2.2.2, locals := 200 * (d + 1) } : Room)).room) (d := d) hx hb hml hts hown (fun hi => ?_) htab hC hw ih hA (Nat.le_refl (d + 1)) (Nat.le_of_eq (by show 200 * d + 200 = 200 * (d + 1); omega)) n 0 (lv_args 0 av) [] h r s.heap [] 0 0 _ hgo hl hR va_S.rf (by rw [Nat.zero_add]; exact Nat.le_refl r.2.2.1) (by rw [Nat.zero_add]; exact Nat.le_refl r.2.2.2) (fun pcr I X st' ls' H' locs' hf hv hR' hS' => ?_)
    · have := (name_of_methodNamed B.named B.method).1
      rw [this]
      simpa using hi
    · rw [Nat.zero_add, Nat.zero_add]
      exact am_r_end hx hb hr hlocks (htab pcr I X hf).1 hv (fun t ht _ => ⟨rfl, by rw [ht]; exact hR', hS'.F ht⟩) hS'.2.2
end AM10
end
section
/-! the check of the tables by program: link lists of a class, each with its place among the words -/
/-- fields read, fields written (0: not final, 1: final, in a constructor), int constants, long constants, texts, statics, classes made, arrays of a class, element types, virtual, static, constructors, Object's constructor, arraycopy -/
abbrev am_LT : Type := List (Nat × Nat × Nat × Nat) × List (Nat × Nat × Nat × Nat × Nat) × List (Nat × Int × Nat) × List (Nat × Int × Nat) × List (Nat × Nat) × List (Nat × Nat × Nat) × List (Nat × Nat × Nat × Nat × Nat) × List (Nat × Nat × Nat × Nat) × List (ArrayType × Nat) × List (Nat × Nat × Nat × Nat × Nat × Nat × Nat) × List (Nat × Nat × Nat × Nat × Nat × Nat) × List (Nat × Nat × Nat × Nat × Nat × Nat) × List (Nat × Nat × Nat × Nat) × List (Nat × Nat × Nat × Nat × Nat)
/-- the words in chunks; a place is 1000 times the chunk's and the place in it -/
def am_hit (Tc : List (List Cond)) (p : Nat) (w : Cond) : Bool :=
  match Tc[p / 1000]? with
  | some c => decide (c[p % 1000]? = some w) && goodWord w
  | none => false
theorem am_hit_mem {Ts : List Cond} {Tc : List (List Cond)} (hc : ∀ c ∈ Tc, ∀ w ∈ c, goodWord w = true → w ∈ Ts) {p : Nat} {w : Cond} (h : am_hit Tc p w = true) : w ∈ Ts := by
  unfold am_hit at h
  split at h
  · rename_i c hx
    rw [Bool.and_eq_true] at h
    exact hc c (List.mem_of_getElem? hx) w (List.mem_of_getElem? (of_decide_eq_true h.1)) h.2
  · cases h
/-- a link to a method, plain or of a nest mate -/
def am_hitM (Tc : List (List Cond)) (nl : List (String × Nat × MethodName × String)) (p : Nat) (own : String) (i : Nat) (y : MethodName) : Bool :=
  am_hit Tc p (.methodLink own i y) || nl.any fun z => decide (z.1 = own ∧ z.2.1 = i ∧ z.2.2.1 = y)
theorem am_hitM_mem {Ts : List Cond} {Tc : List (List Cond)} (hc : ∀ c ∈ Tc, ∀ w ∈ c, goodWord w = true → w ∈ Ts) {nl : List (String × Nat × MethodName × String)} {p i : Nat} {own : String} {y : MethodName} (h : am_hitM Tc nl p own i y = true) : Cond.methodLink own i y ∈ Ts ∨ ∃ host, (own, i, y, host) ∈ nl := by
  unfold am_hitM at h
  rw [Bool.or_eq_true] at h
  rcases h with h | h
  · exact Or.inl (am_hit_mem hc h)
  · obtain ⟨z, hz, hq⟩ := List.any_eq_true.mp h
    obtain ⟨e1, e2, e3⟩ := of_decide_eq_true hq
    refine Or.inr ⟨z.2.2.2, ?_⟩
    rw [← e1, ← e2, ← e3]
    exact hz
def am_noMH (C : String) : Bool := decide (C ≠ "java/lang/invoke/MethodHandle" ∧ C ≠ "java/lang/invoke/VarHandle")
/-- the link lists of a class are as the words have them -/
def am_lkb (cl : List vw_C) (tys : List FieldType) (P : List am_M) (Tc : List (List Cond)) (sn : List (Nat × String × String × String)) (sr : am_SR) (own : String) (T : am_LT) : Bool :=
  (T.1.all fun q => if q.2.1 = 1001 then am_hit Tc q.2.2.2 (.fieldLink own q.1 "java/lang/String" "value" "[B") else if q.2.1 = 1002 then am_hit Tc q.2.2.2 (.fieldLink own q.1 "java/lang/String" "coder" "B") else match cl[q.2.1]? with
    | some r => decide (q.2.2.1 < r.2.2) && am_hit Tc q.2.2.2 (.fieldLink own q.1 (r.2.1 q.2.2.1).1 (r.2.1 q.2.2.1).2.1 (r.2.1 q.2.2.1).2.2.1)
    | none => false) &&
  ((T.2.1.all fun q => match cl[q.2.1]? with
    | some r => decide (q.2.2.1 < r.2.2) && am_hit Tc q.2.2.2.1 (.fieldLink own q.1 (r.2.1 q.2.2.1).1 (r.2.1 q.2.2.1).2.1 (r.2.1 q.2.2.1).2.2.1) && (if q.2.2.2.2 = 0 then decide ((r.2.1 q.2.2.1).2.2.2 = false) else decide ((r.2.1 q.2.2.1).2.2.2 = true ∧ (r.2.1 q.2.2.1).1 = own))
    | none => false) &&
  ((T.2.2.1.all fun q => am_hit Tc q.2.2 (.constant own q.1 (Int32.ofInt q.2.1))) &&
  ((T.2.2.2.1.all fun q => am_hit Tc q.2.2 (.constantLong own q.1 (Int64.ofInt q.2.1))) &&
  ((T.2.2.2.2.1.all fun q => sr.1.any fun z => decide (z.1 = own ∧ z.2.1 = q.1 ∧ z.2.2.2 = q.2)) &&
  ((T.2.2.2.2.2.1.all fun q => sn.any fun z => decide (z.1 = q.2.1) && am_hit Tc q.2.2 (.fieldLink own q.1 z.2.1 z.2.2.1 z.2.2.2)) &&
  ((T.2.2.2.2.2.2.1.all fun q => match cl[q.2.1]? with
    | some r => am_hit Tc q.2.2.1 (.classLink own q.1 r.1) && (am_hit Tc q.2.2.2.1 (.instantiable r.1 r.2.2) && am_hit Tc q.2.2.2.2 (.initialized r.1))
    | none => false) &&
  ((T.2.2.2.2.2.2.2.1.all fun q => match cl[q.2.1]? with
    | some r => am_hit Tc q.2.2.1 (.classLink own q.1 r.1) && decide (.object r.1 ∈ tys)
    | none => false) &&
  ((T.2.2.2.2.2.2.2.2.1.all fun q => am_hit Tc q.2 (.arrayClass (newarray.typeOf q.1)) && decide (newarray.typeOf q.1 ∈ tys)) &&
  ((T.2.2.2.2.2.2.2.2.2.1.all fun q => match P[q.2.1]? with
    | some M => am_noMH M.1.cls && (decide ((parseMethodDescriptor M.1.desc).map (fun d => d.parameters.length + 1) = some q.2.2.1) && (am_hitM Tc sr.2 q.2.2.2.1 own q.1 M.1 && (am_hit Tc q.2.2.2.2.1 (.instanceMethod M.1) && (am_hit Tc q.2.2.2.2.2.1 (.selects M.1.cls M.1 M.1) && am_hit Tc q.2.2.2.2.2.2 (.initialized M.1.cls)))))
    | none => false) &&
  ((T.2.2.2.2.2.2.2.2.2.2.1.all fun q => match P[q.2.1]? with
    | some M => am_noMH M.1.cls && (decide ((parseMethodDescriptor M.1.desc).map (fun d => d.parameters.length) = some q.2.2.1) && (am_hitM Tc sr.2 q.2.2.2.1 own q.1 M.1 && (am_hit Tc q.2.2.2.2.1 (.static M.1) && am_hit Tc q.2.2.2.2.2 (.initialized M.1.cls))))
    | none => false) &&
  ((T.2.2.2.2.2.2.2.2.2.2.2.1.all fun q => match P[q.2.1]? with
    | some M => decide (M.1.name = "<init>") && (decide (M.2.2.2.1 = none) && (am_noMH M.1.cls && (decide ((parseMethodDescriptor M.1.desc).map (fun d => d.parameters.length + 1) = some q.2.2.1) && (am_hitM Tc sr.2 q.2.2.2.1 own q.1 M.1 && (am_hit Tc q.2.2.2.2.1 (.instanceMethod M.1) && am_hit Tc q.2.2.2.2.2 (.initialized M.1.cls))))))
    | none => false) &&
  ((T.2.2.2.2.2.2.2.2.2.2.2.2.1.all fun q => am_hit Tc q.2.1 (.methodLink own q.1 Lib.objectInit) && (am_hit Tc q.2.2.1 (.instanceMethod Lib.objectInit) && am_hit Tc q.2.2.2 (.code Lib.objectInit ⟨#[0xb1]⟩ 1 none))) &&
  (T.2.2.2.2.2.2.2.2.2.2.2.2.2.all fun q => am_hit Tc q.2.1 (.methodLink own q.1 arraycopyName) && (am_hit Tc q.2.2.1 (.native arraycopyName) && (am_hit Tc q.2.2.2.1 (.static arraycopyName) && am_hit Tc q.2.2.2.2 (.initialized "java/lang/System"))))))))))))))))
/-- an instruction is one of a class' lists -/
def am_ckb (T : am_LT) (nL : Nat) (init : Bool) (q : Nat × Instr × am_X) : Bool :=
  match q.2.1 with
  | .getfield i => T.1.any fun z => z.1 == i && (if q.2.2.2.2 = 0 then decide (z.2.1 < 1000) && (z.2.1 == q.2.2.1 && z.2.2.1 == q.2.2.2.1) else if q.2.2.2.2 = 1 then z.2.1 == 1001 else z.2.1 == 1002)
  | .putfield i => T.2.1.any fun z => z.1 == i && (z.2.1 == q.2.2.1 && (z.2.2.1 == q.2.2.2.1 && (z.2.2.2.2 == 0 || init)))
  | .ldc i => if q.2.2.1 = 0 then T.2.2.1.any fun z => z.1 == i && decide (z.2.1 = q.2.2.2.2) else T.2.2.2.2.1.any fun z => z.1 == i && z.2 == q.2.2.2.1
  | .ldc_w i => if q.2.2.1 = 0 then T.2.2.1.any fun z => z.1 == i && decide (z.2.1 = q.2.2.2.2) else T.2.2.2.2.1.any fun z => z.1 == i && z.2 == q.2.2.2.1
  | .ldc2_w i => T.2.2.2.1.any fun z => z.1 == i && decide (z.2.1 = q.2.2.2.2)
  | .getstatic i => T.2.2.2.2.2.1.any fun z => z.1 == i && z.2.1 == q.2.2.2.1
  | .new i => T.2.2.2.2.2.2.1.any fun z => z.1 == i && z.2.1 == q.2.2.1
  | .anewarray i => T.2.2.2.2.2.2.2.1.any fun z => z.1 == i && z.2.1 == q.2.2.1
  | .newarray t => T.2.2.2.2.2.2.2.2.1.any fun z => decide (z.1 = t)
  | .invokevirtual i => T.2.2.2.2.2.2.2.2.2.1.any fun z => z.1 == i && (z.2.1 == q.2.2.1 && z.2.2.1 == q.2.2.2.1)
  | .invokestatic i => if q.2.2.2.2 = 0 then T.2.2.2.2.2.2.2.2.2.2.1.any fun z => z.1 == i && (z.2.1 == q.2.2.1 && z.2.2.1 == q.2.2.2.1) else decide (q.2.2.2.2 = 2) && T.2.2.2.2.2.2.2.2.2.2.2.2.2.any fun z => z.1 == i
  | .invokespecial i => if q.2.2.2.2 = 0 then T.2.2.2.2.2.2.2.2.2.2.2.1.any fun z => z.1 == i && (z.2.1 == q.2.2.1 && z.2.2.1 == q.2.2.2.1) else decide (q.2.2.2.2 = 1) && T.2.2.2.2.2.2.2.2.2.2.2.2.1.any fun z => z.1 == i
  | .istore i => decide (i < nL)
  | .istore_n i => decide ((i : Nat) < nL)
  | .astore i => decide (i < nL)
  | .astore_n i => decide ((i : Nat) < nL)
  | .lstore i => decide (i + 1 < nL)
  | .lstore_n i => decide ((i : Nat) + 1 < nL)
  | .iinc i _ => decide (i < nL)
  | _ => true
theorem am_find_mem {pc : Nat} {I : Instr} {X : am_X} : ∀ {L : List (Nat × Instr × am_X)}, am_find pc L = some (I, X) → (pc, I, X) ∈ L
  | [], h => by cases h
  | q :: L, h => by
    unfold am_find at h
    by_cases hq : q.1 = pc
    · rw [if_pos hq] at h
      have h2 := Option.some.inj h
      obtain ⟨a, b⟩ := q
      dsimp only at hq h2
      subst hq; subst h2
      exact List.mem_cons_self
    · rw [if_neg hq] at h
      exact List.mem_cons_of_mem _ (am_find_mem h)
set_option maxHeartbeats 4000000 in
theorem am_tab_of {cl : List vw_C} {tys : List FieldType} {P : List am_M} {Ts : List Cond} {sn : List (Nat × String × String × String)} {sr : am_SR} {M : am_M} {init : Bool} {T : am_LT} {Tc : List (List Cond)} (hTc : ∀ c ∈ Tc, ∀ w ∈ c, goodWord w = true → w ∈ Ts)
    (hT : am_lkb cl tys P Tc sn sr M.1.cls T = true) (hM : (M.2.2.2.2.all (am_ckb T M.2.2.1 init)) = true) (hD : ∀ q ∈ M.2.2.2.2, decode M.2.1 q.1 = .ok (q.2.1, am_len q.2.2 q.2.1)) : am_tab cl tys P Ts sn sr M init := by
  intro pc I X hf
  have hq := List.all_eq_true.mp hM _ (am_find_mem hf)
  unfold am_ckb at hq
  have hd : decode M.2.1 pc = .ok (I, am_len X I) := hD (pc, I, X) (am_find_mem hf)
  refine ⟨hd, ?_⟩
  unfold am_lkb at hT
  simp only [Bool.and_eq_true, List.all_eq_true] at hT
  obtain ⟨t1, t2, t3, t4, t5, t6, t7, t8, t9, t10, t11, t12, t13, t14⟩ := hT
  cases I with
  | getfield i =>
    refine ⟨⟨fun h1 => ?_, fun h2 => ?_, fun h0 => ?_⟩, trivial, trivial⟩
    · obtain ⟨z, hz, hc⟩ := List.any_eq_true.mp hq
      dsimp only at hc
      rw [if_neg (by rw [h1]; decide), if_pos h1] at hc
      simp only [Bool.and_eq_true, beq_iff_eq] at hc
      obtain ⟨rfl, c1⟩ := hc
      have g := t1 z hz
      rw [if_pos c1] at g
      exact am_hit_mem hTc g
    · obtain ⟨z, hz, hc⟩ := List.any_eq_true.mp hq
      dsimp only at hc
      rw [if_neg (by rw [h2]; decide), if_neg (by rw [h2]; decide)] at hc
      simp only [Bool.and_eq_true, beq_iff_eq] at hc
      obtain ⟨rfl, c1⟩ := hc
      have g := t1 z hz
      rw [if_neg (by rw [c1]; decide), if_pos c1] at g
      exact am_hit_mem hTc g
    · obtain ⟨z, hz, hc⟩ := List.any_eq_true.mp hq
      dsimp only at hc
      rw [if_pos h0] at hc
      simp only [Bool.and_eq_true, beq_iff_eq, decide_eq_true_eq] at hc
      obtain ⟨rfl, c0, c1, c2⟩ := hc
      have h1 := t1 z hz
      rw [if_neg (by omega), if_neg (by omega)] at h1
      split at h1
      · rename_i r hr
        simp only [Bool.and_eq_true, decide_eq_true_eq] at h1
        rw [c1] at hr
        rw [c2] at h1
        exact ⟨r, hr, h1.1, Or.inl (am_hit_mem hTc h1.2)⟩
      · cases h1
  | putfield i =>
    refine ⟨?_, trivial, trivial⟩
    obtain ⟨z, hz, hc⟩ := List.any_eq_true.mp hq
    simp only [Bool.and_eq_true, beq_iff_eq, Bool.or_eq_true] at hc
    obtain ⟨rfl, c1, c2, c3⟩ := hc
    have h1 := t2 z hz
    split at h1
    · rename_i r hr
      simp only [Bool.and_eq_true, decide_eq_true_eq] at h1
      rw [c1] at hr
      rw [c2] at h1
      refine ⟨r, hr, h1.1.1, Or.inl ⟨am_hit_mem hTc h1.1.2, ?_⟩⟩
      by_cases h0 : z.2.2.2.2 = 0
      · have h2 := h1.2
        rw [if_pos h0] at h2
        exact Or.inl (of_decide_eq_true h2)
      · have h2 := h1.2
        rw [if_neg h0] at h2
        have h3 := of_decide_eq_true h2
        exact Or.inr ⟨h3.1, c3.resolve_left h0, h3.2⟩
    · cases h1
  | ldc i =>
    refine ⟨⟨fun h0 => ?_, fun h0 => ?_⟩, trivial, trivial⟩
    · have h0' : (pc, Instr.ldc i, X).2.2.1 = 0 := h0
      dsimp only at hq
      rw [if_pos h0] at hq
      obtain ⟨z, hz, hc⟩ := List.any_eq_true.mp hq
      simp only [Bool.and_eq_true, beq_iff_eq, decide_eq_true_eq] at hc
      obtain ⟨rfl, c1⟩ := hc
      rw [← c1]
      exact am_hit_mem hTc (t3 z hz)
    · dsimp only at hq
      rw [if_neg h0] at hq
      obtain ⟨z, hz, hc⟩ := List.any_eq_true.mp hq
      simp only [Bool.and_eq_true, beq_iff_eq] at hc
      obtain ⟨rfl, c1⟩ := hc
      obtain ⟨y, hy, hy2⟩ := List.any_eq_true.mp (t5 z hz)
      obtain ⟨e1, e2, e3⟩ := of_decide_eq_true hy2
      refine ⟨y.2.2.1, ?_⟩
      rw [← e1, ← e2, ← c1, ← e3]
      exact hy
  | ldc_w i =>
    refine ⟨⟨fun h0 => ?_, fun h0 => ?_⟩, trivial, trivial⟩
    · dsimp only at hq
      rw [if_pos h0] at hq
      obtain ⟨z, hz, hc⟩ := List.any_eq_true.mp hq
      simp only [Bool.and_eq_true, beq_iff_eq, decide_eq_true_eq] at hc
      obtain ⟨rfl, c1⟩ := hc
      rw [← c1]
      exact am_hit_mem hTc (t3 z hz)
    · dsimp only at hq
      rw [if_neg h0] at hq
      obtain ⟨z, hz, hc⟩ := List.any_eq_true.mp hq
      simp only [Bool.and_eq_true, beq_iff_eq] at hc
      obtain ⟨rfl, c1⟩ := hc
      obtain ⟨y, hy, hy2⟩ := List.any_eq_true.mp (t5 z hz)
      obtain ⟨e1, e2, e3⟩ := of_decide_eq_true hy2
      refine ⟨y.2.2.1, ?_⟩
      rw [← e1, ← e2, ← c1, ← e3]
      exact hy
  | ldc2_w i =>
    refine ⟨?_, trivial, trivial⟩
    obtain ⟨z, hz, hc⟩ := List.any_eq_true.mp hq
    simp only [Bool.and_eq_true, beq_iff_eq, decide_eq_true_eq] at hc
    obtain ⟨rfl, c1⟩ := hc
    show Cond.constantLong _ _ (Int64.ofInt X.2.2) ∈ Ts
    rw [← c1]
    exact am_hit_mem hTc (t4 z hz)
  | getstatic i =>
    refine ⟨?_, trivial, trivial⟩
    obtain ⟨z, hz, hc⟩ := List.any_eq_true.mp hq
    simp only [Bool.and_eq_true, beq_iff_eq] at hc
    obtain ⟨rfl, c1⟩ := hc
    obtain ⟨y, hy, hy2⟩ := List.any_eq_true.mp (t6 z hz)
    rw [Bool.and_eq_true] at hy2
    have e1 := of_decide_eq_true hy2.1
    refine ⟨y.2.1, y.2.2.1, y.2.2.2, ?_, Or.inl (am_hit_mem hTc hy2.2)⟩
    rw [← c1, ← e1]
    exact hy
  | new i =>
    refine ⟨trivial, ?_, trivial⟩
    obtain ⟨z, hz, hc⟩ := List.any_eq_true.mp hq
    simp only [Bool.and_eq_true, beq_iff_eq] at hc
    obtain ⟨rfl, c1⟩ := hc
    have h1 := t7 z hz
    split at h1
    · rename_i r hr
      simp only [Bool.and_eq_true] at h1
      rw [c1] at hr
      exact ⟨r, hr, am_hit_mem hTc h1.1, am_hit_mem hTc h1.2.1, am_hit_mem hTc h1.2.2⟩
    · cases h1
  | anewarray i =>
    refine ⟨trivial, ?_, trivial⟩
    obtain ⟨z, hz, hc⟩ := List.any_eq_true.mp hq
    simp only [Bool.and_eq_true, beq_iff_eq] at hc
    obtain ⟨rfl, c1⟩ := hc
    have h1 := t8 z hz
    split at h1
    · rename_i r hr
      simp only [Bool.and_eq_true] at h1
      rw [c1] at hr
      exact ⟨r, hr, am_hit_mem hTc h1.1, of_decide_eq_true h1.2⟩
    · cases h1
  | newarray t =>
    refine ⟨trivial, ?_, trivial⟩
    obtain ⟨z, hz, hc⟩ := List.any_eq_true.mp hq
    have hc := of_decide_eq_true hc
    subst hc
    have h1 := t9 z hz
    exact ⟨am_hit_mem hTc h1.1, of_decide_eq_true h1.2⟩
  | invokevirtual i =>
    refine ⟨trivial, trivial, fun h0 => ?_⟩
    obtain ⟨z, hz, hc⟩ := List.any_eq_true.mp hq
    simp only [Bool.and_eq_true, beq_iff_eq] at hc
    obtain ⟨rfl, c1, c2⟩ := hc
    have h1 := t10 z hz
    split at h1
    · rename_i N hN
      simp only [Bool.and_eq_true] at h1
      obtain ⟨g1, g2, g3, g4, g5, g6⟩ := h1
      rw [c1] at hN
      rw [c2] at g2
      have g1' := of_decide_eq_true g1
      exact ⟨N, hN, am_hit_mem hTc g4, am_hit_mem hTc g5, am_hit_mem hTc g6, ⟨g1'.1, g1'.2, of_decide_eq_true g2⟩, am_hitM_mem hTc g3⟩
    · cases h1
  | invokestatic i =>
    refine ⟨trivial, trivial, fun h0 => ?_, fun h2 => ?_⟩
    · dsimp only at hq
      rw [if_pos h0] at hq
      obtain ⟨z, hz, hc⟩ := List.any_eq_true.mp hq
      simp only [Bool.and_eq_true, beq_iff_eq] at hc
      obtain ⟨rfl, c1, c2⟩ := hc
      have h1 := t11 z hz
      split at h1
      · rename_i N hN
        simp only [Bool.and_eq_true] at h1
        obtain ⟨g1, g2, g3, g4, g5⟩ := h1
        rw [c1] at hN
        rw [c2] at g2
        have g1' := of_decide_eq_true g1
        exact ⟨N, hN, am_hit_mem hTc g4, am_hit_mem hTc g5, ⟨g1'.1, g1'.2, of_decide_eq_true g2⟩, am_hitM_mem hTc g3⟩
      · cases h1
    · dsimp only at hq
      rw [if_neg (by rw [h2]; decide)] at hq
      rw [Bool.and_eq_true] at hq
      obtain ⟨z, hz, hc⟩ := List.any_eq_true.mp hq.2
      simp only [beq_iff_eq] at hc
      subst hc
      have h1 := t14 z hz
      exact ⟨am_hit_mem hTc h1.1, am_hit_mem hTc h1.2.1, am_hit_mem hTc h1.2.2.1, am_hit_mem hTc h1.2.2.2⟩
  | invokespecial i =>
    refine ⟨trivial, trivial, fun h0 => ?_, fun h2 => ?_⟩
    · dsimp only at hq
      rw [if_pos h0] at hq
      obtain ⟨z, hz, hc⟩ := List.any_eq_true.mp hq
      simp only [Bool.and_eq_true, beq_iff_eq] at hc
      obtain ⟨rfl, c1, c2⟩ := hc
      have h1 := t12 z hz
      split at h1
      · rename_i N hN
        simp only [Bool.and_eq_true] at h1
        obtain ⟨g1, g2, g3, g4, g5, g6, g7⟩ := h1
        rw [c1] at hN
        rw [c2] at g4
        have g3' := of_decide_eq_true g3
        exact ⟨N, hN, of_decide_eq_true g1, of_decide_eq_true g2, am_hit_mem hTc g6, am_hit_mem hTc g7, ⟨g3'.1, g3'.2, of_decide_eq_true g4⟩, am_hitM_mem hTc g5⟩
      · cases h1
    · dsimp only at hq
      rw [if_neg (by rw [h2]; decide)] at hq
      rw [Bool.and_eq_true] at hq
      obtain ⟨z, hz, hc⟩ := List.any_eq_true.mp hq.2
      simp only [beq_iff_eq] at hc
      subst hc
      have h1 := t13 z hz
      exact ⟨am_hit_mem hTc h1.1, am_hit_mem hTc h1.2.1, am_hit_mem hTc h1.2.2⟩
  | istore i => exact ⟨(of_decide_eq_true hq : i < M.2.2.1), trivial, trivial⟩
  | istore_n i => exact ⟨(of_decide_eq_true hq : (i : Nat) < M.2.2.1), trivial, trivial⟩
  | astore i => exact ⟨(of_decide_eq_true hq : i < M.2.2.1), trivial, trivial⟩
  | astore_n i => exact ⟨(of_decide_eq_true hq : (i : Nat) < M.2.2.1), trivial, trivial⟩
  | lstore i => exact ⟨(of_decide_eq_true hq : i + 1 < M.2.2.1), trivial, trivial⟩
  | lstore_n i => exact ⟨(of_decide_eq_true hq : (i : Nat) + 1 < M.2.2.1), trivial, trivial⟩
  | iinc i _ => exact ⟨(of_decide_eq_true hq : i < M.2.2.1), trivial, trivial⟩
  | _ => exact ⟨trivial, trivial, trivial⟩
end
section
theorem am_rb {α β : Type} (r : Decoder α) (f : α → Decoder β) (a : ByteArray) (p : Nat) : (r >>= f).runAt a p = (r.runAt a p) >>= fun q => (f q.1).runAt a q.2 := rfl
theorem am_u1 {a : ByteArray} {p : Nat} {b : UInt8} (h : a[p]? = some b) : (Reader.u1 : Decoder Nat).runAt a p = .ok (b.toNat, p + 1) := by
  have hp : p < a.size := by
    have := h
    simp only [getElem?_def] at this
    split at this
    · assumption
    · cases this
  have hb : a[p] = b := by
    have := h
    rw [getElem?_pos a p hp] at this
    exact Option.some.inj this
  show (if h : p < a.size then _ else _ : Decoder Nat).runAt a p = _
  rw [dif_pos hp, hb]
  rfl
theorem am_u2 {a : ByteArray} {p : Nat} {b c : UInt8} (h : a[p]? = some b) (h1 : a[p + 1]? = some c) : (Reader.u2 : Decoder Nat).runAt a p = .ok (b.toNat * 256 + c.toNat, p + 2) := by
  unfold Reader.u2
  rw [am_rb, am_u1 h]
  show ((Reader.u1 : Decoder Nat) >>= fun lo => pure (b.toNat * 256 + lo)).runAt a (p + 1) = _
  rw [am_rb, am_u1 h1]
  rfl
theorem am_rm {α β : Type} (f : α → β) (r : Decoder α) (a : ByteArray) (p : Nat) : (f <$> r : Decoder β).runAt a p = (r.runAt a p) >>= fun q => .ok (f q.1, q.2) := rfl
theorem am_s1 {a : ByteArray} {p : Nat} {b : UInt8} (h : a[p]? = some b) : (Reader.s1 : Decoder Int).runAt a p = .ok (Reader.signed 8 b.toNat, p + 1) := by
  unfold Reader.s1
  rw [am_rm, am_u1 h]
  rfl
theorem am_s2 {a : ByteArray} {p : Nat} {b c : UInt8} (h : a[p]? = some b) (h1 : a[p + 1]? = some c) : (Reader.s2 : Decoder Int).runAt a p = .ok (Reader.signed 16 (b.toNat * 256 + c.toNat), p + 2) := by
  unfold Reader.s2
  rw [am_rm, am_u2 h h1]
  rfl
theorem am_dec {a : ByteArray} {pc : Nat} {I : Instr} {n : Nat} (h : (Decoder.instr pc).runAt a pc = .ok (I, pc + n)) : decode a pc = .ok (I, n) := by
  unfold decode
  rw [h]
  show Except.ok (I, pc + n - pc) = _
  rw [Nat.add_sub_cancel_left]
/-- the instructions that are used, but for the switches, by their first three bytes -/
def am_dc (op : Nat) (b c : UInt8) : Option (Instr × Nat) :=
  match op with
  | 1 => some (.aconst_null, 1)
  | 2 => some (.iconst (-1), 1)
  | 3 => some (.iconst 0, 1)
  | 4 => some (.iconst 1, 1)
  | 5 => some (.iconst 2, 1)
  | 6 => some (.iconst 3, 1)
  | 7 => some (.iconst 4, 1)
  | 8 => some (.iconst 5, 1)
  | 9 => some (.lconst 0, 1)
  | 10 => some (.lconst 1, 1)
  | 26 => some (.iload_n 0, 1)
  | 27 => some (.iload_n 1, 1)
  | 28 => some (.iload_n 2, 1)
  | 29 => some (.iload_n 3, 1)
  | 30 => some (.lload_n 0, 1)
  | 31 => some (.lload_n 1, 1)
  | 32 => some (.lload_n 2, 1)
  | 33 => some (.lload_n 3, 1)
  | 42 => some (.aload_n 0, 1)
  | 43 => some (.aload_n 1, 1)
  | 44 => some (.aload_n 2, 1)
  | 45 => some (.aload_n 3, 1)
  | 46 => some (.iaload, 1)
  | 47 => some (.laload, 1)
  | 50 => some (.aaload, 1)
  | 51 => some (.baload, 1)
  | 59 => some (.istore_n 0, 1)
  | 60 => some (.istore_n 1, 1)
  | 61 => some (.istore_n 2, 1)
  | 62 => some (.istore_n 3, 1)
  | 63 => some (.lstore_n 0, 1)
  | 64 => some (.lstore_n 1, 1)
  | 65 => some (.lstore_n 2, 1)
  | 66 => some (.lstore_n 3, 1)
  | 75 => some (.astore_n 0, 1)
  | 76 => some (.astore_n 1, 1)
  | 77 => some (.astore_n 2, 1)
  | 78 => some (.astore_n 3, 1)
  | 79 => some (.iastore, 1)
  | 80 => some (.lastore, 1)
  | 83 => some (.aastore, 1)
  | 84 => some (.bastore, 1)
  | 87 => some (.pop, 1)
  | 89 => some (.dup, 1)
  | 92 => some (.dup2, 1)
  | 96 => some (.iadd, 1)
  | 97 => some (.ladd, 1)
  | 100 => some (.isub, 1)
  | 101 => some (.lsub, 1)
  | 104 => some (.imul, 1)
  | 105 => some (.lmul, 1)
  | 108 => some (.idiv, 1)
  | 112 => some (.irem, 1)
  | 120 => some (.ishl, 1)
  | 122 => some (.ishr, 1)
  | 124 => some (.iushr, 1)
  | 126 => some (.iand, 1)
  | 128 => some (.ior, 1)
  | 130 => some (.ixor, 1)
  | 133 => some (.i2l, 1)
  | 136 => some (.l2i, 1)
  | 145 => some (.i2b, 1)
  | 146 => some (.i2c, 1)
  | 148 => some (.lcmp, 1)
  | 172 => some (.ireturn, 1)
  | 173 => some (.lreturn, 1)
  | 176 => some (.areturn, 1)
  | 177 => some (.return_, 1)
  | 190 => some (.arraylength, 1)
  | 18 => some (.ldc b.toNat, 2)
  | 21 => some (.iload b.toNat, 2)
  | 22 => some (.lload b.toNat, 2)
  | 25 => some (.aload b.toNat, 2)
  | 54 => some (.istore b.toNat, 2)
  | 55 => some (.lstore b.toNat, 2)
  | 58 => some (.astore b.toNat, 2)
  | 19 => some (.ldc_w (b.toNat * 256 + c.toNat), 3)
  | 20 => some (.ldc2_w (b.toNat * 256 + c.toNat), 3)
  | 178 => some (.getstatic (b.toNat * 256 + c.toNat), 3)
  | 180 => some (.getfield (b.toNat * 256 + c.toNat), 3)
  | 181 => some (.putfield (b.toNat * 256 + c.toNat), 3)
  | 182 => some (.invokevirtual (b.toNat * 256 + c.toNat), 3)
  | 183 => some (.invokespecial (b.toNat * 256 + c.toNat), 3)
  | 184 => some (.invokestatic (b.toNat * 256 + c.toNat), 3)
  | 187 => some (.new (b.toNat * 256 + c.toNat), 3)
  | 189 => some (.anewarray (b.toNat * 256 + c.toNat), 3)
  | 17 => some (.sipush (Reader.signed 16 (b.toNat * 256 + c.toNat)), 3)
  | 153 => some (.ifCond .eq (Reader.signed 16 (b.toNat * 256 + c.toNat)), 3)
  | 154 => some (.ifCond .ne (Reader.signed 16 (b.toNat * 256 + c.toNat)), 3)
  | 155 => some (.ifCond .lt (Reader.signed 16 (b.toNat * 256 + c.toNat)), 3)
  | 156 => some (.ifCond .ge (Reader.signed 16 (b.toNat * 256 + c.toNat)), 3)
  | 157 => some (.ifCond .gt (Reader.signed 16 (b.toNat * 256 + c.toNat)), 3)
  | 158 => some (.ifCond .le (Reader.signed 16 (b.toNat * 256 + c.toNat)), 3)
  | 159 => some (.if_icmp .eq (Reader.signed 16 (b.toNat * 256 + c.toNat)), 3)
  | 160 => some (.if_icmp .ne (Reader.signed 16 (b.toNat * 256 + c.toNat)), 3)
  | 161 => some (.if_icmp .lt (Reader.signed 16 (b.toNat * 256 + c.toNat)), 3)
  | 162 => some (.if_icmp .ge (Reader.signed 16 (b.toNat * 256 + c.toNat)), 3)
  | 163 => some (.if_icmp .gt (Reader.signed 16 (b.toNat * 256 + c.toNat)), 3)
  | 164 => some (.if_icmp .le (Reader.signed 16 (b.toNat * 256 + c.toNat)), 3)
  | 167 => some (.goto (Reader.signed 16 (b.toNat * 256 + c.toNat)), 3)
  | 198 => some (.ifnull (Reader.signed 16 (b.toNat * 256 + c.toNat)), 3)
  | 199 => some (.ifnonnull (Reader.signed 16 (b.toNat * 256 + c.toNat)), 3)
  | 16 => some (.bipush (Reader.signed 8 b.toNat), 2)
  | 132 => some (.iinc b.toNat (Reader.signed 8 c.toNat), 3)
  | 188 => match b.toNat with
    | 4 => some (.newarray .boolean, 2)
    | 8 => some (.newarray .byte, 2)
    | 10 => some (.newarray .int, 2)
    | 11 => some (.newarray .long, 2)
    | _ => none
  | _ => none
theorem am_d1 {a : ByteArray} {pc : Nat} {op b c : UInt8} (h : a[pc]? = some op) (ho : op.toNat = 1) : decode a pc = .ok (.aconst_null, 1) := by
  refine am_dec ?_
  unfold Decoder.instr
  rw [am_rb, am_u1 h, ho]
  rfl
theorem am_d2 {a : ByteArray} {pc : Nat} {op b c : UInt8} (h : a[pc]? = some op) (ho : op.toNat = 2) : decode a pc = .ok (.iconst (-1), 1) := by
  refine am_dec ?_
  unfold Decoder.instr
  rw [am_rb, am_u1 h, ho]
  rfl
theorem am_d3 {a : ByteArray} {pc : Nat} {op b c : UInt8} (h : a[pc]? = some op) (ho : op.toNat = 3) : decode a pc = .ok (.iconst 0, 1) := by
  refine am_dec ?_
  unfold Decoder.instr
  rw [am_rb, am_u1 h, ho]
  rfl
theorem am_d4 {a : ByteArray} {pc : Nat} {op b c : UInt8} (h : a[pc]? = some op) (ho : op.toNat = 4) : decode a pc = .ok (.iconst 1, 1) := by
  refine am_dec ?_
  unfold Decoder.instr
  rw [am_rb, am_u1 h, ho]
  rfl
theorem am_d5 {a : ByteArray} {pc : Nat} {op b c : UInt8} (h : a[pc]? = some op) (ho : op.toNat = 5) : decode a pc = .ok (.iconst 2, 1) := by
  refine am_dec ?_
  unfold Decoder.instr
  rw [am_rb, am_u1 h, ho]
  rfl
theorem am_d6 {a : ByteArray} {pc : Nat} {op b c : UInt8} (h : a[pc]? = some op) (ho : op.toNat = 6) : decode a pc = .ok (.iconst 3, 1) := by
  refine am_dec ?_
  unfold Decoder.instr
  rw [am_rb, am_u1 h, ho]
  rfl
theorem am_d7 {a : ByteArray} {pc : Nat} {op b c : UInt8} (h : a[pc]? = some op) (ho : op.toNat = 7) : decode a pc = .ok (.iconst 4, 1) := by
  refine am_dec ?_
  unfold Decoder.instr
  rw [am_rb, am_u1 h, ho]
  rfl
theorem am_d8 {a : ByteArray} {pc : Nat} {op b c : UInt8} (h : a[pc]? = some op) (ho : op.toNat = 8) : decode a pc = .ok (.iconst 5, 1) := by
  refine am_dec ?_
  unfold Decoder.instr
  rw [am_rb, am_u1 h, ho]
  rfl
theorem am_d9 {a : ByteArray} {pc : Nat} {op b c : UInt8} (h : a[pc]? = some op) (ho : op.toNat = 9) : decode a pc = .ok (.lconst 0, 1) := by
  refine am_dec ?_
  unfold Decoder.instr
  rw [am_rb, am_u1 h, ho]
  rfl
theorem am_d10 {a : ByteArray} {pc : Nat} {op b c : UInt8} (h : a[pc]? = some op) (ho : op.toNat = 10) : decode a pc = .ok (.lconst 1, 1) := by
  refine am_dec ?_
  unfold Decoder.instr
  rw [am_rb, am_u1 h, ho]
  rfl
theorem am_d26 {a : ByteArray} {pc : Nat} {op b c : UInt8} (h : a[pc]? = some op) (ho : op.toNat = 26) : decode a pc = .ok (.iload_n 0, 1) := by
  refine am_dec ?_
  unfold Decoder.instr
  rw [am_rb, am_u1 h, ho]
  rfl
theorem am_d27 {a : ByteArray} {pc : Nat} {op b c : UInt8} (h : a[pc]? = some op) (ho : op.toNat = 27) : decode a pc = .ok (.iload_n 1, 1) := by
  refine am_dec ?_
  unfold Decoder.instr
  rw [am_rb, am_u1 h, ho]
  rfl
theorem am_d28 {a : ByteArray} {pc : Nat} {op b c : UInt8} (h : a[pc]? = some op) (ho : op.toNat = 28) : decode a pc = .ok (.iload_n 2, 1) := by
  refine am_dec ?_
  unfold Decoder.instr
  rw [am_rb, am_u1 h, ho]
  rfl
theorem am_d29 {a : ByteArray} {pc : Nat} {op b c : UInt8} (h : a[pc]? = some op) (ho : op.toNat = 29) : decode a pc = .ok (.iload_n 3, 1) := by
  refine am_dec ?_
  unfold Decoder.instr
  rw [am_rb, am_u1 h, ho]
  rfl
theorem am_d30 {a : ByteArray} {pc : Nat} {op b c : UInt8} (h : a[pc]? = some op) (ho : op.toNat = 30) : decode a pc = .ok (.lload_n 0, 1) := by
  refine am_dec ?_
  unfold Decoder.instr
  rw [am_rb, am_u1 h, ho]
  rfl
theorem am_d31 {a : ByteArray} {pc : Nat} {op b c : UInt8} (h : a[pc]? = some op) (ho : op.toNat = 31) : decode a pc = .ok (.lload_n 1, 1) := by
  refine am_dec ?_
  unfold Decoder.instr
  rw [am_rb, am_u1 h, ho]
  rfl
theorem am_d32 {a : ByteArray} {pc : Nat} {op b c : UInt8} (h : a[pc]? = some op) (ho : op.toNat = 32) : decode a pc = .ok (.lload_n 2, 1) := by
  refine am_dec ?_
  unfold Decoder.instr
  rw [am_rb, am_u1 h, ho]
  rfl
theorem am_d33 {a : ByteArray} {pc : Nat} {op b c : UInt8} (h : a[pc]? = some op) (ho : op.toNat = 33) : decode a pc = .ok (.lload_n 3, 1) := by
  refine am_dec ?_
  unfold Decoder.instr
  rw [am_rb, am_u1 h, ho]
  rfl
theorem am_d42 {a : ByteArray} {pc : Nat} {op b c : UInt8} (h : a[pc]? = some op) (ho : op.toNat = 42) : decode a pc = .ok (.aload_n 0, 1) := by
  refine am_dec ?_
  unfold Decoder.instr
  rw [am_rb, am_u1 h, ho]
  rfl
theorem am_d43 {a : ByteArray} {pc : Nat} {op b c : UInt8} (h : a[pc]? = some op) (ho : op.toNat = 43) : decode a pc = .ok (.aload_n 1, 1) := by
  refine am_dec ?_
  unfold Decoder.instr
  rw [am_rb, am_u1 h, ho]
  rfl
theorem am_d44 {a : ByteArray} {pc : Nat} {op b c : UInt8} (h : a[pc]? = some op) (ho : op.toNat = 44) : decode a pc = .ok (.aload_n 2, 1) := by
  refine am_dec ?_
  unfold Decoder.instr
  rw [am_rb, am_u1 h, ho]
  rfl
theorem am_d45 {a : ByteArray} {pc : Nat} {op b c : UInt8} (h : a[pc]? = some op) (ho : op.toNat = 45) : decode a pc = .ok (.aload_n 3, 1) := by
  refine am_dec ?_
  unfold Decoder.instr
  rw [am_rb, am_u1 h, ho]
  rfl
theorem am_d46 {a : ByteArray} {pc : Nat} {op b c : UInt8} (h : a[pc]? = some op) (ho : op.toNat = 46) : decode a pc = .ok (.iaload, 1) := by
  refine am_dec ?_
  unfold Decoder.instr
  rw [am_rb, am_u1 h, ho]
  rfl
theorem am_d47 {a : ByteArray} {pc : Nat} {op b c : UInt8} (h : a[pc]? = some op) (ho : op.toNat = 47) : decode a pc = .ok (.laload, 1) := by
  refine am_dec ?_
  unfold Decoder.instr
  rw [am_rb, am_u1 h, ho]
  rfl
theorem am_d50 {a : ByteArray} {pc : Nat} {op b c : UInt8} (h : a[pc]? = some op) (ho : op.toNat = 50) : decode a pc = .ok (.aaload, 1) := by
  refine am_dec ?_
  unfold Decoder.instr
  rw [am_rb, am_u1 h, ho]
  rfl
theorem am_d51 {a : ByteArray} {pc : Nat} {op b c : UInt8} (h : a[pc]? = some op) (ho : op.toNat = 51) : decode a pc = .ok (.baload, 1) := by
  refine am_dec ?_
  unfold Decoder.instr
  rw [am_rb, am_u1 h, ho]
  rfl
theorem am_d59 {a : ByteArray} {pc : Nat} {op b c : UInt8} (h : a[pc]? = some op) (ho : op.toNat = 59) : decode a pc = .ok (.istore_n 0, 1) := by
  refine am_dec ?_
  unfold Decoder.instr
  rw [am_rb, am_u1 h, ho]
  rfl
theorem am_d60 {a : ByteArray} {pc : Nat} {op b c : UInt8} (h : a[pc]? = some op) (ho : op.toNat = 60) : decode a pc = .ok (.istore_n 1, 1) := by
  refine am_dec ?_
  unfold Decoder.instr
  rw [am_rb, am_u1 h, ho]
  rfl
theorem am_d61 {a : ByteArray} {pc : Nat} {op b c : UInt8} (h : a[pc]? = some op) (ho : op.toNat = 61) : decode a pc = .ok (.istore_n 2, 1) := by
  refine am_dec ?_
  unfold Decoder.instr
  rw [am_rb, am_u1 h, ho]
  rfl
theorem am_d62 {a : ByteArray} {pc : Nat} {op b c : UInt8} (h : a[pc]? = some op) (ho : op.toNat = 62) : decode a pc = .ok (.istore_n 3, 1) := by
  refine am_dec ?_
  unfold Decoder.instr
  rw [am_rb, am_u1 h, ho]
  rfl
theorem am_d63 {a : ByteArray} {pc : Nat} {op b c : UInt8} (h : a[pc]? = some op) (ho : op.toNat = 63) : decode a pc = .ok (.lstore_n 0, 1) := by
  refine am_dec ?_
  unfold Decoder.instr
  rw [am_rb, am_u1 h, ho]
  rfl
theorem am_d64 {a : ByteArray} {pc : Nat} {op b c : UInt8} (h : a[pc]? = some op) (ho : op.toNat = 64) : decode a pc = .ok (.lstore_n 1, 1) := by
  refine am_dec ?_
  unfold Decoder.instr
  rw [am_rb, am_u1 h, ho]
  rfl
theorem am_d65 {a : ByteArray} {pc : Nat} {op b c : UInt8} (h : a[pc]? = some op) (ho : op.toNat = 65) : decode a pc = .ok (.lstore_n 2, 1) := by
  refine am_dec ?_
  unfold Decoder.instr
  rw [am_rb, am_u1 h, ho]
  rfl
theorem am_d66 {a : ByteArray} {pc : Nat} {op b c : UInt8} (h : a[pc]? = some op) (ho : op.toNat = 66) : decode a pc = .ok (.lstore_n 3, 1) := by
  refine am_dec ?_
  unfold Decoder.instr
  rw [am_rb, am_u1 h, ho]
  rfl
theorem am_d75 {a : ByteArray} {pc : Nat} {op b c : UInt8} (h : a[pc]? = some op) (ho : op.toNat = 75) : decode a pc = .ok (.astore_n 0, 1) := by
  refine am_dec ?_
  unfold Decoder.instr
  rw [am_rb, am_u1 h, ho]
  rfl
theorem am_d76 {a : ByteArray} {pc : Nat} {op b c : UInt8} (h : a[pc]? = some op) (ho : op.toNat = 76) : decode a pc = .ok (.astore_n 1, 1) := by
  refine am_dec ?_
  unfold Decoder.instr
  rw [am_rb, am_u1 h, ho]
  rfl
theorem am_d77 {a : ByteArray} {pc : Nat} {op b c : UInt8} (h : a[pc]? = some op) (ho : op.toNat = 77) : decode a pc = .ok (.astore_n 2, 1) := by
  refine am_dec ?_
  unfold Decoder.instr
  rw [am_rb, am_u1 h, ho]
  rfl
theorem am_d78 {a : ByteArray} {pc : Nat} {op b c : UInt8} (h : a[pc]? = some op) (ho : op.toNat = 78) : decode a pc = .ok (.astore_n 3, 1) := by
  refine am_dec ?_
  unfold Decoder.instr
  rw [am_rb, am_u1 h, ho]
  rfl
theorem am_d79 {a : ByteArray} {pc : Nat} {op b c : UInt8} (h : a[pc]? = some op) (ho : op.toNat = 79) : decode a pc = .ok (.iastore, 1) := by
  refine am_dec ?_
  unfold Decoder.instr
  rw [am_rb, am_u1 h, ho]
  rfl
theorem am_d80 {a : ByteArray} {pc : Nat} {op b c : UInt8} (h : a[pc]? = some op) (ho : op.toNat = 80) : decode a pc = .ok (.lastore, 1) := by
  refine am_dec ?_
  unfold Decoder.instr
  rw [am_rb, am_u1 h, ho]
  rfl
theorem am_d83 {a : ByteArray} {pc : Nat} {op b c : UInt8} (h : a[pc]? = some op) (ho : op.toNat = 83) : decode a pc = .ok (.aastore, 1) := by
  refine am_dec ?_
  unfold Decoder.instr
  rw [am_rb, am_u1 h, ho]
  rfl
theorem am_d84 {a : ByteArray} {pc : Nat} {op b c : UInt8} (h : a[pc]? = some op) (ho : op.toNat = 84) : decode a pc = .ok (.bastore, 1) := by
  refine am_dec ?_
  unfold Decoder.instr
  rw [am_rb, am_u1 h, ho]
  rfl
theorem am_d87 {a : ByteArray} {pc : Nat} {op b c : UInt8} (h : a[pc]? = some op) (ho : op.toNat = 87) : decode a pc = .ok (.pop, 1) := by
  refine am_dec ?_
  unfold Decoder.instr
  rw [am_rb, am_u1 h, ho]
  rfl
theorem am_d89 {a : ByteArray} {pc : Nat} {op b c : UInt8} (h : a[pc]? = some op) (ho : op.toNat = 89) : decode a pc = .ok (.dup, 1) := by
  refine am_dec ?_
  unfold Decoder.instr
  rw [am_rb, am_u1 h, ho]
  rfl
theorem am_d92 {a : ByteArray} {pc : Nat} {op b c : UInt8} (h : a[pc]? = some op) (ho : op.toNat = 92) : decode a pc = .ok (.dup2, 1) := by
  refine am_dec ?_
  unfold Decoder.instr
  rw [am_rb, am_u1 h, ho]
  rfl
theorem am_d96 {a : ByteArray} {pc : Nat} {op b c : UInt8} (h : a[pc]? = some op) (ho : op.toNat = 96) : decode a pc = .ok (.iadd, 1) := by
  refine am_dec ?_
  unfold Decoder.instr
  rw [am_rb, am_u1 h, ho]
  rfl
theorem am_d97 {a : ByteArray} {pc : Nat} {op b c : UInt8} (h : a[pc]? = some op) (ho : op.toNat = 97) : decode a pc = .ok (.ladd, 1) := by
  refine am_dec ?_
  unfold Decoder.instr
  rw [am_rb, am_u1 h, ho]
  rfl
theorem am_d100 {a : ByteArray} {pc : Nat} {op b c : UInt8} (h : a[pc]? = some op) (ho : op.toNat = 100) : decode a pc = .ok (.isub, 1) := by
  refine am_dec ?_
  unfold Decoder.instr
  rw [am_rb, am_u1 h, ho]
  rfl
theorem am_d101 {a : ByteArray} {pc : Nat} {op b c : UInt8} (h : a[pc]? = some op) (ho : op.toNat = 101) : decode a pc = .ok (.lsub, 1) := by
  refine am_dec ?_
  unfold Decoder.instr
  rw [am_rb, am_u1 h, ho]
  rfl
theorem am_d104 {a : ByteArray} {pc : Nat} {op b c : UInt8} (h : a[pc]? = some op) (ho : op.toNat = 104) : decode a pc = .ok (.imul, 1) := by
  refine am_dec ?_
  unfold Decoder.instr
  rw [am_rb, am_u1 h, ho]
  rfl
theorem am_d105 {a : ByteArray} {pc : Nat} {op b c : UInt8} (h : a[pc]? = some op) (ho : op.toNat = 105) : decode a pc = .ok (.lmul, 1) := by
  refine am_dec ?_
  unfold Decoder.instr
  rw [am_rb, am_u1 h, ho]
  rfl
theorem am_d108 {a : ByteArray} {pc : Nat} {op b c : UInt8} (h : a[pc]? = some op) (ho : op.toNat = 108) : decode a pc = .ok (.idiv, 1) := by
  refine am_dec ?_
  unfold Decoder.instr
  rw [am_rb, am_u1 h, ho]
  rfl
theorem am_d112 {a : ByteArray} {pc : Nat} {op b c : UInt8} (h : a[pc]? = some op) (ho : op.toNat = 112) : decode a pc = .ok (.irem, 1) := by
  refine am_dec ?_
  unfold Decoder.instr
  rw [am_rb, am_u1 h, ho]
  rfl
theorem am_d120 {a : ByteArray} {pc : Nat} {op b c : UInt8} (h : a[pc]? = some op) (ho : op.toNat = 120) : decode a pc = .ok (.ishl, 1) := by
  refine am_dec ?_
  unfold Decoder.instr
  rw [am_rb, am_u1 h, ho]
  rfl
theorem am_d122 {a : ByteArray} {pc : Nat} {op b c : UInt8} (h : a[pc]? = some op) (ho : op.toNat = 122) : decode a pc = .ok (.ishr, 1) := by
  refine am_dec ?_
  unfold Decoder.instr
  rw [am_rb, am_u1 h, ho]
  rfl
theorem am_d124 {a : ByteArray} {pc : Nat} {op b c : UInt8} (h : a[pc]? = some op) (ho : op.toNat = 124) : decode a pc = .ok (.iushr, 1) := by
  refine am_dec ?_
  unfold Decoder.instr
  rw [am_rb, am_u1 h, ho]
  rfl
theorem am_d126 {a : ByteArray} {pc : Nat} {op b c : UInt8} (h : a[pc]? = some op) (ho : op.toNat = 126) : decode a pc = .ok (.iand, 1) := by
  refine am_dec ?_
  unfold Decoder.instr
  rw [am_rb, am_u1 h, ho]
  rfl
theorem am_d128 {a : ByteArray} {pc : Nat} {op b c : UInt8} (h : a[pc]? = some op) (ho : op.toNat = 128) : decode a pc = .ok (.ior, 1) := by
  refine am_dec ?_
  unfold Decoder.instr
  rw [am_rb, am_u1 h, ho]
  rfl
theorem am_d130 {a : ByteArray} {pc : Nat} {op b c : UInt8} (h : a[pc]? = some op) (ho : op.toNat = 130) : decode a pc = .ok (.ixor, 1) := by
  refine am_dec ?_
  unfold Decoder.instr
  rw [am_rb, am_u1 h, ho]
  rfl
theorem am_d133 {a : ByteArray} {pc : Nat} {op b c : UInt8} (h : a[pc]? = some op) (ho : op.toNat = 133) : decode a pc = .ok (.i2l, 1) := by
  refine am_dec ?_
  unfold Decoder.instr
  rw [am_rb, am_u1 h, ho]
  rfl
theorem am_d136 {a : ByteArray} {pc : Nat} {op b c : UInt8} (h : a[pc]? = some op) (ho : op.toNat = 136) : decode a pc = .ok (.l2i, 1) := by
  refine am_dec ?_
  unfold Decoder.instr
  rw [am_rb, am_u1 h, ho]
  rfl
theorem am_d145 {a : ByteArray} {pc : Nat} {op b c : UInt8} (h : a[pc]? = some op) (ho : op.toNat = 145) : decode a pc = .ok (.i2b, 1) := by
  refine am_dec ?_
  unfold Decoder.instr
  rw [am_rb, am_u1 h, ho]
  rfl
theorem am_d146 {a : ByteArray} {pc : Nat} {op b c : UInt8} (h : a[pc]? = some op) (ho : op.toNat = 146) : decode a pc = .ok (.i2c, 1) := by
  refine am_dec ?_
  unfold Decoder.instr
  rw [am_rb, am_u1 h, ho]
  rfl
theorem am_d148 {a : ByteArray} {pc : Nat} {op b c : UInt8} (h : a[pc]? = some op) (ho : op.toNat = 148) : decode a pc = .ok (.lcmp, 1) := by
  refine am_dec ?_
  unfold Decoder.instr
  rw [am_rb, am_u1 h, ho]
  rfl
theorem am_d172 {a : ByteArray} {pc : Nat} {op b c : UInt8} (h : a[pc]? = some op) (ho : op.toNat = 172) : decode a pc = .ok (.ireturn, 1) := by
  refine am_dec ?_
  unfold Decoder.instr
  rw [am_rb, am_u1 h, ho]
  rfl
theorem am_d173 {a : ByteArray} {pc : Nat} {op b c : UInt8} (h : a[pc]? = some op) (ho : op.toNat = 173) : decode a pc = .ok (.lreturn, 1) := by
  refine am_dec ?_
  unfold Decoder.instr
  rw [am_rb, am_u1 h, ho]
  rfl
theorem am_d176 {a : ByteArray} {pc : Nat} {op b c : UInt8} (h : a[pc]? = some op) (ho : op.toNat = 176) : decode a pc = .ok (.areturn, 1) := by
  refine am_dec ?_
  unfold Decoder.instr
  rw [am_rb, am_u1 h, ho]
  rfl
theorem am_d177 {a : ByteArray} {pc : Nat} {op b c : UInt8} (h : a[pc]? = some op) (ho : op.toNat = 177) : decode a pc = .ok (.return_, 1) := by
  refine am_dec ?_
  unfold Decoder.instr
  rw [am_rb, am_u1 h, ho]
  rfl
theorem am_d190 {a : ByteArray} {pc : Nat} {op b c : UInt8} (h : a[pc]? = some op) (ho : op.toNat = 190) : decode a pc = .ok (.arraylength, 1) := by
  refine am_dec ?_
  unfold Decoder.instr
  rw [am_rb, am_u1 h, ho]
  rfl
theorem am_d18 {a : ByteArray} {pc : Nat} {op b c : UInt8} (h : a[pc]? = some op) (ho : op.toNat = 18) (h1 : a[pc + 1]? = some b) : decode a pc = .ok (.ldc b.toNat, 2) := by
  refine am_dec ?_
  unfold Decoder.instr
  rw [am_rb, am_u1 h, ho]
  show ((Reader.u1 : Decoder Nat) >>= fun i => pure (Instr.ldc i)).runAt a (pc + 1) = _
  rw [am_rb, am_u1 h1]
  rfl
theorem am_d21 {a : ByteArray} {pc : Nat} {op b c : UInt8} (h : a[pc]? = some op) (ho : op.toNat = 21) (h1 : a[pc + 1]? = some b) : decode a pc = .ok (.iload b.toNat, 2) := by
  refine am_dec ?_
  unfold Decoder.instr
  rw [am_rb, am_u1 h, ho]
  show ((Reader.u1 : Decoder Nat) >>= fun i => pure (Instr.iload i)).runAt a (pc + 1) = _
  rw [am_rb, am_u1 h1]
  rfl
theorem am_d22 {a : ByteArray} {pc : Nat} {op b c : UInt8} (h : a[pc]? = some op) (ho : op.toNat = 22) (h1 : a[pc + 1]? = some b) : decode a pc = .ok (.lload b.toNat, 2) := by
  refine am_dec ?_
  unfold Decoder.instr
  rw [am_rb, am_u1 h, ho]
  show ((Reader.u1 : Decoder Nat) >>= fun i => pure (Instr.lload i)).runAt a (pc + 1) = _
  rw [am_rb, am_u1 h1]
  rfl
theorem am_d25 {a : ByteArray} {pc : Nat} {op b c : UInt8} (h : a[pc]? = some op) (ho : op.toNat = 25) (h1 : a[pc + 1]? = some b) : decode a pc = .ok (.aload b.toNat, 2) := by
  refine am_dec ?_
  unfold Decoder.instr
  rw [am_rb, am_u1 h, ho]
  show ((Reader.u1 : Decoder Nat) >>= fun i => pure (Instr.aload i)).runAt a (pc + 1) = _
  rw [am_rb, am_u1 h1]
  rfl
theorem am_d54 {a : ByteArray} {pc : Nat} {op b c : UInt8} (h : a[pc]? = some op) (ho : op.toNat = 54) (h1 : a[pc + 1]? = some b) : decode a pc = .ok (.istore b.toNat, 2) := by
  refine am_dec ?_
  unfold Decoder.instr
  rw [am_rb, am_u1 h, ho]
  show ((Reader.u1 : Decoder Nat) >>= fun i => pure (Instr.istore i)).runAt a (pc + 1) = _
  rw [am_rb, am_u1 h1]
  rfl
theorem am_d55 {a : ByteArray} {pc : Nat} {op b c : UInt8} (h : a[pc]? = some op) (ho : op.toNat = 55) (h1 : a[pc + 1]? = some b) : decode a pc = .ok (.lstore b.toNat, 2) := by
  refine am_dec ?_
  unfold Decoder.instr
  rw [am_rb, am_u1 h, ho]
  show ((Reader.u1 : Decoder Nat) >>= fun i => pure (Instr.lstore i)).runAt a (pc + 1) = _
  rw [am_rb, am_u1 h1]
  rfl
theorem am_d58 {a : ByteArray} {pc : Nat} {op b c : UInt8} (h : a[pc]? = some op) (ho : op.toNat = 58) (h1 : a[pc + 1]? = some b) : decode a pc = .ok (.astore b.toNat, 2) := by
  refine am_dec ?_
  unfold Decoder.instr
  rw [am_rb, am_u1 h, ho]
  show ((Reader.u1 : Decoder Nat) >>= fun i => pure (Instr.astore i)).runAt a (pc + 1) = _
  rw [am_rb, am_u1 h1]
  rfl
theorem am_d19 {a : ByteArray} {pc : Nat} {op b c : UInt8} (h : a[pc]? = some op) (ho : op.toNat = 19) (h1 : a[pc + 1]? = some b) (h2 : a[pc + 2]? = some c) : decode a pc = .ok (.ldc_w (b.toNat * 256 + c.toNat), 3) := by
  refine am_dec ?_
  unfold Decoder.instr
  rw [am_rb, am_u1 h, ho]
  show ((Reader.u2 : Decoder Nat) >>= fun i => pure (Instr.ldc_w i)).runAt a (pc + 1) = _
  rw [am_rb, am_u2 h1 h2]
  rfl
theorem am_d20 {a : ByteArray} {pc : Nat} {op b c : UInt8} (h : a[pc]? = some op) (ho : op.toNat = 20) (h1 : a[pc + 1]? = some b) (h2 : a[pc + 2]? = some c) : decode a pc = .ok (.ldc2_w (b.toNat * 256 + c.toNat), 3) := by
  refine am_dec ?_
  unfold Decoder.instr
  rw [am_rb, am_u1 h, ho]
  show ((Reader.u2 : Decoder Nat) >>= fun i => pure (Instr.ldc2_w i)).runAt a (pc + 1) = _
  rw [am_rb, am_u2 h1 h2]
  rfl
theorem am_d178 {a : ByteArray} {pc : Nat} {op b c : UInt8} (h : a[pc]? = some op) (ho : op.toNat = 178) (h1 : a[pc + 1]? = some b) (h2 : a[pc + 2]? = some c) : decode a pc = .ok (.getstatic (b.toNat * 256 + c.toNat), 3) := by
  refine am_dec ?_
  unfold Decoder.instr
  rw [am_rb, am_u1 h, ho]
  show ((Reader.u2 : Decoder Nat) >>= fun i => pure (Instr.getstatic i)).runAt a (pc + 1) = _
  rw [am_rb, am_u2 h1 h2]
  rfl
theorem am_d180 {a : ByteArray} {pc : Nat} {op b c : UInt8} (h : a[pc]? = some op) (ho : op.toNat = 180) (h1 : a[pc + 1]? = some b) (h2 : a[pc + 2]? = some c) : decode a pc = .ok (.getfield (b.toNat * 256 + c.toNat), 3) := by
  refine am_dec ?_
  unfold Decoder.instr
  rw [am_rb, am_u1 h, ho]
  show ((Reader.u2 : Decoder Nat) >>= fun i => pure (Instr.getfield i)).runAt a (pc + 1) = _
  rw [am_rb, am_u2 h1 h2]
  rfl
theorem am_d181 {a : ByteArray} {pc : Nat} {op b c : UInt8} (h : a[pc]? = some op) (ho : op.toNat = 181) (h1 : a[pc + 1]? = some b) (h2 : a[pc + 2]? = some c) : decode a pc = .ok (.putfield (b.toNat * 256 + c.toNat), 3) := by
  refine am_dec ?_
  unfold Decoder.instr
  rw [am_rb, am_u1 h, ho]
  show ((Reader.u2 : Decoder Nat) >>= fun i => pure (Instr.putfield i)).runAt a (pc + 1) = _
  rw [am_rb, am_u2 h1 h2]
  rfl
theorem am_d182 {a : ByteArray} {pc : Nat} {op b c : UInt8} (h : a[pc]? = some op) (ho : op.toNat = 182) (h1 : a[pc + 1]? = some b) (h2 : a[pc + 2]? = some c) : decode a pc = .ok (.invokevirtual (b.toNat * 256 + c.toNat), 3) := by
  refine am_dec ?_
  unfold Decoder.instr
  rw [am_rb, am_u1 h, ho]
  show ((Reader.u2 : Decoder Nat) >>= fun i => pure (Instr.invokevirtual i)).runAt a (pc + 1) = _
  rw [am_rb, am_u2 h1 h2]
  rfl
theorem am_d183 {a : ByteArray} {pc : Nat} {op b c : UInt8} (h : a[pc]? = some op) (ho : op.toNat = 183) (h1 : a[pc + 1]? = some b) (h2 : a[pc + 2]? = some c) : decode a pc = .ok (.invokespecial (b.toNat * 256 + c.toNat), 3) := by
  refine am_dec ?_
  unfold Decoder.instr
  rw [am_rb, am_u1 h, ho]
  show ((Reader.u2 : Decoder Nat) >>= fun i => pure (Instr.invokespecial i)).runAt a (pc + 1) = _
  rw [am_rb, am_u2 h1 h2]
  rfl
theorem am_d184 {a : ByteArray} {pc : Nat} {op b c : UInt8} (h : a[pc]? = some op) (ho : op.toNat = 184) (h1 : a[pc + 1]? = some b) (h2 : a[pc + 2]? = some c) : decode a pc = .ok (.invokestatic (b.toNat * 256 + c.toNat), 3) := by
  refine am_dec ?_
  unfold Decoder.instr
  rw [am_rb, am_u1 h, ho]
  show ((Reader.u2 : Decoder Nat) >>= fun i => pure (Instr.invokestatic i)).runAt a (pc + 1) = _
  rw [am_rb, am_u2 h1 h2]
  rfl
theorem am_d187 {a : ByteArray} {pc : Nat} {op b c : UInt8} (h : a[pc]? = some op) (ho : op.toNat = 187) (h1 : a[pc + 1]? = some b) (h2 : a[pc + 2]? = some c) : decode a pc = .ok (.new (b.toNat * 256 + c.toNat), 3) := by
  refine am_dec ?_
  unfold Decoder.instr
  rw [am_rb, am_u1 h, ho]
  show ((Reader.u2 : Decoder Nat) >>= fun i => pure (Instr.new i)).runAt a (pc + 1) = _
  rw [am_rb, am_u2 h1 h2]
  rfl
theorem am_d189 {a : ByteArray} {pc : Nat} {op b c : UInt8} (h : a[pc]? = some op) (ho : op.toNat = 189) (h1 : a[pc + 1]? = some b) (h2 : a[pc + 2]? = some c) : decode a pc = .ok (.anewarray (b.toNat * 256 + c.toNat), 3) := by
  refine am_dec ?_
  unfold Decoder.instr
  rw [am_rb, am_u1 h, ho]
  show ((Reader.u2 : Decoder Nat) >>= fun i => pure (Instr.anewarray i)).runAt a (pc + 1) = _
  rw [am_rb, am_u2 h1 h2]
  rfl
theorem am_d17 {a : ByteArray} {pc : Nat} {op b c : UInt8} (h : a[pc]? = some op) (ho : op.toNat = 17) (h1 : a[pc + 1]? = some b) (h2 : a[pc + 2]? = some c) : decode a pc = .ok (.sipush (Reader.signed 16 (b.toNat * 256 + c.toNat)), 3) := by
  refine am_dec ?_
  unfold Decoder.instr
  rw [am_rb, am_u1 h, ho]
  show ((Reader.s2 : Decoder Int) >>= fun i => pure (Instr.sipush i)).runAt a (pc + 1) = _
  rw [am_rb, am_s2 h1 h2]
  rfl
theorem am_d153 {a : ByteArray} {pc : Nat} {op b c : UInt8} (h : a[pc]? = some op) (ho : op.toNat = 153) (h1 : a[pc + 1]? = some b) (h2 : a[pc + 2]? = some c) : decode a pc = .ok (.ifCond .eq (Reader.signed 16 (b.toNat * 256 + c.toNat)), 3) := by
  refine am_dec ?_
  unfold Decoder.instr
  rw [am_rb, am_u1 h, ho]
  show ((Reader.s2 : Decoder Int) >>= fun i => pure (Instr.ifCond .eq i)).runAt a (pc + 1) = _
  rw [am_rb, am_s2 h1 h2]
  rfl
theorem am_d154 {a : ByteArray} {pc : Nat} {op b c : UInt8} (h : a[pc]? = some op) (ho : op.toNat = 154) (h1 : a[pc + 1]? = some b) (h2 : a[pc + 2]? = some c) : decode a pc = .ok (.ifCond .ne (Reader.signed 16 (b.toNat * 256 + c.toNat)), 3) := by
  refine am_dec ?_
  unfold Decoder.instr
  rw [am_rb, am_u1 h, ho]
  show ((Reader.s2 : Decoder Int) >>= fun i => pure (Instr.ifCond .ne i)).runAt a (pc + 1) = _
  rw [am_rb, am_s2 h1 h2]
  rfl
theorem am_d155 {a : ByteArray} {pc : Nat} {op b c : UInt8} (h : a[pc]? = some op) (ho : op.toNat = 155) (h1 : a[pc + 1]? = some b) (h2 : a[pc + 2]? = some c) : decode a pc = .ok (.ifCond .lt (Reader.signed 16 (b.toNat * 256 + c.toNat)), 3) := by
  refine am_dec ?_
  unfold Decoder.instr
  rw [am_rb, am_u1 h, ho]
  show ((Reader.s2 : Decoder Int) >>= fun i => pure (Instr.ifCond .lt i)).runAt a (pc + 1) = _
  rw [am_rb, am_s2 h1 h2]
  rfl
theorem am_d156 {a : ByteArray} {pc : Nat} {op b c : UInt8} (h : a[pc]? = some op) (ho : op.toNat = 156) (h1 : a[pc + 1]? = some b) (h2 : a[pc + 2]? = some c) : decode a pc = .ok (.ifCond .ge (Reader.signed 16 (b.toNat * 256 + c.toNat)), 3) := by
  refine am_dec ?_
  unfold Decoder.instr
  rw [am_rb, am_u1 h, ho]
  show ((Reader.s2 : Decoder Int) >>= fun i => pure (Instr.ifCond .ge i)).runAt a (pc + 1) = _
  rw [am_rb, am_s2 h1 h2]
  rfl
theorem am_d157 {a : ByteArray} {pc : Nat} {op b c : UInt8} (h : a[pc]? = some op) (ho : op.toNat = 157) (h1 : a[pc + 1]? = some b) (h2 : a[pc + 2]? = some c) : decode a pc = .ok (.ifCond .gt (Reader.signed 16 (b.toNat * 256 + c.toNat)), 3) := by
  refine am_dec ?_
  unfold Decoder.instr
  rw [am_rb, am_u1 h, ho]
  show ((Reader.s2 : Decoder Int) >>= fun i => pure (Instr.ifCond .gt i)).runAt a (pc + 1) = _
  rw [am_rb, am_s2 h1 h2]
  rfl
theorem am_d158 {a : ByteArray} {pc : Nat} {op b c : UInt8} (h : a[pc]? = some op) (ho : op.toNat = 158) (h1 : a[pc + 1]? = some b) (h2 : a[pc + 2]? = some c) : decode a pc = .ok (.ifCond .le (Reader.signed 16 (b.toNat * 256 + c.toNat)), 3) := by
  refine am_dec ?_
  unfold Decoder.instr
  rw [am_rb, am_u1 h, ho]
  show ((Reader.s2 : Decoder Int) >>= fun i => pure (Instr.ifCond .le i)).runAt a (pc + 1) = _
  rw [am_rb, am_s2 h1 h2]
  rfl
theorem am_d159 {a : ByteArray} {pc : Nat} {op b c : UInt8} (h : a[pc]? = some op) (ho : op.toNat = 159) (h1 : a[pc + 1]? = some b) (h2 : a[pc + 2]? = some c) : decode a pc = .ok (.if_icmp .eq (Reader.signed 16 (b.toNat * 256 + c.toNat)), 3) := by
  refine am_dec ?_
  unfold Decoder.instr
  rw [am_rb, am_u1 h, ho]
  show ((Reader.s2 : Decoder Int) >>= fun i => pure (Instr.if_icmp .eq i)).runAt a (pc + 1) = _
  rw [am_rb, am_s2 h1 h2]
  rfl
theorem am_d160 {a : ByteArray} {pc : Nat} {op b c : UInt8} (h : a[pc]? = some op) (ho : op.toNat = 160) (h1 : a[pc + 1]? = some b) (h2 : a[pc + 2]? = some c) : decode a pc = .ok (.if_icmp .ne (Reader.signed 16 (b.toNat * 256 + c.toNat)), 3) := by
  refine am_dec ?_
  unfold Decoder.instr
  rw [am_rb, am_u1 h, ho]
  show ((Reader.s2 : Decoder Int) >>= fun i => pure (Instr.if_icmp .ne i)).runAt a (pc + 1) = _
  rw [am_rb, am_s2 h1 h2]
  rfl
theorem am_d161 {a : ByteArray} {pc : Nat} {op b c : UInt8} (h : a[pc]? = some op) (ho : op.toNat = 161) (h1 : a[pc + 1]? = some b) (h2 : a[pc + 2]? = some c) : decode a pc = .ok (.if_icmp .lt (Reader.signed 16 (b.toNat * 256 + c.toNat)), 3) := by
  refine am_dec ?_
  unfold Decoder.instr
  rw [am_rb, am_u1 h, ho]
  show ((Reader.s2 : Decoder Int) >>= fun i => pure (Instr.if_icmp .lt i)).runAt a (pc + 1) = _
  rw [am_rb, am_s2 h1 h2]
  rfl
theorem am_d162 {a : ByteArray} {pc : Nat} {op b c : UInt8} (h : a[pc]? = some op) (ho : op.toNat = 162) (h1 : a[pc + 1]? = some b) (h2 : a[pc + 2]? = some c) : decode a pc = .ok (.if_icmp .ge (Reader.signed 16 (b.toNat * 256 + c.toNat)), 3) := by
  refine am_dec ?_
  unfold Decoder.instr
  rw [am_rb, am_u1 h, ho]
  show ((Reader.s2 : Decoder Int) >>= fun i => pure (Instr.if_icmp .ge i)).runAt a (pc + 1) = _
  rw [am_rb, am_s2 h1 h2]
  rfl
theorem am_d163 {a : ByteArray} {pc : Nat} {op b c : UInt8} (h : a[pc]? = some op) (ho : op.toNat = 163) (h1 : a[pc + 1]? = some b) (h2 : a[pc + 2]? = some c) : decode a pc = .ok (.if_icmp .gt (Reader.signed 16 (b.toNat * 256 + c.toNat)), 3) := by
  refine am_dec ?_
  unfold Decoder.instr
  rw [am_rb, am_u1 h, ho]
  show ((Reader.s2 : Decoder Int) >>= fun i => pure (Instr.if_icmp .gt i)).runAt a (pc + 1) = _
  rw [am_rb, am_s2 h1 h2]
  rfl
theorem am_d164 {a : ByteArray} {pc : Nat} {op b c : UInt8} (h : a[pc]? = some op) (ho : op.toNat = 164) (h1 : a[pc + 1]? = some b) (h2 : a[pc + 2]? = some c) : decode a pc = .ok (.if_icmp .le (Reader.signed 16 (b.toNat * 256 + c.toNat)), 3) := by
  refine am_dec ?_
  unfold Decoder.instr
  rw [am_rb, am_u1 h, ho]
  show ((Reader.s2 : Decoder Int) >>= fun i => pure (Instr.if_icmp .le i)).runAt a (pc + 1) = _
  rw [am_rb, am_s2 h1 h2]
  rfl
theorem am_d167 {a : ByteArray} {pc : Nat} {op b c : UInt8} (h : a[pc]? = some op) (ho : op.toNat = 167) (h1 : a[pc + 1]? = some b) (h2 : a[pc + 2]? = some c) : decode a pc = .ok (.goto (Reader.signed 16 (b.toNat * 256 + c.toNat)), 3) := by
  refine am_dec ?_
  unfold Decoder.instr
  rw [am_rb, am_u1 h, ho]
  show ((Reader.s2 : Decoder Int) >>= fun i => pure (Instr.goto i)).runAt a (pc + 1) = _
  rw [am_rb, am_s2 h1 h2]
  rfl
theorem am_d198 {a : ByteArray} {pc : Nat} {op b c : UInt8} (h : a[pc]? = some op) (ho : op.toNat = 198) (h1 : a[pc + 1]? = some b) (h2 : a[pc + 2]? = some c) : decode a pc = .ok (.ifnull (Reader.signed 16 (b.toNat * 256 + c.toNat)), 3) := by
  refine am_dec ?_
  unfold Decoder.instr
  rw [am_rb, am_u1 h, ho]
  show ((Reader.s2 : Decoder Int) >>= fun i => pure (Instr.ifnull i)).runAt a (pc + 1) = _
  rw [am_rb, am_s2 h1 h2]
  rfl
theorem am_d199 {a : ByteArray} {pc : Nat} {op b c : UInt8} (h : a[pc]? = some op) (ho : op.toNat = 199) (h1 : a[pc + 1]? = some b) (h2 : a[pc + 2]? = some c) : decode a pc = .ok (.ifnonnull (Reader.signed 16 (b.toNat * 256 + c.toNat)), 3) := by
  refine am_dec ?_
  unfold Decoder.instr
  rw [am_rb, am_u1 h, ho]
  show ((Reader.s2 : Decoder Int) >>= fun i => pure (Instr.ifnonnull i)).runAt a (pc + 1) = _
  rw [am_rb, am_s2 h1 h2]
  rfl
theorem am_d16 {a : ByteArray} {pc : Nat} {op b c : UInt8} (h : a[pc]? = some op) (ho : op.toNat = 16) (h1 : a[pc + 1]? = some b) : decode a pc = .ok (.bipush (Reader.signed 8 b.toNat), 2) := by
  refine am_dec ?_
  unfold Decoder.instr
  rw [am_rb, am_u1 h, ho]
  show ((Reader.s1 : Decoder Int) >>= fun i => pure (Instr.bipush i)).runAt a (pc + 1) = _
  rw [am_rb, am_s1 h1]
  rfl
theorem am_d132 {a : ByteArray} {pc : Nat} {op b c : UInt8} (h : a[pc]? = some op) (ho : op.toNat = 132) (h1 : a[pc + 1]? = some b) (h2 : a[pc + 2]? = some c) : decode a pc = .ok (.iinc b.toNat (Reader.signed 8 c.toNat), 3) := by
  refine am_dec ?_
  unfold Decoder.instr
  rw [am_rb, am_u1 h, ho]
  show ((Reader.u1 : Decoder Nat) >>= fun i => (Reader.s1 : Decoder Int) >>= fun j => pure (Instr.iinc i j)).runAt a (pc + 1) = _
  rw [am_rb, am_u1 h1]
  show ((Reader.s1 : Decoder Int) >>= fun j => pure (Instr.iinc b.toNat j)).runAt a (pc + 2) = _
  rw [am_rb, am_s1 h2]
  rfl
theorem am_d188_4 {a : ByteArray} {pc : Nat} {op b : UInt8} (h : a[pc]? = some op) (ho : op.toNat = 188) (h1 : a[pc + 1]? = some b) (hb : b.toNat = 4) : decode a pc = .ok (.newarray .boolean, 2) := by
  refine am_dec ?_
  unfold Decoder.instr
  rw [am_rb, am_u1 h, ho]
  show (Decoder.newarray pc).runAt a (pc + 1) = _
  unfold Decoder.newarray
  rw [am_rb, am_u1 h1, hb]
  rfl
theorem am_d188_8 {a : ByteArray} {pc : Nat} {op b : UInt8} (h : a[pc]? = some op) (ho : op.toNat = 188) (h1 : a[pc + 1]? = some b) (hb : b.toNat = 8) : decode a pc = .ok (.newarray .byte, 2) := by
  refine am_dec ?_
  unfold Decoder.instr
  rw [am_rb, am_u1 h, ho]
  show (Decoder.newarray pc).runAt a (pc + 1) = _
  unfold Decoder.newarray
  rw [am_rb, am_u1 h1, hb]
  rfl
theorem am_d188_10 {a : ByteArray} {pc : Nat} {op b : UInt8} (h : a[pc]? = some op) (ho : op.toNat = 188) (h1 : a[pc + 1]? = some b) (hb : b.toNat = 10) : decode a pc = .ok (.newarray .int, 2) := by
  refine am_dec ?_
  unfold Decoder.instr
  rw [am_rb, am_u1 h, ho]
  show (Decoder.newarray pc).runAt a (pc + 1) = _
  unfold Decoder.newarray
  rw [am_rb, am_u1 h1, hb]
  rfl
theorem am_d188_11 {a : ByteArray} {pc : Nat} {op b : UInt8} (h : a[pc]? = some op) (ho : op.toNat = 188) (h1 : a[pc + 1]? = some b) (hb : b.toNat = 11) : decode a pc = .ok (.newarray .long, 2) := by
  refine am_dec ?_
  unfold Decoder.instr
  rw [am_rb, am_u1 h, ho]
  show (Decoder.newarray pc).runAt a (pc + 1) = _
  unfold Decoder.newarray
  rw [am_rb, am_u1 h1, hb]
  rfl
theorem am_dc_ok {a : ByteArray} {pc : Nat} {op b c : UInt8} {I : Instr} {n : Nat} (hc : am_dc op.toNat b c = some (I, n)) (h : a[pc]? = some op) (h1 : 2 ≤ n → a[pc + 1]? = some b) (h2 : 3 ≤ n → a[pc + 2]? = some c) : decode a pc = .ok (I, n) := by
  unfold am_dc at hc
  split at hc
  · rename_i ho; cases hc; exact am_d1 (b := b) (c := c) h ho
  · rename_i ho; cases hc; exact am_d2 (b := b) (c := c) h ho
  · rename_i ho; cases hc; exact am_d3 (b := b) (c := c) h ho
  · rename_i ho; cases hc; exact am_d4 (b := b) (c := c) h ho
  · rename_i ho; cases hc; exact am_d5 (b := b) (c := c) h ho
  · rename_i ho; cases hc; exact am_d6 (b := b) (c := c) h ho
  · rename_i ho; cases hc; exact am_d7 (b := b) (c := c) h ho
  · rename_i ho; cases hc; exact am_d8 (b := b) (c := c) h ho
  · rename_i ho; cases hc; exact am_d9 (b := b) (c := c) h ho
  · rename_i ho; cases hc; exact am_d10 (b := b) (c := c) h ho
  · rename_i ho; cases hc; exact am_d26 (b := b) (c := c) h ho
  · rename_i ho; cases hc; exact am_d27 (b := b) (c := c) h ho
  · rename_i ho; cases hc; exact am_d28 (b := b) (c := c) h ho
  · rename_i ho; cases hc; exact am_d29 (b := b) (c := c) h ho
  · rename_i ho; cases hc; exact am_d30 (b := b) (c := c) h ho
  · rename_i ho; cases hc; exact am_d31 (b := b) (c := c) h ho
  · rename_i ho; cases hc; exact am_d32 (b := b) (c := c) h ho
  · rename_i ho; cases hc; exact am_d33 (b := b) (c := c) h ho
  · rename_i ho; cases hc; exact am_d42 (b := b) (c := c) h ho
  · rename_i ho; cases hc; exact am_d43 (b := b) (c := c) h ho
  · rename_i ho; cases hc; exact am_d44 (b := b) (c := c) h ho
  · rename_i ho; cases hc; exact am_d45 (b := b) (c := c) h ho
  · rename_i ho; cases hc; exact am_d46 (b := b) (c := c) h ho
  · rename_i ho; cases hc; exact am_d47 (b := b) (c := c) h ho
  · rename_i ho; cases hc; exact am_d50 (b := b) (c := c) h ho
  · rename_i ho; cases hc; exact am_d51 (b := b) (c := c) h ho
  · rename_i ho; cases hc; exact am_d59 (b := b) (c := c) h ho
  · rename_i ho; cases hc; exact am_d60 (b := b) (c := c) h ho
  · rename_i ho; cases hc; exact am_d61 (b := b) (c := c) h ho
  · rename_i ho; cases hc; exact am_d62 (b := b) (c := c) h ho
  · rename_i ho; cases hc; exact am_d63 (b := b) (c := c) h ho
  · rename_i ho; cases hc; exact am_d64 (b := b) (c := c) h ho
  · rename_i ho; cases hc; exact am_d65 (b := b) (c := c) h ho
  · rename_i ho; cases hc; exact am_d66 (b := b) (c := c) h ho
  · rename_i ho; cases hc; exact am_d75 (b := b) (c := c) h ho
  · rename_i ho; cases hc; exact am_d76 (b := b) (c := c) h ho
  · rename_i ho; cases hc; exact am_d77 (b := b) (c := c) h ho
  · rename_i ho; cases hc; exact am_d78 (b := b) (c := c) h ho
  · rename_i ho; cases hc; exact am_d79 (b := b) (c := c) h ho
  · rename_i ho; cases hc; exact am_d80 (b := b) (c := c) h ho
  · rename_i ho; cases hc; exact am_d83 (b := b) (c := c) h ho
  · rename_i ho; cases hc; exact am_d84 (b := b) (c := c) h ho
  · rename_i ho; cases hc; exact am_d87 (b := b) (c := c) h ho
  · rename_i ho; cases hc; exact am_d89 (b := b) (c := c) h ho
  · rename_i ho; cases hc; exact am_d92 (b := b) (c := c) h ho
  · rename_i ho; cases hc; exact am_d96 (b := b) (c := c) h ho
  · rename_i ho; cases hc; exact am_d97 (b := b) (c := c) h ho
  · rename_i ho; cases hc; exact am_d100 (b := b) (c := c) h ho
  · rename_i ho; cases hc; exact am_d101 (b := b) (c := c) h ho
  · rename_i ho; cases hc; exact am_d104 (b := b) (c := c) h ho
  · rename_i ho; cases hc; exact am_d105 (b := b) (c := c) h ho
  · rename_i ho; cases hc; exact am_d108 (b := b) (c := c) h ho
  · rename_i ho; cases hc; exact am_d112 (b := b) (c := c) h ho
  · rename_i ho; cases hc; exact am_d120 (b := b) (c := c) h ho
  · rename_i ho; cases hc; exact am_d122 (b := b) (c := c) h ho
  · rename_i ho; cases hc; exact am_d124 (b := b) (c := c) h ho
  · rename_i ho; cases hc; exact am_d126 (b := b) (c := c) h ho
  · rename_i ho; cases hc; exact am_d128 (b := b) (c := c) h ho
  · rename_i ho; cases hc; exact am_d130 (b := b) (c := c) h ho
  · rename_i ho; cases hc; exact am_d133 (b := b) (c := c) h ho
  · rename_i ho; cases hc; exact am_d136 (b := b) (c := c) h ho
  · rename_i ho; cases hc; exact am_d145 (b := b) (c := c) h ho
  · rename_i ho; cases hc; exact am_d146 (b := b) (c := c) h ho
  · rename_i ho; cases hc; exact am_d148 (b := b) (c := c) h ho
  · rename_i ho; cases hc; exact am_d172 (b := b) (c := c) h ho
  · rename_i ho; cases hc; exact am_d173 (b := b) (c := c) h ho
  · rename_i ho; cases hc; exact am_d176 (b := b) (c := c) h ho
  · rename_i ho; cases hc; exact am_d177 (b := b) (c := c) h ho
  · rename_i ho; cases hc; exact am_d190 (b := b) (c := c) h ho
  · rename_i ho; cases hc; exact am_d18 (c := c) h ho (h1 (by decide))
  · rename_i ho; cases hc; exact am_d21 (c := c) h ho (h1 (by decide))
  · rename_i ho; cases hc; exact am_d22 (c := c) h ho (h1 (by decide))
  · rename_i ho; cases hc; exact am_d25 (c := c) h ho (h1 (by decide))
  · rename_i ho; cases hc; exact am_d54 (c := c) h ho (h1 (by decide))
  · rename_i ho; cases hc; exact am_d55 (c := c) h ho (h1 (by decide))
  · rename_i ho; cases hc; exact am_d58 (c := c) h ho (h1 (by decide))
  · rename_i ho; cases hc; exact am_d19 h ho (h1 (by decide)) (h2 (by decide))
  · rename_i ho; cases hc; exact am_d20 h ho (h1 (by decide)) (h2 (by decide))
  · rename_i ho; cases hc; exact am_d178 h ho (h1 (by decide)) (h2 (by decide))
  · rename_i ho; cases hc; exact am_d180 h ho (h1 (by decide)) (h2 (by decide))
  · rename_i ho; cases hc; exact am_d181 h ho (h1 (by decide)) (h2 (by decide))
  · rename_i ho; cases hc; exact am_d182 h ho (h1 (by decide)) (h2 (by decide))
  · rename_i ho; cases hc; exact am_d183 h ho (h1 (by decide)) (h2 (by decide))
  · rename_i ho; cases hc; exact am_d184 h ho (h1 (by decide)) (h2 (by decide))
  · rename_i ho; cases hc; exact am_d187 h ho (h1 (by decide)) (h2 (by decide))
  · rename_i ho; cases hc; exact am_d189 h ho (h1 (by decide)) (h2 (by decide))
  · rename_i ho; cases hc; exact am_d17 h ho (h1 (by decide)) (h2 (by decide))
  · rename_i ho; cases hc; exact am_d153 h ho (h1 (by decide)) (h2 (by decide))
  · rename_i ho; cases hc; exact am_d154 h ho (h1 (by decide)) (h2 (by decide))
  · rename_i ho; cases hc; exact am_d155 h ho (h1 (by decide)) (h2 (by decide))
  · rename_i ho; cases hc; exact am_d156 h ho (h1 (by decide)) (h2 (by decide))
  · rename_i ho; cases hc; exact am_d157 h ho (h1 (by decide)) (h2 (by decide))
  · rename_i ho; cases hc; exact am_d158 h ho (h1 (by decide)) (h2 (by decide))
  · rename_i ho; cases hc; exact am_d159 h ho (h1 (by decide)) (h2 (by decide))
  · rename_i ho; cases hc; exact am_d160 h ho (h1 (by decide)) (h2 (by decide))
  · rename_i ho; cases hc; exact am_d161 h ho (h1 (by decide)) (h2 (by decide))
  · rename_i ho; cases hc; exact am_d162 h ho (h1 (by decide)) (h2 (by decide))
  · rename_i ho; cases hc; exact am_d163 h ho (h1 (by decide)) (h2 (by decide))
  · rename_i ho; cases hc; exact am_d164 h ho (h1 (by decide)) (h2 (by decide))
  · rename_i ho; cases hc; exact am_d167 h ho (h1 (by decide)) (h2 (by decide))
  · rename_i ho; cases hc; exact am_d198 h ho (h1 (by decide)) (h2 (by decide))
  · rename_i ho; cases hc; exact am_d199 h ho (h1 (by decide)) (h2 (by decide))
  · rename_i ho; cases hc; exact am_d16 (c := c) h ho (h1 (by decide))
  · rename_i ho; cases hc; exact am_d132 h ho (h1 (by decide)) (h2 (by decide))
  · rename_i ho
    split at hc
    · rename_i hb; cases hc; exact am_d188_4 h ho (h1 (by decide)) hb
    · rename_i hb; cases hc; exact am_d188_8 h ho (h1 (by decide)) hb
    · rename_i hb; cases hc; exact am_d188_10 h ho (h1 (by decide)) hb
    · rename_i hb; cases hc; exact am_d188_11 h ho (h1 (by decide)) hb
    · cases hc
  · cases hc
end
section
def am_isSw : Instr → Bool
  | .tableswitch .. => true
  | _ => false
/-- the bytes beside the instructions (what isn't listed is passed over); what a switch says is looked at apart -/
def am_walk : List UInt8 → Nat → List (Nat × Instr × am_X) → Bool
  | _, _, [] => true
  | bs0, pc0, q :: L => decide (pc0 ≤ q.1) && (if am_isSw q.2.1 = true then am_walk ((bs0.drop (q.1 - pc0)).drop q.2.2.1) (q.1 + q.2.2.1) L else match bs0.drop (q.1 - pc0) with
    | [] => false
    | op :: bs1 => match am_dc op.toNat (bs1.headD 0) (bs1.tail.headD 0) with
      | none => false
      | some (I, n) => decide (I = q.2.1) && (decide (n = am_len q.2.2 q.2.1) && ((n == 1 || (bs1.head?.isSome && (n == 2 || bs1.tail.head?.isSome))) && am_walk ((op :: bs1).drop n) (q.1 + n) L)))
theorem am_ba (a : ByteArray) (p : Nat) : a[p]? = a.data.toList[p]? := by
  by_cases h : p < a.size
  · rw [getElem?_pos a p h]
    have h2 : p < a.data.toList.length := by rw [Array.length_toList]; exact h
    rw [List.getElem?_eq_getElem h2]
    rfl
  · rw [getElem?_neg a p h]
    have h2 : a.data.toList.length ≤ p := by rw [Array.length_toList]; exact Nat.not_lt.mp h
    rw [List.getElem?_eq_none h2]
theorem am_walk_ok {a : ByteArray} : ∀ (L : List (Nat × Instr × am_X)) (bs : List UInt8) (pc : Nat), bs = a.data.toList.drop pc → am_walk bs pc L = true → ∀ q ∈ L, am_isSw q.2.1 = false → decode a q.1 = .ok (q.2.1, am_len q.2.2 q.2.1)
  | [], _, _, _, _, q, hq, _ => absurd hq List.not_mem_nil
  | z :: L, bs, pc0, hb0, hw, q, hq, hs => by
    unfold am_walk at hw
    rw [Bool.and_eq_true] at hw
    obtain ⟨hz0, hw⟩ := hw
    have hz := of_decide_eq_true hz0
    have hb : bs.drop (z.1 - pc0) = a.data.toList.drop z.1 := by
      rw [hb0, List.drop_drop, Nat.add_sub_cancel' hz]
    by_cases hsw : am_isSw z.2.1 = true
    · rw [if_pos hsw, hb] at hw
      rcases List.mem_cons.mp hq with rfl | hq
      · rw [hsw] at hs; cases hs
      · exact am_walk_ok L _ _ (by rw [List.drop_drop]) hw q hq hs
    · rw [if_neg hsw] at hw
      split at hw
      · cases hw
      rename_i op bs1 hbs
      rw [hbs] at hb
      split at hw
      · cases hw
      rename_i I n hdc
      simp only [Bool.and_eq_true, decide_eq_true_eq, Bool.or_eq_true, beq_iff_eq] at hw
      obtain ⟨hI, hn, hx, hw⟩ := hw
      have get : ∀ j, a[z.1 + j]? = (op :: bs1)[j]? := by
        intro j
        rw [am_ba, hb, List.getElem?_drop]
      rcases List.mem_cons.mp hq with rfl | hq
      · have h0 : a[q.1]? = some op := get 0
        have key : decode a q.1 = .ok (I, n) := by
          refine am_dc_ok hdc h0 (fun h2 => ?_) (fun h3 => ?_)
          · rcases hx with hx | hx
            · omega
            · obtain ⟨b, hb1⟩ := Option.isSome_iff_exists.mp hx.1
              rw [get 1]
              cases bs1 with
              | nil => cases hb1
              | cons b1 r => rfl
          · rcases hx with hx | hx
            · omega
            · rcases hx.2 with hy | hy
              · omega
              · obtain ⟨b, hb1⟩ := Option.isSome_iff_exists.mp hy
                rw [get 2]
                cases bs1 with
                | nil => cases hb1
                | cons b1 r =>
                  cases r with
                  | nil => cases hb1
                  | cons b2 r2 => rfl
        rw [key, hI, hn]
      · exact am_walk_ok L _ _ (by rw [hb, List.drop_drop]) hw q hq hs
/-- all that is asked of a method's table -/
def am_all (T : am_LT) (init : Bool) (M : am_M) : Bool :=
  M.2.2.2.2.all (am_ckb T M.2.2.1 init) && (am_walk M.2.1.data.toList 0 M.2.2.2.2 && M.2.2.2.2.all (fun q => !am_isSw q.2.1 || decide (decode M.2.1 q.1 = .ok (q.2.1, am_len q.2.2 q.2.1))))
theorem am_tab_all {cl : List vw_C} {tys : List FieldType} {P : List am_M} {Ts : List Cond} {sn : List (Nat × String × String × String)} {sr : am_SR} {M : am_M} {init : Bool} {T : am_LT} {Tc : List (List Cond)} (hTc : ∀ c ∈ Tc, ∀ w ∈ c, goodWord w = true → w ∈ Ts)
    (hT : am_lkb cl tys P Tc sn sr M.1.cls T = true) (h : am_all T init M = true) : am_tab cl tys P Ts sn sr M init := by
  unfold am_all at h
  simp only [Bool.and_eq_true] at h
  refine am_tab_of hTc hT h.1 (fun q hq => ?_)
  by_cases hs : am_isSw q.2.1 = true
  · have := List.all_eq_true.mp h.2.2 q hq
    rw [hs] at this
    exact of_decide_eq_true (by simpa using this)
  · exact am_walk_ok _ _ 0 (by simp) h.2.1 q hq (by simpa using hs)
end
section
-- ===== PART A: goes FIRST, ahead of the names: the tables' words, and 'selects' of the private methods out of them =====
/-- a private method of a class that the tables say can be made, by its rows of tables_1 -/
def lw_okq (q : MethodName × Nat) : Prop := (q.1.cls ≠ "java/lang/invoke/MethodHandle" ∧ q.1.cls ≠ "java/lang/invoke/VarHandle") ∧ Cond.instantiable q.1.cls q.2 ∈ tables_1 ∧ Cond.privateMethod q.1 ∈ tables_1 ∧ Cond.instanceMethod q.1 ∈ tables_1
theorem lw_p0 : lw_okq (⟨"AssizeRide$Circuit", "findWays", "()V"⟩, 12) := ⟨⟨by decide +kernel, by decide +kernel⟩, List.mem_of_getElem? (i := 446) (by decide +kernel), List.mem_of_getElem? (i := 588) (by decide +kernel), List.mem_of_getElem? (i := 589) (by decide +kernel)⟩
theorem lw_p1 : lw_okq (⟨"AssizeRide$Circuit", "shorten", "(III)V"⟩, 12) := ⟨⟨by decide +kernel, by decide +kernel⟩, List.mem_of_getElem? (i := 446) (by decide +kernel), List.mem_of_getElem? (i := 595) (by decide +kernel), List.mem_of_getElem? (i := 596) (by decide +kernel)⟩
theorem lw_p2 : lw_okq (⟨"AssizeRide$People", "isOf", "(IIII)Z"⟩, 9) := ⟨⟨by decide +kernel, by decide +kernel⟩, List.mem_of_getElem? (i := 64) (by decide +kernel), List.mem_of_getElem? (i := 611) (by decide +kernel), List.mem_of_getElem? (i := 612) (by decide +kernel)⟩
theorem lw_p3 : lw_okq (⟨"AssizeRide$Law", "actsBegun", "(II)I"⟩, 13) := ⟨⟨by decide +kernel, by decide +kernel⟩, List.mem_of_getElem? (i := 100) (by decide +kernel), List.mem_of_getElem? (i := 689) (by decide +kernel), List.mem_of_getElem? (i := 690) (by decide +kernel)⟩
theorem lw_p4 : lw_okq (⟨"AssizeRide$Law", "clauseHolding", "(IIJI)I"⟩, 13) := ⟨⟨by decide +kernel, by decide +kernel⟩, List.mem_of_getElem? (i := 100) (by decide +kernel), List.mem_of_getElem? (i := 693) (by decide +kernel), List.mem_of_getElem? (i := 694) (by decide +kernel)⟩
theorem lw_p5 : lw_okq (⟨"AssizeRide$Law", "clauseAmong", "(IIIJ)I"⟩, 13) := ⟨⟨by decide +kernel, by decide +kernel⟩, List.mem_of_getElem? (i := 100) (by decide +kernel), List.mem_of_getElem? (i := 697) (by decide +kernel), List.mem_of_getElem? (i := 698) (by decide +kernel)⟩
theorem lw_p6 : lw_okq (⟨"AssizeRide$Law", "isStruck", "(IJI)Z"⟩, 13) := ⟨⟨by decide +kernel, by decide +kernel⟩, List.mem_of_getElem? (i := 100) (by decide +kernel), List.mem_of_getElem? (i := 701) (by decide +kernel), List.mem_of_getElem? (i := 702) (by decide +kernel)⟩
theorem lw_p7 : lw_okq (⟨"AssizeRide$Docket", "setBenefit", "(IZ)V"⟩, 18) := ⟨⟨by decide +kernel, by decide +kernel⟩, List.mem_of_getElem? (i := 266) (by decide +kernel), List.mem_of_getElem? (i := 711) (by decide +kernel), List.mem_of_getElem? (i := 712) (by decide +kernel)⟩
theorem lw_p8 : lw_okq (⟨"AssizeRide$Docket", "log", "(IIII)V"⟩, 18) := ⟨⟨by decide +kernel, by decide +kernel⟩, List.mem_of_getElem? (i := 266) (by decide +kernel), List.mem_of_getElem? (i := 731) (by decide +kernel), List.mem_of_getElem? (i := 732) (by decide +kernel)⟩
theorem lw_p9 : lw_okq (⟨"AssizeRide$Tape", "growToken", "(I)V"⟩, 7) := ⟨⟨by decide +kernel, by decide +kernel⟩, List.mem_of_getElem? (i := 31) (by decide +kernel), List.mem_of_getElem? (i := 773) (by decide +kernel), List.mem_of_getElem? (i := 774) (by decide +kernel)⟩
theorem lw_p10 : lw_okq (⟨"AssizeRide$ActReader", "look", "(I)V"⟩, 17) := ⟨⟨by decide +kernel, by decide +kernel⟩, List.mem_of_getElem? (i := 148) (by decide +kernel), List.mem_of_getElem? (i := 788) (by decide +kernel), List.mem_of_getElem? (i := 789) (by decide +kernel)⟩
theorem lw_p11 : lw_okq (⟨"AssizeRide$ActReader", "readHead", "()Z"⟩, 17) := ⟨⟨by decide +kernel, by decide +kernel⟩, List.mem_of_getElem? (i := 148) (by decide +kernel), List.mem_of_getElem? (i := 803) (by decide +kernel), List.mem_of_getElem? (i := 804) (by decide +kernel)⟩
theorem lw_p12 : lw_okq (⟨"AssizeRide$ActReader", "fail", "(I)Z"⟩, 17) := ⟨⟨by decide +kernel, by decide +kernel⟩, List.mem_of_getElem? (i := 148) (by decide +kernel), List.mem_of_getElem? (i := 807) (by decide +kernel), List.mem_of_getElem? (i := 808) (by decide +kernel)⟩
theorem lw_p13 : lw_okq (⟨"AssizeRide$ActReader", "readDeedName", "()Z"⟩, 17) := ⟨⟨by decide +kernel, by decide +kernel⟩, List.mem_of_getElem? (i := 148) (by decide +kernel), List.mem_of_getElem? (i := 823) (by decide +kernel), List.mem_of_getElem? (i := 824) (by decide +kernel)⟩
theorem lw_p14 : lw_okq (⟨"AssizeRide$ActReader", "readBody", "()Z"⟩, 17) := ⟨⟨by decide +kernel, by decide +kernel⟩, List.mem_of_getElem? (i := 148) (by decide +kernel), List.mem_of_getElem? (i := 827) (by decide +kernel), List.mem_of_getElem? (i := 828) (by decide +kernel)⟩
theorem lw_p15 : lw_okq (⟨"AssizeRide$ActReader", "readDeed", "()Z"⟩, 17) := ⟨⟨by decide +kernel, by decide +kernel⟩, List.mem_of_getElem? (i := 148) (by decide +kernel), List.mem_of_getElem? (i := 831) (by decide +kernel), List.mem_of_getElem? (i := 832) (by decide +kernel)⟩
def lw_privs_1 : List (MethodName × Nat) := [(⟨"AssizeRide$Circuit", "findWays", "()V"⟩, 12), (⟨"AssizeRide$Circuit", "shorten", "(III)V"⟩, 12), (⟨"AssizeRide$People", "isOf", "(IIII)Z"⟩, 9), (⟨"AssizeRide$Law", "actsBegun", "(II)I"⟩, 13), (⟨"AssizeRide$Law", "clauseHolding", "(IIJI)I"⟩, 13), (⟨"AssizeRide$Law", "clauseAmong", "(IIIJ)I"⟩, 13), (⟨"AssizeRide$Law", "isStruck", "(IJI)Z"⟩, 13), (⟨"AssizeRide$Docket", "setBenefit", "(IZ)V"⟩, 18), (⟨"AssizeRide$Docket", "log", "(IIII)V"⟩, 18), (⟨"AssizeRide$Tape", "growToken", "(I)V"⟩, 7), (⟨"AssizeRide$ActReader", "look", "(I)V"⟩, 17), (⟨"AssizeRide$ActReader", "readHead", "()Z"⟩, 17), (⟨"AssizeRide$ActReader", "fail", "(I)Z"⟩, 17), (⟨"AssizeRide$ActReader", "readDeedName", "()Z"⟩, 17), (⟨"AssizeRide$ActReader", "readBody", "()Z"⟩, 17), (⟨"AssizeRide$ActReader", "readDeed", "()Z"⟩, 17)]
theorem lw_r1 : ∀ q ∈ lw_privs_1, lw_okq q := List.forall_mem_cons.mpr ⟨lw_p0, List.forall_mem_cons.mpr ⟨lw_p1, List.forall_mem_cons.mpr ⟨lw_p2, List.forall_mem_cons.mpr ⟨lw_p3, List.forall_mem_cons.mpr ⟨lw_p4, List.forall_mem_cons.mpr ⟨lw_p5, List.forall_mem_cons.mpr ⟨lw_p6, List.forall_mem_cons.mpr ⟨lw_p7, List.forall_mem_cons.mpr ⟨lw_p8, List.forall_mem_cons.mpr ⟨lw_p9, List.forall_mem_cons.mpr ⟨lw_p10, List.forall_mem_cons.mpr ⟨lw_p11, List.forall_mem_cons.mpr ⟨lw_p12, List.forall_mem_cons.mpr ⟨lw_p13, List.forall_mem_cons.mpr ⟨lw_p14, List.forall_mem_cons.mpr ⟨lw_p15, fun _ h => absurd h List.not_mem_nil⟩⟩⟩⟩⟩⟩⟩⟩⟩⟩⟩⟩⟩⟩⟩⟩
theorem lw_p16 : lw_okq (⟨"AssizeRide$ActReader", "readOpenings", "()Z"⟩, 17) := ⟨⟨by decide +kernel, by decide +kernel⟩, List.mem_of_getElem? (i := 148) (by decide +kernel), List.mem_of_getElem? (i := 835) (by decide +kernel), List.mem_of_getElem? (i := 836) (by decide +kernel)⟩
theorem lw_p17 : lw_okq (⟨"AssizeRide$ActReader", "awaitNot", "()V"⟩, 17) := ⟨⟨by decide +kernel, by decide +kernel⟩, List.mem_of_getElem? (i := 148) (by decide +kernel), List.mem_of_getElem? (i := 839) (by decide +kernel), List.mem_of_getElem? (i := 840) (by decide +kernel)⟩
theorem lw_p18 : lw_okq (⟨"AssizeRide$ActReader", "isWaiting", "(I)Z"⟩, 17) := ⟨⟨by decide +kernel, by decide +kernel⟩, List.mem_of_getElem? (i := 148) (by decide +kernel), List.mem_of_getElem? (i := 843) (by decide +kernel), List.mem_of_getElem? (i := 844) (by decide +kernel)⟩
theorem lw_p19 : lw_okq (⟨"AssizeRide$ActReader", "await", "(I)V"⟩, 17) := ⟨⟨by decide +kernel, by decide +kernel⟩, List.mem_of_getElem? (i := 148) (by decide +kernel), List.mem_of_getElem? (i := 847) (by decide +kernel), List.mem_of_getElem? (i := 848) (by decide +kernel)⟩
theorem lw_p20 : lw_okq (⟨"AssizeRide$ActReader", "readTest", "()Z"⟩, 17) := ⟨⟨by decide +kernel, by decide +kernel⟩, List.mem_of_getElem? (i := 148) (by decide +kernel), List.mem_of_getElem? (i := 851) (by decide +kernel), List.mem_of_getElem? (i := 852) (by decide +kernel)⟩
theorem lw_p21 : lw_okq (⟨"AssizeRide$ActReader", "isTerm", "()Z"⟩, 17) := ⟨⟨by decide +kernel, by decide +kernel⟩, List.mem_of_getElem? (i := 148) (by decide +kernel), List.mem_of_getElem? (i := 855) (by decide +kernel), List.mem_of_getElem? (i := 856) (by decide +kernel)⟩
theorem lw_p22 : lw_okq (⟨"AssizeRide$ActReader", "readSum", "()Z"⟩, 17) := ⟨⟨by decide +kernel, by decide +kernel⟩, List.mem_of_getElem? (i := 148) (by decide +kernel), List.mem_of_getElem? (i := 859) (by decide +kernel), List.mem_of_getElem? (i := 860) (by decide +kernel)⟩
theorem lw_p23 : lw_okq (⟨"AssizeRide$ActReader", "releaseNot", "()V"⟩, 17) := ⟨⟨by decide +kernel, by decide +kernel⟩, List.mem_of_getElem? (i := 148) (by decide +kernel), List.mem_of_getElem? (i := 872) (by decide +kernel), List.mem_of_getElem? (i := 873) (by decide +kernel)⟩
theorem lw_p24 : lw_okq (⟨"AssizeRide$ActReader", "readClosings", "()V"⟩, 17) := ⟨⟨by decide +kernel, by decide +kernel⟩, List.mem_of_getElem? (i := 148) (by decide +kernel), List.mem_of_getElem? (i := 877) (by decide +kernel), List.mem_of_getElem? (i := 878) (by decide +kernel)⟩
theorem lw_p25 : lw_okq (⟨"AssizeRide$ActReader", "release", "(I)V"⟩, 17) := ⟨⟨by decide +kernel, by decide +kernel⟩, List.mem_of_getElem? (i := 148) (by decide +kernel), List.mem_of_getElem? (i := 881) (by decide +kernel), List.mem_of_getElem? (i := 882) (by decide +kernel)⟩
theorem lw_p26 : lw_okq (⟨"AssizeRide$ActReader", "closeDeed", "(Z)V"⟩, 17) := ⟨⟨by decide +kernel, by decide +kernel⟩, List.mem_of_getElem? (i := 148) (by decide +kernel), List.mem_of_getElem? (i := 887) (by decide +kernel), List.mem_of_getElem? (i := 888) (by decide +kernel)⟩
theorem lw_p27 : lw_okq (⟨"AssizeRide$ActReader", "readWords", "()Z"⟩, 17) := ⟨⟨by decide +kernel, by decide +kernel⟩, List.mem_of_getElem? (i := 148) (by decide +kernel), List.mem_of_getElem? (i := 895) (by decide +kernel), List.mem_of_getElem? (i := 896) (by decide +kernel)⟩
theorem lw_p28 : lw_okq (⟨"AssizeRide$ActReader", "readStrike", "()Z"⟩, 17) := ⟨⟨by decide +kernel, by decide +kernel⟩, List.mem_of_getElem? (i := 148) (by decide +kernel), List.mem_of_getElem? (i := 899) (by decide +kernel), List.mem_of_getElem? (i := 900) (by decide +kernel)⟩
theorem lw_p29 : lw_okq (⟨"AssizeRide$ActReader", "readNumber", "()Z"⟩, 17) := ⟨⟨by decide +kernel, by decide +kernel⟩, List.mem_of_getElem? (i := 148) (by decide +kernel), List.mem_of_getElem? (i := 903) (by decide +kernel), List.mem_of_getElem? (i := 904) (by decide +kernel)⟩
theorem lw_p30 : lw_okq (⟨"AssizeRide", "takeDeed", "(I)J"⟩, 13) := ⟨⟨by decide +kernel, by decide +kernel⟩, List.mem_of_getElem? (i := 23) (by decide +kernel), List.mem_of_getElem? (i := 937) (by decide +kernel), List.mem_of_getElem? (i := 938) (by decide +kernel)⟩
theorem lw_p31 : lw_okq (⟨"AssizeRide$Law", "holdsWith", "(II)Z"⟩, 13) := ⟨⟨by decide +kernel, by decide +kernel⟩, List.mem_of_getElem? (i := 100) (by decide +kernel), List.mem_of_getElem? (i := 1020) (by decide +kernel), List.mem_of_getElem? (i := 1021) (by decide +kernel)⟩
def lw_privs_2 : List (MethodName × Nat) := [(⟨"AssizeRide$ActReader", "readOpenings", "()Z"⟩, 17), (⟨"AssizeRide$ActReader", "awaitNot", "()V"⟩, 17), (⟨"AssizeRide$ActReader", "isWaiting", "(I)Z"⟩, 17), (⟨"AssizeRide$ActReader", "await", "(I)V"⟩, 17), (⟨"AssizeRide$ActReader", "readTest", "()Z"⟩, 17), (⟨"AssizeRide$ActReader", "isTerm", "()Z"⟩, 17), (⟨"AssizeRide$ActReader", "readSum", "()Z"⟩, 17), (⟨"AssizeRide$ActReader", "releaseNot", "()V"⟩, 17), (⟨"AssizeRide$ActReader", "readClosings", "()V"⟩, 17), (⟨"AssizeRide$ActReader", "release", "(I)V"⟩, 17), (⟨"AssizeRide$ActReader", "closeDeed", "(Z)V"⟩, 17), (⟨"AssizeRide$ActReader", "readWords", "()Z"⟩, 17), (⟨"AssizeRide$ActReader", "readStrike", "()Z"⟩, 17), (⟨"AssizeRide$ActReader", "readNumber", "()Z"⟩, 17), (⟨"AssizeRide", "takeDeed", "(I)J"⟩, 13), (⟨"AssizeRide$Law", "holdsWith", "(II)Z"⟩, 13)]
theorem lw_r2 : ∀ q ∈ lw_privs_2, lw_okq q := List.forall_mem_cons.mpr ⟨lw_p16, List.forall_mem_cons.mpr ⟨lw_p17, List.forall_mem_cons.mpr ⟨lw_p18, List.forall_mem_cons.mpr ⟨lw_p19, List.forall_mem_cons.mpr ⟨lw_p20, List.forall_mem_cons.mpr ⟨lw_p21, List.forall_mem_cons.mpr ⟨lw_p22, List.forall_mem_cons.mpr ⟨lw_p23, List.forall_mem_cons.mpr ⟨lw_p24, List.forall_mem_cons.mpr ⟨lw_p25, List.forall_mem_cons.mpr ⟨lw_p26, List.forall_mem_cons.mpr ⟨lw_p27, List.forall_mem_cons.mpr ⟨lw_p28, List.forall_mem_cons.mpr ⟨lw_p29, List.forall_mem_cons.mpr ⟨lw_p30, List.forall_mem_cons.mpr ⟨lw_p31, fun _ h => absurd h List.not_mem_nil⟩⟩⟩⟩⟩⟩⟩⟩⟩⟩⟩⟩⟩⟩⟩⟩
theorem lw_p32 : lw_okq (⟨"AssizeRide", "isDeedPlace", "(III)Z"⟩, 13) := ⟨⟨by decide +kernel, by decide +kernel⟩, List.mem_of_getElem? (i := 23) (by decide +kernel), List.mem_of_getElem? (i := 1035) (by decide +kernel), List.mem_of_getElem? (i := 1036) (by decide +kernel)⟩
theorem lw_p33 : lw_okq (⟨"AssizeRide", "beginMatter", "(IIIIII)I"⟩, 13) := ⟨⟨by decide +kernel, by decide +kernel⟩, List.mem_of_getElem? (i := 23) (by decide +kernel), List.mem_of_getElem? (i := 1039) (by decide +kernel), List.mem_of_getElem? (i := 1040) (by decide +kernel)⟩
theorem lw_p34 : lw_okq (⟨"AssizeRide$Docket", "wordNotHad", "(LAssizeRide$Matter;)I"⟩, 18) := ⟨⟨by decide +kernel, by decide +kernel⟩, List.mem_of_getElem? (i := 266) (by decide +kernel), List.mem_of_getElem? (i := 1192) (by decide +kernel), List.mem_of_getElem? (i := 1193) (by decide +kernel)⟩
theorem lw_p35 : lw_okq (⟨"AssizeRide$Docket", "countPutIn", "(LAssizeRide$Row;II)V"⟩, 18) := ⟨⟨by decide +kernel, by decide +kernel⟩, List.mem_of_getElem? (i := 266) (by decide +kernel), List.mem_of_getElem? (i := 1215) (by decide +kernel), List.mem_of_getElem? (i := 1216) (by decide +kernel)⟩
theorem lw_p36 : lw_okq (⟨"AssizeRide$Docket", "weave", "(LAssizeRide$Row;II)V"⟩, 18) := ⟨⟨by decide +kernel, by decide +kernel⟩, List.mem_of_getElem? (i := 266) (by decide +kernel), List.mem_of_getElem? (i := 1222) (by decide +kernel), List.mem_of_getElem? (i := 1223) (by decide +kernel)⟩
theorem lw_p37 : lw_okq (⟨"AssizeRide$Docket", "isFit", "(LAssizeRide$Matter;IIIII)Z"⟩, 18) := ⟨⟨by decide +kernel, by decide +kernel⟩, List.mem_of_getElem? (i := 266) (by decide +kernel), List.mem_of_getElem? (i := 1265) (by decide +kernel), List.mem_of_getElem? (i := 1266) (by decide +kernel)⟩
theorem lw_p38 : lw_okq (⟨"AssizeRide$Docket", "isKin", "(IIII)Z"⟩, 18) := ⟨⟨by decide +kernel, by decide +kernel⟩, List.mem_of_getElem? (i := 266) (by decide +kernel), List.mem_of_getElem? (i := 1276) (by decide +kernel), List.mem_of_getElem? (i := 1277) (by decide +kernel)⟩
theorem lw_p39 : lw_okq (⟨"AssizeRide$Docket", "jurorsOfHundred", "(LAssizeRide$Matter;)I"⟩, 18) := ⟨⟨by decide +kernel, by decide +kernel⟩, List.mem_of_getElem? (i := 266) (by decide +kernel), List.mem_of_getElem? (i := 1324) (by decide +kernel), List.mem_of_getElem? (i := 1325) (by decide +kernel)⟩
theorem lw_p40 : lw_okq (⟨"AssizeRide$Docket", "isSettledAsNone", "(J)Z"⟩, 18) := ⟨⟨by decide +kernel, by decide +kernel⟩, List.mem_of_getElem? (i := 266) (by decide +kernel), List.mem_of_getElem? (i := 1355) (by decide +kernel), List.mem_of_getElem? (i := 1356) (by decide +kernel)⟩
theorem lw_p41 : lw_okq (⟨"AssizeRide$DayOrder", "prepare", "(ILAssizeRide$Docket;)V"⟩, 9) := ⟨⟨by decide +kernel, by decide +kernel⟩, List.mem_of_getElem? (i := 411) (by decide +kernel), List.mem_of_getElem? (i := 1530) (by decide +kernel), List.mem_of_getElem? (i := 1531) (by decide +kernel)⟩
theorem lw_p42 : lw_okq (⟨"AssizeRide$DayOrder", "mostLaid", "(I)I"⟩, 9) := ⟨⟨by decide +kernel, by decide +kernel⟩, List.mem_of_getElem? (i := 411) (by decide +kernel), List.mem_of_getElem? (i := 1542) (by decide +kernel), List.mem_of_getElem? (i := 1543) (by decide +kernel)⟩
theorem lw_p43 : lw_okq (⟨"AssizeRide$DayOrder", "soonest", "(II)I"⟩, 9) := ⟨⟨by decide +kernel, by decide +kernel⟩, List.mem_of_getElem? (i := 411) (by decide +kernel), List.mem_of_getElem? (i := 1546) (by decide +kernel), List.mem_of_getElem? (i := 1547) (by decide +kernel)⟩
theorem lw_p44 : lw_okq (⟨"AssizeRide$DayOrder", "fits", "(II)Z"⟩, 9) := ⟨⟨by decide +kernel, by decide +kernel⟩, List.mem_of_getElem? (i := 411) (by decide +kernel), List.mem_of_getElem? (i := 1550) (by decide +kernel), List.mem_of_getElem? (i := 1551) (by decide +kernel)⟩
theorem lw_p45 : lw_okq (⟨"AssizeRide$DayOrder", "tryFrom", "(II)Z"⟩, 9) := ⟨⟨by decide +kernel, by decide +kernel⟩, List.mem_of_getElem? (i := 411) (by decide +kernel), List.mem_of_getElem? (i := 1555) (by decide +kernel), List.mem_of_getElem? (i := 1556) (by decide +kernel)⟩
theorem lw_p46 : lw_okq (⟨"AssizeRide$Circuit", "reachesAll", "(II)Z"⟩, 12) := ⟨⟨by decide +kernel, by decide +kernel⟩, List.mem_of_getElem? (i := 446) (by decide +kernel), List.mem_of_getElem? (i := 1598) (by decide +kernel), List.mem_of_getElem? (i := 1599) (by decide +kernel)⟩
theorem lw_p47 : lw_okq (⟨"AssizeRide$Circuit", "layRest", "(IIIILAssizeRide$Gaols;)I"⟩, 12) := ⟨⟨by decide +kernel, by decide +kernel⟩, List.mem_of_getElem? (i := 446) (by decide +kernel), List.mem_of_getElem? (i := 1603) (by decide +kernel), List.mem_of_getElem? (i := 1604) (by decide +kernel)⟩
def lw_privs_3 : List (MethodName × Nat) := [(⟨"AssizeRide", "isDeedPlace", "(III)Z"⟩, 13), (⟨"AssizeRide", "beginMatter", "(IIIIII)I"⟩, 13), (⟨"AssizeRide$Docket", "wordNotHad", "(LAssizeRide$Matter;)I"⟩, 18), (⟨"AssizeRide$Docket", "countPutIn", "(LAssizeRide$Row;II)V"⟩, 18), (⟨"AssizeRide$Docket", "weave", "(LAssizeRide$Row;II)V"⟩, 18), (⟨"AssizeRide$Docket", "isFit", "(LAssizeRide$Matter;IIIII)Z"⟩, 18), (⟨"AssizeRide$Docket", "isKin", "(IIII)Z"⟩, 18), (⟨"AssizeRide$Docket", "jurorsOfHundred", "(LAssizeRide$Matter;)I"⟩, 18), (⟨"AssizeRide$Docket", "isSettledAsNone", "(J)Z"⟩, 18), (⟨"AssizeRide$DayOrder", "prepare", "(ILAssizeRide$Docket;)V"⟩, 9), (⟨"AssizeRide$DayOrder", "mostLaid", "(I)I"⟩, 9), (⟨"AssizeRide$DayOrder", "soonest", "(II)I"⟩, 9), (⟨"AssizeRide$DayOrder", "fits", "(II)Z"⟩, 9), (⟨"AssizeRide$DayOrder", "tryFrom", "(II)Z"⟩, 9), (⟨"AssizeRide$Circuit", "reachesAll", "(II)Z"⟩, 12), (⟨"AssizeRide$Circuit", "layRest", "(IIIILAssizeRide$Gaols;)I"⟩, 12)]
theorem lw_r3 : ∀ q ∈ lw_privs_3, lw_okq q := List.forall_mem_cons.mpr ⟨lw_p32, List.forall_mem_cons.mpr ⟨lw_p33, List.forall_mem_cons.mpr ⟨lw_p34, List.forall_mem_cons.mpr ⟨lw_p35, List.forall_mem_cons.mpr ⟨lw_p36, List.forall_mem_cons.mpr ⟨lw_p37, List.forall_mem_cons.mpr ⟨lw_p38, List.forall_mem_cons.mpr ⟨lw_p39, List.forall_mem_cons.mpr ⟨lw_p40, List.forall_mem_cons.mpr ⟨lw_p41, List.forall_mem_cons.mpr ⟨lw_p42, List.forall_mem_cons.mpr ⟨lw_p43, List.forall_mem_cons.mpr ⟨lw_p44, List.forall_mem_cons.mpr ⟨lw_p45, List.forall_mem_cons.mpr ⟨lw_p46, List.forall_mem_cons.mpr ⟨lw_p47, fun _ h => absurd h List.not_mem_nil⟩⟩⟩⟩⟩⟩⟩⟩⟩⟩⟩⟩⟩⟩⟩⟩
theorem lw_p48 : lw_okq (⟨"AssizeRide$Circuit", "tryNext", "(IIIII)V"⟩, 12) := ⟨⟨by decide +kernel, by decide +kernel⟩, List.mem_of_getElem? (i := 446) (by decide +kernel), List.mem_of_getElem? (i := 1608) (by decide +kernel), List.mem_of_getElem? (i := 1609) (by decide +kernel)⟩
theorem lw_p49 : lw_okq (⟨"AssizeRide$Rolls", "bestTake", "()I"⟩, 6) := ⟨⟨by decide +kernel, by decide +kernel⟩, List.mem_of_getElem? (i := 491) (by decide +kernel), List.mem_of_getElem? (i := 1648) (by decide +kernel), List.mem_of_getElem? (i := 1649) (by decide +kernel)⟩
theorem lw_p50 : lw_okq (⟨"AssizeRide$Rolls", "canTake", "(I)Z"⟩, 6) := ⟨⟨by decide +kernel, by decide +kernel⟩, List.mem_of_getElem? (i := 491) (by decide +kernel), List.mem_of_getElem? (i := 1654) (by decide +kernel), List.mem_of_getElem? (i := 1655) (by decide +kernel)⟩
theorem lw_p51 : lw_okq (⟨"AssizeRide$Rolls", "costBehind", "(I)I"⟩, 6) := ⟨⟨by decide +kernel, by decide +kernel⟩, List.mem_of_getElem? (i := 491) (by decide +kernel), List.mem_of_getElem? (i := 1658) (by decide +kernel), List.mem_of_getElem? (i := 1659) (by decide +kernel)⟩
theorem lw_p52 : lw_okq (⟨"AssizeRide$Rolls", "costOfRow", "(I)I"⟩, 6) := ⟨⟨by decide +kernel, by decide +kernel⟩, List.mem_of_getElem? (i := 491) (by decide +kernel), List.mem_of_getElem? (i := 1665) (by decide +kernel), List.mem_of_getElem? (i := 1666) (by decide +kernel)⟩
theorem lw_p53 : lw_okq (⟨"AssizeRide$Rolls", "lineAt", "(I)I"⟩, 6) := ⟨⟨by decide +kernel, by decide +kernel⟩, List.mem_of_getElem? (i := 491) (by decide +kernel), List.mem_of_getElem? (i := 1670) (by decide +kernel), List.mem_of_getElem? (i := 1671) (by decide +kernel)⟩
theorem lw_p54 : lw_okq (⟨"AssizeRide$Rolls", "writeRows", "()V"⟩, 6) := ⟨⟨by decide +kernel, by decide +kernel⟩, List.mem_of_getElem? (i := 491) (by decide +kernel), List.mem_of_getElem? (i := 1677) (by decide +kernel), List.mem_of_getElem? (i := 1678) (by decide +kernel)⟩
theorem lw_p55 : lw_okq (⟨"AssizeRide$Rolls", "isSure", "(I)Z"⟩, 6) := ⟨⟨by decide +kernel, by decide +kernel⟩, List.mem_of_getElem? (i := 491) (by decide +kernel), List.mem_of_getElem? (i := 1690) (by decide +kernel), List.mem_of_getElem? (i := 1691) (by decide +kernel)⟩
theorem lw_p56 : lw_okq (⟨"AssizeRideModel", "isOne", "(I)Z"⟩, 140) := ⟨⟨by decide +kernel, by decide +kernel⟩, List.mem_of_getElem? (i := 1732) (by decide +kernel), List.mem_of_getElem? (i := 2186) (by decide +kernel), List.mem_of_getElem? (i := 2187) (by decide +kernel)⟩
theorem lw_p57 : lw_okq (⟨"AssizeRideModel", "tell", "(IIIII)I"⟩, 140) := ⟨⟨by decide +kernel, by decide +kernel⟩, List.mem_of_getElem? (i := 1732) (by decide +kernel), List.mem_of_getElem? (i := 2193) (by decide +kernel), List.mem_of_getElem? (i := 2194) (by decide +kernel)⟩
theorem lw_p58 : lw_okq (⟨"AssizeRideModel", "isParty", "(II)Z"⟩, 140) := ⟨⟨by decide +kernel, by decide +kernel⟩, List.mem_of_getElem? (i := 1732) (by decide +kernel), List.mem_of_getElem? (i := 2205) (by decide +kernel), List.mem_of_getElem? (i := 2206) (by decide +kernel)⟩
theorem lw_p59 : lw_okq (⟨"AssizeRideModel", "tellsOf", "(IJI)I"⟩, 140) := ⟨⟨by decide +kernel, by decide +kernel⟩, List.mem_of_getElem? (i := 1732) (by decide +kernel), List.mem_of_getElem? (i := 2209) (by decide +kernel), List.mem_of_getElem? (i := 2210) (by decide +kernel)⟩
theorem lw_p60 : lw_okq (⟨"AssizeRideModel", "tellsAt", "(IJII)I"⟩, 140) := ⟨⟨by decide +kernel, by decide +kernel⟩, List.mem_of_getElem? (i := 1732) (by decide +kernel), List.mem_of_getElem? (i := 2213) (by decide +kernel), List.mem_of_getElem? (i := 2214) (by decide +kernel)⟩
theorem lw_p61 : lw_okq (⟨"AssizeRideModel", "lawOf", "(IJII)I"⟩, 140) := ⟨⟨by decide +kernel, by decide +kernel⟩, List.mem_of_getElem? (i := 1732) (by decide +kernel), List.mem_of_getElem? (i := 2217) (by decide +kernel), List.mem_of_getElem? (i := 2218) (by decide +kernel)⟩
theorem lw_p62 : lw_okq (⟨"AssizeRideModel", "clauseOf", "(IIJII)I"⟩, 140) := ⟨⟨by decide +kernel, by decide +kernel⟩, List.mem_of_getElem? (i := 1732) (by decide +kernel), List.mem_of_getElem? (i := 2221) (by decide +kernel), List.mem_of_getElem? (i := 2222) (by decide +kernel)⟩
theorem lw_p63 : lw_okq (⟨"AssizeRideModel", "isBegun", "(III)Z"⟩, 140) := ⟨⟨by decide +kernel, by decide +kernel⟩, List.mem_of_getElem? (i := 1732) (by decide +kernel), List.mem_of_getElem? (i := 2225) (by decide +kernel), List.mem_of_getElem? (i := 2226) (by decide +kernel)⟩
def lw_privs_4 : List (MethodName × Nat) := [(⟨"AssizeRide$Circuit", "tryNext", "(IIIII)V"⟩, 12), (⟨"AssizeRide$Rolls", "bestTake", "()I"⟩, 6), (⟨"AssizeRide$Rolls", "canTake", "(I)Z"⟩, 6), (⟨"AssizeRide$Rolls", "costBehind", "(I)I"⟩, 6), (⟨"AssizeRide$Rolls", "costOfRow", "(I)I"⟩, 6), (⟨"AssizeRide$Rolls", "lineAt", "(I)I"⟩, 6), (⟨"AssizeRide$Rolls", "writeRows", "()V"⟩, 6), (⟨"AssizeRide$Rolls", "isSure", "(I)Z"⟩, 6), (⟨"AssizeRideModel", "isOne", "(I)Z"⟩, 140), (⟨"AssizeRideModel", "tell", "(IIIII)I"⟩, 140), (⟨"AssizeRideModel", "isParty", "(II)Z"⟩, 140), (⟨"AssizeRideModel", "tellsOf", "(IJI)I"⟩, 140), (⟨"AssizeRideModel", "tellsAt", "(IJII)I"⟩, 140), (⟨"AssizeRideModel", "lawOf", "(IJII)I"⟩, 140), (⟨"AssizeRideModel", "clauseOf", "(IIJII)I"⟩, 140), (⟨"AssizeRideModel", "isBegun", "(III)Z"⟩, 140)]
theorem lw_r4 : ∀ q ∈ lw_privs_4, lw_okq q := List.forall_mem_cons.mpr ⟨lw_p48, List.forall_mem_cons.mpr ⟨lw_p49, List.forall_mem_cons.mpr ⟨lw_p50, List.forall_mem_cons.mpr ⟨lw_p51, List.forall_mem_cons.mpr ⟨lw_p52, List.forall_mem_cons.mpr ⟨lw_p53, List.forall_mem_cons.mpr ⟨lw_p54, List.forall_mem_cons.mpr ⟨lw_p55, List.forall_mem_cons.mpr ⟨lw_p56, List.forall_mem_cons.mpr ⟨lw_p57, List.forall_mem_cons.mpr ⟨lw_p58, List.forall_mem_cons.mpr ⟨lw_p59, List.forall_mem_cons.mpr ⟨lw_p60, List.forall_mem_cons.mpr ⟨lw_p61, List.forall_mem_cons.mpr ⟨lw_p62, List.forall_mem_cons.mpr ⟨lw_p63, fun _ h => absurd h List.not_mem_nil⟩⟩⟩⟩⟩⟩⟩⟩⟩⟩⟩⟩⟩⟩⟩⟩
theorem lw_p64 : lw_okq (⟨"AssizeRideModel", "isStruck", "(III)Z"⟩, 140) := ⟨⟨by decide +kernel, by decide +kernel⟩, List.mem_of_getElem? (i := 1732) (by decide +kernel), List.mem_of_getElem? (i := 2229) (by decide +kernel), List.mem_of_getElem? (i := 2230) (by decide +kernel)⟩
theorem lw_p65 : lw_okq (⟨"AssizeRideModel", "again", "(I)V"⟩, 140) := ⟨⟨by decide +kernel, by decide +kernel⟩, List.mem_of_getElem? (i := 1732) (by decide +kernel), List.mem_of_getElem? (i := 2236) (by decide +kernel), List.mem_of_getElem? (i := 2237) (by decide +kernel)⟩
theorem lw_p66 : lw_okq (⟨"AssizeRideModel", "comes", "(II)V"⟩, 140) := ⟨⟨by decide +kernel, by decide +kernel⟩, List.mem_of_getElem? (i := 1732) (by decide +kernel), List.mem_of_getElem? (i := 2240) (by decide +kernel), List.mem_of_getElem? (i := 2241) (by decide +kernel)⟩
theorem lw_p67 : lw_okq (⟨"AssizeRideModel", "landOf", "(III)I"⟩, 140) := ⟨⟨by decide +kernel, by decide +kernel⟩, List.mem_of_getElem? (i := 1732) (by decide +kernel), List.mem_of_getElem? (i := 2248) (by decide +kernel), List.mem_of_getElem? (i := 2249) (by decide +kernel)⟩
theorem lw_p68 : lw_okq (⟨"AssizeRideModel", "isDead", "(III)Z"⟩, 140) := ⟨⟨by decide +kernel, by decide +kernel⟩, List.mem_of_getElem? (i := 1732) (by decide +kernel), List.mem_of_getElem? (i := 2256) (by decide +kernel), List.mem_of_getElem? (i := 2257) (by decide +kernel)⟩
theorem lw_p69 : lw_okq (⟨"AssizeRideModel", "kinOf", "(III)I"⟩, 140) := ⟨⟨by decide +kernel, by decide +kernel⟩, List.mem_of_getElem? (i := 1732) (by decide +kernel), List.mem_of_getElem? (i := 2264) (by decide +kernel), List.mem_of_getElem? (i := 2265) (by decide +kernel)⟩
theorem lw_p70 : lw_okq (⟨"AssizeRideModel", "take", "()V"⟩, 140) := ⟨⟨by decide +kernel, by decide +kernel⟩, List.mem_of_getElem? (i := 1732) (by decide +kernel), List.mem_of_getElem? (i := 2272) (by decide +kernel), List.mem_of_getElem? (i := 2273) (by decide +kernel)⟩
theorem lw_p71 : lw_okq (⟨"AssizeRideModel", "scan", "()V"⟩, 140) := ⟨⟨by decide +kernel, by decide +kernel⟩, List.mem_of_getElem? (i := 1732) (by decide +kernel), List.mem_of_getElem? (i := 2276) (by decide +kernel), List.mem_of_getElem? (i := 2277) (by decide +kernel)⟩
theorem lw_p72 : lw_okq (⟨"AssizeRideModel", "see", "(I)I"⟩, 140) := ⟨⟨by decide +kernel, by decide +kernel⟩, List.mem_of_getElem? (i := 1732) (by decide +kernel), List.mem_of_getElem? (i := 2280) (by decide +kernel), List.mem_of_getElem? (i := 2281) (by decide +kernel)⟩
theorem lw_p73 : lw_okq (⟨"AssizeRideModel", "keyAt", "(II)I"⟩, 140) := ⟨⟨by decide +kernel, by decide +kernel⟩, List.mem_of_getElem? (i := 1732) (by decide +kernel), List.mem_of_getElem? (i := 2289) (by decide +kernel), List.mem_of_getElem? (i := 2290) (by decide +kernel)⟩
theorem lw_p74 : lw_okq (⟨"AssizeRideModel", "readClause", "()Z"⟩, 140) := ⟨⟨by decide +kernel, by decide +kernel⟩, List.mem_of_getElem? (i := 1732) (by decide +kernel), List.mem_of_getElem? (i := 2299) (by decide +kernel), List.mem_of_getElem? (i := 2300) (by decide +kernel)⟩
theorem lw_p75 : lw_okq (⟨"AssizeRideModel", "wrong", "(I)Z"⟩, 140) := ⟨⟨by decide +kernel, by decide +kernel⟩, List.mem_of_getElem? (i := 1732) (by decide +kernel), List.mem_of_getElem? (i := 2303) (by decide +kernel), List.mem_of_getElem? (i := 2304) (by decide +kernel)⟩
theorem lw_p76 : lw_okq (⟨"AssizeRideModel", "isTold", "(IJI)Z"⟩, 140) := ⟨⟨by decide +kernel, by decide +kernel⟩, List.mem_of_getElem? (i := 1732) (by decide +kernel), List.mem_of_getElem? (i := 2310) (by decide +kernel), List.mem_of_getElem? (i := 2311) (by decide +kernel)⟩
theorem lw_p77 : lw_okq (⟨"AssizeRideModel", "readDeed", "(I)Z"⟩, 140) := ⟨⟨by decide +kernel, by decide +kernel⟩, List.mem_of_getElem? (i := 1732) (by decide +kernel), List.mem_of_getElem? (i := 2314) (by decide +kernel), List.mem_of_getElem? (i := 2315) (by decide +kernel)⟩
theorem lw_p78 : lw_okq (⟨"AssizeRideModel", "readCond", "()Z"⟩, 140) := ⟨⟨by decide +kernel, by decide +kernel⟩, List.mem_of_getElem? (i := 1732) (by decide +kernel), List.mem_of_getElem? (i := 2318) (by decide +kernel), List.mem_of_getElem? (i := 2319) (by decide +kernel)⟩
theorem lw_p79 : lw_okq (⟨"AssizeRideModel", "readAll", "()Z"⟩, 140) := ⟨⟨by decide +kernel, by decide +kernel⟩, List.mem_of_getElem? (i := 1732) (by decide +kernel), List.mem_of_getElem? (i := 2322) (by decide +kernel), List.mem_of_getElem? (i := 2323) (by decide +kernel)⟩
def lw_privs_5 : List (MethodName × Nat) := [(⟨"AssizeRideModel", "isStruck", "(III)Z"⟩, 140), (⟨"AssizeRideModel", "again", "(I)V"⟩, 140), (⟨"AssizeRideModel", "comes", "(II)V"⟩, 140), (⟨"AssizeRideModel", "landOf", "(III)I"⟩, 140), (⟨"AssizeRideModel", "isDead", "(III)Z"⟩, 140), (⟨"AssizeRideModel", "kinOf", "(III)I"⟩, 140), (⟨"AssizeRideModel", "take", "()V"⟩, 140), (⟨"AssizeRideModel", "scan", "()V"⟩, 140), (⟨"AssizeRideModel", "see", "(I)I"⟩, 140), (⟨"AssizeRideModel", "keyAt", "(II)I"⟩, 140), (⟨"AssizeRideModel", "readClause", "()Z"⟩, 140), (⟨"AssizeRideModel", "wrong", "(I)Z"⟩, 140), (⟨"AssizeRideModel", "isTold", "(IJI)Z"⟩, 140), (⟨"AssizeRideModel", "readDeed", "(I)Z"⟩, 140), (⟨"AssizeRideModel", "readCond", "()Z"⟩, 140), (⟨"AssizeRideModel", "readAll", "()Z"⟩, 140)]
theorem lw_r5 : ∀ q ∈ lw_privs_5, lw_okq q := List.forall_mem_cons.mpr ⟨lw_p64, List.forall_mem_cons.mpr ⟨lw_p65, List.forall_mem_cons.mpr ⟨lw_p66, List.forall_mem_cons.mpr ⟨lw_p67, List.forall_mem_cons.mpr ⟨lw_p68, List.forall_mem_cons.mpr ⟨lw_p69, List.forall_mem_cons.mpr ⟨lw_p70, List.forall_mem_cons.mpr ⟨lw_p71, List.forall_mem_cons.mpr ⟨lw_p72, List.forall_mem_cons.mpr ⟨lw_p73, List.forall_mem_cons.mpr ⟨lw_p74, List.forall_mem_cons.mpr ⟨lw_p75, List.forall_mem_cons.mpr ⟨lw_p76, List.forall_mem_cons.mpr ⟨lw_p77, List.forall_mem_cons.mpr ⟨lw_p78, List.forall_mem_cons.mpr ⟨lw_p79, fun _ h => absurd h List.not_mem_nil⟩⟩⟩⟩⟩⟩⟩⟩⟩⟩⟩⟩⟩⟩⟩⟩
theorem lw_p80 : lw_okq (⟨"AssizeRideModel", "readOne", "()Z"⟩, 140) := ⟨⟨by decide +kernel, by decide +kernel⟩, List.mem_of_getElem? (i := 1732) (by decide +kernel), List.mem_of_getElem? (i := 2326) (by decide +kernel), List.mem_of_getElem? (i := 2327) (by decide +kernel)⟩
theorem lw_p81 : lw_okq (⟨"AssizeRideModel", "readTest", "()Z"⟩, 140) := ⟨⟨by decide +kernel, by decide +kernel⟩, List.mem_of_getElem? (i := 1732) (by decide +kernel), List.mem_of_getElem? (i := 2330) (by decide +kernel), List.mem_of_getElem? (i := 2331) (by decide +kernel)⟩
theorem lw_p82 : lw_okq (⟨"AssizeRideModel", "addStep", "(I)V"⟩, 140) := ⟨⟨by decide +kernel, by decide +kernel⟩, List.mem_of_getElem? (i := 1732) (by decide +kernel), List.mem_of_getElem? (i := 2334) (by decide +kernel), List.mem_of_getElem? (i := 2335) (by decide +kernel)⟩
theorem lw_p83 : lw_okq (⟨"AssizeRideModel", "readSum", "()Z"⟩, 140) := ⟨⟨by decide +kernel, by decide +kernel⟩, List.mem_of_getElem? (i := 1732) (by decide +kernel), List.mem_of_getElem? (i := 2338) (by decide +kernel), List.mem_of_getElem? (i := 2339) (by decide +kernel)⟩
theorem lw_p84 : lw_okq (⟨"AssizeRideModel", "readTerm", "(I)Z"⟩, 140) := ⟨⟨by decide +kernel, by decide +kernel⟩, List.mem_of_getElem? (i := 1732) (by decide +kernel), List.mem_of_getElem? (i := 2342) (by decide +kernel), List.mem_of_getElem? (i := 2343) (by decide +kernel)⟩
theorem lw_p85 : lw_okq (⟨"AssizeRideModel", "readWords", "(I)Z"⟩, 140) := ⟨⟨by decide +kernel, by decide +kernel⟩, List.mem_of_getElem? (i := 1732) (by decide +kernel), List.mem_of_getElem? (i := 2346) (by decide +kernel), List.mem_of_getElem? (i := 2347) (by decide +kernel)⟩
theorem lw_p86 : lw_okq (⟨"AssizeRideModel", "readNumber", "(III)Z"⟩, 140) := ⟨⟨by decide +kernel, by decide +kernel⟩, List.mem_of_getElem? (i := 1732) (by decide +kernel), List.mem_of_getElem? (i := 2350) (by decide +kernel), List.mem_of_getElem? (i := 2351) (by decide +kernel)⟩
theorem lw_p87 : lw_okq (⟨"AssizeRideModel", "readStrike", "(I)Z"⟩, 140) := ⟨⟨by decide +kernel, by decide +kernel⟩, List.mem_of_getElem? (i := 1732) (by decide +kernel), List.mem_of_getElem? (i := 2354) (by decide +kernel), List.mem_of_getElem? (i := 2355) (by decide +kernel)⟩
theorem lw_p88 : lw_okq (⟨"AssizeRideModel", "asked", "(III)I"⟩, 140) := ⟨⟨by decide +kernel, by decide +kernel⟩, List.mem_of_getElem? (i := 1732) (by decide +kernel), List.mem_of_getElem? (i := 2370) (by decide +kernel), List.mem_of_getElem? (i := 2371) (by decide +kernel)⟩
theorem lw_p89 : lw_okq (⟨"AssizeRideModel", "oneWord", "()J"⟩, 140) := ⟨⟨by decide +kernel, by decide +kernel⟩, List.mem_of_getElem? (i := 1732) (by decide +kernel), List.mem_of_getElem? (i := 2374) (by decide +kernel), List.mem_of_getElem? (i := 2375) (by decide +kernel)⟩
theorem lw_p90 : lw_okq (⟨"AssizeRideModel", "readFacts", "()Z"⟩, 140) := ⟨⟨by decide +kernel, by decide +kernel⟩, List.mem_of_getElem? (i := 1732) (by decide +kernel), List.mem_of_getElem? (i := 2390) (by decide +kernel), List.mem_of_getElem? (i := 2391) (by decide +kernel)⟩
theorem lw_p91 : lw_okq (⟨"AssizeRideModel", "metOf", "(II)I"⟩, 140) := ⟨⟨by decide +kernel, by decide +kernel⟩, List.mem_of_getElem? (i := 1732) (by decide +kernel), List.mem_of_getElem? (i := 2394) (by decide +kernel), List.mem_of_getElem? (i := 2395) (by decide +kernel)⟩
theorem lw_p92 : lw_okq (⟨"AssizeRideModel", "isMet", "(III)Z"⟩, 140) := ⟨⟨by decide +kernel, by decide +kernel⟩, List.mem_of_getElem? (i := 1732) (by decide +kernel), List.mem_of_getElem? (i := 2398) (by decide +kernel), List.mem_of_getElem? (i := 2399) (by decide +kernel)⟩
theorem lw_p93 : lw_okq (⟨"AssizeRideModel", "sumOf", "(III)I"⟩, 140) := ⟨⟨by decide +kernel, by decide +kernel⟩, List.mem_of_getElem? (i := 1732) (by decide +kernel), List.mem_of_getElem? (i := 2402) (by decide +kernel), List.mem_of_getElem? (i := 2403) (by decide +kernel)⟩
theorem lw_p94 : lw_okq (⟨"AssizeRideModel", "lackOf", "(II)I"⟩, 140) := ⟨⟨by decide +kernel, by decide +kernel⟩, List.mem_of_getElem? (i := 1732) (by decide +kernel), List.mem_of_getElem? (i := 2406) (by decide +kernel), List.mem_of_getElem? (i := 2407) (by decide +kernel)⟩
theorem lw_p95 : lw_okq (⟨"AssizeRideModel", "isMade", "(II)Z"⟩, 140) := ⟨⟨by decide +kernel, by decide +kernel⟩, List.mem_of_getElem? (i := 1732) (by decide +kernel), List.mem_of_getElem? (i := 2410) (by decide +kernel), List.mem_of_getElem? (i := 2411) (by decide +kernel)⟩
def lw_privs_6 : List (MethodName × Nat) := [(⟨"AssizeRideModel", "readOne", "()Z"⟩, 140), (⟨"AssizeRideModel", "readTest", "()Z"⟩, 140), (⟨"AssizeRideModel", "addStep", "(I)V"⟩, 140), (⟨"AssizeRideModel", "readSum", "()Z"⟩, 140), (⟨"AssizeRideModel", "readTerm", "(I)Z"⟩, 140), (⟨"AssizeRideModel", "readWords", "(I)Z"⟩, 140), (⟨"AssizeRideModel", "readNumber", "(III)Z"⟩, 140), (⟨"AssizeRideModel", "readStrike", "(I)Z"⟩, 140), (⟨"AssizeRideModel", "asked", "(III)I"⟩, 140), (⟨"AssizeRideModel", "oneWord", "()J"⟩, 140), (⟨"AssizeRideModel", "readFacts", "()Z"⟩, 140), (⟨"AssizeRideModel", "metOf", "(II)I"⟩, 140), (⟨"AssizeRideModel", "isMet", "(III)Z"⟩, 140), (⟨"AssizeRideModel", "sumOf", "(III)I"⟩, 140), (⟨"AssizeRideModel", "lackOf", "(II)I"⟩, 140), (⟨"AssizeRideModel", "isMade", "(II)Z"⟩, 140)]
theorem lw_r6 : ∀ q ∈ lw_privs_6, lw_okq q := List.forall_mem_cons.mpr ⟨lw_p80, List.forall_mem_cons.mpr ⟨lw_p81, List.forall_mem_cons.mpr ⟨lw_p82, List.forall_mem_cons.mpr ⟨lw_p83, List.forall_mem_cons.mpr ⟨lw_p84, List.forall_mem_cons.mpr ⟨lw_p85, List.forall_mem_cons.mpr ⟨lw_p86, List.forall_mem_cons.mpr ⟨lw_p87, List.forall_mem_cons.mpr ⟨lw_p88, List.forall_mem_cons.mpr ⟨lw_p89, List.forall_mem_cons.mpr ⟨lw_p90, List.forall_mem_cons.mpr ⟨lw_p91, List.forall_mem_cons.mpr ⟨lw_p92, List.forall_mem_cons.mpr ⟨lw_p93, List.forall_mem_cons.mpr ⟨lw_p94, List.forall_mem_cons.mpr ⟨lw_p95, fun _ h => absurd h List.not_mem_nil⟩⟩⟩⟩⟩⟩⟩⟩⟩⟩⟩⟩⟩⟩⟩⟩
theorem lw_p96 : lw_okq (⟨"AssizeRideModel", "begins", "(ZIIIIII)I"⟩, 140) := ⟨⟨by decide +kernel, by decide +kernel⟩, List.mem_of_getElem? (i := 1732) (by decide +kernel), List.mem_of_getElem? (i := 2422) (by decide +kernel), List.mem_of_getElem? (i := 2423) (by decide +kernel)⟩
theorem lw_p97 : lw_okq (⟨"AssizeRideModel", "isCrown", "(I)Z"⟩, 140) := ⟨⟨by decide +kernel, by decide +kernel⟩, List.mem_of_getElem? (i := 1732) (by decide +kernel), List.mem_of_getElem? (i := 2434) (by decide +kernel), List.mem_of_getElem? (i := 2435) (by decide +kernel)⟩
theorem lw_p98 : lw_okq (⟨"AssizeRideModel", "isMatter", "(I)Z"⟩, 140) := ⟨⟨by decide +kernel, by decide +kernel⟩, List.mem_of_getElem? (i := 1732) (by decide +kernel), List.mem_of_getElem? (i := 2438) (by decide +kernel), List.mem_of_getElem? (i := 2439) (by decide +kernel)⟩
theorem lw_p99 : lw_okq (⟨"AssizeRideModel", "keepFacts", "(I)V"⟩, 140) := ⟨⟨by decide +kernel, by decide +kernel⟩, List.mem_of_getElem? (i := 1732) (by decide +kernel), List.mem_of_getElem? (i := 2446) (by decide +kernel), List.mem_of_getElem? (i := 2447) (by decide +kernel)⟩
theorem lw_p100 : lw_okq (⟨"AssizeRideModel", "badOf", "(I)I"⟩, 140) := ⟨⟨by decide +kernel, by decide +kernel⟩, List.mem_of_getElem? (i := 1732) (by decide +kernel), List.mem_of_getElem? (i := 2454) (by decide +kernel), List.mem_of_getElem? (i := 2455) (by decide +kernel)⟩
theorem lw_p101 : lw_okq (⟨"AssizeRideModel", "needed", "(II)J"⟩, 140) := ⟨⟨by decide +kernel, by decide +kernel⟩, List.mem_of_getElem? (i := 1732) (by decide +kernel), List.mem_of_getElem? (i := 2458) (by decide +kernel), List.mem_of_getElem? (i := 2459) (by decide +kernel)⟩
theorem lw_p102 : lw_okq (⟨"AssizeRideModel", "makeBoth", "(II)V"⟩, 140) := ⟨⟨by decide +kernel, by decide +kernel⟩, List.mem_of_getElem? (i := 1732) (by decide +kernel), List.mem_of_getElem? (i := 2466) (by decide +kernel), List.mem_of_getElem? (i := 2467) (by decide +kernel)⟩
theorem lw_p103 : lw_okq (⟨"AssizeRideModel", "isOpen", "(I)Z"⟩, 140) := ⟨⟨by decide +kernel, by decide +kernel⟩, List.mem_of_getElem? (i := 1732) (by decide +kernel), List.mem_of_getElem? (i := 2482) (by decide +kernel), List.mem_of_getElem? (i := 2483) (by decide +kernel)⟩
theorem lw_p104 : lw_okq (⟨"AssizeRideModel", "isWitness", "(II)Z"⟩, 140) := ⟨⟨by decide +kernel, by decide +kernel⟩, List.mem_of_getElem? (i := 1732) (by decide +kernel), List.mem_of_getElem? (i := 2486) (by decide +kernel), List.mem_of_getElem? (i := 2487) (by decide +kernel)⟩
theorem lw_p105 : lw_okq (⟨"AssizeRideModel", "isJuror", "(II)Z"⟩, 140) := ⟨⟨by decide +kernel, by decide +kernel⟩, List.mem_of_getElem? (i := 1732) (by decide +kernel), List.mem_of_getElem? (i := 2490) (by decide +kernel), List.mem_of_getElem? (i := 2491) (by decide +kernel)⟩
theorem lw_p106 : lw_okq (⟨"AssizeRideModel", "mayBe", "(IIII)Z"⟩, 140) := ⟨⟨by decide +kernel, by decide +kernel⟩, List.mem_of_getElem? (i := 1732) (by decide +kernel), List.mem_of_getElem? (i := 2498) (by decide +kernel), List.mem_of_getElem? (i := 2499) (by decide +kernel)⟩
theorem lw_p107 : lw_okq (⟨"AssizeRideModel", "isWanted", "(I)Z"⟩, 140) := ⟨⟨by decide +kernel, by decide +kernel⟩, List.mem_of_getElem? (i := 1732) (by decide +kernel), List.mem_of_getElem? (i := 2506) (by decide +kernel), List.mem_of_getElem? (i := 2507) (by decide +kernel)⟩
theorem lw_p108 : lw_okq (⟨"AssizeRideModel", "listOf", "(I)I"⟩, 140) := ⟨⟨by decide +kernel, by decide +kernel⟩, List.mem_of_getElem? (i := 1732) (by decide +kernel), List.mem_of_getElem? (i := 2510) (by decide +kernel), List.mem_of_getElem? (i := 2511) (by decide +kernel)⟩
theorem lw_p109 : lw_okq (⟨"AssizeRideModel", "canDraw", "(II)Z"⟩, 140) := ⟨⟨by decide +kernel, by decide +kernel⟩, List.mem_of_getElem? (i := 1732) (by decide +kernel), List.mem_of_getElem? (i := 2514) (by decide +kernel), List.mem_of_getElem? (i := 2515) (by decide +kernel)⟩
theorem lw_p110 : lw_okq (⟨"AssizeRideModel", "isOut", "(II)Z"⟩, 140) := ⟨⟨by decide +kernel, by decide +kernel⟩, List.mem_of_getElem? (i := 1732) (by decide +kernel), List.mem_of_getElem? (i := 2518) (by decide +kernel), List.mem_of_getElem? (i := 2519) (by decide +kernel)⟩
theorem lw_p111 : lw_okq (⟨"AssizeRideModel", "isFull", "(I)Z"⟩, 140) := ⟨⟨by decide +kernel, by decide +kernel⟩, List.mem_of_getElem? (i := 1732) (by decide +kernel), List.mem_of_getElem? (i := 2534) (by decide +kernel), List.mem_of_getElem? (i := 2535) (by decide +kernel)⟩
def lw_privs_7 : List (MethodName × Nat) := [(⟨"AssizeRideModel", "begins", "(ZIIIIII)I"⟩, 140), (⟨"AssizeRideModel", "isCrown", "(I)Z"⟩, 140), (⟨"AssizeRideModel", "isMatter", "(I)Z"⟩, 140), (⟨"AssizeRideModel", "keepFacts", "(I)V"⟩, 140), (⟨"AssizeRideModel", "badOf", "(I)I"⟩, 140), (⟨"AssizeRideModel", "needed", "(II)J"⟩, 140), (⟨"AssizeRideModel", "makeBoth", "(II)V"⟩, 140), (⟨"AssizeRideModel", "isOpen", "(I)Z"⟩, 140), (⟨"AssizeRideModel", "isWitness", "(II)Z"⟩, 140), (⟨"AssizeRideModel", "isJuror", "(II)Z"⟩, 140), (⟨"AssizeRideModel", "mayBe", "(IIII)Z"⟩, 140), (⟨"AssizeRideModel", "isWanted", "(I)Z"⟩, 140), (⟨"AssizeRideModel", "listOf", "(I)I"⟩, 140), (⟨"AssizeRideModel", "canDraw", "(II)Z"⟩, 140), (⟨"AssizeRideModel", "isOut", "(II)Z"⟩, 140), (⟨"AssizeRideModel", "isFull", "(I)Z"⟩, 140)]
theorem lw_r7 : ∀ q ∈ lw_privs_7, lw_okq q := List.forall_mem_cons.mpr ⟨lw_p96, List.forall_mem_cons.mpr ⟨lw_p97, List.forall_mem_cons.mpr ⟨lw_p98, List.forall_mem_cons.mpr ⟨lw_p99, List.forall_mem_cons.mpr ⟨lw_p100, List.forall_mem_cons.mpr ⟨lw_p101, List.forall_mem_cons.mpr ⟨lw_p102, List.forall_mem_cons.mpr ⟨lw_p103, List.forall_mem_cons.mpr ⟨lw_p104, List.forall_mem_cons.mpr ⟨lw_p105, List.forall_mem_cons.mpr ⟨lw_p106, List.forall_mem_cons.mpr ⟨lw_p107, List.forall_mem_cons.mpr ⟨lw_p108, List.forall_mem_cons.mpr ⟨lw_p109, List.forall_mem_cons.mpr ⟨lw_p110, List.forall_mem_cons.mpr ⟨lw_p111, fun _ h => absurd h List.not_mem_nil⟩⟩⟩⟩⟩⟩⟩⟩⟩⟩⟩⟩⟩⟩⟩⟩
theorem lw_p112 : lw_okq (⟨"AssizeRideModel", "ofHundred", "(I)I"⟩, 140) := ⟨⟨by decide +kernel, by decide +kernel⟩, List.mem_of_getElem? (i := 1732) (by decide +kernel), List.mem_of_getElem? (i := 2538) (by decide +kernel), List.mem_of_getElem? (i := 2539) (by decide +kernel)⟩
theorem lw_p113 : lw_okq (⟨"AssizeRideModel", "isFoundMade", "(I)Z"⟩, 140) := ⟨⟨by decide +kernel, by decide +kernel⟩, List.mem_of_getElem? (i := 1732) (by decide +kernel), List.mem_of_getElem? (i := 2554) (by decide +kernel), List.mem_of_getElem? (i := 2555) (by decide +kernel)⟩
theorem lw_p114 : lw_okq (⟨"AssizeRideModel", "settledAs", "(J)I"⟩, 140) := ⟨⟨by decide +kernel, by decide +kernel⟩, List.mem_of_getElem? (i := 1732) (by decide +kernel), List.mem_of_getElem? (i := 2558) (by decide +kernel), List.mem_of_getElem? (i := 2559) (by decide +kernel)⟩
theorem lw_p115 : lw_okq (⟨"AssizeRideModel", "judges", "(I)V"⟩, 140) := ⟨⟨by decide +kernel, by decide +kernel⟩, List.mem_of_getElem? (i := 1732) (by decide +kernel), List.mem_of_getElem? (i := 2566) (by decide +kernel), List.mem_of_getElem? (i := 2567) (by decide +kernel)⟩
theorem lw_p116 : lw_okq (⟨"AssizeRideModel", "hadOne", "(I)Z"⟩, 140) := ⟨⟨by decide +kernel, by decide +kernel⟩, List.mem_of_getElem? (i := 1732) (by decide +kernel), List.mem_of_getElem? (i := 2574) (by decide +kernel), List.mem_of_getElem? (i := 2575) (by decide +kernel)⟩
theorem lw_p117 : lw_okq (⟨"AssizeRideModel", "inGaol", "(I)I"⟩, 140) := ⟨⟨by decide +kernel, by decide +kernel⟩, List.mem_of_getElem? (i := 1732) (by decide +kernel), List.mem_of_getElem? (i := 2598) (by decide +kernel), List.mem_of_getElem? (i := 2599) (by decide +kernel)⟩
theorem lw_p118 : lw_okq (⟨"AssizeRideModel", "free", "(I)V"⟩, 140) := ⟨⟨by decide +kernel, by decide +kernel⟩, List.mem_of_getElem? (i := 1732) (by decide +kernel), List.mem_of_getElem? (i := 2606) (by decide +kernel), List.mem_of_getElem? (i := 2607) (by decide +kernel)⟩
theorem lw_p119 : lw_okq (⟨"AssizeRideModel", "staysBy", "(I)I"⟩, 140) := ⟨⟨by decide +kernel, by decide +kernel⟩, List.mem_of_getElem? (i := 1732) (by decide +kernel), List.mem_of_getElem? (i := 2614) (by decide +kernel), List.mem_of_getElem? (i := 2615) (by decide +kernel)⟩
theorem lw_p120 : lw_okq (⟨"AssizeRideModel", "unlay", "()V"⟩, 140) := ⟨⟨by decide +kernel, by decide +kernel⟩, List.mem_of_getElem? (i := 1732) (by decide +kernel), List.mem_of_getElem? (i := 2650) (by decide +kernel), List.mem_of_getElem? (i := 2651) (by decide +kernel)⟩
theorem lw_p121 : lw_okq (⟨"AssizeRideModel", "makeMeets", "()V"⟩, 140) := ⟨⟨by decide +kernel, by decide +kernel⟩, List.mem_of_getElem? (i := 1732) (by decide +kernel), List.mem_of_getElem? (i := 2662) (by decide +kernel), List.mem_of_getElem? (i := 2663) (by decide +kernel)⟩
theorem lw_p122 : lw_okq (⟨"AssizeRideModel", "isMeeting", "(II)Z"⟩, 140) := ⟨⟨by decide +kernel, by decide +kernel⟩, List.mem_of_getElem? (i := 1732) (by decide +kernel), List.mem_of_getElem? (i := 2666) (by decide +kernel), List.mem_of_getElem? (i := 2667) (by decide +kernel)⟩
theorem lw_p123 : lw_okq (⟨"AssizeRideModel", "isOf", "(II)Z"⟩, 140) := ⟨⟨by decide +kernel, by decide +kernel⟩, List.mem_of_getElem? (i := 1732) (by decide +kernel), List.mem_of_getElem? (i := 2670) (by decide +kernel), List.mem_of_getElem? (i := 2671) (by decide +kernel)⟩
theorem lw_p124 : lw_okq (⟨"AssizeRideModel", "lays", "(III)V"⟩, 140) := ⟨⟨by decide +kernel, by decide +kernel⟩, List.mem_of_getElem? (i := 1732) (by decide +kernel), List.mem_of_getElem? (i := 2674) (by decide +kernel), List.mem_of_getElem? (i := 2675) (by decide +kernel)⟩
theorem lw_p125 : lw_okq (⟨"AssizeRideModel", "canBe", "(II)Z"⟩, 140) := ⟨⟨by decide +kernel, by decide +kernel⟩, List.mem_of_getElem? (i := 1732) (by decide +kernel), List.mem_of_getElem? (i := 2678) (by decide +kernel), List.mem_of_getElem? (i := 2679) (by decide +kernel)⟩
theorem lw_p126 : lw_okq (⟨"AssizeRideModel", "makeFars", "()V"⟩, 140) := ⟨⟨by decide +kernel, by decide +kernel⟩, List.mem_of_getElem? (i := 1732) (by decide +kernel), List.mem_of_getElem? (i := 2698) (by decide +kernel), List.mem_of_getElem? (i := 2699) (by decide +kernel)⟩
theorem lw_p127 : lw_okq (⟨"AssizeRideModel", "rides", "(IIIIII)V"⟩, 140) := ⟨⟨by decide +kernel, by decide +kernel⟩, List.mem_of_getElem? (i := 1732) (by decide +kernel), List.mem_of_getElem? (i := 2707) (by decide +kernel), List.mem_of_getElem? (i := 2708) (by decide +kernel)⟩
def lw_privs_8 : List (MethodName × Nat) := [(⟨"AssizeRideModel", "ofHundred", "(I)I"⟩, 140), (⟨"AssizeRideModel", "isFoundMade", "(I)Z"⟩, 140), (⟨"AssizeRideModel", "settledAs", "(J)I"⟩, 140), (⟨"AssizeRideModel", "judges", "(I)V"⟩, 140), (⟨"AssizeRideModel", "hadOne", "(I)Z"⟩, 140), (⟨"AssizeRideModel", "inGaol", "(I)I"⟩, 140), (⟨"AssizeRideModel", "free", "(I)V"⟩, 140), (⟨"AssizeRideModel", "staysBy", "(I)I"⟩, 140), (⟨"AssizeRideModel", "unlay", "()V"⟩, 140), (⟨"AssizeRideModel", "makeMeets", "()V"⟩, 140), (⟨"AssizeRideModel", "isMeeting", "(II)Z"⟩, 140), (⟨"AssizeRideModel", "isOf", "(II)Z"⟩, 140), (⟨"AssizeRideModel", "lays", "(III)V"⟩, 140), (⟨"AssizeRideModel", "canBe", "(II)Z"⟩, 140), (⟨"AssizeRideModel", "makeFars", "()V"⟩, 140), (⟨"AssizeRideModel", "rides", "(IIIIII)V"⟩, 140)]
theorem lw_r8 : ∀ q ∈ lw_privs_8, lw_okq q := List.forall_mem_cons.mpr ⟨lw_p112, List.forall_mem_cons.mpr ⟨lw_p113, List.forall_mem_cons.mpr ⟨lw_p114, List.forall_mem_cons.mpr ⟨lw_p115, List.forall_mem_cons.mpr ⟨lw_p116, List.forall_mem_cons.mpr ⟨lw_p117, List.forall_mem_cons.mpr ⟨lw_p118, List.forall_mem_cons.mpr ⟨lw_p119, List.forall_mem_cons.mpr ⟨lw_p120, List.forall_mem_cons.mpr ⟨lw_p121, List.forall_mem_cons.mpr ⟨lw_p122, List.forall_mem_cons.mpr ⟨lw_p123, List.forall_mem_cons.mpr ⟨lw_p124, List.forall_mem_cons.mpr ⟨lw_p125, List.forall_mem_cons.mpr ⟨lw_p126, List.forall_mem_cons.mpr ⟨lw_p127, fun _ h => absurd h List.not_mem_nil⟩⟩⟩⟩⟩⟩⟩⟩⟩⟩⟩⟩⟩⟩⟩⟩
theorem lw_p128 : lw_okq (⟨"AssizeRideModel", "takeRide", "(I)I"⟩, 140) := ⟨⟨by decide +kernel, by decide +kernel⟩, List.mem_of_getElem? (i := 1732) (by decide +kernel), List.mem_of_getElem? (i := 2711) (by decide +kernel), List.mem_of_getElem? (i := 2712) (by decide +kernel)⟩
theorem lw_p129 : lw_okq (⟨"AssizeRideModel", "rowCost", "(IIII)I"⟩, 140) := ⟨⟨by decide +kernel, by decide +kernel⟩, List.mem_of_getElem? (i := 1732) (by decide +kernel), List.mem_of_getElem? (i := 2732) (by decide +kernel), List.mem_of_getElem? (i := 2733) (by decide +kernel)⟩
def lw_privs_9 : List (MethodName × Nat) := [(⟨"AssizeRideModel", "takeRide", "(I)I"⟩, 140), (⟨"AssizeRideModel", "rowCost", "(IIII)I"⟩, 140)]
theorem lw_r9 : ∀ q ∈ lw_privs_9, lw_okq q := List.forall_mem_cons.mpr ⟨lw_p128, List.forall_mem_cons.mpr ⟨lw_p129, fun _ h => absurd h List.not_mem_nil⟩⟩
def lw_privs : List (MethodName × Nat) := lw_privs_1 ++ (lw_privs_2 ++ (lw_privs_3 ++ (lw_privs_4 ++ (lw_privs_5 ++ (lw_privs_6 ++ (lw_privs_7 ++ (lw_privs_8 ++ (lw_privs_9))))))))
def lw_tbl : List Cond := k2_sels lw_privs ++ tables_1
theorem lw_privs_ok : ∀ q ∈ lw_privs, lw_okq q := by
  show ∀ q ∈ lw_privs_1 ++ (lw_privs_2 ++ (lw_privs_3 ++ (lw_privs_4 ++ (lw_privs_5 ++ (lw_privs_6 ++ (lw_privs_7 ++ (lw_privs_8 ++ (lw_privs_9)))))))), lw_okq q
  exact List.forall_mem_append.mpr ⟨lw_r1, List.forall_mem_append.mpr ⟨lw_r2, List.forall_mem_append.mpr ⟨lw_r3, List.forall_mem_append.mpr ⟨lw_r4, List.forall_mem_append.mpr ⟨lw_r5, List.forall_mem_append.mpr ⟨lw_r6, List.forall_mem_append.mpr ⟨lw_r7, List.forall_mem_append.mpr ⟨lw_r8, lw_r9⟩⟩⟩⟩⟩⟩⟩⟩
-- ===== end of PART A; then your names; then what follows =====
end
section
/-- a class' layout words, by their places -/
def am_cwb (Tc : List (List Cond)) (C : String) (T : u_T) (ps : List Nat) (N : Nat) : Bool := decide (ps.length = N) && (List.range N).all fun k => am_hit Tc (ps.getD k 0) (u_lay C T k)
theorem am_cwb_ok {Ts : List Cond} {Tc : List (List Cond)} (hTc : ∀ c ∈ Tc, ∀ w ∈ c, goodWord w = true → w ∈ Ts) {C : String} {T : u_T} {ps : List Nat} {N : Nat} (h : am_cwb Tc C T ps N = true) : ∀ w ∈ u_ws C T N, w ∈ Ts := by
  intro w hw
  unfold am_cwb at h
  rw [Bool.and_eq_true] at h
  obtain ⟨k, hk, rfl⟩ := List.mem_map.mp hw
  exact am_hit_mem hTc (List.all_eq_true.mp h.2 k hk)
end
section
/-! PRINTED by wip/whole/gen.py: classes, fields, types, constants -/
abbrev mX : am_X := (0, 0, 0)
def mT0 : u_T := fun k => match k with
  | 0 => ("AssizeRide", "tape", "LAssizeRide$Tape;", true)
  | 1 => ("AssizeRide", "people", "LAssizeRide$People;", true)
  | 2 => ("AssizeRide", "statutes", "LAssizeRide$Law;", true)
  | 3 => ("AssizeRide", "reader", "LAssizeRide$ActReader;", true)
  | 4 => ("AssizeRide", "docket", "LAssizeRide$Docket;", true)
  | 5 => ("AssizeRide", "gaols", "LAssizeRide$Gaols;", true)
  | 6 => ("AssizeRide", "sitting", "LAssizeRide$DayOrder;", true)
  | 7 => ("AssizeRide", "circuit", "LAssizeRide$Circuit;", true)
  | 8 => ("AssizeRide", "rolls", "LAssizeRide$Rolls;", true)
  | 9 => ("AssizeRide", "facts", "LAssizeRide$Row;", true)
  | 10 => ("AssizeRide", "today", "I", false)
  | 11 => ("AssizeRide", "weighedMet", "I", false)
  | _ => ("AssizeRide", "weighedLack", "I", false)
def mT1 : u_T := fun k => match k with
  | 0 => ("AssizeRide$Tape", "bytes", "[I", true)
  | 1 => ("AssizeRide$Tape", "length", "I", false)
  | 2 => ("AssizeRide$Tape", "kinds", "[I", true)
  | 3 => ("AssizeRide$Tape", "places", "[I", true)
  | 4 => ("AssizeRide$Tape", "values", "[J", true)
  | 5 => ("AssizeRide$Tape", "tokens", "I", false)
  | _ => ("AssizeRide$Tape", "textLength", "I", false)
def mT2 : u_T := fun k => match k with
  | 0 => ("AssizeRide$People", "size", "I", false)
  | 1 => ("AssizeRide$People", "tellings", "I", false)
  | 2 => ("AssizeRide$People", "shires", "[I", true)
  | 3 => ("AssizeRide$People", "hundreds", "[I", true)
  | 4 => ("AssizeRide$People", "kinds", "[I", true)
  | 5 => ("AssizeRide$People", "whose", "[I", true)
  | 6 => ("AssizeRide$People", "amounts", "[I", true)
  | 7 => ("AssizeRide$People", "firstDays", "[I", true)
  | _ => ("AssizeRide$People", "knownFrom", "[I", true)
def mT3 : u_T := fun k => match k with
  | 0 => ("AssizeRide$Law", "acts", "I", false)
  | 1 => ("AssizeRide$Law", "firstDays", "[I", true)
  | 2 => ("AssizeRide$Law", "places", "[I", true)
  | 3 => ("AssizeRide$Law", "firstClauses", "[I", true)
  | 4 => ("AssizeRide$Law", "clauses", "I", false)
  | 5 => ("AssizeRide$Law", "kinds", "[I", true)
  | 6 => ("AssizeRide$Law", "deeds", "[J", true)
  | 7 => ("AssizeRide$Law", "numbers", "[I", true)
  | 8 => ("AssizeRide$Law", "owners", "[I", true)
  | 9 => ("AssizeRide$Law", "firstItems", "[I", true)
  | 10 => ("AssizeRide$Law", "items", "I", false)
  | 11 => ("AssizeRide$Law", "rowOfItems", "[J", true)
  | _ => ("AssizeRide$Law", "overrun", "Z", false)
def mT4 : u_T := fun k => match k with
  | 0 => ("AssizeRide$ActReader", "faultKind", "I", false)
  | 1 => ("AssizeRide$ActReader", "faultPlace", "I", false)
  | 2 => ("AssizeRide$ActReader", "tape", "LAssizeRide$Tape;", true)
  | 3 => ("AssizeRide$ActReader", "law", "LAssizeRide$Law;", true)
  | 4 => ("AssizeRide$ActReader", "clauseWords", "[J", true)
  | 5 => ("AssizeRide$ActReader", "joiningWords", "[J", true)
  | 6 => ("AssizeRide$ActReader", "waiting", "[I", true)
  | 7 => ("AssizeRide$ActReader", "waits", "I", false)
  | 8 => ("AssizeRide$ActReader", "open", "I", false)
  | 9 => ("AssizeRide$ActReader", "tests", "I", false)
  | 10 => ("AssizeRide$ActReader", "at", "I", false)
  | 11 => ("AssizeRide$ActReader", "kind", "I", false)
  | 12 => ("AssizeRide$ActReader", "word", "J", false)
  | 13 => ("AssizeRide$ActReader", "joiner", "I", false)
  | 14 => ("AssizeRide$ActReader", "clauseWord", "I", false)
  | 15 => ("AssizeRide$ActReader", "clause", "I", false)
  | _ => ("AssizeRide$ActReader", "deed", "J", false)
def mT5 : u_T := fun k => match k with
  | 0 => ("AssizeRide$Docket", "law", "LAssizeRide$Law;", true)
  | 1 => ("AssizeRide$Docket", "people", "LAssizeRide$People;", true)
  | 2 => ("AssizeRide$Docket", "size", "I", false)
  | 3 => ("AssizeRide$Docket", "fines", "I", false)
  | 4 => ("AssizeRide$Docket", "matters", "[LAssizeRide$Matter;", true)
  | 5 => ("AssizeRide$Docket", "benefited", "[Z", true)
  | 6 => ("AssizeRide$Docket", "settledDeeds", "[J", true)
  | 7 => ("AssizeRide$Docket", "settledAs", "[Z", true)
  | 8 => ("AssizeRide$Docket", "settled", "I", false)
  | 9 => ("AssizeRide$Docket", "rightings", "[I", true)
  | 10 => ("AssizeRide$Docket", "logMatters", "[I", true)
  | 11 => ("AssizeRide$Docket", "logStates", "[I", true)
  | 12 => ("AssizeRide$Docket", "logFrom", "[I", true)
  | 13 => ("AssizeRide$Docket", "logKnown", "[I", true)
  | 14 => ("AssizeRide$Docket", "logged", "I", false)
  | 15 => ("AssizeRide$Docket", "drawable", "[I", true)
  | 16 => ("AssizeRide$Docket", "putIn", "[I", true)
  | _ => ("AssizeRide$Docket", "woven", "LAssizeRide$Row;", true)
def mT6 : u_T := fun k => match k with
  | 0 => ("AssizeRide$Row", "names", "[J", true)
  | 1 => ("AssizeRide$Row", "values", "[I", true)
  | 2 => ("AssizeRide$Row", "size", "I", false)
  | _ => ("AssizeRide$Row", "told", "Z", false)
def mT7 : u_T := fun k => match k with
  | 0 => ("AssizeRide$Gaols", "gaols", "[I", true)
  | 1 => ("AssizeRide$Gaols", "since", "[I", true)
  | 2 => ("AssizeRide$Gaols", "waited", "[I", true)
  | 3 => ("AssizeRide$Gaols", "leftWho", "[I", true)
  | 4 => ("AssizeRide$Gaols", "leftBy", "[I", true)
  | 5 => ("AssizeRide$Gaols", "leftSize", "I", false)
  | 6 => ("AssizeRide$Gaols", "bonds", "I", false)
  | 7 => ("AssizeRide$Gaols", "forfeited", "I", false)
  | 8 => ("AssizeRide$Gaols", "bondWho", "[I", true)
  | 9 => ("AssizeRide$Gaols", "bondShires", "[I", true)
  | 10 => ("AssizeRide$Gaols", "bondFrom", "[I", true)
  | 11 => ("AssizeRide$Gaols", "bondTo", "[I", true)
  | 12 => ("AssizeRide$Gaols", "bondPounds", "[I", true)
  | _ => ("AssizeRide$Gaols", "bondStates", "[I", true)
def mT8 : u_T := fun k => match k with
  | 0 => ("AssizeRide$DayOrder", "size", "I", false)
  | 1 => ("AssizeRide$DayOrder", "numbers", "[I", true)
  | 2 => ("AssizeRide$DayOrder", "places", "[I", true)
  | 3 => ("AssizeRide$DayOrder", "isLaid", "Z", false)
  | 4 => ("AssizeRide$DayOrder", "lengths", "[I", true)
  | 5 => ("AssizeRide$DayOrder", "clashes", "[Z", true)
  | 6 => ("AssizeRide$DayOrder", "trial", "[I", true)
  | 7 => ("AssizeRide$DayOrder", "dayHours", "I", false)
  | _ => ("AssizeRide$DayOrder", "ceiling", "I", false)
def mT9 : u_T := fun k => match k with
  | 0 => ("AssizeRide$Circuit", "roads", "[I", true)
  | 1 => ("AssizeRide$Circuit", "ways", "[I", true)
  | 2 => ("AssizeRide$Circuit", "size", "I", false)
  | 3 => ("AssizeRide$Circuit", "shires", "[I", true)
  | 4 => ("AssizeRide$Circuit", "reached", "[I", true)
  | 5 => ("AssizeRide$Circuit", "firstDay", "I", false)
  | 6 => ("AssizeRide$Circuit", "stay", "I", false)
  | 7 => ("AssizeRide$Circuit", "prisoners", "[I", true)
  | 8 => ("AssizeRide$Circuit", "trial", "[I", true)
  | 9 => ("AssizeRide$Circuit", "bestRow", "[I", true)
  | 10 => ("AssizeRide$Circuit", "bestWaits", "I", false)
  | _ => ("AssizeRide$Circuit", "bestEnd", "I", false)
def mT10 : u_T := fun k => match k with
  | 0 => ("AssizeRide$Rolls", "sizes", "[I", true)
  | 1 => ("AssizeRide$Rolls", "lines", "[I", true)
  | 2 => ("AssizeRide$Rolls", "costs", "[I", true)
  | 3 => ("AssizeRide$Rolls", "at", "[I", true)
  | 4 => ("AssizeRide$Rolls", "rows", "[I", true)
  | _ => ("AssizeRide$Rolls", "rowCount", "I", false)
def mT11 : u_T := fun k => match k with
  | 0 => ("AssizeRide$Matter", "deed", "J", true)
  | 1 => ("AssizeRide$Matter", "suer", "I", true)
  | 2 => ("AssizeRide$Matter", "accused", "I", true)
  | 3 => ("AssizeRide$Matter", "shire", "I", true)
  | 4 => ("AssizeRide$Matter", "hundred", "I", true)
  | 5 => ("AssizeRide$Matter", "day", "I", true)
  | 6 => ("AssizeRide$Matter", "pounds", "I", true)
  | 7 => ("AssizeRide$Matter", "state", "I", false)
  | 8 => ("AssizeRide$Matter", "toDie", "Z", false)
  | 9 => ("AssizeRide$Matter", "finePaid", "I", false)
  | 10 => ("AssizeRide$Matter", "hoursTaken", "I", false)
  | 11 => ("AssizeRide$Matter", "heard", "I", false)
  | 12 => ("AssizeRide$Matter", "freedByJudges", "Z", false)
  | 13 => ("AssizeRide$Matter", "banShire", "I", false)
  | 14 => ("AssizeRide$Matter", "banTo", "I", false)
  | 15 => ("AssizeRide$Matter", "indicted", "LAssizeRide$Row;", true)
  | 16 => ("AssizeRide$Matter", "alleged", "LAssizeRide$Row;", true)
  | 17 => ("AssizeRide$Matter", "found", "LAssizeRide$Row;", true)
  | 18 => ("AssizeRide$Matter", "witnesses", "LAssizeRide$Row;", true)
  | 19 => ("AssizeRide$Matter", "jurors", "LAssizeRide$Row;", true)
  | _ => ("AssizeRide$Matter", "challenged", "LAssizeRide$Row;", true)
def mT12 : u_T := fun k => match k with
  | 0 => ("AssizeRideModel", "tape", "[B", true)
  | 1 => ("AssizeRideModel", "taped", "I", false)
  | 2 => ("AssizeRideModel", "size", "I", false)
  | 3 => ("AssizeRideModel", "sort", "I", false)
  | 4 => ("AssizeRideModel", "key", "I", false)
  | 5 => ("AssizeRideModel", "at", "I", false)
  | 6 => ("AssizeRideModel", "end", "I", false)
  | 7 => ("AssizeRideModel", "worth", "I", false)
  | 8 => ("AssizeRideModel", "word", "J", false)
  | 9 => ("AssizeRideModel", "clock", "I", false)
  | 10 => ("AssizeRideModel", "people", "I", false)
  | 11 => ("AssizeRideModel", "roads", "[I", true)
  | 12 => ("AssizeRideModel", "shireOf", "[I", true)
  | 13 => ("AssizeRideModel", "hundredOf", "[I", true)
  | 14 => ("AssizeRideModel", "tellings", "I", false)
  | 15 => ("AssizeRideModel", "tKind", "[I", true)
  | 16 => ("AssizeRideModel", "tOf", "[I", true)
  | 17 => ("AssizeRideModel", "tWith", "[I", true)
  | 18 => ("AssizeRideModel", "tMuch", "[I", true)
  | 19 => ("AssizeRideModel", "tFrom", "[I", true)
  | 20 => ("AssizeRideModel", "tKnown", "[I", true)
  | 21 => ("AssizeRideModel", "acts", "I", false)
  | 22 => ("AssizeRideModel", "faultKind", "I", false)
  | 23 => ("AssizeRideModel", "faultPlace", "I", false)
  | 24 => ("AssizeRideModel", "actDay", "[I", true)
  | 25 => ("AssizeRideModel", "actShires", "[I", true)
  | 26 => ("AssizeRideModel", "clauseMany", "[I", true)
  | 27 => ("AssizeRideModel", "cKind", "[I", true)
  | 28 => ("AssizeRideModel", "cDeed", "[J", true)
  | 29 => ("AssizeRideModel", "cNumber", "[I", true)
  | 30 => ("AssizeRideModel", "cFirst", "[I", true)
  | 31 => ("AssizeRideModel", "cMany", "[I", true)
  | 32 => ("AssizeRideModel", "cStep", "[I", true)
  | 33 => ("AssizeRideModel", "cSteps", "[I", true)
  | 34 => ("AssizeRideModel", "testOp", "[I", true)
  | 35 => ("AssizeRideModel", "testTerm", "[I", true)
  | 36 => ("AssizeRideModel", "testLeft", "[I", true)
  | 37 => ("AssizeRideModel", "testRight", "[I", true)
  | 38 => ("AssizeRideModel", "termWord", "[J", true)
  | 39 => ("AssizeRideModel", "termNumber", "[I", true)
  | 40 => ("AssizeRideModel", "step", "[I", true)
  | 41 => ("AssizeRideModel", "saidWord", "[J", true)
  | 42 => ("AssizeRideModel", "tests", "I", false)
  | 43 => ("AssizeRideModel", "terms", "I", false)
  | 44 => ("AssizeRideModel", "steps", "I", false)
  | 45 => ("AssizeRideModel", "saids", "I", false)
  | 46 => ("AssizeRideModel", "deedTests", "I", false)
  | 47 => ("AssizeRideModel", "opens", "I", false)
  | 48 => ("AssizeRideModel", "got", "I", false)
  | 49 => ("AssizeRideModel", "askedDeed", "J", false)
  | 50 => ("AssizeRideModel", "factWord", "[J", true)
  | 51 => ("AssizeRideModel", "factNumber", "[I", true)
  | 52 => ("AssizeRideModel", "factMany", "[I", true)
  | 53 => ("AssizeRideModel", "stack", "[Z", true)
  | 54 => ("AssizeRideModel", "whyMet", "I", false)
  | 55 => ("AssizeRideModel", "whyLack", "I", false)
  | 56 => ("AssizeRideModel", "matters", "I", false)
  | 57 => ("AssizeRideModel", "isPlea", "[Z", true)
  | 58 => ("AssizeRideModel", "mSuer", "[I", true)
  | 59 => ("AssizeRideModel", "mOf", "[I", true)
  | 60 => ("AssizeRideModel", "mShire", "[I", true)
  | 61 => ("AssizeRideModel", "mHundred", "[I", true)
  | 62 => ("AssizeRideModel", "mDay", "[I", true)
  | 63 => ("AssizeRideModel", "mPounds", "[I", true)
  | 64 => ("AssizeRideModel", "mDeed", "[J", true)
  | 65 => ("AssizeRideModel", "state", "[I", true)
  | 66 => ("AssizeRideModel", "isDeath", "[Z", true)
  | 67 => ("AssizeRideModel", "finePaid", "[I", true)
  | 68 => ("AssizeRideModel", "hadBenefit", "[Z", true)
  | 69 => ("AssizeRideModel", "isByJury", "[Z", true)
  | 70 => ("AssizeRideModel", "wasGuilty", "[Z", true)
  | 71 => ("AssizeRideModel", "heardOn", "[I", true)
  | 72 => ("AssizeRideModel", "termShire", "[I", true)
  | 73 => ("AssizeRideModel", "termTo", "[I", true)
  | 74 => ("AssizeRideModel", "hours", "[I", true)
  | 75 => ("AssizeRideModel", "iWord", "[J", true)
  | 76 => ("AssizeRideModel", "iMany", "[I", true)
  | 77 => ("AssizeRideModel", "hasWords", "[Z", true)
  | 78 => ("AssizeRideModel", "hasFacts", "[Z", true)
  | 79 => ("AssizeRideModel", "jury", "[I", true)
  | 80 => ("AssizeRideModel", "jurors", "[I", true)
  | 81 => ("AssizeRideModel", "witness", "[I", true)
  | 82 => ("AssizeRideModel", "witnesses", "[I", true)
  | 83 => ("AssizeRideModel", "out", "[I", true)
  | 84 => ("AssizeRideModel", "challenges", "[I", true)
  | 85 => ("AssizeRideModel", "chest", "I", false)
  | 86 => ("AssizeRideModel", "sayings", "I", false)
  | 87 => ("AssizeRideModel", "rightings", "I", false)
  | 88 => ("AssizeRideModel", "wasState", "[I", true)
  | 89 => ("AssizeRideModel", "wasAt", "[I", true)
  | 90 => ("AssizeRideModel", "rOf", "[I", true)
  | 91 => ("AssizeRideModel", "rState", "[I", true)
  | 92 => ("AssizeRideModel", "rFrom", "[I", true)
  | 93 => ("AssizeRideModel", "rKnown", "[I", true)
  | 94 => ("AssizeRideModel", "rAt", "[I", true)
  | 95 => ("AssizeRideModel", "both", "[I", true)
  | 96 => ("AssizeRideModel", "settles", "I", false)
  | 97 => ("AssizeRideModel", "settledDeed", "[J", true)
  | 98 => ("AssizeRideModel", "isSettledAs", "[Z", true)
  | 99 => ("AssizeRideModel", "gaol", "[I", true)
  | 100 => ("AssizeRideModel", "cameOn", "[I", true)
  | 101 => ("AssizeRideModel", "waited", "[I", true)
  | 102 => ("AssizeRideModel", "lefts", "I", false)
  | 103 => ("AssizeRideModel", "leftWho", "[I", true)
  | 104 => ("AssizeRideModel", "leftBy", "[I", true)
  | 105 => ("AssizeRideModel", "bonds", "I", false)
  | 106 => ("AssizeRideModel", "bOf", "[I", true)
  | 107 => ("AssizeRideModel", "bShire", "[I", true)
  | 108 => ("AssizeRideModel", "bFrom", "[I", true)
  | 109 => ("AssizeRideModel", "bTo", "[I", true)
  | 110 => ("AssizeRideModel", "bPounds", "[I", true)
  | 111 => ("AssizeRideModel", "bState", "[I", true)
  | 112 => ("AssizeRideModel", "ordered", "I", false)
  | 113 => ("AssizeRideModel", "orderOf", "[I", true)
  | 114 => ("AssizeRideModel", "laidAt", "[I", true)
  | 115 => ("AssizeRideModel", "tried", "[I", true)
  | 116 => ("AssizeRideModel", "bestAt", "[I", true)
  | 117 => ("AssizeRideModel", "bestMany", "I", false)
  | 118 => ("AssizeRideModel", "meets", "[Z", true)
  | 119 => ("AssizeRideModel", "fars", "[I", true)
  | 120 => ("AssizeRideModel", "rideDay", "I", false)
  | 121 => ("AssizeRideModel", "rideStay", "I", false)
  | 122 => ("AssizeRideModel", "rideMany", "I", false)
  | 123 => ("AssizeRideModel", "rideShire", "[I", true)
  | 124 => ("AssizeRideModel", "rideOn", "[I", true)
  | 125 => ("AssizeRideModel", "tryShire", "[I", true)
  | 126 => ("AssizeRideModel", "tryOn", "[I", true)
  | 127 => ("AssizeRideModel", "goodShire", "[I", true)
  | 128 => ("AssizeRideModel", "goodOn", "[I", true)
  | 129 => ("AssizeRideModel", "goodWaits", "I", false)
  | 130 => ("AssizeRideModel", "goodEnd", "I", false)
  | 131 => ("AssizeRideModel", "rideStayNow", "I", false)
  | 132 => ("AssizeRideModel", "rideDayNow", "I", false)
  | 133 => ("AssizeRideModel", "rollLine", "[I", true)
  | 134 => ("AssizeRideModel", "rollMany", "[I", true)
  | 135 => ("AssizeRideModel", "isJoined", "Z", false)
  | 136 => ("AssizeRideModel", "rowMany", "I", false)
  | 137 => ("AssizeRideModel", "rowLine", "[I", true)
  | 138 => ("AssizeRideModel", "rowSure", "[Z", true)
  | _ => ("AssizeRideModel", "joinCost", "[I", true)
def m_cl : List vw_C := [("AssizeRide", mT0, 13), ("AssizeRide$Tape", mT1, 7), ("AssizeRide$People", mT2, 9), ("AssizeRide$Law", mT3, 13), ("AssizeRide$ActReader", mT4, 17), ("AssizeRide$Docket", mT5, 18), ("AssizeRide$Row", mT6, 4), ("AssizeRide$Gaols", mT7, 14), ("AssizeRide$DayOrder", mT8, 9), ("AssizeRide$Circuit", mT9, 12), ("AssizeRide$Rolls", mT10, 6), ("AssizeRide$Matter", mT11, 21), ("AssizeRideModel", mT12, 140)]
def m_tt : List (List FieldType) := [[(.object "AssizeRide$Tape"), (.object "AssizeRide$People"), (.object "AssizeRide$Law"), (.object "AssizeRide$ActReader"), (.object "AssizeRide$Docket"), (.object "AssizeRide$Gaols"), (.object "AssizeRide$DayOrder"), (.object "AssizeRide$Circuit"), (.object "AssizeRide$Rolls"), (.object "AssizeRide$Row"), .int, .int, .int], [(.array .int), .int, (.array .int), (.array .int), (.array .long), .int, .int], [.int, .int, (.array .int), (.array .int), (.array .int), (.array .int), (.array .int), (.array .int), (.array .int)], [.int, (.array .int), (.array .int), (.array .int), .int, (.array .int), (.array .long), (.array .int), (.array .int), (.array .int), .int, (.array .long), .boolean], [.int, .int, (.object "AssizeRide$Tape"), (.object "AssizeRide$Law"), (.array .long), (.array .long), (.array .int), .int, .int, .int, .int, .int, .long, .int, .int, .int, .long], [(.object "AssizeRide$Law"), (.object "AssizeRide$People"), .int, .int, (.array (.object "AssizeRide$Matter")), (.array .boolean), (.array .long), (.array .boolean), .int, (.array .int), (.array .int), (.array .int), (.array .int), (.array .int), .int, (.array .int), (.array .int), (.object "AssizeRide$Row")], [(.array .long), (.array .int), .int, .boolean], [(.array .int), (.array .int), (.array .int), (.array .int), (.array .int), .int, .int, .int, (.array .int), (.array .int), (.array .int), (.array .int), (.array .int), (.array .int)], [.int, (.array .int), (.array .int), .boolean, (.array .int), (.array .boolean), (.array .int), .int, .int], [(.array .int), (.array .int), .int, (.array .int), (.array .int), .int, .int, (.array .int), (.array .int), (.array .int), .int, .int], [(.array .int), (.array .int), (.array .int), (.array .int), (.array .int), .int], [.long, .int, .int, .int, .int, .int, .int, .int, .boolean, .int, .int, .int, .boolean, .int, .int, (.object "AssizeRide$Row"), (.object "AssizeRide$Row"), (.object "AssizeRide$Row"), (.object "AssizeRide$Row"), (.object "AssizeRide$Row"), (.object "AssizeRide$Row")], [(.array .byte), .int, .int, .int, .int, .int, .int, .int, .long, .int, .int, (.array .int), (.array .int), (.array .int), .int, (.array .int), (.array .int), (.array .int), (.array .int), (.array .int), (.array .int), .int, .int, .int, (.array .int), (.array .int), (.array .int), (.array .int), (.array .long), (.array .int), (.array .int), (.array .int), (.array .int), (.array .int), (.array .int), (.array .int), (.array .int), (.array .int), (.array .long), (.array .int), (.array .int), (.array .long), .int, .int, .int, .int, .int, .int, .int, .long, (.array .long), (.array .int), (.array .int), (.array .boolean), .int, .int, .int, (.array .boolean), (.array .int), (.array .int), (.array .int), (.array .int), (.array .int), (.array .int), (.array .long), (.array .int), (.array .boolean), (.array .int), (.array .boolean), (.array .boolean), (.array .boolean), (.array .int), (.array .int), (.array .int), (.array .int), (.array .long), (.array .int), (.array .boolean), (.array .boolean), (.array .int), (.array .int), (.array .int), (.array .int), (.array .int), (.array .int), .int, .int, .int, (.array .int), (.array .int), (.array .int), (.array .int), (.array .int), (.array .int), (.array .int), (.array .int), .int, (.array .long), (.array .boolean), (.array .int), (.array .int), (.array .int), .int, (.array .int), (.array .int), .int, (.array .int), (.array .int), (.array .int), (.array .int), (.array .int), (.array .int), .int, (.array .int), (.array .int), (.array .int), (.array .int), .int, (.array .boolean), (.array .int), .int, .int, .int, (.array .int), (.array .int), (.array .int), (.array .int), (.array .int), (.array .int), .int, .int, .int, .int, (.array .int), (.array .int), .boolean, .int, (.array .int), (.array .boolean), (.array .int)]]
def m_tys : List FieldType := [.int, .long, .byte, .boolean, .object "AssizeRide$Matter"]
def m_sn : List (Nat × String × String × String) := [(0, "AssizeRide$Law", "WITHOUT", "[I"), (1, "AssizeRide$ActReader", "MOST", "[I"), (2, "AssizeRide$ActReader", "LEAST", "[I"), (3, "AssizeRide$Rolls", "TAKES", "[I"), (8, "java/lang/String", "COMPACT_STRINGS", "Z"), (9, "jdk/internal/util/Preconditions", "SIOOBE_FORMATTER", "Ljava/util/function/BiFunction;")]
def m_sr : am_SR := ([("AssizeRide$ActReader", 63, "deed words death fine clergy keep mend jury land kin challenge hundred bill void strike refuse stand ", 8), ("AssizeRide$ActReader", 73, "or and not unless above below is ", 9), ("AssizeRideModel", 334, "deed words death fine clergy refuse keep mend jury land kin challenge hundred bill void stand strike unless or and not above below is ", 10), ("AssizeRideModel", 709, "7356124", 11)], [("AssizeRide", 9, ⟨"AssizeRide$Tape", "<init>", "()V"⟩, "AssizeRide"), ("AssizeRide", 18, ⟨"AssizeRide$People", "<init>", "()V"⟩, "AssizeRide"), ("AssizeRide", 25, ⟨"AssizeRide$Law", "<init>", "()V"⟩, "AssizeRide"), ("AssizeRide", 57, ⟨"AssizeRide$DayOrder", "<init>", "()V"⟩, "AssizeRide"), ("AssizeRide", 71, ⟨"AssizeRide$Rolls", "<init>", "()V"⟩, "AssizeRide"), ("AssizeRide$People", 40, ⟨"AssizeRide", "within", "(III)Z"⟩, "AssizeRide"), ("AssizeRide$Tape", 48, ⟨"AssizeRide", "within", "(III)Z"⟩, "AssizeRide"), ("AssizeRide$Law", 63, ⟨"AssizeRide", "within", "(III)Z"⟩, "AssizeRide"), ("AssizeRide$Row", 33, ⟨"AssizeRide", "within", "(III)Z"⟩, "AssizeRide"), ("AssizeRide$Docket", 120, ⟨"AssizeRide", "within", "(III)Z"⟩, "AssizeRide"), ("AssizeRide$Gaols", 76, ⟨"AssizeRide", "within", "(III)Z"⟩, "AssizeRide"), ("AssizeRide$Circuit", 100, ⟨"AssizeRide", "within", "(III)Z"⟩, "AssizeRide"), ("AssizeRide$Rolls", 36, ⟨"AssizeRide", "within", "(III)Z"⟩, "AssizeRide")])
def m_strs : List Nat := [8, 9, 10, 11]
end
section
/-! PRINTED by wip/whole/gen.py: the instructions -/
noncomputable def mt0 : am_M := (⟨"AssizeRide", "<init>", "()V"⟩, prog_1_method_1_code, 1, (Option.none : Option FieldType), [(0, .aload_n 0, mX), (1, .invokespecial 1, (0, 1, 1)), (4, .aload_n 0, mX), (5, .new 7, (1, 0, 0)), (8, .dup, mX), (9, .invokespecial 9, (1, 1, 0)), (12, .putfield 10, mX), (15, .aload_n 0, mX), (16, .new 16, (2, 0, 0)), (19, .dup, mX), (20, .invokespecial 18, (2, 1, 0)), (23, .putfield 19, (0, 1, 0)), (26, .aload_n 0, mX), (27, .new 23, (3, 0, 0)), (30, .dup, mX), (31, .invokespecial 25, (3, 1, 0)), (34, .putfield 26, (0, 2, 0)), (37, .aload_n 0, mX), (38, .new 30, (4, 0, 0)), (41, .dup, mX), (42, .aload_n 0, mX), (43, .getfield 10, mX), (46, .aload_n 0, mX), (47, .getfield 26, (0, 2, 0)), (50, .invokespecial 32, (4, 3, 0)), (53, .putfield 35, (0, 3, 0)), (56, .aload_n 0, mX), (57, .new 39, (5, 0, 0)), (60, .dup, mX), (61, .aload_n 0, mX), (62, .getfield 26, (0, 2, 0)), (65, .aload_n 0, mX), (66, .getfield 19, (0, 1, 0)), (69, .invokespecial 41, (14, 3, 0)), (72, .putfield 44, (0, 4, 0)), (75, .aload_n 0, mX), (76, .new 48, (7, 0, 0)), (79, .dup, mX), (80, .invokespecial 50, (16, 1, 0)), (83, .putfield 51, (0, 5, 0)), (86, .aload_n 0, mX), (87, .new 55, (8, 0, 0)), (90, .dup, mX), (91, .invokespecial 57, (18, 1, 0)), (94, .putfield 58, (0, 6, 0)), (97, .aload_n 0, mX), (98, .new 62, (9, 0, 0)), (101, .dup, mX), (102, .invokespecial 64, (19, 1, 0)), (105, .putfield 65, (0, 7, 0)), (108, .aload_n 0, mX), (109, .new 69, (10, 0, 0)), (112, .dup, mX), (113, .invokespecial 71, (20, 1, 0)), (116, .putfield 72, (0, 8, 0)), (119, .aload_n 0, mX), (120, .new 76, (6, 0, 0)), (123, .dup, mX), (124, .bipush 20, mX), (126, .invokespecial 78, (15, 2, 0)), (129, .putfield 81, (0, 9, 0)), (132, .aload_n 0, mX), (133, .iconst 0, mX), (134, .putfield 85, (0, 10, 0)), (137, .aload_n 0, mX), (138, .iconst (-1), mX), (139, .putfield 89, (0, 11, 0)), (142, .aload_n 0, mX), (143, .iconst (-1), mX), (144, .putfield 92, (0, 12, 0)), (147, .return_, mX)])
noncomputable def mt1 : am_M := (⟨"AssizeRide$Tape", "<init>", "()V"⟩, prog_12_method_1_code, 1, (Option.none : Option FieldType), [(0, .aload_n 0, mX), (1, .invokespecial 1, (0, 1, 1)), (4, .aload_n 0, mX), (5, .sipush 1200, mX), (8, .newarray .int, mX), (10, .putfield 9, (1, 0, 0)), (13, .aload_n 0, mX), (14, .iconst 0, mX), (15, .putfield 13, (1, 1, 0)), (18, .aload_n 0, mX), (19, .sipush 1200, mX), (22, .newarray .int, mX), (24, .putfield 17, (1, 2, 0)), (27, .aload_n 0, mX), (28, .sipush 1200, mX), (31, .newarray .int, mX), (33, .putfield 20, (1, 3, 0)), (36, .aload_n 0, mX), (37, .sipush 1200, mX), (40, .newarray .long, mX), (42, .putfield 23, (1, 4, 0)), (45, .aload_n 0, mX), (46, .iconst 0, mX), (47, .putfield 27, (1, 5, 0)), (50, .aload_n 0, mX), (51, .iconst 0, mX), (52, .putfield 30, (1, 6, 0)), (55, .return_, mX)])
noncomputable def mt2 : am_M := (⟨"AssizeRide$People", "<init>", "()V"⟩, prog_9_method_1_code, 1, (Option.none : Option FieldType), [(0, .aload_n 0, mX), (1, .invokespecial 3, (0, 1, 1)), (4, .aload_n 0, mX), (5, .iconst 0, mX), (6, .putfield 9, (2, 0, 0)), (9, .aload_n 0, mX), (10, .iconst 0, mX), (11, .putfield 15, (2, 1, 0)), (14, .aload_n 0, mX), (15, .bipush 120, mX), (17, .newarray .int, mX), (19, .putfield 18, (2, 2, 0)), (22, .aload_n 0, mX), (23, .bipush 120, mX), (25, .newarray .int, mX), (27, .putfield 22, (2, 3, 0)), (30, .aload_n 0, mX), (31, .sipush 300, mX), (34, .newarray .int, mX), (36, .putfield 25, (2, 4, 0)), (39, .aload_n 0, mX), (40, .sipush 300, mX), (43, .newarray .int, mX), (45, .putfield 28, (2, 5, 0)), (48, .aload_n 0, mX), (49, .sipush 300, mX), (52, .newarray .int, mX), (54, .putfield 31, (2, 6, 0)), (57, .aload_n 0, mX), (58, .sipush 300, mX), (61, .newarray .int, mX), (63, .putfield 34, (2, 7, 0)), (66, .aload_n 0, mX), (67, .sipush 300, mX), (70, .newarray .int, mX), (72, .putfield 37, (2, 8, 0)), (75, .return_, mX)])
noncomputable def mt3 : am_M := (⟨"AssizeRide$Law", "<init>", "()V"⟩, prog_7_method_1_code, 1, (Option.none : Option FieldType), [(0, .aload_n 0, mX), (1, .invokespecial 7, (0, 1, 1)), (4, .aload_n 0, mX), (5, .iconst 0, mX), (6, .putfield 13, (3, 0, 0)), (9, .aload_n 0, mX), (10, .bipush 30, mX), (12, .newarray .int, mX), (14, .putfield 17, (3, 1, 0)), (17, .aload_n 0, mX), (18, .bipush 30, mX), (20, .newarray .int, mX), (22, .putfield 21, (3, 2, 0)), (25, .aload_n 0, mX), (26, .bipush 31, mX), (28, .newarray .int, mX), (30, .putfield 24, (3, 3, 0)), (33, .aload_n 0, mX), (34, .iconst 0, mX), (35, .putfield 27, (3, 4, 0)), (38, .aload_n 0, mX), (39, .sipush 1240, mX), (42, .newarray .int, mX), (44, .putfield 30, (3, 5, 0)), (47, .aload_n 0, mX), (48, .sipush 1240, mX), (51, .newarray .long, mX), (53, .putfield 33, (3, 6, 0)), (56, .aload_n 0, mX), (57, .sipush 1240, mX), (60, .newarray .int, mX), (62, .putfield 37, (3, 7, 0)), (65, .aload_n 0, mX), (66, .sipush 1240, mX), (69, .newarray .int, mX), (71, .putfield 40, (3, 8, 0)), (74, .aload_n 0, mX), (75, .sipush 1241, mX), (78, .newarray .int, mX), (80, .putfield 43, (3, 9, 0)), (83, .aload_n 0, mX), (84, .iconst 0, mX), (85, .putfield 46, (3, 10, 0)), (88, .aload_n 0, mX), (89, .sipush 10240, mX), (92, .newarray .long, mX), (94, .putfield 49, (3, 11, 0)), (97, .aload_n 0, mX), (98, .iconst 0, mX), (99, .putfield 52, (3, 12, 0)), (102, .return_, mX)])
noncomputable def mt4 : am_M := (⟨"AssizeRide$ActReader", "<init>", "(LAssizeRide$Tape;LAssizeRide$Law;)V"⟩, prog_2_method_1_code, 3, (Option.none : Option FieldType), [(0, .aload_n 0, mX), (1, .invokespecial 3, (0, 1, 1)), (4, .aload_n 0, mX), (5, .iconst 0, mX), (6, .putfield 9, (4, 0, 0)), (9, .aload_n 0, mX), (10, .iconst (-1), mX), (11, .putfield 15, (4, 1, 0)), (14, .aload_n 0, mX), (15, .bipush 28, mX), (17, .newarray .int, mX), (19, .putfield 18, (4, 6, 0)), (22, .aload_n 0, mX), (23, .iconst 0, mX), (24, .putfield 22, (4, 7, 0)), (27, .aload_n 0, mX), (28, .iconst 0, mX), (29, .putfield 25, (4, 8, 0)), (32, .aload_n 0, mX), (33, .iconst 0, mX), (34, .putfield 28, (4, 9, 0)), (37, .aload_n 0, mX), (38, .iconst 0, mX), (39, .putfield 31, (4, 10, 0)), (42, .aload_n 0, mX), (43, .iconst 0, mX), (44, .putfield 36, (4, 11, 0)), (47, .aload_n 0, mX), (48, .lconst 0, mX), (49, .putfield 39, (4, 12, 0)), (52, .aload_n 0, mX), (53, .iconst (-1), mX), (54, .putfield 43, (4, 13, 0)), (57, .aload_n 0, mX), (58, .iconst (-1), mX), (59, .putfield 46, (4, 14, 0)), (62, .aload_n 0, mX), (63, .iconst (-1), mX), (64, .putfield 49, (4, 15, 0)), (67, .aload_n 0, mX), (68, .lconst 0, mX), (69, .putfield 52, (4, 16, 0)), (72, .aload_n 0, mX), (73, .aload_n 1, mX), (74, .putfield 55, (4, 2, 0)), (77, .aload_n 0, mX), (78, .aload_n 2, mX), (79, .putfield 59, (4, 3, 0)), (82, .aload_n 0, mX), (83, .ldc 63, (1, 8, 0)), (85, .bipush 17, mX), (87, .invokestatic 65, (5, 2, 0)), (90, .putfield 69, (4, 4, 0)), (93, .aload_n 0, mX), (94, .ldc 73, (1, 9, 0)), (96, .bipush 7, mX), (98, .invokestatic 65, (5, 2, 0)), (101, .putfield 75, (4, 5, 0)), (104, .return_, mX)])
noncomputable def mt5 : am_M := (⟨"AssizeRide$ActReader", "spell", "(Ljava/lang/String;I)[J"⟩, prog_2_method_2_code, 6, (Option.some (FieldType.array FieldType.long)), [(0, .iload_n 1, mX), (1, .iconst 0, mX), (2, .invokestatic 78, (6, 2, 0)), (5, .newarray .long, mX), (7, .astore_n 2, mX), (8, .iconst 0, mX), (9, .istore_n 3, mX), (10, .iconst 0, mX), (11, .istore 4, mX), (13, .iload 4, mX), (15, .aload_n 0, mX), (16, .invokevirtual 84, (7, 1, 0)), (19, .if_icmp .ge 55, mX), (22, .iload_n 3, mX), (23, .aload_n 2, mX), (24, .arraylength, mX), (25, .if_icmp .ge 49, mX), (28, .aload_n 0, mX), (29, .iload 4, mX), (31, .invokevirtual 90, (9, 2, 0)), (34, .istore 5, mX), (36, .iload 5, mX), (38, .bipush 32, mX), (40, .if_icmp .ne 9, mX), (43, .iinc 3 1, mX), (46, .goto 22, mX), (49, .aload_n 2, mX), (50, .iload_n 3, mX), (51, .aload_n 2, mX), (52, .iload_n 3, mX), (53, .laload, mX), (54, .ldc2_w 94, (0, 0, 32)), (57, .lmul, mX), (58, .iload 5, mX), (60, .bipush 97, mX), (62, .isub, mX), (63, .iconst 1, mX), (64, .iadd, mX), (65, .i2l, mX), (66, .ladd, mX), (67, .lastore, mX), (68, .iinc 4 1, mX), (71, .goto (-58), mX), (74, .aload_n 2, mX), (75, .areturn, mX)])
noncomputable def mt6 : am_M := (⟨"java/lang/Math", "max", "(II)I"⟩, prog_16_method_65_code, 2, (Option.some FieldType.int), [(0, .iload_n 0, mX), (1, .iload_n 1, mX), (2, .if_icmp .lt 7, mX), (5, .iload_n 0, mX), (6, .goto 4, mX), (9, .iload_n 1, mX), (10, .ireturn, mX)])
noncomputable def mt7 : am_M := (⟨"java/lang/String", "length", "()I"⟩, prog_17_method_54_code, 1, (Option.some FieldType.int), [(0, .aload_n 0, mX), (1, .getfield 9, (0, 0, 1)), (4, .arraylength, mX), (5, .aload_n 0, mX), (6, .invokevirtual 335, (8, 1, 0)), (9, .ishr, mX), (10, .ireturn, mX)])
noncomputable def mt8 : am_M := (⟨"java/lang/String", "coder", "()B"⟩, prog_17_method_152_code, 1, (Option.some FieldType.byte), [(0, .getstatic 38, (0, 8, 0)), (3, .ifCond .eq 10, mX), (6, .aload_n 0, mX), (7, .getfield 15, (0, 0, 2)), (10, .goto 4, mX), (13, .iconst 1, mX), (14, .ireturn, mX)])
noncomputable def mt9 : am_M := (⟨"java/lang/String", "charAt", "(I)C"⟩, prog_17_method_56_code, 2, (Option.some FieldType.char), [(0, .aload_n 0, mX), (1, .invokevirtual 492, (10, 1, 0)), (4, .ifCond .eq 12, mX), (7, .aload_n 0, mX), (8, .getfield 9, (0, 0, 1)), (11, .iload_n 1, mX), (12, .invokestatic 495, (11, 2, 0)), (15, .ireturn, mX), (16, .aload_n 0, mX), (17, .getfield 9, (0, 0, 1)), (20, .iload_n 1, mX), (24, .ireturn, mX)])
noncomputable def mt10 : am_M := (⟨"java/lang/String", "isLatin1", "()Z"⟩, prog_17_method_154_code, 1, (Option.some FieldType.boolean), [(0, .getstatic 38, (0, 8, 0)), (3, .ifCond .eq 14, mX), (6, .aload_n 0, mX), (7, .getfield 15, (0, 0, 2)), (10, .ifCond .ne 7, mX), (13, .iconst 1, mX), (14, .goto 4, mX), (17, .iconst 0, mX), (18, .ireturn, mX)])
noncomputable def mt11 : am_M := (⟨"java/lang/StringLatin1", "charAt", "([BI)C"⟩, prog_18_method_2_code, 2, (Option.some FieldType.char), [(0, .iload_n 1, mX), (1, .aload_n 0, mX), (2, .arraylength, mX), (3, .invokestatic 9, (12, 2, 0)), (6, .aload_n 0, mX), (7, .iload_n 1, mX), (8, .baload, mX), (9, .sipush 255, mX), (12, .iand, mX), (13, .i2c, mX), (14, .ireturn, mX)])
noncomputable def mt12 : am_M := (⟨"java/lang/String", "checkIndex", "(II)V"⟩, prog_17_method_155_code, 2, (Option.none : Option FieldType), [(0, .iload_n 0, mX), (1, .iload_n 1, mX), (2, .getstatic 1053, (0, 9, 0)), (5, .invokestatic 1059, (13, 3, 0)), (8, .pop, mX), (9, .return_, mX)])
noncomputable def mt13 : am_M := (⟨"jdk/internal/util/Preconditions", "checkIndex", "(IILjava/util/function/BiFunction;)I"⟩, prog_22_method_11_code, 3, (Option.some FieldType.int), [(0, .iload_n 0, mX), (1, .ifCond .lt 8, mX), (4, .iload_n 0, mX), (5, .iload_n 1, mX), (6, .if_icmp .lt 10, mX), (9, .aload_n 2, mX), (10, .iload_n 0, mX), (11, .iload_n 1, mX), (16, .iload_n 0, mX), (17, .ireturn, mX)])
noncomputable def mt14 : am_M := (⟨"AssizeRide$Docket", "<init>", "(LAssizeRide$Law;LAssizeRide$People;)V"⟩, prog_5_method_1_code, 3, (Option.none : Option FieldType), [(0, .aload_n 0, mX), (1, .invokespecial 3, (0, 1, 1)), (4, .aload_n 0, mX), (5, .iconst 0, mX), (6, .putfield 9, (5, 2, 0)), (9, .aload_n 0, mX), (10, .iconst 0, mX), (11, .putfield 15, (5, 3, 0)), (14, .aload_n 0, mX), (15, .bipush 100, mX), (17, .anewarray 18, (11, 0, 0)), (20, .putfield 20, (5, 4, 0)), (23, .aload_n 0, mX), (24, .bipush 120, mX), (26, .newarray .boolean, mX), (28, .putfield 26, (5, 5, 0)), (31, .aload_n 0, mX), (32, .bipush 40, mX), (34, .newarray .long, mX), (36, .putfield 30, (5, 6, 0)), (39, .aload_n 0, mX), (40, .bipush 40, mX), (42, .newarray .boolean, mX), (44, .putfield 34, (5, 7, 0)), (47, .aload_n 0, mX), (48, .iconst 0, mX), (49, .putfield 37, (5, 8, 0)), (52, .aload_n 0, mX), (53, .bipush 100, mX), (55, .newarray .int, mX), (57, .putfield 40, (5, 9, 0)), (60, .aload_n 0, mX), (61, .sipush 1024, mX), (64, .newarray .int, mX), (66, .putfield 44, (5, 10, 0)), (69, .aload_n 0, mX), (70, .sipush 1024, mX), (73, .newarray .int, mX), (75, .putfield 47, (5, 11, 0)), (78, .aload_n 0, mX), (79, .sipush 1024, mX), (82, .newarray .int, mX), (84, .putfield 50, (5, 12, 0)), (87, .aload_n 0, mX), (88, .sipush 1024, mX), (91, .newarray .int, mX), (93, .putfield 53, (5, 13, 0)), (96, .aload_n 0, mX), (97, .iconst 0, mX), (98, .putfield 56, (5, 14, 0)), (101, .aload_n 0, mX), (102, .bipush 120, mX), (104, .newarray .int, mX), (106, .putfield 59, (5, 15, 0)), (109, .aload_n 0, mX), (110, .sipush 261, mX), (113, .newarray .int, mX), (115, .putfield 64, (5, 16, 0)), (118, .aload_n 0, mX), (119, .new 67, (6, 0, 0)), (122, .dup, mX), (123, .bipush 28, mX), (125, .invokespecial 69, (15, 2, 0)), (128, .putfield 72, (5, 17, 0)), (131, .aload_n 0, mX), (132, .aload_n 1, mX), (133, .putfield 76, (5, 0, 0)), (136, .aload_n 0, mX), (137, .aload_n 2, mX), (138, .putfield 80, (5, 1, 0)), (141, .return_, mX)])
noncomputable def mt15 : am_M := (⟨"AssizeRide$Row", "<init>", "(I)V"⟩, prog_11_method_1_code, 2, (Option.none : Option FieldType), [(0, .aload_n 0, mX), (1, .invokespecial 3, (0, 1, 1)), (4, .aload_n 0, mX), (5, .iconst 0, mX), (6, .putfield 9, (6, 2, 0)), (9, .aload_n 0, mX), (10, .iconst 0, mX), (11, .putfield 15, (6, 3, 0)), (14, .aload_n 0, mX), (15, .iload_n 1, mX), (16, .iconst 0, mX), (17, .invokestatic 19, (6, 2, 0)), (20, .newarray .long, mX), (22, .putfield 25, (6, 0, 0)), (25, .aload_n 0, mX), (26, .iload_n 1, mX), (27, .iconst 0, mX), (28, .invokestatic 19, (6, 2, 0)), (31, .newarray .int, mX), (33, .putfield 29, (6, 1, 0)), (36, .return_, mX)])
noncomputable def mt16 : am_M := (⟨"AssizeRide$Gaols", "<init>", "()V"⟩, prog_6_method_1_code, 1, (Option.none : Option FieldType), [(0, .aload_n 0, mX), (1, .invokespecial 3, (0, 1, 1)), (4, .aload_n 0, mX), (5, .bipush 120, mX), (7, .newarray .int, mX), (9, .putfield 11, (7, 0, 0)), (12, .aload_n 0, mX), (13, .bipush 120, mX), (15, .newarray .int, mX), (17, .putfield 17, (7, 1, 0)), (20, .aload_n 0, mX), (21, .bipush 120, mX), (23, .newarray .int, mX), (25, .putfield 20, (7, 2, 0)), (28, .aload_n 0, mX), (29, .bipush 120, mX), (31, .newarray .int, mX), (33, .putfield 23, (7, 3, 0)), (36, .aload_n 0, mX), (37, .bipush 120, mX), (39, .newarray .int, mX), (41, .putfield 26, (7, 4, 0)), (44, .aload_n 0, mX), (45, .iconst 0, mX), (46, .putfield 29, (7, 5, 0)), (49, .aload_n 0, mX), (50, .iconst 0, mX), (51, .putfield 33, (7, 6, 0)), (54, .aload_n 0, mX), (55, .iconst 0, mX), (56, .putfield 36, (7, 7, 0)), (59, .aload_n 0, mX), (60, .bipush 80, mX), (62, .newarray .int, mX), (64, .putfield 39, (7, 8, 0)), (67, .aload_n 0, mX), (68, .bipush 80, mX), (70, .newarray .int, mX), (72, .putfield 42, (7, 9, 0)), (75, .aload_n 0, mX), (76, .bipush 80, mX), (78, .newarray .int, mX), (80, .putfield 45, (7, 10, 0)), (83, .aload_n 0, mX), (84, .bipush 80, mX), (86, .newarray .int, mX), (88, .putfield 48, (7, 11, 0)), (91, .aload_n 0, mX), (92, .bipush 80, mX), (94, .newarray .int, mX), (96, .putfield 51, (7, 12, 0)), (99, .aload_n 0, mX), (100, .bipush 80, mX), (102, .newarray .int, mX), (104, .putfield 54, (7, 13, 0)), (107, .aload_n 0, mX), (108, .getfield 11, (7, 0, 0)), (111, .iconst (-1), mX), (112, .invokestatic 57, (17, 2, 0)), (115, .return_, mX)])
noncomputable def mt17 : am_M := (⟨"java/util/Arrays", "fill", "([II)V"⟩, prog_21_method_103_code, 4, (Option.none : Option FieldType), [(0, .iconst 0, mX), (1, .istore_n 2, mX), (2, .aload_n 0, mX), (3, .arraylength, mX), (4, .istore_n 3, mX), (5, .iload_n 2, mX), (6, .iload_n 3, mX), (7, .if_icmp .ge 13, mX), (10, .aload_n 0, mX), (11, .iload_n 2, mX), (12, .iload_n 1, mX), (13, .iastore, mX), (14, .iinc 2 1, mX), (17, .goto (-12), mX), (20, .return_, mX)])
noncomputable def mt18 : am_M := (⟨"AssizeRide$DayOrder", "<init>", "()V"⟩, prog_4_method_1_code, 1, (Option.none : Option FieldType), [(0, .aload_n 0, mX), (1, .invokespecial 3, (0, 1, 1)), (4, .aload_n 0, mX), (5, .iconst 0, mX), (6, .putfield 9, (8, 0, 0)), (9, .aload_n 0, mX), (10, .iconst 5, mX), (11, .newarray .int, mX), (13, .putfield 15, (8, 1, 0)), (16, .aload_n 0, mX), (17, .iconst 5, mX), (18, .newarray .int, mX), (20, .putfield 19, (8, 2, 0)), (23, .aload_n 0, mX), (24, .iconst 0, mX), (25, .putfield 22, (8, 3, 0)), (28, .aload_n 0, mX), (29, .iconst 5, mX), (30, .newarray .int, mX), (32, .putfield 26, (8, 4, 0)), (35, .aload_n 0, mX), (36, .bipush 25, mX), (38, .newarray .boolean, mX), (40, .putfield 29, (8, 5, 0)), (43, .aload_n 0, mX), (44, .iconst 5, mX), (45, .newarray .int, mX), (47, .putfield 33, (8, 6, 0)), (50, .aload_n 0, mX), (51, .iconst 0, mX), (52, .putfield 36, (8, 7, 0)), (55, .aload_n 0, mX), (56, .iconst 0, mX), (57, .putfield 39, (8, 8, 0)), (60, .return_, mX)])
noncomputable def mt19 : am_M := (⟨"AssizeRide$Circuit", "<init>", "()V"⟩, prog_3_method_1_code, 2, (Option.none : Option FieldType), [(0, .aload_n 0, mX), (1, .invokespecial 3, (0, 1, 1)), (4, .aload_n 0, mX), (5, .bipush 36, mX), (7, .newarray .int, mX), (9, .putfield 9, (9, 0, 0)), (12, .aload_n 0, mX), (13, .bipush 36, mX), (15, .newarray .int, mX), (17, .putfield 15, (9, 1, 0)), (20, .aload_n 0, mX), (21, .iconst 0, mX), (22, .putfield 18, (9, 2, 0)), (25, .aload_n 0, mX), (26, .bipush 6, mX), (28, .newarray .int, mX), (30, .putfield 22, (9, 3, 0)), (33, .aload_n 0, mX), (34, .bipush 6, mX), (36, .newarray .int, mX), (38, .putfield 25, (9, 4, 0)), (41, .aload_n 0, mX), (42, .iconst 0, mX), (43, .putfield 28, (9, 5, 0)), (46, .aload_n 0, mX), (47, .iconst 1, mX), (48, .putfield 31, (9, 6, 0)), (51, .aload_n 0, mX), (52, .bipush 6, mX), (54, .newarray .int, mX), (56, .putfield 34, (9, 7, 0)), (59, .aload_n 0, mX), (60, .bipush 6, mX), (62, .newarray .int, mX), (64, .putfield 37, (9, 8, 0)), (67, .aload_n 0, mX), (68, .bipush 6, mX), (70, .newarray .int, mX), (72, .putfield 40, (9, 9, 0)), (75, .aload_n 0, mX), (76, .iconst (-1), mX), (77, .putfield 43, (9, 10, 0)), (80, .aload_n 0, mX), (81, .iconst (-1), mX), (82, .putfield 46, (9, 11, 0)), (85, .aload_n 0, mX), (86, .getfield 9, (9, 0, 0)), (89, .iconst (-1), mX), (90, .invokestatic 49, (17, 2, 0)), (93, .aload_n 0, mX), (94, .getfield 15, (9, 1, 0)), (97, .iconst (-1), mX), (98, .invokestatic 49, (17, 2, 0)), (101, .iconst 0, mX), (102, .istore_n 1, mX), (103, .iload_n 1, mX), (104, .bipush 6, mX), (106, .if_icmp .ge 21, mX), (109, .aload_n 0, mX), (110, .getfield 15, (9, 1, 0)), (113, .iload_n 1, mX), (114, .bipush 6, mX), (116, .imul, mX), (117, .iload_n 1, mX), (118, .iadd, mX), (119, .iconst 0, mX), (120, .iastore, mX), (121, .iinc 1 1, mX), (124, .goto (-21), mX), (127, .return_, mX)])
noncomputable def mt20 : am_M := (⟨"AssizeRide$Rolls", "<init>", "()V"⟩, prog_10_method_1_code, 1, (Option.none : Option FieldType), [(0, .aload_n 0, mX), (1, .invokespecial 5, (0, 1, 1)), (4, .aload_n 0, mX), (5, .iconst 3, mX), (6, .newarray .int, mX), (8, .putfield 11, (10, 0, 0)), (11, .aload_n 0, mX), (12, .bipush 30, mX), (14, .newarray .int, mX), (16, .putfield 15, (10, 1, 0)), (19, .aload_n 0, mX), (20, .sipush 1331, mX), (23, .newarray .int, mX), (25, .putfield 18, (10, 2, 0)), (28, .aload_n 0, mX), (29, .iconst 3, mX), (30, .newarray .int, mX), (32, .putfield 21, (10, 3, 0)), (35, .aload_n 0, mX), (36, .bipush 90, mX), (38, .newarray .int, mX), (40, .putfield 24, (10, 4, 0)), (43, .aload_n 0, mX), (44, .iconst 0, mX), (45, .putfield 27, (10, 5, 0)), (48, .return_, mX)])
noncomputable def mt21 : am_M := (⟨"AssizeRide", "feed", "(IIIII)I"⟩, prog_1_method_5_code, 6, (Option.some FieldType.int), [(0, .aload_n 0, mX), (1, .getfield 10, mX), (4, .bipush 20, mX), (6, .invokevirtual 99, (22, 2, 0)), (9, .ifCond .ne 6, mX), (12, .bipush (-3), mX), (14, .ireturn, mX), (15, .aload_n 0, mX), (16, .getfield 10, mX), (19, .iload_n 1, mX), (20, .invokevirtual 103, (23, 2, 0)), (23, .aload_n 0, mX), (24, .getfield 10, mX), (27, .iload_n 2, mX), (28, .invokevirtual 103, (23, 2, 0)), (31, .aload_n 0, mX), (32, .getfield 10, mX), (35, .iload_n 3, mX), (36, .invokevirtual 103, (23, 2, 0)), (39, .aload_n 0, mX), (40, .getfield 10, mX), (43, .iload 4, mX), (45, .invokevirtual 103, (23, 2, 0)), (48, .aload_n 0, mX), (49, .getfield 10, mX), (52, .iload 5, mX), (54, .invokevirtual 103, (23, 2, 0)), (57, .aload_n 0, mX), (58, .getfield 10, mX), (61, .getfield 106, (1, 1, 0)), (64, .ireturn, mX)])
noncomputable def mt22 : am_M := (⟨"AssizeRide$Tape", "hasRoom", "(I)Z"⟩, prog_12_method_2_code, 2, (Option.some FieldType.boolean), [(0, .aload_n 0, mX), (1, .getfield 13, (1, 1, 0)), (4, .iload_n 1, mX), (5, .iadd, mX), (6, .sipush 1200, mX), (9, .if_icmp .gt 7, mX), (12, .iconst 1, mX), (13, .goto 4, mX), (16, .iconst 0, mX), (17, .ireturn, mX)])
noncomputable def mt23 : am_M := (⟨"AssizeRide$Tape", "addInt", "(I)V"⟩, prog_12_method_3_code, 3, (Option.none : Option FieldType), [(0, .bipush 24, mX), (2, .istore_n 2, mX), (3, .iload_n 2, mX), (4, .ifCond .lt 45, mX), (7, .aload_n 0, mX), (8, .getfield 13, (1, 1, 0)), (11, .sipush 1200, mX), (14, .if_icmp .ge 35, mX), (17, .aload_n 0, mX), (18, .getfield 9, (1, 0, 0)), (21, .aload_n 0, mX), (22, .getfield 13, (1, 1, 0)), (25, .iload_n 1, mX), (26, .iload_n 2, mX), (27, .iushr, mX), (28, .sipush 255, mX), (31, .iand, mX), (32, .iastore, mX), (33, .aload_n 0, mX), (34, .dup, mX), (35, .getfield 13, (1, 1, 0)), (38, .iconst 1, mX), (39, .iadd, mX), (40, .putfield 13, (1, 1, 0)), (43, .iinc 2 (-8), mX), (46, .goto (-43), mX), (49, .return_, mX)])
noncomputable def mt24 : am_M := (⟨"AssizeRide", "end", "(I)I"⟩, prog_1_method_6_code, 2, (Option.some FieldType.int), [(0, .iload_n 1, mX), (1, .iconst 0, mX), (2, .aload_n 0, mX), (3, .getfield 10, mX), (6, .getfield 106, (1, 1, 0)), (9, .invokestatic 95, (25, 3, 0)), (12, .ifCond .ne 5, mX), (15, .iconst (-1), mX), (16, .ireturn, mX), (17, .aload_n 0, mX), (18, .getfield 10, mX), (21, .iload_n 1, mX), (22, .putfield 106, (1, 1, 0)), (25, .iload_n 1, mX), (26, .ireturn, mX)])
noncomputable def mt25 : am_M := (⟨"AssizeRide", "within", "(III)Z"⟩, prog_1_method_2_code, 3, (Option.some FieldType.boolean), [(0, .iload_n 0, mX), (1, .iload_n 1, mX), (2, .if_icmp .lt 12, mX), (5, .iload_n 0, mX), (6, .iload_n 2, mX), (7, .if_icmp .gt 7, mX), (10, .iconst 1, mX), (11, .goto 4, mX), (14, .iconst 0, mX), (15, .ireturn, mX)])
noncomputable def mt26 : am_M := (⟨"AssizeRide", "road", "(III)I"⟩, prog_1_method_7_code, 4, (Option.some FieldType.int), [(0, .iload_n 1, mX), (1, .invokestatic 109, (27, 1, 0)), (4, .ifCond .eq 30, mX), (7, .iload_n 2, mX), (8, .invokestatic 109, (27, 1, 0)), (11, .ifCond .eq 23, mX), (14, .iload_n 1, mX), (15, .iload_n 2, mX), (16, .if_icmp .eq 18, mX), (19, .iload_n 3, mX), (20, .iconst (-1), mX), (21, .if_icmp .eq 16, mX), (24, .iload_n 3, mX), (25, .iconst 1, mX), (26, .bipush 9, mX), (28, .invokestatic 95, (25, 3, 0)), (31, .ifCond .ne 6, mX), (34, .bipush (-2), mX), (36, .ireturn, mX), (37, .aload_n 0, mX), (38, .getfield 65, (0, 7, 0)), (41, .iload_n 1, mX), (42, .iload_n 2, mX), (43, .iload_n 3, mX), (44, .invokevirtual 112, (28, 4, 0)), (47, .ireturn, mX)])
noncomputable def mt27 : am_M := (⟨"AssizeRide", "isShire", "(I)Z"⟩, prog_1_method_3_code, 1, (Option.some FieldType.boolean), [(0, .iload_n 0, mX), (1, .iconst 0, mX), (2, .iconst 5, mX), (3, .invokestatic 95, (25, 3, 0)), (6, .ireturn, mX)])
noncomputable def mt28 : am_M := (⟨"AssizeRide$Circuit", "setRoad", "(III)I"⟩, prog_3_method_2_code, 5, (Option.some FieldType.int), [(0, .aload_n 0, mX), (1, .getfield 9, (9, 0, 0)), (4, .iload_n 1, mX), (5, .bipush 6, mX), (7, .imul, mX), (8, .iload_n 2, mX), (9, .iadd, mX), (10, .iaload, mX), (11, .istore 4, mX), (13, .aload_n 0, mX), (14, .getfield 9, (9, 0, 0)), (17, .iload_n 1, mX), (18, .bipush 6, mX), (20, .imul, mX), (21, .iload_n 2, mX), (22, .iadd, mX), (23, .iload_n 3, mX), (24, .iastore, mX), (25, .aload_n 0, mX), (26, .getfield 9, (9, 0, 0)), (29, .iload_n 2, mX), (30, .bipush 6, mX), (32, .imul, mX), (33, .iload_n 1, mX), (34, .iadd, mX), (35, .iload_n 3, mX), (36, .iastore, mX), (37, .aload_n 0, mX), (38, .invokevirtual 55, (29, 1, 0)), (41, .iload 4, mX), (43, .ireturn, mX)])
noncomputable def mt29 : am_M := (⟨"AssizeRide$Circuit", "findWays", "()V"⟩, prog_3_method_3_code, 4, (Option.none : Option FieldType), [(0, .aload_n 0, mX), (1, .getfield 9, (9, 0, 0)), (4, .iconst 0, mX), (5, .aload_n 0, mX), (6, .getfield 15, (9, 1, 0)), (9, .iconst 0, mX), (10, .bipush 36, mX), (12, .invokestatic 58, (0, 5, 2)), (15, .iconst 0, mX), (16, .istore_n 1, mX), (17, .iload_n 1, mX), (18, .bipush 6, mX), (20, .if_icmp .ge 21, mX), (23, .aload_n 0, mX), (24, .getfield 15, (9, 1, 0)), (27, .iload_n 1, mX), (28, .bipush 6, mX), (30, .imul, mX), (31, .iload_n 1, mX), (32, .iadd, mX), (33, .iconst 0, mX), (34, .iastore, mX), (35, .iinc 1 1, mX), (38, .goto (-21), mX), (41, .iconst 0, mX), (42, .istore_n 1, mX), (43, .iload_n 1, mX), (44, .bipush 6, mX), (46, .if_icmp .ge 44, mX), (49, .iconst 0, mX), (50, .istore_n 2, mX), (51, .iload_n 2, mX), (52, .bipush 6, mX), (54, .if_icmp .ge 30, mX), (57, .iconst 0, mX), (58, .istore_n 3, mX), (59, .iload_n 3, mX), (60, .bipush 6, mX), (62, .if_icmp .ge 16, mX), (65, .aload_n 0, mX), (66, .iload_n 2, mX), (67, .iload_n 1, mX), (68, .iload_n 3, mX), (69, .invokevirtual 64, (30, 4, 0)), (72, .iinc 3 1, mX), (75, .goto (-16), mX), (78, .iinc 2 1, mX), (81, .goto (-30), mX), (84, .iinc 1 1, mX), (87, .goto (-44), mX), (90, .return_, mX)])
noncomputable def mt30 : am_M := (⟨"AssizeRide$Circuit", "shorten", "(III)V"⟩, prog_3_method_4_code, 7, (Option.none : Option FieldType), [(0, .aload_n 0, mX), (1, .getfield 15, (9, 1, 0)), (4, .iload_n 1, mX), (5, .bipush 6, mX), (7, .imul, mX), (8, .iload_n 2, mX), (9, .iadd, mX), (10, .iaload, mX), (11, .istore 4, mX), (13, .aload_n 0, mX), (14, .getfield 15, (9, 1, 0)), (17, .iload_n 2, mX), (18, .bipush 6, mX), (20, .imul, mX), (21, .iload_n 3, mX), (22, .iadd, mX), (23, .iaload, mX), (24, .istore 5, mX), (26, .aload_n 0, mX), (27, .getfield 15, (9, 1, 0)), (30, .iload_n 1, mX), (31, .bipush 6, mX), (33, .imul, mX), (34, .iload_n 3, mX), (35, .iadd, mX), (36, .iaload, mX), (37, .istore 6, mX), (39, .iload 4, mX), (41, .iconst (-1), mX), (42, .if_icmp .eq 41, mX), (45, .iload 5, mX), (47, .iconst (-1), mX), (48, .if_icmp .eq 35, mX), (51, .iload 6, mX), (53, .iconst (-1), mX), (54, .if_icmp .eq 13, mX), (57, .iload 4, mX), (59, .iload 5, mX), (61, .iadd, mX), (62, .iload 6, mX), (64, .if_icmp .ge 19, mX), (67, .aload_n 0, mX), (68, .getfield 15, (9, 1, 0)), (71, .iload_n 1, mX), (72, .bipush 6, mX), (74, .imul, mX), (75, .iload_n 3, mX), (76, .iadd, mX), (77, .iload 4, mX), (79, .iload 5, mX), (81, .iadd, mX), (82, .iastore, mX), (83, .return_, mX)])
noncomputable def mt31 : am_M := (⟨"AssizeRide", "pass", "(I)I"⟩, prog_1_method_8_code, 2, (Option.some FieldType.int), [(0, .iload_n 1, mX), (1, .iconst 1, mX), (2, .bipush 100, mX), (4, .invokestatic 95, (25, 3, 0)), (7, .ifCond .eq 15, mX), (10, .aload_n 0, mX), (11, .getfield 85, (0, 10, 0)), (14, .iload_n 1, mX), (15, .iadd, mX), (16, .sipush 399, mX), (19, .if_icmp .le 6, mX), (22, .bipush (-2), mX), (24, .ireturn, mX), (25, .aload_n 0, mX), (26, .dup, mX), (27, .getfield 85, (0, 10, 0)), (30, .iload_n 1, mX), (31, .iadd, mX), (32, .putfield 85, (0, 10, 0)), (35, .aload_n 0, mX), (36, .getfield 51, (0, 5, 0)), (39, .aload_n 0, mX), (40, .getfield 85, (0, 10, 0)), (43, .aload_n 0, mX), (44, .getfield 19, (0, 1, 0)), (47, .invokevirtual 116, (32, 3, 0)), (50, .aload_n 0, mX), (51, .getfield 85, (0, 10, 0)), (54, .ireturn, mX)])
noncomputable def mt32 : am_M := (⟨"AssizeRide$Gaols", "runOut", "(ILAssizeRide$People;)V"⟩, prog_6_method_11_code, 5, (Option.none : Option FieldType), [(0, .iconst 0, mX), (1, .istore_n 3, mX), (2, .iload_n 3, mX), (3, .aload_n 0, mX), (4, .getfield 33, (7, 6, 0)), (7, .if_icmp .ge 92, mX), (10, .aload_n 0, mX), (11, .getfield 54, (7, 13, 0)), (14, .iload_n 3, mX), (15, .iaload, mX), (16, .ifCond .ne 77, mX), (19, .aload_n 0, mX), (20, .getfield 48, (7, 11, 0)), (23, .iload_n 3, mX), (24, .iaload, mX), (25, .iload_n 1, mX), (26, .if_icmp .ge 67, mX), (29, .aload_n 2, mX), (30, .aload_n 0, mX), (31, .getfield 39, (7, 8, 0)), (34, .iload_n 3, mX), (35, .iaload, mX), (36, .aload_n 0, mX), (37, .getfield 48, (7, 11, 0)), (40, .iload_n 3, mX), (41, .iaload, mX), (42, .aload_n 0, mX), (43, .getfield 48, (7, 11, 0)), (46, .iload_n 3, mX), (47, .iaload, mX), (48, .invokevirtual 80, (33, 4, 0)), (51, .istore 4, mX), (53, .aload_n 0, mX), (54, .getfield 54, (7, 13, 0)), (57, .iload_n 3, mX), (58, .iload 4, mX), (60, .ifCond .eq 7, mX), (63, .iconst 3, mX), (64, .goto 4, mX), (67, .iconst 2, mX), (68, .iastore, mX), (69, .aload_n 0, mX), (70, .dup, mX), (71, .getfield 36, (7, 7, 0)), (74, .iload 4, mX), (76, .ifCond .eq 7, mX), (79, .iconst 0, mX), (80, .goto 9, mX), (83, .aload_n 0, mX), (84, .getfield 51, (7, 12, 0)), (87, .iload_n 3, mX), (88, .iaload, mX), (89, .iadd, mX), (90, .putfield 36, (7, 7, 0)), (93, .iinc 3 1, mX), (96, .goto (-94), mX), (99, .return_, mX)])
noncomputable def mt33 : am_M := (⟨"AssizeRide$People", "isDead", "(III)Z"⟩, prog_9_method_10_code, 5, (Option.some FieldType.boolean), [(0, .iconst 0, mX), (1, .istore 4, mX), (3, .iload 4, mX), (5, .aload_n 0, mX), (6, .getfield 15, (2, 1, 0)), (9, .if_icmp .ge 34, mX), (12, .aload_n 0, mX), (13, .iload 4, mX), (15, .iconst 1, mX), (16, .iload_n 1, mX), (17, .iload_n 3, mX), (18, .invokevirtual 57, (34, 5, 0)), (21, .ifCond .eq 16, mX), (24, .aload_n 0, mX), (25, .getfield 34, (2, 7, 0)), (28, .iload 4, mX), (30, .iaload, mX), (31, .iload_n 2, mX), (32, .if_icmp .gt 5, mX), (35, .iconst 1, mX), (36, .ireturn, mX), (37, .iinc 4 1, mX), (40, .goto (-37), mX), (43, .iconst 0, mX), (44, .ireturn, mX)])
noncomputable def mt34 : am_M := (⟨"AssizeRide$People", "isOf", "(IIII)Z"⟩, prog_9_method_8_code, 5, (Option.some FieldType.boolean), [(0, .aload_n 0, mX), (1, .getfield 25, (2, 4, 0)), (4, .iload_n 1, mX), (5, .iaload, mX), (6, .iload_n 2, mX), (7, .if_icmp .ne 28, mX), (10, .aload_n 0, mX), (11, .getfield 28, (2, 5, 0)), (14, .iload_n 1, mX), (15, .iaload, mX), (16, .iload_n 3, mX), (17, .if_icmp .ne 18, mX), (20, .aload_n 0, mX), (21, .getfield 37, (2, 8, 0)), (24, .iload_n 1, mX), (25, .iaload, mX), (26, .iload 4, mX), (28, .if_icmp .gt 7, mX), (31, .iconst 1, mX), (32, .goto 4, mX), (35, .iconst 0, mX), (36, .ireturn, mX)])
noncomputable def mt35 : am_M := (⟨"AssizeRide", "person", "(II)I"⟩, prog_1_method_9_code, 3, (Option.some FieldType.int), [(0, .iload_n 1, mX), (1, .invokestatic 109, (27, 1, 0)), (4, .ifCond .eq 13, mX), (7, .iload_n 2, mX), (8, .iconst 0, mX), (9, .bipush 9, mX), (11, .invokestatic 95, (25, 3, 0)), (14, .ifCond .ne 6, mX), (17, .bipush (-2), mX), (19, .ireturn, mX), (20, .aload_n 0, mX), (21, .getfield 19, (0, 1, 0)), (24, .iload_n 1, mX), (25, .iload_n 2, mX), (26, .invokevirtual 120, (36, 3, 0)), (29, .ireturn, mX)])
noncomputable def mt36 : am_M := (⟨"AssizeRide$People", "come", "(II)I"⟩, prog_9_method_3_code, 3, (Option.some FieldType.int), [(0, .aload_n 0, mX), (1, .getfield 9, (2, 0, 0)), (4, .bipush 120, mX), (6, .if_icmp .lt 6, mX), (9, .bipush (-3), mX), (11, .ireturn, mX), (12, .aload_n 0, mX), (13, .getfield 18, (2, 2, 0)), (16, .aload_n 0, mX), (17, .getfield 9, (2, 0, 0)), (20, .iload_n 1, mX), (21, .iastore, mX), (22, .aload_n 0, mX), (23, .getfield 22, (2, 3, 0)), (26, .aload_n 0, mX), (27, .getfield 9, (2, 0, 0)), (30, .iload_n 2, mX), (31, .iastore, mX), (32, .aload_n 0, mX), (33, .dup, mX), (34, .getfield 9, (2, 0, 0)), (37, .iconst 1, mX), (38, .iadd, mX), (39, .putfield 9, (2, 0, 0)), (42, .aload_n 0, mX), (43, .getfield 9, (2, 0, 0)), (46, .iconst 1, mX), (47, .isub, mX), (48, .ireturn, mX)])
noncomputable def mt37 : am_M := (⟨"AssizeRide", "land", "(III)I"⟩, prog_1_method_10_code, 4, (Option.some FieldType.int), [(0, .aload_n 0, mX), (1, .getfield 19, (0, 1, 0)), (4, .iload_n 1, mX), (5, .invokevirtual 124, (38, 2, 0)), (8, .ifCond .eq 21, mX), (11, .iload_n 2, mX), (12, .iconst 0, mX), (13, .sipush 9999, mX), (16, .invokestatic 95, (25, 3, 0)), (19, .ifCond .eq 10, mX), (22, .iload_n 3, mX), (23, .invokestatic 127, (39, 1, 0)), (26, .ifCond .ne 6, mX), (29, .bipush (-2), mX), (31, .ireturn, mX), (32, .aload_n 0, mX), (33, .getfield 19, (0, 1, 0)), (36, .iconst 0, mX), (37, .iload_n 1, mX), (38, .iload_n 2, mX), (39, .iload_n 3, mX), (40, .aload_n 0, mX), (41, .getfield 85, (0, 10, 0)), (44, .invokevirtual 130, (40, 6, 0)), (47, .ifCond .eq 13, mX), (50, .aload_n 0, mX), (51, .getfield 19, (0, 1, 0)), (54, .getfield 134, (2, 1, 0)), (57, .goto 5, mX), (60, .bipush (-3), mX), (62, .ireturn, mX)])
noncomputable def mt38 : am_M := (⟨"AssizeRide$People", "has", "(I)Z"⟩, prog_9_method_2_code, 2, (Option.some FieldType.boolean), [(0, .iload_n 1, mX), (1, .iconst 0, mX), (2, .aload_n 0, mX), (3, .getfield 9, (2, 0, 0)), (6, .iconst 1, mX), (7, .isub, mX), (8, .invokestatic 40, (25, 3, 0)), (11, .ireturn, mX)])
noncomputable def mt39 : am_M := (⟨"AssizeRide", "isDay", "(I)Z"⟩, prog_1_method_4_code, 1, (Option.some FieldType.boolean), [(0, .iload_n 0, mX), (1, .iconst 0, mX), (2, .sipush 399, mX), (5, .invokestatic 95, (25, 3, 0)), (8, .ireturn, mX)])
noncomputable def mt40 : am_M := (⟨"AssizeRide$People", "tell", "(IIIII)Z"⟩, prog_9_method_7_code, 6, (Option.some FieldType.boolean), [(0, .aload_n 0, mX), (1, .getfield 15, (2, 1, 0)), (4, .sipush 300, mX), (7, .if_icmp .lt 5, mX), (10, .iconst 0, mX), (11, .ireturn, mX), (12, .aload_n 0, mX), (13, .getfield 25, (2, 4, 0)), (16, .aload_n 0, mX), (17, .getfield 15, (2, 1, 0)), (20, .iload_n 1, mX), (21, .iastore, mX), (22, .aload_n 0, mX), (23, .getfield 28, (2, 5, 0)), (26, .aload_n 0, mX), (27, .getfield 15, (2, 1, 0)), (30, .iload_n 2, mX), (31, .iastore, mX), (32, .aload_n 0, mX), (33, .getfield 31, (2, 6, 0)), (36, .aload_n 0, mX), (37, .getfield 15, (2, 1, 0)), (40, .iload_n 3, mX), (41, .iastore, mX), (42, .aload_n 0, mX), (43, .getfield 34, (2, 7, 0)), (46, .aload_n 0, mX), (47, .getfield 15, (2, 1, 0)), (50, .iload 4, mX), (52, .iastore, mX), (53, .aload_n 0, mX), (54, .getfield 37, (2, 8, 0)), (57, .aload_n 0, mX), (58, .getfield 15, (2, 1, 0)), (61, .iload 5, mX), (63, .iastore, mX), (64, .aload_n 0, mX), (65, .dup, mX), (66, .getfield 15, (2, 1, 0)), (69, .iconst 1, mX), (70, .iadd, mX), (71, .putfield 15, (2, 1, 0)), (74, .iconst 1, mX), (75, .ireturn, mX)])
noncomputable def mt41 : am_M := (⟨"AssizeRide", "dead", "(II)I"⟩, prog_1_method_11_code, 3, (Option.some FieldType.int), [(0, .aload_n 0, mX), (1, .getfield 19, (0, 1, 0)), (4, .iload_n 1, mX), (5, .invokevirtual 124, (38, 2, 0)), (8, .ifCond .eq 10, mX), (11, .iload_n 2, mX), (12, .invokestatic 127, (39, 1, 0)), (15, .ifCond .ne 6, mX), (18, .bipush (-2), mX), (20, .ireturn, mX), (21, .aload_n 0, mX), (22, .getfield 19, (0, 1, 0)), (25, .iconst 1, mX), (26, .iload_n 1, mX), (27, .iconst 0, mX), (28, .iload_n 2, mX), (29, .aload_n 0, mX), (30, .getfield 85, (0, 10, 0)), (33, .invokevirtual 130, (40, 6, 0)), (36, .ifCond .eq 13, mX), (39, .aload_n 0, mX), (40, .getfield 19, (0, 1, 0)), (43, .getfield 134, (2, 1, 0)), (46, .goto 5, mX), (49, .bipush (-3), mX), (51, .ireturn, mX)])
noncomputable def mt42 : am_M := (⟨"AssizeRide", "kin", "(III)I"⟩, prog_1_method_12_code, 4, (Option.some FieldType.int), [(0, .aload_n 0, mX), (1, .getfield 19, (0, 1, 0)), (4, .iload_n 1, mX), (5, .invokevirtual 124, (38, 2, 0)), (8, .ifCond .eq 28, mX), (11, .aload_n 0, mX), (12, .getfield 19, (0, 1, 0)), (15, .iload_n 2, mX), (16, .invokevirtual 124, (38, 2, 0)), (19, .ifCond .eq 17, mX), (22, .iload_n 1, mX), (23, .iload_n 2, mX), (24, .if_icmp .eq 12, mX), (27, .iload_n 3, mX), (28, .iconst 0, mX), (29, .iconst 4, mX), (30, .invokestatic 95, (25, 3, 0)), (33, .ifCond .ne 6, mX), (36, .bipush (-2), mX), (38, .ireturn, mX), (39, .aload_n 0, mX), (40, .getfield 19, (0, 1, 0)), (43, .iconst 2, mX), (44, .iload_n 1, mX), (45, .iload_n 2, mX), (46, .invokestatic 137, (43, 2, 0)), (49, .iload_n 3, mX), (50, .aload_n 0, mX), (51, .getfield 85, (0, 10, 0)), (54, .aload_n 0, mX), (55, .getfield 85, (0, 10, 0)), (58, .invokevirtual 130, (40, 6, 0)), (61, .ifCond .ne 6, mX), (64, .bipush (-3), mX), (66, .ireturn, mX), (67, .aload_n 0, mX), (68, .getfield 44, (0, 4, 0)), (71, .iload_n 1, mX), (72, .iload_n 2, mX), (73, .iload_n 3, mX), (74, .aload_n 0, mX), (75, .getfield 85, (0, 10, 0)), (78, .invokevirtual 140, (45, 5, 0)), (81, .ireturn, mX)])
noncomputable def mt43 : am_M := (⟨"AssizeRide$People", "pair", "(II)I"⟩, prog_9_method_6_code, 2, (Option.some FieldType.int), [(0, .iload_n 0, mX), (1, .iload_n 1, mX), (2, .invokestatic 48, (44, 2, 0)), (5, .bipush 120, mX), (7, .imul, mX), (8, .iload_n 0, mX), (9, .iload_n 1, mX), (10, .invokestatic 54, (6, 2, 0)), (13, .iadd, mX), (14, .ireturn, mX)])
noncomputable def mt44 : am_M := (⟨"java/lang/Math", "min", "(II)I"⟩, prog_16_method_69_code, 2, (Option.some FieldType.int), [(0, .iload_n 0, mX), (1, .iload_n 1, mX), (2, .if_icmp .gt 7, mX), (5, .iload_n 0, mX), (6, .goto 4, mX), (9, .iload_n 1, mX), (10, .ireturn, mX)])
noncomputable def mt45 : am_M := (⟨"AssizeRide$Docket", "kinFoundLater", "(IIII)I"⟩, prog_5_method_27_code, 8, (Option.some FieldType.int), [(0, .iconst 0, mX), (1, .istore 5, mX), (3, .iconst 0, mX), (4, .istore 6, mX), (6, .iload 6, mX), (8, .aload_n 0, mX), (9, .getfield 9, (5, 2, 0)), (12, .if_icmp .ge 74, mX), (15, .iload_n 3, mX), (16, .ifCond .le 70, mX), (19, .aload_n 0, mX), (20, .iload 6, mX), (22, .invokevirtual 84, (46, 2, 0)), (25, .astore 7, mX), (27, .aload 7, mX), (29, .ifnull 51, mX), (32, .aload 7, mX), (34, .iload_n 1, mX), (35, .iload_n 2, mX), (36, .invokestatic 254, (47, 3, 0)), (39, .ifCond .eq 41, mX), (42, .iload_n 3, mX), (43, .aload_n 0, mX), (44, .aload 7, mX), (46, .bipush 9, mX), (48, .invokevirtual 188, (51, 3, 0)), (51, .if_icmp .gt 29, mX), (54, .aload_n 0, mX), (55, .aload 7, mX), (57, .bipush 13, mX), (59, .invokevirtual 188, (51, 3, 0)), (62, .iconst 1, mX), (63, .if_icmp .ne 17, mX), (66, .aload_n 0, mX), (67, .iload 6, mX), (69, .aload 7, mX), (71, .iload 4, mX), (73, .invokevirtual 258, (58, 4, 0)), (76, .pop, mX), (77, .iinc 5 1, mX), (80, .iinc 6 1, mX), (83, .goto (-77), mX), (86, .iload 5, mX), (88, .ireturn, mX)])
noncomputable def mt46 : am_M := (⟨"AssizeRide$Docket", "find", "(I)LAssizeRide$Matter;"⟩, prog_5_method_2_code, 2, (Option.some (FieldType.object "AssizeRide$Matter")), [(0, .iload_n 1, mX), (1, .ifCond .lt 20, mX), (4, .iload_n 1, mX), (5, .aload_n 0, mX), (6, .getfield 9, (5, 2, 0)), (9, .if_icmp .ge 12, mX), (12, .aload_n 0, mX), (13, .getfield 20, (5, 4, 0)), (16, .iload_n 1, mX), (17, .aaload, mX), (18, .goto 4, mX), (21, .aconst_null, mX), (22, .areturn, mX)])
noncomputable def mt47 : am_M := (⟨"AssizeRide$Docket", "isJurorAndParty", "(LAssizeRide$Matter;II)Z"⟩, prog_5_method_28_code, 3, (Option.some FieldType.boolean), [(0, .aload_n 0, mX), (1, .getfield 99, (11, 7, 0)), (4, .iconst 3, mX), (5, .if_icmp .eq 11, mX), (8, .aload_n 0, mX), (9, .getfield 99, (11, 7, 0)), (12, .iconst 5, mX), (13, .if_icmp .ne 47, mX), (16, .aload_n 0, mX), (17, .getfield 230, (11, 19, 0)), (20, .iload_n 1, mX), (21, .i2l, mX), (22, .invokevirtual 206, (48, 2, 0)), (25, .ifCond .eq 11, mX), (28, .aload_n 0, mX), (29, .iload_n 2, mX), (30, .invokevirtual 199, (50, 2, 0)), (33, .ifCond .ne 23, mX), (36, .aload_n 0, mX), (37, .getfield 230, (11, 19, 0)), (40, .iload_n 2, mX), (41, .i2l, mX), (42, .invokevirtual 206, (48, 2, 0)), (45, .ifCond .eq 15, mX), (48, .aload_n 0, mX), (49, .iload_n 1, mX), (50, .invokevirtual 199, (50, 2, 0)), (53, .ifCond .eq 7, mX), (56, .iconst 1, mX), (57, .goto 4, mX), (60, .iconst 0, mX), (61, .ireturn, mX)])
noncomputable def mt48 : am_M := (⟨"AssizeRide$Row", "has", "(J)Z"⟩, prog_11_method_5_code, 3, (Option.some FieldType.boolean), [(0, .aload_n 0, mX), (1, .lload_n 1, mX), (2, .invokevirtual 39, (49, 2, 0)), (5, .iconst (-1), mX), (6, .if_icmp .eq 7, mX), (9, .iconst 1, mX), (10, .goto 4, mX), (13, .iconst 0, mX), (14, .ireturn, mX)])
noncomputable def mt49 : am_M := (⟨"AssizeRide$Row", "find", "(J)I"⟩, prog_11_method_4_code, 4, (Option.some FieldType.int), [(0, .iconst 0, mX), (1, .istore_n 3, mX), (2, .iload_n 3, mX), (3, .aload_n 0, mX), (4, .getfield 9, (6, 2, 0)), (7, .if_icmp .ge 22, mX), (10, .aload_n 0, mX), (11, .getfield 25, (6, 0, 0)), (14, .iload_n 3, mX), (15, .laload, mX), (16, .lload_n 1, mX), (17, .lcmp, mX), (18, .ifCond .ne 5, mX), (21, .iload_n 3, mX), (22, .ireturn, mX), (23, .iinc 3 1, mX), (26, .goto (-24), mX), (29, .iconst (-1), mX), (30, .ireturn, mX)])
noncomputable def mt50 : am_M := (⟨"AssizeRide$Matter", "isParty", "(I)Z"⟩, prog_8_method_9_code, 2, (Option.some FieldType.boolean), [(0, .iload_n 1, mX), (1, .aload_n 0, mX), (2, .getfield 68, (11, 2, 0)), (5, .if_icmp .eq 11, mX), (8, .iload_n 1, mX), (9, .aload_n 0, mX), (10, .getfield 65, (11, 1, 0)), (13, .if_icmp .ne 7, mX), (16, .iconst 1, mX), (17, .goto 4, mX), (20, .iconst 0, mX), (21, .ireturn, mX)])
noncomputable def mt51 : am_M := (⟨"AssizeRide$Docket", "lawOf", "(LAssizeRide$Matter;I)I"⟩, prog_5_method_7_code, 3, (Option.some FieldType.int), [(0, .aload_n 0, mX), (1, .getfield 76, (5, 0, 0)), (4, .iload_n 2, mX), (5, .iload_n 2, mX), (6, .bipush 7, mX), (8, .if_icmp .ge 10, mX), (11, .aload_n 1, mX), (12, .getfield 104, (11, 0, 0)), (15, .goto 4, mX), (18, .lconst 0, mX), (19, .aload_n 1, mX), (20, .getfield 110, (11, 5, 0)), (23, .aload_n 1, mX), (24, .getfield 113, (11, 3, 0)), (27, .invokevirtual 116, (52, 5, 0)), (30, .ireturn, mX)])
noncomputable def mt52 : am_M := (⟨"AssizeRide$Law", "numberInForce", "(IJII)I"⟩, prog_7_method_16_code, 7, (Option.some FieldType.int), [(0, .aload_n 0, mX), (1, .iload_n 1, mX), (2, .lload_n 2, mX), (3, .iload 4, mX), (5, .iload 5, mX), (7, .invokevirtual 79, (53, 5, 0)), (10, .istore 6, mX), (12, .iload 6, mX), (14, .iconst (-1), mX), (15, .if_icmp .eq 11, mX), (18, .aload_n 0, mX), (19, .getfield 37, (3, 7, 0)), (22, .iload 6, mX), (24, .iaload, mX), (25, .ireturn, mX), (26, .iload_n 1, mX), (27, .ifCond .lt 17, mX), (30, .iload_n 1, mX), (31, .bipush 13, mX), (33, .if_icmp .gt 11, mX), (36, .getstatic 83, mX), (39, .iload_n 1, mX), (40, .iaload, mX), (41, .goto 4, mX), (44, .iconst (-1), mX), (45, .ireturn, mX)])
noncomputable def mt53 : am_M := (⟨"AssizeRide$Law", "clauseInForce", "(IJII)I"⟩, prog_7_method_14_code, 9, (Option.some FieldType.int), [(0, .aload_n 0, mX), (1, .iload 4, mX), (3, .iload 5, mX), (5, .invokevirtual 71, (54, 3, 0)), (8, .istore 6, mX), (10, .aload_n 0, mX), (11, .getfield 13, (3, 0, 0)), (14, .iconst 1, mX), (15, .isub, mX), (16, .istore 7, mX), (18, .iload 7, mX), (20, .ifCond .lt 30, mX), (23, .aload_n 0, mX), (24, .iload 7, mX), (26, .iload_n 1, mX), (27, .lload_n 2, mX), (28, .iload 6, mX), (30, .invokevirtual 75, (55, 5, 0)), (33, .istore 8, mX), (35, .iload 8, mX), (37, .iconst (-1), mX), (38, .if_icmp .eq 6, mX), (41, .iload 8, mX), (43, .ireturn, mX), (44, .iinc 7 (-1), mX), (47, .goto (-29), mX), (50, .iconst (-1), mX), (51, .ireturn, mX)])
noncomputable def mt54 : am_M := (⟨"AssizeRide$Law", "actsBegun", "(II)I"⟩, prog_7_method_11_code, 5, (Option.some FieldType.int), [(0, .iconst 0, mX), (1, .istore_n 3, mX), (2, .iconst 0, mX), (3, .istore 4, mX), (5, .iload 4, mX), (7, .aload_n 0, mX), (8, .getfield 13, (3, 0, 0)), (11, .if_icmp .ge 42, mX), (14, .aload_n 0, mX), (15, .getfield 17, (3, 1, 0)), (18, .iload 4, mX), (20, .iaload, mX), (21, .iload_n 1, mX), (22, .if_icmp .gt 25, mX), (25, .aload_n 0, mX), (26, .getfield 21, (3, 2, 0)), (29, .iload 4, mX), (31, .iaload, mX), (32, .iload_n 2, mX), (33, .ishr, mX), (34, .iconst 1, mX), (35, .iand, mX), (36, .iconst 1, mX), (37, .if_icmp .ne 10, mX), (40, .iload_n 3, mX), (41, .iconst 1, mX), (42, .iload 4, mX), (44, .ishl, mX), (45, .ior, mX), (46, .istore_n 3, mX), (47, .iinc 4 1, mX), (50, .goto (-45), mX), (53, .iload_n 3, mX), (54, .ireturn, mX)])
noncomputable def mt55 : am_M := (⟨"AssizeRide$Law", "clauseHolding", "(IIJI)I"⟩, prog_7_method_13_code, 7, (Option.some FieldType.int), [(0, .iload 5, mX), (2, .iload_n 1, mX), (3, .ishr, mX), (4, .iconst 1, mX), (5, .iand, mX), (6, .ifCond .ne 5, mX), (9, .iconst (-1), mX), (10, .ireturn, mX), (11, .aload_n 0, mX), (12, .aload_n 0, mX), (13, .getfield 24, (3, 3, 0)), (16, .iload_n 1, mX), (17, .iaload, mX), (18, .aload_n 0, mX), (19, .getfield 24, (3, 3, 0)), (22, .iload_n 1, mX), (23, .iconst 1, mX), (24, .iadd, mX), (25, .iaload, mX), (26, .iload_n 2, mX), (27, .lload_n 3, mX), (28, .invokevirtual 56, (56, 5, 0)), (31, .istore 6, mX), (33, .iload 6, mX), (35, .iconst (-1), mX), (36, .if_icmp .eq 14, mX), (39, .aload_n 0, mX), (40, .iload_n 1, mX), (41, .lload_n 3, mX), (42, .iload 5, mX), (44, .invokevirtual 67, (57, 4, 0)), (47, .ifCond .eq 7, mX), (50, .iconst (-1), mX), (51, .goto 5, mX), (54, .iload 6, mX), (56, .ireturn, mX)])
noncomputable def mt56 : am_M := (⟨"AssizeRide$Law", "clauseAmong", "(IIIJ)I"⟩, prog_7_method_10_code, 7, (Option.some FieldType.int), [(0, .iload_n 1, mX), (1, .istore 6, mX), (3, .iload 6, mX), (5, .iload_n 2, mX), (6, .if_icmp .ge 36, mX), (9, .aload_n 0, mX), (10, .getfield 30, (3, 5, 0)), (13, .iload 6, mX), (15, .iaload, mX), (16, .iload_n 3, mX), (17, .if_icmp .ne 19, mX), (20, .aload_n 0, mX), (21, .getfield 33, (3, 6, 0)), (24, .iload 6, mX), (26, .laload, mX), (27, .lload 4, mX), (29, .lcmp, mX), (30, .ifCond .ne 6, mX), (33, .iload 6, mX), (35, .ireturn, mX), (36, .iinc 6 1, mX), (39, .goto (-36), mX), (42, .iconst (-1), mX), (43, .ireturn, mX)])
noncomputable def mt57 : am_M := (⟨"AssizeRide$Law", "isStruck", "(IJI)Z"⟩, prog_7_method_12_code, 6, (Option.some FieldType.boolean), [(0, .aload_n 0, mX), (1, .getfield 24, (3, 3, 0)), (4, .iload_n 1, mX), (5, .iconst 1, mX), (6, .iadd, mX), (7, .iaload, mX), (8, .istore 5, mX), (10, .iload 5, mX), (12, .aload_n 0, mX), (13, .getfield 24, (3, 3, 0)), (16, .aload_n 0, mX), (17, .getfield 13, (3, 0, 0)), (20, .iaload, mX), (21, .if_icmp .ge 74, mX), (24, .aload_n 0, mX), (25, .getfield 30, (3, 5, 0)), (28, .iload 5, mX), (30, .iaload, mX), (31, .bipush 14, mX), (33, .if_icmp .ne 56, mX), (36, .aload_n 0, mX), (37, .getfield 37, (3, 7, 0)), (40, .iload 5, mX), (42, .iaload, mX), (43, .iload_n 1, mX), (44, .if_icmp .ne 45, mX), (47, .aload_n 0, mX), (48, .getfield 33, (3, 6, 0)), (51, .iload 5, mX), (53, .laload, mX), (54, .lconst 0, mX), (55, .lcmp, mX), (56, .ifCond .eq 15, mX), (59, .aload_n 0, mX), (60, .getfield 33, (3, 6, 0)), (63, .iload 5, mX), (65, .laload, mX), (66, .lload_n 2, mX), (67, .lcmp, mX), (68, .ifCond .ne 21, mX), (71, .iload 4, mX), (73, .aload_n 0, mX), (74, .getfield 40, (3, 8, 0)), (77, .iload 5, mX), (79, .iaload, mX), (80, .ishr, mX), (81, .iconst 1, mX), (82, .iand, mX), (83, .iconst 1, mX), (84, .if_icmp .ne 5, mX), (87, .iconst 1, mX), (88, .ireturn, mX), (89, .iinc 5 1, mX), (92, .goto (-82), mX), (95, .iconst 0, mX), (96, .ireturn, mX)])
noncomputable def mt58 : am_M := (⟨"AssizeRide$Docket", "beginAgain", "(ILAssizeRide$Matter;I)I"⟩, prog_5_method_38_code, 4, (Option.some FieldType.int), [(0, .aload_n 2, mX), (1, .getfield 99, (11, 7, 0)), (4, .bipush 6, mX), (6, .if_icmp .ne 12, mX), (9, .aload_n 0, mX), (10, .aload_n 2, mX), (11, .getfield 217, (11, 2, 0)), (14, .iconst 0, mX), (15, .invokevirtual 288, (59, 3, 0)), (18, .aload_n 0, mX), (19, .dup, mX), (20, .getfield 15, (5, 3, 0)), (23, .aload_n 2, mX), (24, .getfield 275, (11, 9, 0)), (27, .isub, mX), (28, .putfield 15, (5, 3, 0)), (31, .aload_n 2, mX), (32, .iconst 0, mX), (33, .putfield 275, (11, 9, 0)), (36, .aload_n 2, mX), (37, .iconst 0, mX), (38, .putfield 272, (11, 8, 0)), (41, .aload_n 2, mX), (42, .iconst (-1), mX), (43, .putfield 236, (11, 11, 0)), (46, .aload_n 2, mX), (47, .iconst 0, mX), (48, .putfield 285, (11, 12, 0)), (51, .aload_n 2, mX), (52, .getfield 262, (11, 17, 0)), (55, .invokevirtual 181, (60, 1, 0)), (58, .aload_n 2, mX), (59, .getfield 230, (11, 19, 0)), (62, .invokevirtual 181, (60, 1, 0)), (65, .aload_n 2, mX), (66, .getfield 233, (11, 20, 0)), (69, .invokevirtual 181, (60, 1, 0)), (72, .aload_n 0, mX), (73, .iload_n 1, mX), (74, .aload_n 2, mX), (75, .invokevirtual 298, (61, 1, 0)), (78, .iload_n 3, mX), (79, .invokevirtual 278, (63, 4, 0)), (82, .ireturn, mX)])
noncomputable def mt59 : am_M := (⟨"AssizeRide$Docket", "setBenefit", "(IZ)V"⟩, prog_5_method_35_code, 3, (Option.none : Option FieldType), [(0, .iload_n 1, mX), (1, .ifCond .lt 19, mX), (4, .iload_n 1, mX), (5, .aload_n 0, mX), (6, .getfield 26, (5, 5, 0)), (9, .arraylength, mX), (10, .if_icmp .ge 10, mX), (13, .aload_n 0, mX), (14, .getfield 26, (5, 5, 0)), (17, .iload_n 1, mX), (18, .iload_n 2, mX), (19, .bastore, mX), (20, .return_, mX)])
noncomputable def mt60 : am_M := (⟨"AssizeRide$Row", "clear", "()V"⟩, prog_11_method_8_code, 1, (Option.none : Option FieldType), [(0, .aload_n 0, mX), (1, .iconst 0, mX), (2, .putfield 9, (6, 2, 0)), (5, .aload_n 0, mX), (6, .iconst 0, mX), (7, .putfield 15, (6, 3, 0)), (10, .return_, mX)])
noncomputable def mt61 : am_M := (⟨"AssizeRide$Matter", "stateBeforeJury", "()I"⟩, prog_8_method_4_code, 1, (Option.some FieldType.int), [(0, .aload_n 0, mX), (1, .invokevirtual 83, (62, 1, 0)), (4, .ifCond .eq 7, mX), (7, .iconst 0, mX), (8, .goto 4, mX), (11, .iconst 2, mX), (12, .ireturn, mX)])
noncomputable def mt62 : am_M := (⟨"AssizeRide$Matter", "isPlea", "()Z"⟩, prog_8_method_2_code, 1, (Option.some FieldType.boolean), [(0, .aload_n 0, mX), (1, .getfield 65, (11, 1, 0)), (4, .iconst (-1), mX), (5, .if_icmp .eq 7, mX), (8, .iconst 1, mX), (9, .goto 4, mX), (12, .iconst 0, mX), (13, .ireturn, mX)])
noncomputable def mt63 : am_M := (⟨"AssizeRide$Docket", "change", "(III)I"⟩, prog_5_method_9_code, 5, (Option.some FieldType.int), [(0, .aload_n 0, mX), (1, .iload_n 1, mX), (2, .invokevirtual 84, (46, 2, 0)), (5, .astore 4, mX), (7, .aload 4, mX), (9, .ifnull 17, mX), (12, .aload 4, mX), (14, .iload_n 2, mX), (15, .putfield 99, (11, 7, 0)), (18, .aload_n 0, mX), (19, .iload_n 1, mX), (20, .iload_n 2, mX), (21, .iload_n 3, mX), (22, .iload_n 3, mX), (23, .invokevirtual 95, (64, 5, 0)), (26, .iload_n 2, mX), (27, .ireturn, mX)])
noncomputable def mt64 : am_M := (⟨"AssizeRide$Docket", "log", "(IIII)V"⟩, prog_5_method_8_code, 5, (Option.none : Option FieldType), [(0, .aload_n 0, mX), (1, .getfield 56, (5, 14, 0)), (4, .sipush 1024, mX), (7, .if_icmp .ge 54, mX), (10, .aload_n 0, mX), (11, .getfield 44, (5, 10, 0)), (14, .aload_n 0, mX), (15, .getfield 56, (5, 14, 0)), (18, .iload_n 1, mX), (19, .iastore, mX), (20, .aload_n 0, mX), (21, .getfield 47, (5, 11, 0)), (24, .aload_n 0, mX), (25, .getfield 56, (5, 14, 0)), (28, .iload_n 2, mX), (29, .iastore, mX), (30, .aload_n 0, mX), (31, .getfield 50, (5, 12, 0)), (34, .aload_n 0, mX), (35, .getfield 56, (5, 14, 0)), (38, .iload_n 3, mX), (39, .iastore, mX), (40, .aload_n 0, mX), (41, .getfield 53, (5, 13, 0)), (44, .aload_n 0, mX), (45, .getfield 56, (5, 14, 0)), (48, .iload 4, mX), (50, .iastore, mX), (51, .aload_n 0, mX), (52, .dup, mX), (53, .getfield 56, (5, 14, 0)), (56, .iconst 1, mX), (57, .iadd, mX), (58, .putfield 56, (5, 14, 0)), (61, .return_, mX)])
noncomputable def mt65 : am_M := (⟨"AssizeRide", "landOn", "(III)I"⟩, prog_1_method_13_code, 4, (Option.some FieldType.int), [(0, .aload_n 0, mX), (1, .getfield 19, (0, 1, 0)), (4, .iload_n 1, mX), (5, .invokevirtual 124, (38, 2, 0)), (8, .ifCond .eq 17, mX), (11, .iload_n 2, mX), (12, .invokestatic 127, (39, 1, 0)), (15, .ifCond .eq 10, mX), (18, .iload_n 3, mX), (19, .invokestatic 127, (39, 1, 0)), (22, .ifCond .ne 6, mX), (25, .bipush (-2), mX), (27, .ireturn, mX), (28, .aload_n 0, mX), (29, .getfield 19, (0, 1, 0)), (32, .iload_n 1, mX), (33, .iload_n 2, mX), (34, .iload_n 3, mX), (35, .invokevirtual 144, (66, 4, 0)), (38, .ireturn, mX)])
noncomputable def mt66 : am_M := (⟨"AssizeRide$People", "landOf", "(III)I"⟩, prog_9_method_9_code, 7, (Option.some FieldType.int), [(0, .iconst 0, mX), (1, .istore 4, mX), (3, .iconst (-1), mX), (4, .istore 5, mX), (6, .iconst 0, mX), (7, .istore 6, mX), (9, .iload 6, mX), (11, .aload_n 0, mX), (12, .getfield 15, (2, 1, 0)), (15, .if_icmp .ge 55, mX), (18, .aload_n 0, mX), (19, .iload 6, mX), (21, .iconst 0, mX), (22, .iload_n 1, mX), (23, .iload_n 3, mX), (24, .invokevirtual 57, (34, 5, 0)), (27, .ifCond .eq 37, mX), (30, .aload_n 0, mX), (31, .getfield 34, (2, 7, 0)), (34, .iload 6, mX), (36, .iaload, mX), (37, .iload 5, mX), (39, .iload_n 2, mX), (40, .invokestatic 40, (25, 3, 0)), (43, .ifCond .eq 21, mX), (46, .aload_n 0, mX), (47, .getfield 34, (2, 7, 0)), (50, .iload 6, mX), (52, .iaload, mX), (53, .istore 5, mX), (55, .aload_n 0, mX), (56, .getfield 31, (2, 6, 0)), (59, .iload 6, mX), (61, .iaload, mX), (62, .istore 4, mX), (64, .iinc 6 1, mX), (67, .goto (-58), mX), (70, .iload 4, mX), (72, .ireturn, mX)])
noncomputable def mt67 : am_M := (⟨"AssizeRide", "deadOn", "(III)I"⟩, prog_1_method_14_code, 4, (Option.some FieldType.int), [(0, .aload_n 0, mX), (1, .getfield 19, (0, 1, 0)), (4, .iload_n 1, mX), (5, .invokevirtual 124, (38, 2, 0)), (8, .ifCond .eq 17, mX), (11, .iload_n 2, mX), (12, .invokestatic 127, (39, 1, 0)), (15, .ifCond .eq 10, mX), (18, .iload_n 3, mX), (19, .invokestatic 127, (39, 1, 0)), (22, .ifCond .ne 6, mX), (25, .bipush (-2), mX), (27, .ireturn, mX), (28, .aload_n 0, mX), (29, .getfield 19, (0, 1, 0)), (32, .iload_n 1, mX), (33, .iload_n 2, mX), (34, .iload_n 3, mX), (35, .invokevirtual 147, (33, 4, 0)), (38, .ifCond .eq 7, mX), (41, .iconst 1, mX), (42, .goto 4, mX), (45, .iconst 0, mX), (46, .ireturn, mX)])
noncomputable def mt68 : am_M := (⟨"AssizeRide", "kinOn", "(III)I"⟩, prog_1_method_15_code, 4, (Option.some FieldType.int), [(0, .aload_n 0, mX), (1, .getfield 19, (0, 1, 0)), (4, .iload_n 1, mX), (5, .invokevirtual 124, (38, 2, 0)), (8, .ifCond .eq 26, mX), (11, .aload_n 0, mX), (12, .getfield 19, (0, 1, 0)), (15, .iload_n 2, mX), (16, .invokevirtual 124, (38, 2, 0)), (19, .ifCond .eq 15, mX), (22, .iload_n 1, mX), (23, .iload_n 2, mX), (24, .if_icmp .eq 10, mX), (27, .iload_n 3, mX), (28, .invokestatic 127, (39, 1, 0)), (31, .ifCond .ne 6, mX), (34, .bipush (-2), mX), (36, .ireturn, mX), (37, .aload_n 0, mX), (38, .getfield 19, (0, 1, 0)), (41, .iload_n 1, mX), (42, .iload_n 2, mX), (43, .iload_n 3, mX), (44, .invokevirtual 150, (69, 4, 0)), (47, .ireturn, mX)])
noncomputable def mt69 : am_M := (⟨"AssizeRide$People", "kinOf", "(III)I"⟩, prog_9_method_11_code, 6, (Option.some FieldType.int), [(0, .iload_n 1, mX), (1, .iload_n 2, mX), (2, .invokestatic 61, (43, 2, 0)), (5, .istore 4, mX), (7, .aload_n 0, mX), (8, .getfield 15, (2, 1, 0)), (11, .iconst 1, mX), (12, .isub, mX), (13, .istore 5, mX), (15, .iload 5, mX), (17, .ifCond .lt 30, mX), (20, .aload_n 0, mX), (21, .iload 5, mX), (23, .iconst 2, mX), (24, .iload 4, mX), (26, .iload_n 3, mX), (27, .invokevirtual 57, (34, 5, 0)), (30, .ifCond .eq 11, mX), (33, .aload_n 0, mX), (34, .getfield 31, (2, 6, 0)), (37, .iload 5, mX), (39, .iaload, mX), (40, .ireturn, mX), (41, .iinc 5 (-1), mX), (44, .goto (-29), mX), (47, .iconst 0, mX), (48, .ireturn, mX)])
noncomputable def mt70 : am_M := (⟨"AssizeRide", "act", "(II)I"⟩, prog_1_method_16_code, 3, (Option.some FieldType.int), [(0, .aload_n 0, mX), (1, .getfield 10, mX), (4, .invokevirtual 153, (71, 1, 0)), (7, .iload_n 1, mX), (8, .invokestatic 127, (39, 1, 0)), (11, .ifCond .eq 24, mX), (14, .iload_n 2, mX), (15, .iconst 1, mX), (16, .bipush 63, mX), (18, .invokestatic 95, (25, 3, 0)), (21, .ifCond .eq 14, mX), (24, .iload_n 1, mX), (25, .aload_n 0, mX), (26, .getfield 26, (0, 2, 0)), (29, .invokevirtual 156, (76, 1, 0)), (32, .if_icmp .ge 6, mX), (35, .bipush (-2), mX), (37, .ireturn, mX), (38, .aload_n 0, mX), (39, .getfield 35, (0, 3, 0)), (42, .invokevirtual 160, (77, 1, 0)), (45, .ifCond .ne 12, mX), (48, .aload_n 0, mX), (49, .getfield 26, (0, 2, 0)), (52, .invokevirtual 164, (106, 1, 0)), (55, .iconst (-1), mX), (56, .ireturn, mX), (57, .aload_n 0, mX), (58, .getfield 26, (0, 2, 0)), (61, .iload_n 1, mX), (62, .iload_n 2, mX), (63, .invokevirtual 167, (107, 3, 0)), (66, .ireturn, mX)])
noncomputable def mt71 : am_M := (⟨"AssizeRide$Tape", "takeTokens", "()V"⟩, prog_12_method_5_code, 4, (Option.none : Option FieldType), [(0, .aload_n 0, mX), (1, .aload_n 0, mX), (2, .invokevirtual 33, (72, 1, 0)), (5, .putfield 30, (1, 6, 0)), (8, .aload_n 0, mX), (9, .iconst 0, mX), (10, .putfield 27, (1, 5, 0)), (13, .iconst 4, mX), (14, .istore_n 1, mX), (15, .iconst 0, mX), (16, .istore_n 2, mX), (17, .iload_n 2, mX), (18, .aload_n 0, mX), (19, .getfield 30, (1, 6, 0)), (22, .if_icmp .ge 98, mX), (25, .aload_n 0, mX), (26, .getfield 9, (1, 0, 0)), (29, .iload_n 2, mX), (30, .iaload, mX), (31, .invokestatic 37, (73, 1, 0)), (34, .istore_n 3, mX), (35, .iload_n 3, mX), (36, .iload_n 1, mX), (37, .if_icmp .ne 21, mX), (40, .iload_n 3, mX), (41, .iconst 1, mX), (42, .if_icmp .eq 8, mX), (45, .iload_n 3, mX), (46, .iconst 2, mX), (47, .if_icmp .ne 11, mX), (50, .aload_n 0, mX), (51, .iload_n 2, mX), (52, .invokevirtual 41, (74, 2, 0)), (55, .goto 57, mX), (58, .iload_n 3, mX), (59, .iconst 4, mX), (60, .if_icmp .eq 52, mX), (63, .aload_n 0, mX), (64, .getfield 17, (1, 2, 0)), (67, .aload_n 0, mX), (68, .getfield 27, (1, 5, 0)), (71, .iload_n 3, mX), (72, .iastore, mX), (73, .aload_n 0, mX), (74, .getfield 20, (1, 3, 0)), (77, .aload_n 0, mX), (78, .getfield 27, (1, 5, 0)), (81, .iload_n 2, mX), (82, .iastore, mX), (83, .aload_n 0, mX), (84, .getfield 23, (1, 4, 0)), (87, .aload_n 0, mX), (88, .getfield 27, (1, 5, 0)), (91, .aload_n 0, mX), (92, .getfield 9, (1, 0, 0)), (95, .iload_n 2, mX), (96, .iaload, mX), (97, .invokestatic 45, (75, 1, 0)), (100, .i2l, mX), (101, .lastore, mX), (102, .aload_n 0, mX), (103, .dup, mX), (104, .getfield 27, (1, 5, 0)), (107, .iconst 1, mX), (108, .iadd, mX), (109, .putfield 27, (1, 5, 0)), (112, .iload_n 3, mX), (113, .istore_n 1, mX), (114, .iinc 2 1, mX), (117, .goto (-100), mX), (120, .return_, mX)])
noncomputable def mt72 : am_M := (⟨"AssizeRide$Tape", "takeBytes", "()I"⟩, prog_12_method_4_code, 2, (Option.some FieldType.int), [(0, .aload_n 0, mX), (1, .getfield 13, (1, 1, 0)), (4, .istore_n 1, mX), (5, .aload_n 0, mX), (6, .iconst 0, mX), (7, .putfield 13, (1, 1, 0)), (10, .iload_n 1, mX), (11, .ireturn, mX)])
noncomputable def mt73 : am_M := (⟨"AssizeRide$Tape", "kindOfByte", "(I)I"⟩, prog_12_method_6_code, 1, (Option.some FieldType.int), [(0, .iload_n 0, mX), (1, .bipush 97, mX), (3, .bipush 122, mX), (5, .invokestatic 48, (25, 3, 0)), (8, .ifCond .eq 5, mX), (11, .iconst 1, mX), (12, .ireturn, mX), (13, .iload_n 0, mX), (14, .bipush 48, mX), (16, .bipush 57, mX), (18, .invokestatic 48, (25, 3, 0)), (21, .ifCond .eq 5, mX), (24, .iconst 2, mX), (25, .ireturn, mX), (26, .iload_n 0, mX), (27, .bipush 32, mX), (29, .if_icmp .eq 9, mX), (32, .iload_n 0, mX), (33, .bipush 10, mX), (35, .if_icmp .ne 5, mX), (38, .iconst 4, mX), (39, .ireturn, mX), (40, .iload_n 0, mX), (41, .bipush 59, mX), (43, .if_icmp .eq 27, mX), (46, .iload_n 0, mX), (47, .bipush 61, mX), (49, .if_icmp .eq 21, mX), (52, .iload_n 0, mX), (53, .bipush 40, mX), (55, .if_icmp .eq 15, mX), (58, .iload_n 0, mX), (59, .bipush 41, mX), (61, .if_icmp .eq 9, mX), (64, .iload_n 0, mX), (65, .bipush 43, mX), (67, .if_icmp .ne 7, mX), (70, .iload_n 0, mX), (71, .goto 4, mX), (74, .iconst 3, mX), (75, .ireturn, mX)])
noncomputable def mt74 : am_M := (⟨"AssizeRide$Tape", "growToken", "(I)V"⟩, prog_12_method_8_code, 4, (Option.none : Option FieldType), [(0, .aload_n 0, mX), (1, .getfield 27, (1, 5, 0)), (4, .iconst 1, mX), (5, .isub, mX), (6, .istore_n 2, mX), (7, .iload_n 2, mX), (8, .ifCond .lt 13, mX), (11, .aload_n 0, mX), (12, .getfield 17, (1, 2, 0)), (15, .iload_n 2, mX), (16, .iaload, mX), (17, .iconst 3, mX), (18, .if_icmp .ne 4, mX), (21, .return_, mX), (22, .iload_n 1, mX), (23, .aload_n 0, mX), (24, .getfield 20, (1, 3, 0)), (27, .iload_n 2, mX), (28, .iaload, mX), (29, .isub, mX), (30, .iconst 1, mX), (31, .iadd, mX), (32, .istore_n 3, mX), (33, .iload_n 3, mX), (34, .aload_n 0, mX), (35, .getfield 17, (1, 2, 0)), (38, .iload_n 2, mX), (39, .iaload, mX), (40, .iconst 1, mX), (41, .if_icmp .ne 8, mX), (44, .bipush 12, mX), (46, .goto 4, mX), (49, .iconst 4, mX), (50, .if_icmp .le 11, mX), (53, .aload_n 0, mX), (54, .getfield 17, (1, 2, 0)), (57, .iload_n 2, mX), (58, .iconst 3, mX), (59, .iastore, mX), (60, .return_, mX), (61, .aload_n 0, mX), (62, .getfield 23, (1, 4, 0)), (65, .iload_n 2, mX), (66, .aload_n 0, mX), (67, .getfield 23, (1, 4, 0)), (70, .iload_n 2, mX), (71, .laload, mX), (72, .aload_n 0, mX), (73, .getfield 17, (1, 2, 0)), (76, .iload_n 2, mX), (77, .iaload, mX), (78, .iconst 1, mX), (79, .if_icmp .ne 8, mX), (82, .bipush 32, mX), (84, .goto 5, mX), (87, .bipush 10, mX), (89, .i2l, mX), (90, .lmul, mX), (91, .aload_n 0, mX), (92, .getfield 9, (1, 0, 0)), (95, .iload_n 1, mX), (96, .iaload, mX), (97, .invokestatic 45, (75, 1, 0)), (100, .i2l, mX), (101, .ladd, mX), (102, .lastore, mX), (103, .return_, mX)])
noncomputable def mt75 : am_M := (⟨"AssizeRide$Tape", "valueOfByte", "(I)I"⟩, prog_12_method_7_code, 1, (Option.some FieldType.int), [(0, .iload_n 0, mX), (1, .bipush 97, mX), (3, .bipush 122, mX), (5, .invokestatic 48, (25, 3, 0)), (8, .ifCond .eq 12, mX), (11, .iload_n 0, mX), (12, .bipush 97, mX), (14, .isub, mX), (15, .iconst 1, mX), (16, .iadd, mX), (17, .goto 7, mX), (20, .iload_n 0, mX), (21, .bipush 48, mX), (23, .isub, mX), (24, .ireturn, mX)])
noncomputable def mt76 : am_M := (⟨"AssizeRide$Law", "latestDay", "()I"⟩, prog_7_method_2_code, 1, (Option.some FieldType.int), [(0, .aload_n 0, mX), (1, .getfield 13, (3, 0, 0)), (4, .ifCond .ne 7, mX), (7, .iconst 0, mX), (8, .goto 14, mX), (11, .aload_n 0, mX), (12, .getfield 17, (3, 1, 0)), (15, .aload_n 0, mX), (16, .getfield 13, (3, 0, 0)), (19, .iconst 1, mX), (20, .isub, mX), (21, .iaload, mX), (22, .ireturn, mX)])
noncomputable def mt77 : am_M := (⟨"AssizeRide$ActReader", "readText", "()Z"⟩, prog_2_method_6_code, 2, (Option.some FieldType.boolean), [(0, .aload_n 0, mX), (1, .iconst 0, mX), (2, .putfield 9, (4, 0, 0)), (5, .aload_n 0, mX), (6, .iconst (-1), mX), (7, .putfield 15, (4, 1, 0)), (10, .aload_n 0, mX), (11, .iconst 0, mX), (12, .invokevirtual 111, (78, 2, 0)), (15, .iconst 0, mX), (16, .istore_n 1, mX), (17, .iload_n 1, mX), (18, .sipush 1200, mX), (21, .if_icmp .gt 59, mX), (24, .aload_n 0, mX), (25, .getfield 36, (4, 11, 0)), (28, .ifCond .ne 5, mX), (31, .iconst 1, mX), (32, .ireturn, mX), (33, .aload_n 0, mX), (34, .invokevirtual 115, (82, 1, 0)), (37, .ifCond .eq 10, mX), (40, .aload_n 0, mX), (41, .invokevirtual 119, (88, 1, 0)), (44, .ifCond .ne 5, mX), (47, .iconst 0, mX), (48, .ireturn, mX), (49, .aload_n 0, mX), (50, .getfield 36, (4, 11, 0)), (53, .bipush 59, mX), (55, .if_icmp .eq 9, mX), (58, .aload_n 0, mX), (59, .iconst 1, mX), (60, .invokevirtual 122, (83, 2, 0)), (63, .ireturn, mX), (64, .aload_n 0, mX), (65, .aload_n 0, mX), (66, .getfield 31, (4, 10, 0)), (69, .iconst 1, mX), (70, .iadd, mX), (71, .invokevirtual 111, (78, 2, 0)), (74, .iinc 1 1, mX), (77, .goto (-60), mX), (80, .aload_n 0, mX), (81, .iconst 1, mX), (82, .invokevirtual 122, (83, 2, 0)), (85, .ireturn, mX)])
noncomputable def mt78 : am_M := (⟨"AssizeRide$ActReader", "look", "(I)V"⟩, prog_2_method_4_code, 2, (Option.none : Option FieldType), [(0, .aload_n 0, mX), (1, .iload_n 1, mX), (2, .putfield 31, (4, 10, 0)), (5, .aload_n 0, mX), (6, .aload_n 0, mX), (7, .getfield 55, (4, 2, 0)), (10, .aload_n 0, mX), (11, .getfield 31, (4, 10, 0)), (14, .invokevirtual 96, (79, 2, 0)), (17, .putfield 36, (4, 11, 0)), (20, .aload_n 0, mX), (21, .aload_n 0, mX), (22, .getfield 36, (4, 11, 0)), (25, .iconst 1, mX), (26, .if_icmp .ne 17, mX), (29, .aload_n 0, mX), (30, .getfield 55, (4, 2, 0)), (33, .aload_n 0, mX), (34, .getfield 31, (4, 10, 0)), (37, .invokevirtual 100, (80, 2, 0)), (40, .goto 4, mX), (43, .lconst 0, mX), (44, .putfield 39, (4, 12, 0)), (47, .aload_n 0, mX), (48, .aload_n 0, mX), (49, .getfield 39, (4, 12, 0)), (52, .aload_n 0, mX), (53, .getfield 75, (4, 5, 0)), (56, .invokestatic 104, (81, 2, 0)), (59, .putfield 43, (4, 13, 0)), (62, .return_, mX)])
noncomputable def mt79 : am_M := (⟨"AssizeRide$Tape", "kindAt", "(I)I"⟩, prog_12_method_9_code, 2, (Option.some FieldType.int), [(0, .iload_n 1, mX), (1, .ifCond .lt 20, mX), (4, .iload_n 1, mX), (5, .aload_n 0, mX), (6, .getfield 27, (1, 5, 0)), (9, .if_icmp .ge 12, mX), (12, .aload_n 0, mX), (13, .getfield 17, (1, 2, 0)), (16, .iload_n 1, mX), (17, .iaload, mX), (18, .goto 4, mX), (21, .iconst 0, mX), (22, .ireturn, mX)])
noncomputable def mt80 : am_M := (⟨"AssizeRide$Tape", "valueAt", "(I)J"⟩, prog_12_method_11_code, 2, (Option.some FieldType.long), [(0, .iload_n 1, mX), (1, .ifCond .lt 20, mX), (4, .iload_n 1, mX), (5, .aload_n 0, mX), (6, .getfield 27, (1, 5, 0)), (9, .if_icmp .ge 12, mX), (12, .aload_n 0, mX), (13, .getfield 23, (1, 4, 0)), (16, .iload_n 1, mX), (17, .laload, mX), (18, .goto 4, mX), (21, .lconst 0, mX), (22, .lreturn, mX)])
noncomputable def mt81 : am_M := (⟨"AssizeRide$ActReader", "placeOf", "(J[J)I"⟩, prog_2_method_3_code, 4, (Option.some FieldType.int), [(0, .iconst 0, mX), (1, .istore_n 3, mX), (2, .iload_n 3, mX), (3, .aload_n 2, mX), (4, .arraylength, mX), (5, .if_icmp .ge 19, mX), (8, .aload_n 2, mX), (9, .iload_n 3, mX), (10, .laload, mX), (11, .lload_n 0, mX), (12, .lcmp, mX), (13, .ifCond .ne 5, mX), (16, .iload_n 3, mX), (17, .ireturn, mX), (18, .iinc 3 1, mX), (21, .goto (-19), mX), (24, .iconst (-1), mX), (25, .ireturn, mX)])
noncomputable def mt82 : am_M := (⟨"AssizeRide$ActReader", "readHead", "()Z"⟩, prog_2_method_7_code, 1, (Option.some FieldType.boolean), [(0, .aload_n 0, mX), (1, .aload_n 0, mX), (2, .getfield 39, (4, 12, 0)), (5, .aload_n 0, mX), (6, .getfield 69, (4, 4, 0)), (9, .invokestatic 104, (81, 2, 0)), (12, .putfield 46, (4, 14, 0)), (15, .aload_n 0, mX), (16, .getfield 46, (4, 14, 0)), (19, .iconst (-1), mX), (20, .if_icmp .ne 9, mX), (23, .aload_n 0, mX), (24, .iconst 1, mX), (25, .invokevirtual 122, (83, 2, 0)), (28, .ireturn, mX), (29, .aload_n 0, mX), (30, .aload_n 0, mX), (31, .getfield 46, (4, 14, 0)), (34, .bipush 15, mX), (36, .if_icmp .ne 7, mX), (39, .iconst 4, mX), (40, .goto 21, mX), (43, .aload_n 0, mX), (44, .getfield 46, (4, 14, 0)), (47, .bipush 16, mX), (49, .if_icmp .ne 8, mX), (52, .bipush 13, mX), (54, .goto 7, mX), (57, .aload_n 0, mX), (58, .getfield 46, (4, 14, 0)), (61, .putfield 49, (4, 15, 0)), (64, .aload_n 0, mX), (65, .lconst 0, mX), (66, .putfield 52, (4, 16, 0)), (69, .aload_n 0, mX), (70, .getfield 49, (4, 15, 0)), (73, .bipush 14, mX), (75, .if_icmp .eq 27, mX), (78, .aload_n 0, mX), (79, .getfield 59, (4, 3, 0)), (82, .aload_n 0, mX), (83, .getfield 49, (4, 15, 0)), (86, .aload_n 0, mX), (87, .getfield 52, (4, 16, 0)), (90, .invokevirtual 128, (85, 3, 0)), (93, .ifCond .eq 9, mX), (96, .aload_n 0, mX), (97, .iconst 3, mX), (98, .invokevirtual 122, (83, 2, 0)), (101, .ireturn, mX), (102, .aload_n 0, mX), (103, .getfield 59, (4, 3, 0)), (106, .invokevirtual 132, (86, 1, 0)), (109, .bipush 40, mX), (111, .if_icmp .lt 9, mX), (114, .aload_n 0, mX), (115, .iconst 4, mX), (116, .invokevirtual 122, (83, 2, 0)), (119, .ireturn, mX), (120, .aload_n 0, mX), (121, .aload_n 0, mX), (122, .getfield 31, (4, 10, 0)), (125, .iconst 1, mX), (126, .iadd, mX), (127, .invokevirtual 111, (78, 2, 0)), (130, .aload_n 0, mX), (131, .getfield 49, (4, 15, 0)), (134, .bipush 7, mX), (136, .if_icmp .ge 10, mX), (139, .aload_n 0, mX), (140, .invokevirtual 135, (87, 1, 0)), (143, .ifCond .eq 7, mX), (146, .iconst 1, mX), (147, .goto 4, mX), (150, .iconst 0, mX), (151, .ireturn, mX)])
noncomputable def mt83 : am_M := (⟨"AssizeRide$ActReader", "fail", "(I)Z"⟩, prog_2_method_5_code, 2, (Option.some FieldType.boolean), [(0, .aload_n 0, mX), (1, .iload_n 1, mX), (2, .putfield 9, (4, 0, 0)), (5, .aload_n 0, mX), (6, .aload_n 0, mX), (7, .getfield 55, (4, 2, 0)), (10, .aload_n 0, mX), (11, .getfield 31, (4, 10, 0)), (14, .invokevirtual 108, (84, 2, 0)), (17, .putfield 15, (4, 1, 0)), (20, .iconst 0, mX), (21, .ireturn, mX)])
noncomputable def mt84 : am_M := (⟨"AssizeRide$Tape", "placeAt", "(I)I"⟩, prog_12_method_10_code, 2, (Option.some FieldType.int), [(0, .iload_n 1, mX), (1, .ifCond .lt 20, mX), (4, .iload_n 1, mX), (5, .aload_n 0, mX), (6, .getfield 27, (1, 5, 0)), (9, .if_icmp .ge 12, mX), (12, .aload_n 0, mX), (13, .getfield 20, (1, 3, 0)), (16, .iload_n 1, mX), (17, .iaload, mX), (18, .goto 7, mX), (21, .aload_n 0, mX), (22, .getfield 30, (1, 6, 0)), (25, .ireturn, mX)])
noncomputable def mt85 : am_M := (⟨"AssizeRide$Law", "draftHas", "(IJ)Z"⟩, prog_7_method_5_code, 4, (Option.some FieldType.boolean), [(0, .aload_n 0, mX), (1, .aload_n 0, mX), (2, .getfield 24, (3, 3, 0)), (5, .aload_n 0, mX), (6, .getfield 13, (3, 0, 0)), (9, .iaload, mX), (10, .aload_n 0, mX), (11, .getfield 27, (3, 4, 0)), (14, .iload_n 1, mX), (15, .lload_n 2, mX), (16, .invokevirtual 56, (56, 5, 0)), (19, .iconst (-1), mX), (20, .if_icmp .eq 7, mX), (23, .iconst 1, mX), (24, .goto 4, mX), (27, .iconst 0, mX), (28, .ireturn, mX)])
noncomputable def mt86 : am_M := (⟨"AssizeRide$Law", "draftClauses", "()I"⟩, prog_7_method_4_code, 1, (Option.some FieldType.int), [(0, .aload_n 0, mX), (1, .getfield 27, (3, 4, 0)), (4, .aload_n 0, mX), (5, .getfield 24, (3, 3, 0)), (8, .aload_n 0, mX), (9, .getfield 13, (3, 0, 0)), (12, .iaload, mX), (13, .isub, mX), (14, .ireturn, mX)])
noncomputable def mt87 : am_M := (⟨"AssizeRide$ActReader", "readDeedName", "()Z"⟩, prog_2_method_8_code, 1, (Option.some FieldType.boolean), [(0, .aload_n 0, mX), (1, .aload_n 0, mX), (2, .getfield 39, (4, 12, 0)), (5, .putfield 52, (4, 16, 0)), (8, .aload_n 0, mX), (9, .getfield 36, (4, 11, 0)), (12, .iconst 1, mX), (13, .if_icmp .eq 9, mX), (16, .aload_n 0, mX), (17, .iconst 1, mX), (18, .invokevirtual 122, (83, 2, 0)), (21, .ireturn, mX), (22, .aload_n 0, mX), (23, .getfield 59, (4, 3, 0)), (26, .aload_n 0, mX), (27, .getfield 49, (4, 15, 0)), (30, .aload_n 0, mX), (31, .getfield 52, (4, 16, 0)), (34, .invokevirtual 128, (85, 3, 0)), (37, .ifCond .eq 9, mX), (40, .aload_n 0, mX), (41, .iconst 3, mX), (42, .invokevirtual 122, (83, 2, 0)), (45, .ireturn, mX), (46, .aload_n 0, mX), (47, .aload_n 0, mX), (48, .getfield 31, (4, 10, 0)), (51, .iconst 1, mX), (52, .iadd, mX), (53, .invokevirtual 111, (78, 2, 0)), (56, .iconst 1, mX), (57, .ireturn, mX)])
noncomputable def mt88 : am_M := (⟨"AssizeRide$ActReader", "readBody", "()Z"⟩, prog_2_method_9_code, 1, (Option.some FieldType.boolean), [(0, .aload_n 0, mX), (1, .getfield 49, (4, 15, 0)), (4, .tableswitch 131 0 14 #[76, 81, 91, 131, 91, 91, 91, 131, 131, 131, 131, 131, 131, 91, 86], (76, 0, 0)), (80, .aload_n 0, mX), (81, .invokevirtual 138, (89, 1, 0)), (84, .ireturn, mX), (85, .aload_n 0, mX), (86, .invokevirtual 141, (103, 1, 0)), (89, .ireturn, mX), (90, .aload_n 0, mX), (91, .invokevirtual 144, (104, 1, 0)), (94, .ireturn, mX), (95, .aload_n 0, mX), (96, .getfield 59, (4, 3, 0)), (99, .aload_n 0, mX), (100, .getfield 49, (4, 15, 0)), (103, .aload_n 0, mX), (104, .getfield 52, (4, 16, 0)), (107, .aload_n 0, mX), (108, .getfield 46, (4, 14, 0)), (111, .bipush 15, mX), (113, .if_icmp .eq 12, mX), (116, .aload_n 0, mX), (117, .getfield 46, (4, 14, 0)), (120, .bipush 16, mX), (122, .if_icmp .ne 7, mX), (125, .iconst 0, mX), (126, .goto 4, mX), (129, .iconst 1, mX), (130, .invokevirtual 147, (102, 4, 0)), (133, .iconst 1, mX), (134, .ireturn, mX), (135, .aload_n 0, mX), (136, .invokevirtual 151, (105, 1, 0)), (139, .ireturn, mX)])
noncomputable def mt89 : am_M := (⟨"AssizeRide$ActReader", "readDeed", "()Z"⟩, prog_2_method_13_code, 3, (Option.some FieldType.boolean), [(0, .aload_n 0, mX), (1, .getfield 36, (4, 11, 0)), (4, .bipush 61, mX), (6, .if_icmp .eq 9, mX), (9, .aload_n 0, mX), (10, .iconst 1, mX), (11, .invokevirtual 122, (83, 2, 0)), (14, .ireturn, mX), (15, .aload_n 0, mX), (16, .aload_n 0, mX), (17, .getfield 31, (4, 10, 0)), (20, .iconst 1, mX), (21, .iadd, mX), (22, .invokevirtual 111, (78, 2, 0)), (25, .aload_n 0, mX), (26, .iconst 0, mX), (27, .putfield 22, (4, 7, 0)), (30, .aload_n 0, mX), (31, .iconst 0, mX), (32, .putfield 25, (4, 8, 0)), (35, .aload_n 0, mX), (36, .iconst 0, mX), (37, .putfield 28, (4, 9, 0)), (40, .iconst 0, mX), (41, .istore_n 1, mX), (42, .iconst 0, mX), (43, .istore_n 2, mX), (44, .iload_n 2, mX), (45, .sipush 1200, mX), (48, .if_icmp .gt 136, mX), (51, .aload_n 0, mX), (52, .invokevirtual 167, (90, 1, 0)), (55, .ifCond .eq 10, mX), (58, .aload_n 0, mX), (59, .invokevirtual 170, (94, 1, 0)), (62, .ifCond .ne 5, mX), (65, .iconst 0, mX), (66, .ireturn, mX), (67, .aload_n 0, mX), (68, .invokevirtual 173, (99, 1, 0)), (71, .aload_n 0, mX), (72, .getfield 43, (4, 13, 0)), (75, .iconst 1, mX), (76, .if_icmp .eq 10, mX), (79, .aload_n 0, mX), (80, .getfield 43, (4, 13, 0)), (83, .ifCond .ne 22, mX), (86, .aload_n 0, mX), (87, .aload_n 0, mX), (88, .getfield 43, (4, 13, 0)), (91, .invokevirtual 176, (100, 2, 0)), (94, .aload_n 0, mX), (95, .aload_n 0, mX), (96, .getfield 43, (4, 13, 0)), (99, .invokevirtual 179, (93, 2, 0)), (102, .goto 66, mX), (105, .aload_n 0, mX), (106, .getfield 43, (4, 13, 0)), (109, .iconst 3, mX), (110, .if_icmp .ne 24, mX), (113, .aload_n 0, mX), (114, .getfield 25, (4, 8, 0)), (117, .ifCond .ne 17, mX), (120, .iload_n 1, mX), (121, .ifCond .ne 13, mX), (124, .aload_n 0, mX), (125, .iconst 0, mX), (126, .invokevirtual 176, (100, 2, 0)), (129, .iconst 1, mX), (130, .istore_n 1, mX), (131, .goto 37, mX), (134, .aload_n 0, mX), (135, .getfield 36, (4, 11, 0)), (138, .bipush 59, mX), (140, .if_icmp .ne 22, mX), (143, .aload_n 0, mX), (144, .getfield 25, (4, 8, 0)), (147, .ifCond .ne 15, mX), (150, .aload_n 0, mX), (151, .iconst 0, mX), (152, .invokevirtual 176, (100, 2, 0)), (155, .aload_n 0, mX), (156, .iload_n 1, mX), (157, .invokevirtual 182, (101, 2, 0)), (160, .iconst 1, mX), (161, .ireturn, mX), (162, .aload_n 0, mX), (163, .iconst 1, mX), (164, .invokevirtual 122, (83, 2, 0)), (167, .ireturn, mX), (168, .aload_n 0, mX), (169, .aload_n 0, mX), (170, .getfield 31, (4, 10, 0)), (173, .iconst 1, mX), (174, .iadd, mX), (175, .invokevirtual 111, (78, 2, 0)), (178, .iinc 2 1, mX), (181, .goto (-137), mX), (184, .aload_n 0, mX), (185, .iconst 1, mX), (186, .invokevirtual 122, (83, 2, 0)), (189, .ireturn, mX)])
noncomputable def mt90 : am_M := (⟨"AssizeRide$ActReader", "readOpenings", "()Z"⟩, prog_2_method_15_code, 2, (Option.some FieldType.boolean), [(0, .iconst 0, mX), (1, .istore_n 1, mX), (2, .iload_n 1, mX), (3, .sipush 1200, mX), (6, .if_icmp .gt 88, mX), (9, .aload_n 0, mX), (10, .getfield 43, (4, 13, 0)), (13, .iconst 2, mX), (14, .if_icmp .ne 10, mX), (17, .aload_n 0, mX), (18, .invokevirtual 190, (91, 1, 0)), (21, .goto 57, mX), (24, .aload_n 0, mX), (25, .getfield 36, (4, 11, 0)), (28, .bipush 40, mX), (30, .if_icmp .ne 18, mX), (33, .aload_n 0, mX), (34, .getfield 25, (4, 8, 0)), (37, .bipush 6, mX), (39, .if_icmp .lt 9, mX), (42, .aload_n 0, mX), (43, .iconst 4, mX), (44, .invokevirtual 122, (83, 2, 0)), (47, .ireturn, mX), (48, .aload_n 0, mX), (49, .getfield 36, (4, 11, 0)), (52, .bipush 40, mX), (54, .if_icmp .ne 22, mX), (57, .aload_n 0, mX), (58, .bipush 7, mX), (60, .invokevirtual 179, (93, 2, 0)), (63, .aload_n 0, mX), (64, .dup, mX), (65, .getfield 25, (4, 8, 0)), (68, .iconst 1, mX), (69, .iadd, mX), (70, .putfield 25, (4, 8, 0)), (73, .goto 5, mX), (76, .iconst 1, mX), (77, .ireturn, mX), (78, .aload_n 0, mX), (79, .aload_n 0, mX), (80, .getfield 31, (4, 10, 0)), (83, .iconst 1, mX), (84, .iadd, mX), (85, .invokevirtual 111, (78, 2, 0)), (88, .iinc 1 1, mX), (91, .goto (-89), mX), (94, .aload_n 0, mX), (95, .iconst 1, mX), (96, .invokevirtual 122, (83, 2, 0)), (99, .ireturn, mX)])
noncomputable def mt91 : am_M := (⟨"AssizeRide$ActReader", "awaitNot", "()V"⟩, prog_2_method_22_code, 1, (Option.none : Option FieldType), [(0, .aload_n 0, mX), (1, .iconst 2, mX), (2, .invokevirtual 212, (92, 2, 0)), (5, .ifCond .eq 16, mX), (8, .aload_n 0, mX), (9, .dup, mX), (10, .getfield 22, (4, 7, 0)), (13, .iconst 1, mX), (14, .isub, mX), (15, .putfield 22, (4, 7, 0)), (18, .goto 8, mX), (21, .aload_n 0, mX), (22, .iconst 2, mX), (23, .invokevirtual 179, (93, 2, 0)), (26, .return_, mX)])
noncomputable def mt92 : am_M := (⟨"AssizeRide$ActReader", "isWaiting", "(I)Z"⟩, prog_2_method_21_code, 2, (Option.some FieldType.boolean), [(0, .aload_n 0, mX), (1, .getfield 22, (4, 7, 0)), (4, .ifCond .le 22, mX), (7, .aload_n 0, mX), (8, .getfield 18, (4, 6, 0)), (11, .aload_n 0, mX), (12, .getfield 22, (4, 7, 0)), (15, .iconst 1, mX), (16, .isub, mX), (17, .iaload, mX), (18, .iload_n 1, mX), (19, .if_icmp .ne 7, mX), (22, .iconst 1, mX), (23, .goto 4, mX), (26, .iconst 0, mX), (27, .ireturn, mX)])
noncomputable def mt93 : am_M := (⟨"AssizeRide$ActReader", "await", "(I)V"⟩, prog_2_method_20_code, 2, (Option.none : Option FieldType), [(0, .aload_n 0, mX), (1, .getfield 22, (4, 7, 0)), (4, .aload_n 0, mX), (5, .getfield 18, (4, 6, 0)), (8, .arraylength, mX), (9, .if_icmp .ge 23, mX), (12, .aload_n 0, mX), (13, .getfield 18, (4, 6, 0)), (16, .aload_n 0, mX), (17, .getfield 22, (4, 7, 0)), (20, .iload_n 1, mX), (21, .iastore, mX), (22, .aload_n 0, mX), (23, .dup, mX), (24, .getfield 22, (4, 7, 0)), (27, .iconst 1, mX), (28, .iadd, mX), (29, .putfield 22, (4, 7, 0)), (32, .return_, mX)])
noncomputable def mt94 : am_M := (⟨"AssizeRide$ActReader", "readTest", "()Z"⟩, prog_2_method_17_code, 1, (Option.some FieldType.boolean), [(0, .aload_n 0, mX), (1, .invokevirtual 196, (95, 1, 0)), (4, .ifCond .eq 18, mX), (7, .aload_n 0, mX), (8, .getfield 28, (4, 9, 0)), (11, .bipush 20, mX), (13, .if_icmp .lt 9, mX), (16, .aload_n 0, mX), (17, .iconst 4, mX), (18, .invokevirtual 122, (83, 2, 0)), (21, .ireturn, mX), (22, .aload_n 0, mX), (23, .invokevirtual 199, (96, 1, 0)), (26, .ifCond .ne 5, mX), (29, .iconst 0, mX), (30, .ireturn, mX), (31, .aload_n 0, mX), (32, .getfield 43, (4, 13, 0)), (35, .iconst 4, mX), (36, .if_icmp .lt 69, mX), (39, .aload_n 0, mX), (40, .getfield 43, (4, 13, 0)), (43, .bipush 6, mX), (45, .if_icmp .gt 60, mX), (48, .aload_n 0, mX), (49, .getfield 59, (4, 3, 0)), (52, .aload_n 0, mX), (53, .getfield 43, (4, 13, 0)), (56, .iconst 4, mX), (57, .if_icmp .ne 9, mX), (60, .ldc2_w 202, (0, 0, (-20001))), (63, .goto 20, mX), (66, .aload_n 0, mX), (67, .getfield 43, (4, 13, 0)), (70, .iconst 5, mX), (71, .if_icmp .ne 9, mX), (74, .ldc2_w 204, (0, 0, (-20002))), (77, .goto 6, mX), (80, .ldc2_w 206, (0, 0, (-20003))), (83, .invokevirtual 163, (97, 2, 0)), (86, .aload_n 0, mX), (87, .aload_n 0, mX), (88, .getfield 31, (4, 10, 0)), (91, .iconst 1, mX), (92, .iadd, mX), (93, .invokevirtual 111, (78, 2, 0)), (96, .aload_n 0, mX), (97, .invokevirtual 199, (96, 1, 0)), (100, .ifCond .ne 5, mX), (103, .iconst 0, mX), (104, .ireturn, mX), (105, .aload_n 0, mX), (106, .getfield 59, (4, 3, 0)), (109, .ldc2_w 208, (0, 0, (-20004))), (112, .invokevirtual 163, (97, 2, 0)), (115, .aload_n 0, mX), (116, .dup, mX), (117, .getfield 28, (4, 9, 0)), (120, .iconst 1, mX), (121, .iadd, mX), (122, .putfield 28, (4, 9, 0)), (125, .aload_n 0, mX), (126, .invokevirtual 193, (98, 1, 0)), (129, .iconst 1, mX), (130, .ireturn, mX)])
noncomputable def mt95 : am_M := (⟨"AssizeRide$ActReader", "isTerm", "()Z"⟩, prog_2_method_18_code, 1, (Option.some FieldType.boolean), [(0, .aload_n 0, mX), (1, .getfield 36, (4, 11, 0)), (4, .iconst 2, mX), (5, .if_icmp .eq 19, mX), (8, .aload_n 0, mX), (9, .getfield 36, (4, 11, 0)), (12, .iconst 1, mX), (13, .if_icmp .ne 15, mX), (16, .aload_n 0, mX), (17, .getfield 43, (4, 13, 0)), (20, .iconst (-1), mX), (21, .if_icmp .ne 7, mX), (24, .iconst 1, mX), (25, .goto 4, mX), (28, .iconst 0, mX), (29, .ireturn, mX)])
noncomputable def mt96 : am_M := (⟨"AssizeRide$ActReader", "readSum", "()Z"⟩, prog_2_method_19_code, 2, (Option.some FieldType.boolean), [(0, .iconst 0, mX), (1, .istore_n 1, mX), (2, .iload_n 1, mX), (3, .iconst 4, mX), (4, .if_icmp .gt 101, mX), (7, .aload_n 0, mX), (8, .invokevirtual 196, (95, 1, 0)), (11, .ifCond .ne 9, mX), (14, .aload_n 0, mX), (15, .iconst 1, mX), (16, .invokevirtual 122, (83, 2, 0)), (19, .ireturn, mX), (20, .iload_n 1, mX), (21, .iconst 4, mX), (22, .if_icmp .ne 9, mX), (25, .aload_n 0, mX), (26, .iconst 4, mX), (27, .invokevirtual 122, (83, 2, 0)), (30, .ireturn, mX), (31, .aload_n 0, mX), (32, .getfield 59, (4, 3, 0)), (35, .aload_n 0, mX), (36, .getfield 36, (4, 11, 0)), (39, .iconst 1, mX), (40, .if_icmp .ne 10, mX), (43, .aload_n 0, mX), (44, .getfield 39, (4, 12, 0)), (47, .goto 18, mX), (50, .ldc2_w 210, (0, 0, (-1))), (53, .aload_n 0, mX), (54, .getfield 55, (4, 2, 0)), (57, .aload_n 0, mX), (58, .getfield 31, (4, 10, 0)), (61, .invokevirtual 100, (80, 2, 0)), (64, .lsub, mX), (65, .invokevirtual 163, (97, 2, 0)), (68, .aload_n 0, mX), (69, .aload_n 0, mX), (70, .getfield 31, (4, 10, 0)), (73, .iconst 1, mX), (74, .iadd, mX), (75, .invokevirtual 111, (78, 2, 0)), (78, .aload_n 0, mX), (79, .getfield 36, (4, 11, 0)), (82, .bipush 43, mX), (84, .if_icmp .eq 5, mX), (87, .iconst 1, mX), (88, .ireturn, mX), (89, .aload_n 0, mX), (90, .aload_n 0, mX), (91, .getfield 31, (4, 10, 0)), (94, .iconst 1, mX), (95, .iadd, mX), (96, .invokevirtual 111, (78, 2, 0)), (99, .iinc 1 1, mX), (102, .goto (-100), mX), (105, .aload_n 0, mX), (106, .iconst 1, mX), (107, .invokevirtual 122, (83, 2, 0)), (110, .ireturn, mX)])
noncomputable def mt97 : am_M := (⟨"AssizeRide$Law", "draftItem", "(J)V"⟩, prog_7_method_6_code, 3, (Option.none : Option FieldType), [(0, .aload_n 0, mX), (1, .getfield 46, (3, 10, 0)), (4, .sipush 10240, mX), (7, .if_icmp .lt 9, mX), (10, .aload_n 0, mX), (11, .iconst 1, mX), (12, .putfield 52, (3, 12, 0)), (15, .return_, mX), (16, .aload_n 0, mX), (17, .getfield 49, (3, 11, 0)), (20, .aload_n 0, mX), (21, .getfield 46, (3, 10, 0)), (24, .lload_n 1, mX), (25, .lastore, mX), (26, .aload_n 0, mX), (27, .dup, mX), (28, .getfield 46, (3, 10, 0)), (31, .iconst 1, mX), (32, .iadd, mX), (33, .putfield 46, (3, 10, 0)), (36, .return_, mX)])
noncomputable def mt98 : am_M := (⟨"AssizeRide$ActReader", "releaseNot", "()V"⟩, prog_2_method_23_code, 1, (Option.none : Option FieldType), [(0, .aload_n 0, mX), (1, .iconst 2, mX), (2, .invokevirtual 212, (92, 2, 0)), (5, .ifCond .eq 23, mX), (8, .aload_n 0, mX), (9, .dup, mX), (10, .getfield 22, (4, 7, 0)), (13, .iconst 1, mX), (14, .isub, mX), (15, .putfield 22, (4, 7, 0)), (18, .aload_n 0, mX), (19, .getfield 59, (4, 3, 0)), (22, .ldc2_w 186, (0, 0, (-20005))), (25, .invokevirtual 163, (97, 2, 0)), (28, .return_, mX)])
noncomputable def mt99 : am_M := (⟨"AssizeRide$ActReader", "readClosings", "()V"⟩, prog_2_method_16_code, 2, (Option.none : Option FieldType), [(0, .iconst 0, mX), (1, .istore_n 1, mX), (2, .iload_n 1, mX), (3, .bipush 6, mX), (5, .if_icmp .ge 64, mX), (8, .aload_n 0, mX), (9, .getfield 36, (4, 11, 0)), (12, .bipush 41, mX), (14, .if_icmp .ne 55, mX), (17, .aload_n 0, mX), (18, .getfield 25, (4, 8, 0)), (21, .ifCond .le 48, mX), (24, .aload_n 0, mX), (25, .iconst 0, mX), (26, .invokevirtual 176, (100, 2, 0)), (29, .aload_n 0, mX), (30, .dup, mX), (31, .getfield 22, (4, 7, 0)), (34, .iconst 1, mX), (35, .isub, mX), (36, .putfield 22, (4, 7, 0)), (39, .aload_n 0, mX), (40, .dup, mX), (41, .getfield 25, (4, 8, 0)), (44, .iconst 1, mX), (45, .isub, mX), (46, .putfield 25, (4, 8, 0)), (49, .aload_n 0, mX), (50, .invokevirtual 193, (98, 1, 0)), (53, .aload_n 0, mX), (54, .aload_n 0, mX), (55, .getfield 31, (4, 10, 0)), (58, .iconst 1, mX), (59, .iadd, mX), (60, .invokevirtual 111, (78, 2, 0)), (63, .iinc 1 1, mX), (66, .goto (-64), mX), (69, .return_, mX)])
noncomputable def mt100 : am_M := (⟨"AssizeRide$ActReader", "release", "(I)V"⟩, prog_2_method_24_code, 2, (Option.none : Option FieldType), [(0, .aload_n 0, mX), (1, .iconst 1, mX), (2, .invokevirtual 212, (92, 2, 0)), (5, .ifCond .eq 23, mX), (8, .aload_n 0, mX), (9, .dup, mX), (10, .getfield 22, (4, 7, 0)), (13, .iconst 1, mX), (14, .isub, mX), (15, .putfield 22, (4, 7, 0)), (18, .aload_n 0, mX), (19, .getfield 59, (4, 3, 0)), (22, .ldc2_w 188, (0, 0, (-20006))), (25, .invokevirtual 163, (97, 2, 0)), (28, .iload_n 1, mX), (29, .ifCond .ne 31, mX), (32, .aload_n 0, mX), (33, .iconst 0, mX), (34, .invokevirtual 212, (92, 2, 0)), (37, .ifCond .eq 23, mX), (40, .aload_n 0, mX), (41, .dup, mX), (42, .getfield 22, (4, 7, 0)), (45, .iconst 1, mX), (46, .isub, mX), (47, .putfield 22, (4, 7, 0)), (50, .aload_n 0, mX), (51, .getfield 59, (4, 3, 0)), (54, .ldc2_w 215, (0, 0, (-20007))), (57, .invokevirtual 163, (97, 2, 0)), (60, .return_, mX)])
noncomputable def mt101 : am_M := (⟨"AssizeRide$ActReader", "closeDeed", "(Z)V"⟩, prog_2_method_14_code, 2, (Option.none : Option FieldType), [(0, .iload_n 1, mX), (1, .ifCond .eq 23, mX), (4, .aload_n 0, mX), (5, .getfield 59, (4, 3, 0)), (8, .ldc2_w 186, (0, 0, (-20005))), (11, .invokevirtual 163, (97, 2, 0)), (14, .aload_n 0, mX), (15, .getfield 59, (4, 3, 0)), (18, .ldc2_w 188, (0, 0, (-20006))), (21, .invokevirtual 163, (97, 2, 0)), (24, .aload_n 0, mX), (25, .getfield 59, (4, 3, 0)), (28, .iconst 0, mX), (29, .aload_n 0, mX), (30, .getfield 52, (4, 16, 0)), (33, .aload_n 0, mX), (34, .getfield 28, (4, 9, 0)), (37, .invokevirtual 147, (102, 4, 0)), (40, .return_, mX)])
noncomputable def mt102 : am_M := (⟨"AssizeRide$Law", "draftClause", "(IJI)V"⟩, prog_7_method_7_code, 5, (Option.none : Option FieldType), [(0, .aload_n 0, mX), (1, .getfield 27, (3, 4, 0)), (4, .sipush 1240, mX), (7, .if_icmp .lt 9, mX), (10, .aload_n 0, mX), (11, .iconst 1, mX), (12, .putfield 52, (3, 12, 0)), (15, .return_, mX), (16, .aload_n 0, mX), (17, .getfield 30, (3, 5, 0)), (20, .aload_n 0, mX), (21, .getfield 27, (3, 4, 0)), (24, .iload_n 1, mX), (25, .iastore, mX), (26, .aload_n 0, mX), (27, .getfield 33, (3, 6, 0)), (30, .aload_n 0, mX), (31, .getfield 27, (3, 4, 0)), (34, .lload_n 2, mX), (35, .lastore, mX), (36, .aload_n 0, mX), (37, .getfield 37, (3, 7, 0)), (40, .aload_n 0, mX), (41, .getfield 27, (3, 4, 0)), (44, .iload 4, mX), (46, .iastore, mX), (47, .aload_n 0, mX), (48, .getfield 40, (3, 8, 0)), (51, .aload_n 0, mX), (52, .getfield 27, (3, 4, 0)), (55, .aload_n 0, mX), (56, .getfield 13, (3, 0, 0)), (59, .iastore, mX), (60, .aload_n 0, mX), (61, .dup, mX), (62, .getfield 27, (3, 4, 0)), (65, .iconst 1, mX), (66, .iadd, mX), (67, .putfield 27, (3, 4, 0)), (70, .aload_n 0, mX), (71, .getfield 43, (3, 9, 0)), (74, .aload_n 0, mX), (75, .getfield 27, (3, 4, 0)), (78, .aload_n 0, mX), (79, .getfield 46, (3, 10, 0)), (82, .iastore, mX), (83, .return_, mX)])
noncomputable def mt103 : am_M := (⟨"AssizeRide$ActReader", "readWords", "()Z"⟩, prog_2_method_12_code, 2, (Option.some FieldType.boolean), [(0, .iconst 0, mX), (1, .istore_n 1, mX), (2, .iload_n 1, mX), (3, .bipush 8, mX), (5, .if_icmp .ge 38, mX), (8, .aload_n 0, mX), (9, .getfield 36, (4, 11, 0)), (12, .iconst 1, mX), (13, .if_icmp .ne 30, mX), (16, .aload_n 0, mX), (17, .getfield 59, (4, 3, 0)), (20, .aload_n 0, mX), (21, .getfield 39, (4, 12, 0)), (24, .invokevirtual 163, (97, 2, 0)), (27, .aload_n 0, mX), (28, .aload_n 0, mX), (29, .getfield 31, (4, 10, 0)), (32, .iconst 1, mX), (33, .iadd, mX), (34, .invokevirtual 111, (78, 2, 0)), (37, .iinc 1 1, mX), (40, .goto (-38), mX), (43, .iload_n 1, mX), (44, .ifCond .ne 9, mX), (47, .aload_n 0, mX), (48, .iconst 1, mX), (49, .invokevirtual 122, (83, 2, 0)), (52, .ireturn, mX), (53, .aload_n 0, mX), (54, .getfield 36, (4, 11, 0)), (57, .iconst 1, mX), (58, .if_icmp .ne 9, mX), (61, .aload_n 0, mX), (62, .iconst 4, mX), (63, .invokevirtual 122, (83, 2, 0)), (66, .ireturn, mX), (67, .aload_n 0, mX), (68, .getfield 59, (4, 3, 0)), (71, .iconst 1, mX), (72, .aload_n 0, mX), (73, .getfield 52, (4, 16, 0)), (76, .iload_n 1, mX), (77, .invokevirtual 147, (102, 4, 0)), (80, .iconst 1, mX), (81, .ireturn, mX)])
noncomputable def mt104 : am_M := (⟨"AssizeRide$ActReader", "readStrike", "()Z"⟩, prog_2_method_11_code, 2, (Option.some FieldType.boolean), [(0, .aload_n 0, mX), (1, .getfield 36, (4, 11, 0)), (4, .iconst 2, mX), (5, .if_icmp .eq 9, mX), (8, .aload_n 0, mX), (9, .iconst 1, mX), (10, .invokevirtual 122, (83, 2, 0)), (13, .ireturn, mX), (14, .aload_n 0, mX), (15, .getfield 55, (4, 2, 0)), (18, .aload_n 0, mX), (19, .getfield 31, (4, 10, 0)), (22, .invokevirtual 100, (80, 2, 0)), (25, .l2i, mX), (26, .istore_n 1, mX), (27, .iload_n 1, mX), (28, .aload_n 0, mX), (29, .getfield 59, (4, 3, 0)), (32, .getfield 160, (3, 0, 0)), (35, .if_icmp .lt 9, mX), (38, .aload_n 0, mX), (39, .iconst 2, mX), (40, .invokevirtual 122, (83, 2, 0)), (43, .ireturn, mX), (44, .aload_n 0, mX), (45, .aload_n 0, mX), (46, .getfield 31, (4, 10, 0)), (49, .iconst 1, mX), (50, .iadd, mX), (51, .invokevirtual 111, (78, 2, 0)), (54, .aload_n 0, mX), (55, .getfield 59, (4, 3, 0)), (58, .bipush 14, mX), (60, .aload_n 0, mX), (61, .getfield 39, (4, 12, 0)), (64, .iload_n 1, mX), (65, .invokevirtual 147, (102, 4, 0)), (68, .aload_n 0, mX), (69, .getfield 36, (4, 11, 0)), (72, .iconst 1, mX), (73, .if_icmp .ne 13, mX), (76, .aload_n 0, mX), (77, .aload_n 0, mX), (78, .getfield 31, (4, 10, 0)), (81, .iconst 1, mX), (82, .iadd, mX), (83, .invokevirtual 111, (78, 2, 0)), (86, .iconst 1, mX), (87, .ireturn, mX)])
noncomputable def mt105 : am_M := (⟨"AssizeRide$ActReader", "readNumber", "()Z"⟩, prog_2_method_10_code, 2, (Option.some FieldType.boolean), [(0, .aload_n 0, mX), (1, .getfield 36, (4, 11, 0)), (4, .iconst 2, mX), (5, .if_icmp .eq 9, mX), (8, .aload_n 0, mX), (9, .iconst 1, mX), (10, .invokevirtual 122, (83, 2, 0)), (13, .ireturn, mX), (14, .aload_n 0, mX), (15, .getfield 55, (4, 2, 0)), (18, .aload_n 0, mX), (19, .getfield 31, (4, 10, 0)), (22, .invokevirtual 100, (80, 2, 0)), (25, .l2i, mX), (26, .istore_n 1, mX), (27, .aload_n 0, mX), (28, .getfield 49, (4, 15, 0)), (31, .ifCond .lt 38, mX), (34, .aload_n 0, mX), (35, .getfield 49, (4, 15, 0)), (38, .getstatic 154, (0, 1, 0)), (41, .arraylength, mX), (42, .if_icmp .ge 27, mX), (45, .iload_n 1, mX), (46, .getstatic 157, (0, 2, 0)), (49, .aload_n 0, mX), (50, .getfield 49, (4, 15, 0)), (53, .iaload, mX), (54, .if_icmp .lt 15, mX), (57, .iload_n 1, mX), (58, .getstatic 154, (0, 1, 0)), (61, .aload_n 0, mX), (62, .getfield 49, (4, 15, 0)), (65, .iaload, mX), (66, .if_icmp .le 9, mX), (69, .aload_n 0, mX), (70, .iconst 2, mX), (71, .invokevirtual 122, (83, 2, 0)), (74, .ireturn, mX), (75, .aload_n 0, mX), (76, .getfield 59, (4, 3, 0)), (79, .aload_n 0, mX), (80, .getfield 49, (4, 15, 0)), (83, .aload_n 0, mX), (84, .getfield 52, (4, 16, 0)), (87, .iload_n 1, mX), (88, .invokevirtual 147, (102, 4, 0)), (91, .aload_n 0, mX), (92, .aload_n 0, mX), (93, .getfield 31, (4, 10, 0)), (96, .iconst 1, mX), (97, .iadd, mX), (98, .invokevirtual 111, (78, 2, 0)), (101, .iconst 1, mX), (102, .ireturn, mX)])
noncomputable def mt106 : am_M := (⟨"AssizeRide$Law", "dropDraft", "()V"⟩, prog_7_method_3_code, 1, (Option.none : Option FieldType), [(0, .aload_n 0, mX), (1, .aload_n 0, mX), (2, .getfield 24, (3, 3, 0)), (5, .aload_n 0, mX), (6, .getfield 13, (3, 0, 0)), (9, .iaload, mX), (10, .putfield 27, (3, 4, 0)), (13, .aload_n 0, mX), (14, .aload_n 0, mX), (15, .getfield 43, (3, 9, 0)), (18, .aload_n 0, mX), (19, .getfield 27, (3, 4, 0)), (22, .iaload, mX), (23, .putfield 46, (3, 10, 0)), (26, .aload_n 0, mX), (27, .iconst 0, mX), (28, .putfield 52, (3, 12, 0)), (31, .return_, mX)])
noncomputable def mt107 : am_M := (⟨"AssizeRide$Law", "enact", "(II)I"⟩, prog_7_method_8_code, 3, (Option.some FieldType.int), [(0, .aload_n 0, mX), (1, .getfield 13, (3, 0, 0)), (4, .bipush 30, mX), (6, .if_icmp .ge 10, mX), (9, .aload_n 0, mX), (10, .getfield 52, (3, 12, 0)), (13, .ifCond .eq 10, mX), (16, .aload_n 0, mX), (17, .invokevirtual 60, (106, 1, 0)), (20, .bipush (-3), mX), (22, .ireturn, mX), (23, .aload_n 0, mX), (24, .getfield 17, (3, 1, 0)), (27, .aload_n 0, mX), (28, .getfield 13, (3, 0, 0)), (31, .iload_n 1, mX), (32, .iastore, mX), (33, .aload_n 0, mX), (34, .getfield 21, (3, 2, 0)), (37, .aload_n 0, mX), (38, .getfield 13, (3, 0, 0)), (41, .iload_n 2, mX), (42, .iastore, mX), (43, .aload_n 0, mX), (44, .dup, mX), (45, .getfield 13, (3, 0, 0)), (48, .iconst 1, mX), (49, .iadd, mX), (50, .putfield 13, (3, 0, 0)), (53, .aload_n 0, mX), (54, .getfield 24, (3, 3, 0)), (57, .aload_n 0, mX), (58, .getfield 13, (3, 0, 0)), (61, .aload_n 0, mX), (62, .getfield 27, (3, 4, 0)), (65, .iastore, mX), (66, .aload_n 0, mX), (67, .getfield 13, (3, 0, 0)), (70, .iconst 1, mX), (71, .isub, mX), (72, .ireturn, mX)])
noncomputable def mt108 : am_M := (⟨"AssizeRide", "fault", "(I)I"⟩, prog_1_method_17_code, 2, (Option.some FieldType.int), [(0, .iload_n 1, mX), (1, .ifCond .ne 11, mX), (4, .aload_n 0, mX), (5, .getfield 35, (0, 3, 0)), (8, .getfield 170, (4, 0, 0)), (11, .ireturn, mX), (12, .iload_n 1, mX), (13, .iconst 1, mX), (14, .if_icmp .ne 13, mX), (17, .aload_n 0, mX), (18, .getfield 35, (0, 3, 0)), (21, .getfield 173, (4, 1, 0)), (24, .goto 4, mX), (27, .iconst (-1), mX), (28, .ireturn, mX)])
noncomputable def mt109 : am_M := (⟨"AssizeRide", "told", "(II)I"⟩, prog_1_method_18_code, 3, (Option.some FieldType.int), [(0, .aload_n 0, mX), (1, .getfield 26, (0, 2, 0)), (4, .iload_n 1, mX), (5, .iload_n 2, mX), (6, .invokevirtual 176, (110, 3, 0)), (9, .ireturn, mX)])
noncomputable def mt110 : am_M := (⟨"AssizeRide$Law", "tellOfAct", "(II)I"⟩, prog_7_method_9_code, 3, (Option.some FieldType.int), [(0, .iload_n 1, mX), (1, .iconst 0, mX), (2, .aload_n 0, mX), (3, .getfield 13, (3, 0, 0)), (6, .iconst 1, mX), (7, .isub, mX), (8, .invokestatic 63, (25, 3, 0)), (11, .ifCond .ne 5, mX), (14, .iconst (-1), mX), (15, .ireturn, mX), (16, .iload_n 2, mX), (17, .tableswitch 57 0 2 #[27, 34, 41], (27, 0, 0)), (44, .aload_n 0, mX), (45, .getfield 17, (3, 1, 0)), (48, .iload_n 1, mX), (49, .iaload, mX), (50, .ireturn, mX), (51, .aload_n 0, mX), (52, .getfield 21, (3, 2, 0)), (55, .iload_n 1, mX), (56, .iaload, mX), (57, .ireturn, mX), (58, .aload_n 0, mX), (59, .getfield 24, (3, 3, 0)), (62, .iload_n 1, mX), (63, .iconst 1, mX), (64, .iadd, mX), (65, .iaload, mX), (66, .aload_n 0, mX), (67, .getfield 24, (3, 3, 0)), (70, .iload_n 1, mX), (71, .iaload, mX), (72, .isub, mX), (73, .ireturn, mX), (74, .iconst (-1), mX), (75, .ireturn, mX)])
noncomputable def mt111 : am_M := (⟨"AssizeRide", "law", "(III)I"⟩, prog_1_method_19_code, 7, (Option.some FieldType.int), [(0, .aload_n 0, mX), (1, .iload_n 1, mX), (2, .invokevirtual 179, (112, 2, 0)), (5, .lstore 4, mX), (7, .iload_n 1, mX), (8, .lload 4, mX), (10, .iload_n 2, mX), (11, .iload_n 3, mX), (12, .invokestatic 183, (114, 4, 0)), (15, .istore 6, mX), (17, .iload 6, mX), (19, .ifCond .eq 8, mX), (22, .iload 6, mX), (24, .goto 15, mX), (27, .aload_n 0, mX), (28, .getfield 26, (0, 2, 0)), (31, .iload_n 1, mX), (32, .lload 4, mX), (34, .iload_n 2, mX), (35, .iload_n 3, mX), (36, .invokevirtual 187, (115, 5, 0)), (39, .ireturn, mX)])
noncomputable def mt112 : am_M := (⟨"AssizeRide", "takeDeed", "(I)J"⟩, prog_1_method_22_code, 2, (Option.some FieldType.long), [(0, .aload_n 0, mX), (1, .getfield 10, mX), (4, .invokevirtual 153, (71, 1, 0)), (7, .iload_n 1, mX), (8, .bipush 7, mX), (10, .if_icmp .ge 13, mX), (13, .aload_n 0, mX), (14, .getfield 10, mX), (17, .invokevirtual 196, (113, 1, 0)), (20, .goto 4, mX), (23, .lconst 0, mX), (24, .lreturn, mX)])
noncomputable def mt113 : am_M := (⟨"AssizeRide$Tape", "soleWord", "()J"⟩, prog_12_method_12_code, 1, (Option.some FieldType.long), [(0, .aload_n 0, mX), (1, .getfield 27, (1, 5, 0)), (4, .iconst 1, mX), (5, .if_icmp .ne 22, mX), (8, .aload_n 0, mX), (9, .getfield 17, (1, 2, 0)), (12, .iconst 0, mX), (13, .iaload, mX), (14, .iconst 1, mX), (15, .if_icmp .ne 12, mX), (18, .aload_n 0, mX), (19, .getfield 23, (1, 4, 0)), (22, .iconst 0, mX), (23, .laload, mX), (24, .goto 4, mX), (27, .lconst 0, mX), (28, .lreturn, mX)])
noncomputable def mt114 : am_M := (⟨"AssizeRide", "refuseLaw", "(IJII)I"⟩, prog_1_method_23_code, 5, (Option.some FieldType.int), [(0, .iload_n 0, mX), (1, .iconst 0, mX), (2, .bipush 13, mX), (4, .invokestatic 95, (25, 3, 0)), (7, .ifCond .eq 18, mX), (10, .iload_n 3, mX), (11, .invokestatic 127, (39, 1, 0)), (14, .ifCond .eq 11, mX), (17, .iload 4, mX), (19, .invokestatic 109, (27, 1, 0)), (22, .ifCond .ne 6, mX), (25, .bipush (-2), mX), (27, .ireturn, mX), (28, .iload_n 0, mX), (29, .bipush 7, mX), (31, .if_icmp .ge 14, mX), (34, .lload_n 1, mX), (35, .lconst 0, mX), (36, .lcmp, mX), (37, .ifCond .ne 8, mX), (40, .bipush (-4), mX), (42, .goto 4, mX), (45, .iconst 0, mX), (46, .ireturn, mX)])
noncomputable def mt115 : am_M := (⟨"AssizeRide$Law", "actInForce", "(IJII)I"⟩, prog_7_method_15_code, 7, (Option.some FieldType.int), [(0, .aload_n 0, mX), (1, .iload_n 1, mX), (2, .lload_n 2, mX), (3, .iload 4, mX), (5, .iload 5, mX), (7, .invokevirtual 79, (53, 5, 0)), (10, .istore 6, mX), (12, .iload 6, mX), (14, .iconst (-1), mX), (15, .if_icmp .ne 7, mX), (18, .iconst (-1), mX), (19, .goto 10, mX), (22, .aload_n 0, mX), (23, .getfield 40, (3, 8, 0)), (26, .iload 6, mX), (28, .iaload, mX), (29, .ireturn, mX)])
noncomputable def mt116 : am_M := (⟨"AssizeRide", "tells", "(III)I"⟩, prog_1_method_20_code, 7, (Option.some FieldType.int), [(0, .aload_n 0, mX), (1, .iload_n 1, mX), (2, .invokevirtual 179, (112, 2, 0)), (5, .lstore 4, mX), (7, .iload_n 1, mX), (8, .lload 4, mX), (10, .iload_n 2, mX), (11, .iload_n 3, mX), (12, .invokestatic 183, (114, 4, 0)), (15, .istore 6, mX), (17, .iload 6, mX), (19, .ifCond .eq 8, mX), (22, .iload 6, mX), (24, .goto 15, mX), (27, .aload_n 0, mX), (28, .getfield 26, (0, 2, 0)), (31, .iload_n 1, mX), (32, .lload 4, mX), (34, .iload_n 2, mX), (35, .iload_n 3, mX), (36, .invokevirtual 190, (52, 5, 0)), (39, .ireturn, mX)])
noncomputable def mt117 : am_M := (⟨"AssizeRide", "quarrel", "(III)I"⟩, prog_1_method_21_code, 7, (Option.some FieldType.int), [(0, .aload_n 0, mX), (1, .iload_n 1, mX), (2, .invokevirtual 179, (112, 2, 0)), (5, .lstore 4, mX), (7, .iload_n 1, mX), (8, .lload 4, mX), (10, .iload_n 2, mX), (11, .iload_n 3, mX), (12, .invokestatic 183, (114, 4, 0)), (15, .istore 6, mX), (17, .iload 6, mX), (19, .ifCond .eq 8, mX), (22, .iload 6, mX), (24, .goto 15, mX), (27, .aload_n 0, mX), (28, .getfield 26, (0, 2, 0)), (31, .iload_n 1, mX), (32, .lload 4, mX), (34, .iload_n 2, mX), (35, .iload_n 3, mX), (36, .invokevirtual 193, (118, 5, 0)), (39, .ireturn, mX)])
noncomputable def mt118 : am_M := (⟨"AssizeRide$Law", "quarrelling", "(IJII)I"⟩, prog_7_method_17_code, 10, (Option.some FieldType.int), [(0, .aload_n 0, mX), (1, .iload 4, mX), (3, .iload 5, mX), (5, .invokevirtual 71, (54, 3, 0)), (8, .istore 6, mX), (10, .aload_n 0, mX), (11, .iload_n 1, mX), (12, .lload_n 2, mX), (13, .iload 4, mX), (15, .iload 5, mX), (17, .invokevirtual 86, (115, 5, 0)), (20, .istore 7, mX), (22, .iconst 0, mX), (23, .istore 8, mX), (25, .iconst 0, mX), (26, .istore 9, mX), (28, .iload 9, mX), (30, .iload 7, mX), (32, .if_icmp .gt 49, mX), (35, .aload_n 0, mX), (36, .getfield 17, (3, 1, 0)), (39, .iload 9, mX), (41, .iaload, mX), (42, .aload_n 0, mX), (43, .getfield 17, (3, 1, 0)), (46, .iload 7, mX), (48, .iaload, mX), (49, .if_icmp .ne 26, mX), (52, .aload_n 0, mX), (53, .iload 9, mX), (55, .iload_n 1, mX), (56, .lload_n 2, mX), (57, .iload 6, mX), (59, .invokevirtual 75, (55, 5, 0)), (62, .iconst (-1), mX), (63, .if_icmp .eq 12, mX), (66, .iload 8, mX), (68, .iconst 1, mX), (69, .iload 9, mX), (71, .ishl, mX), (72, .ior, mX), (73, .istore 8, mX), (75, .iinc 9 1, mX), (78, .goto (-50), mX), (81, .iload 8, mX), (83, .invokestatic 89, (119, 1, 0)), (86, .iconst 1, mX), (87, .if_icmp .le 8, mX), (90, .iload 8, mX), (92, .goto 4, mX), (95, .iconst 0, mX), (96, .ireturn, mX)])
noncomputable def mt119 : am_M := (⟨"java/lang/Integer", "bitCount", "(I)I"⟩, prog_15_method_49_code, 1, (Option.some FieldType.int), [(0, .iload_n 0, mX), (1, .iload_n 0, mX), (2, .iconst 1, mX), (3, .iushr, mX), (4, .ldc_w 265, (0, 0, 1431655765)), (7, .iand, mX), (8, .isub, mX), (9, .istore_n 0, mX), (10, .iload_n 0, mX), (11, .ldc_w 266, (0, 0, 858993459)), (14, .iand, mX), (15, .iload_n 0, mX), (16, .iconst 2, mX), (17, .iushr, mX), (18, .ldc_w 266, (0, 0, 858993459)), (21, .iand, mX), (22, .iadd, mX), (23, .istore_n 0, mX), (24, .iload_n 0, mX), (25, .iload_n 0, mX), (26, .iconst 4, mX), (27, .iushr, mX), (28, .iadd, mX), (29, .ldc_w 267, (0, 0, 252645135)), (32, .iand, mX), (33, .istore_n 0, mX), (34, .iload_n 0, mX), (35, .iload_n 0, mX), (36, .bipush 8, mX), (38, .iushr, mX), (39, .iadd, mX), (40, .istore_n 0, mX), (41, .iload_n 0, mX), (42, .iload_n 0, mX), (43, .bipush 16, mX), (45, .iushr, mX), (46, .iadd, mX), (47, .istore_n 0, mX), (48, .iload_n 0, mX), (49, .bipush 63, mX), (51, .iand, mX), (52, .ireturn, mX)])
noncomputable def mt120 : am_M := (⟨"AssizeRide", "weigh", "(II)I"⟩, prog_1_method_24_code, 4, (Option.some FieldType.int), [(0, .aload_n 0, mX), (1, .getfield 10, mX), (4, .invokevirtual 153, (71, 1, 0)), (7, .iload_n 1, mX), (8, .invokestatic 127, (39, 1, 0)), (11, .ifCond .eq 10, mX), (14, .iload_n 2, mX), (15, .invokestatic 109, (27, 1, 0)), (18, .ifCond .ne 6, mX), (21, .bipush (-2), mX), (23, .ireturn, mX), (24, .aload_n 0, mX), (25, .getfield 10, mX), (28, .iconst 0, mX), (29, .invokevirtual 200, (79, 2, 0)), (32, .iconst 1, mX), (33, .if_icmp .ne 31, mX), (36, .aload_n 0, mX), (37, .getfield 10, mX), (40, .iconst 1, mX), (41, .invokevirtual 200, (79, 2, 0)), (44, .bipush 59, mX), (46, .if_icmp .ne 18, mX), (49, .aload_n 0, mX), (50, .getfield 81, (0, 9, 0)), (53, .aload_n 0, mX), (54, .getfield 10, mX), (57, .iconst 2, mX), (58, .invokevirtual 204, (121, 3, 0)), (61, .ifCond .ne 5, mX), (64, .iconst (-1), mX), (65, .ireturn, mX), (66, .aload_n 0, mX), (67, .getfield 26, (0, 2, 0)), (70, .iconst 0, mX), (71, .aload_n 0, mX), (72, .getfield 10, mX), (75, .iconst 0, mX), (76, .invokevirtual 208, (80, 2, 0)), (79, .iload_n 1, mX), (80, .iload_n 2, mX), (81, .invokevirtual 211, (53, 5, 0)), (84, .istore_n 3, mX), (85, .iload_n 3, mX), (86, .iconst (-1), mX), (87, .if_icmp .ne 6, mX), (90, .bipush (-4), mX), (92, .ireturn, mX), (93, .aload_n 0, mX), (94, .aload_n 0, mX), (95, .getfield 26, (0, 2, 0)), (98, .iload_n 3, mX), (99, .aload_n 0, mX), (100, .getfield 81, (0, 9, 0)), (103, .invokevirtual 214, (123, 3, 0)), (106, .putfield 89, (0, 11, 0)), (109, .aload_n 0, mX), (110, .aload_n 0, mX), (111, .getfield 26, (0, 2, 0)), (114, .iload_n 3, mX), (115, .aload_n 0, mX), (116, .getfield 89, (0, 11, 0)), (119, .invokevirtual 218, (128, 3, 0)), (122, .putfield 92, (0, 12, 0)), (125, .aload_n 0, mX), (126, .getfield 92, (0, 12, 0)), (129, .iconst (-1), mX), (130, .if_icmp .ne 7, mX), (133, .iconst 1, mX), (134, .goto 4, mX), (137, .iconst 0, mX), (138, .ireturn, mX)])
noncomputable def mt121 : am_M := (⟨"AssizeRide$Row", "readFacts", "(LAssizeRide$Tape;I)Z"⟩, prog_11_method_10_code, 8, (Option.some FieldType.boolean), [(0, .aload_n 0, mX), (1, .invokevirtual 43, (60, 1, 0)), (4, .iload_n 2, mX), (5, .istore_n 3, mX), (6, .iconst 0, mX), (7, .istore 4, mX), (9, .iload 4, mX), (11, .bipush 20, mX), (13, .if_icmp .gt 147, mX), (16, .aload_n 1, mX), (17, .iload_n 3, mX), (18, .invokevirtual 50, (79, 2, 0)), (21, .ifCond .ne 10, mX), (24, .aload_n 0, mX), (25, .iconst 1, mX), (26, .putfield 15, (6, 3, 0)), (29, .iconst 1, mX), (30, .ireturn, mX), (31, .aload_n 1, mX), (32, .iload_n 3, mX), (33, .invokevirtual 56, (80, 2, 0)), (36, .lstore 5, mX), (38, .iload 4, mX), (40, .bipush 20, mX), (42, .if_icmp .eq 21, mX), (45, .aload_n 1, mX), (46, .iload_n 3, mX), (47, .invokevirtual 50, (79, 2, 0)), (50, .iconst 1, mX), (51, .if_icmp .ne 12, mX), (54, .aload_n 0, mX), (55, .lload 5, mX), (57, .invokevirtual 60, (48, 2, 0)), (60, .ifCond .eq 5, mX), (63, .iconst 0, mX), (64, .ireturn, mX), (65, .aload_n 1, mX), (66, .iload_n 3, mX), (67, .iconst 1, mX), (68, .iadd, mX), (69, .invokevirtual 50, (79, 2, 0)), (72, .bipush 61, mX), (74, .if_icmp .ne 7, mX), (77, .iconst 1, mX), (78, .goto 4, mX), (81, .iconst 0, mX), (82, .istore 7, mX), (84, .iload 7, mX), (86, .ifCond .eq 16, mX), (89, .aload_n 1, mX), (90, .iload_n 3, mX), (91, .iconst 2, mX), (92, .iadd, mX), (93, .invokevirtual 50, (79, 2, 0)), (96, .iconst 2, mX), (97, .if_icmp .eq 5, mX), (100, .iconst 0, mX), (101, .ireturn, mX), (102, .aload_n 0, mX), (103, .lload 5, mX), (105, .iload 7, mX), (107, .ifCond .eq 14, mX), (110, .aload_n 1, mX), (111, .iload_n 3, mX), (112, .iconst 2, mX), (113, .iadd, mX), (114, .invokevirtual 56, (80, 2, 0)), (117, .l2i, mX), (118, .goto 4, mX), (121, .iconst 1, mX), (122, .invokevirtual 46, (122, 3, 0)), (125, .pop, mX), (126, .iload_n 3, mX), (127, .iload 7, mX), (129, .ifCond .eq 7, mX), (132, .iconst 3, mX), (133, .goto 4, mX), (136, .iconst 1, mX), (137, .iadd, mX), (138, .istore_n 3, mX), (139, .aload_n 1, mX), (140, .iload_n 3, mX), (141, .invokevirtual 50, (79, 2, 0)), (144, .bipush 59, mX), (146, .if_icmp .eq 5, mX), (149, .iconst 0, mX), (150, .ireturn, mX), (151, .iinc 3 1, mX), (154, .iinc 4 1, mX), (157, .goto (-148), mX), (160, .iconst 0, mX), (161, .ireturn, mX)])
noncomputable def mt122 : am_M := (⟨"AssizeRide$Row", "add", "(JI)Z"⟩, prog_11_method_2_code, 4, (Option.some FieldType.boolean), [(0, .aload_n 0, mX), (1, .getfield 9, (6, 2, 0)), (4, .aload_n 0, mX), (5, .getfield 25, (6, 0, 0)), (8, .arraylength, mX), (9, .if_icmp .lt 5, mX), (12, .iconst 0, mX), (13, .ireturn, mX), (14, .aload_n 0, mX), (15, .getfield 25, (6, 0, 0)), (18, .aload_n 0, mX), (19, .getfield 9, (6, 2, 0)), (22, .lload_n 1, mX), (23, .lastore, mX), (24, .aload_n 0, mX), (25, .getfield 29, (6, 1, 0)), (28, .aload_n 0, mX), (29, .getfield 9, (6, 2, 0)), (32, .iload_n 3, mX), (33, .iastore, mX), (34, .aload_n 0, mX), (35, .dup, mX), (36, .getfield 9, (6, 2, 0)), (39, .iconst 1, mX), (40, .iadd, mX), (41, .putfield 9, (6, 2, 0)), (44, .iconst 1, mX), (45, .ireturn, mX)])
noncomputable def mt123 : am_M := (⟨"AssizeRide$Law", "testsMet", "(ILAssizeRide$Row;)I"⟩, prog_7_method_20_code, 12, (Option.some FieldType.int), [(0, .iconst 0, mX), (1, .istore_n 3, mX), (2, .iconst 0, mX), (3, .istore 4, mX), (5, .iconst 0, mX), (6, .istore 5, mX), (8, .iconst 0, mX), (9, .istore 6, mX), (11, .ldc2_w 98, (0, 0, (-20004))), (14, .lstore 7, mX), (16, .iconst 0, mX), (17, .istore 9, mX), (19, .iload 9, mX), (21, .aload_n 0, mX), (22, .iload_n 1, mX), (23, .invokevirtual 95, (124, 2, 0)), (26, .if_icmp .ge 129, mX), (29, .aload_n 0, mX), (30, .iload_n 1, mX), (31, .iload 9, mX), (33, .invokevirtual 100, (125, 3, 0)), (36, .lstore 10, mX), (38, .lload 10, mX), (40, .lconst 0, mX), (41, .lcmp, mX), (42, .ifCond .le 17, mX), (45, .iload 6, mX), (47, .aload_n 2, mX), (48, .lload 10, mX), (50, .invokevirtual 104, (126, 2, 0)), (53, .iadd, mX), (54, .istore 6, mX), (56, .goto 93, mX), (59, .lload 10, mX), (61, .ldc2_w 110, (0, 0, (-20000))), (64, .lcmp, mX), (65, .ifCond .le 18, mX), (68, .iload 6, mX), (70, .ldc2_w 112, (0, 0, (-1))), (73, .lload 10, mX), (75, .lsub, mX), (76, .l2i, mX), (77, .iadd, mX), (78, .istore 6, mX), (80, .goto 69, mX), (83, .lload 10, mX), (85, .ldc2_w 114, (0, 0, (-20003))), (88, .lcmp, mX), (89, .ifCond .lt 17, mX), (92, .lload 10, mX), (94, .lstore 7, mX), (96, .iload 6, mX), (98, .istore 5, mX), (100, .iconst 0, mX), (101, .istore 6, mX), (103, .goto 46, mX), (106, .lload 10, mX), (108, .ldc2_w 98, (0, 0, (-20004))), (111, .lcmp, mX), (112, .ifCond .ne 37, mX), (115, .iload_n 3, mX), (116, .lload 7, mX), (118, .iload 5, mX), (120, .iload 6, mX), (122, .invokestatic 116, (127, 3, 0)), (125, .ifCond .eq 10, mX), (128, .iconst 1, mX), (129, .iload 4, mX), (131, .ishl, mX), (132, .goto 4, mX), (135, .iconst 0, mX), (136, .ior, mX), (137, .istore_n 3, mX), (138, .iinc 4 1, mX), (141, .ldc2_w 98, (0, 0, (-20004))), (144, .lstore 7, mX), (146, .iconst 0, mX), (147, .istore 6, mX), (149, .iinc 9 1, mX), (152, .goto (-133), mX), (155, .iload_n 3, mX), (156, .ireturn, mX)])
noncomputable def mt124 : am_M := (⟨"AssizeRide$Law", "itemsIn", "(I)I"⟩, prog_7_method_18_code, 2, (Option.some FieldType.int), [(0, .iload_n 1, mX), (1, .ifCond .lt 29, mX), (4, .iload_n 1, mX), (5, .aload_n 0, mX), (6, .getfield 27, (3, 4, 0)), (9, .if_icmp .ge 21, mX), (12, .aload_n 0, mX), (13, .getfield 43, (3, 9, 0)), (16, .iload_n 1, mX), (17, .iconst 1, mX), (18, .iadd, mX), (19, .iaload, mX), (20, .aload_n 0, mX), (21, .getfield 43, (3, 9, 0)), (24, .iload_n 1, mX), (25, .iaload, mX), (26, .isub, mX), (27, .goto 4, mX), (30, .iconst 0, mX), (31, .ireturn, mX)])
noncomputable def mt125 : am_M := (⟨"AssizeRide$Law", "itemAt", "(II)J"⟩, prog_7_method_19_code, 3, (Option.some FieldType.long), [(0, .iload_n 2, mX), (1, .ifCond .lt 28, mX), (4, .iload_n 2, mX), (5, .aload_n 0, mX), (6, .iload_n 1, mX), (7, .invokevirtual 95, (124, 2, 0)), (10, .if_icmp .ge 19, mX), (13, .aload_n 0, mX), (14, .getfield 49, (3, 11, 0)), (17, .aload_n 0, mX), (18, .getfield 43, (3, 9, 0)), (21, .iload_n 1, mX), (22, .iaload, mX), (23, .iload_n 2, mX), (24, .iadd, mX), (25, .laload, mX), (26, .goto 4, mX), (29, .lconst 0, mX), (30, .lreturn, mX)])
noncomputable def mt126 : am_M := (⟨"AssizeRide$Row", "valueOf", "(J)I"⟩, prog_11_method_6_code, 4, (Option.some FieldType.int), [(0, .aload_n 0, mX), (1, .lload_n 1, mX), (2, .invokevirtual 39, (49, 2, 0)), (5, .istore_n 3, mX), (6, .iload_n 3, mX), (7, .iconst (-1), mX), (8, .if_icmp .ne 7, mX), (11, .iconst 0, mX), (12, .goto 9, mX), (15, .aload_n 0, mX), (16, .getfield 29, (6, 1, 0)), (19, .iload_n 3, mX), (20, .iaload, mX), (21, .ireturn, mX)])
noncomputable def mt127 : am_M := (⟨"AssizeRide$Law", "holds", "(JII)Z"⟩, prog_7_method_21_code, 4, (Option.some FieldType.boolean), [(0, .lload_n 0, mX), (1, .ldc2_w 120, (0, 0, (-20001))), (4, .lcmp, mX), (5, .ifCond .ne 14, mX), (8, .iload_n 2, mX), (9, .iload_n 3, mX), (10, .if_icmp .le 7, mX), (13, .iconst 1, mX), (14, .goto 4, mX), (17, .iconst 0, mX), (18, .ireturn, mX), (19, .lload_n 0, mX), (20, .ldc2_w 122, (0, 0, (-20002))), (23, .lcmp, mX), (24, .ifCond .ne 14, mX), (27, .iload_n 2, mX), (28, .iload_n 3, mX), (29, .if_icmp .ge 7, mX), (32, .iconst 1, mX), (33, .goto 4, mX), (36, .iconst 0, mX), (37, .ireturn, mX), (38, .lload_n 0, mX), (39, .ldc2_w 114, (0, 0, (-20003))), (42, .lcmp, mX), (43, .ifCond .ne 16, mX), (46, .iload_n 2, mX), (47, .iload_n 3, mX), (48, .if_icmp .ne 7, mX), (51, .iconst 1, mX), (52, .goto 16, mX), (55, .iconst 0, mX), (56, .goto 12, mX), (59, .iload_n 3, mX), (60, .ifCond .le 7, mX), (63, .iconst 1, mX), (64, .goto 4, mX), (67, .iconst 0, mX), (68, .ireturn, mX)])
noncomputable def mt128 : am_M := (⟨"AssizeRide$Law", "lacking", "(II)I"⟩, prog_7_method_23_code, 5, (Option.some FieldType.int), [(0, .aload_n 0, mX), (1, .iload_n 1, mX), (2, .iload_n 2, mX), (3, .invokevirtual 130, (129, 3, 0)), (6, .ifCond .eq 5, mX), (9, .iconst (-1), mX), (10, .ireturn, mX), (11, .iload_n 1, mX), (12, .ifCond .lt 20, mX), (15, .iload_n 1, mX), (16, .aload_n 0, mX), (17, .getfield 27, (3, 4, 0)), (20, .if_icmp .ge 12, mX), (23, .aload_n 0, mX), (24, .getfield 37, (3, 7, 0)), (27, .iload_n 1, mX), (28, .iaload, mX), (29, .goto 4, mX), (32, .iconst 0, mX), (33, .istore_n 3, mX), (34, .iconst 0, mX), (35, .istore 4, mX), (37, .iload 4, mX), (39, .iload_n 3, mX), (40, .if_icmp .ge 26, mX), (43, .aload_n 0, mX), (44, .iload_n 1, mX), (45, .iload_n 2, mX), (46, .iconst 1, mX), (47, .iload 4, mX), (49, .ishl, mX), (50, .ixor, mX), (51, .invokevirtual 130, (129, 3, 0)), (54, .ifCond .eq 6, mX), (57, .iload 4, mX), (59, .ireturn, mX), (60, .iinc 4 1, mX), (63, .goto (-26), mX), (66, .bipush 99, mX), (68, .ireturn, mX)])
noncomputable def mt129 : am_M := (⟨"AssizeRide$Law", "holdsWith", "(II)Z"⟩, prog_7_method_22_code, 8, (Option.some FieldType.boolean), [(0, .iconst 0, mX), (1, .istore_n 3, mX), (2, .iconst 0, mX), (3, .istore 4, mX), (5, .iconst 0, mX), (6, .istore 5, mX), (8, .iload 5, mX), (10, .aload_n 0, mX), (11, .iload_n 1, mX), (12, .invokevirtual 95, (124, 2, 0)), (15, .if_icmp .ge 98, mX), (18, .aload_n 0, mX), (19, .iload_n 1, mX), (20, .iload 5, mX), (22, .invokevirtual 100, (125, 3, 0)), (25, .lstore 6, mX), (27, .lload 6, mX), (29, .ldc2_w 98, (0, 0, (-20004))), (32, .lcmp, mX), (33, .ifCond .ne 20, mX), (36, .iload_n 3, mX), (37, .iconst 1, mX), (38, .ishl, mX), (39, .iload_n 2, mX), (40, .iload 4, mX), (42, .ishr, mX), (43, .iconst 1, mX), (44, .iand, mX), (45, .ior, mX), (46, .istore_n 3, mX), (47, .iinc 4 1, mX), (50, .goto 57, mX), (53, .lload 6, mX), (55, .ldc2_w 124, (0, 0, (-20005))), (58, .lcmp, mX), (59, .ifCond .ne 10, mX), (62, .iload_n 3, mX), (63, .iconst 1, mX), (64, .ixor, mX), (65, .istore_n 3, mX), (66, .goto 41, mX), (69, .lload 6, mX), (71, .ldc2_w 126, (0, 0, (-20006))), (74, .lcmp, mX), (75, .ifCond .ne 15, mX), (78, .iload_n 3, mX), (79, .iconst 1, mX), (80, .ishr, mX), (81, .iload_n 3, mX), (82, .bipush (-2), mX), (84, .ior, mX), (85, .iand, mX), (86, .istore_n 3, mX), (87, .goto 20, mX), (90, .lload 6, mX), (92, .ldc2_w 128, (0, 0, (-20007))), (95, .lcmp, mX), (96, .ifCond .ne 11, mX), (99, .iload_n 3, mX), (100, .iconst 1, mX), (101, .ishr, mX), (102, .iload_n 3, mX), (103, .iconst 1, mX), (104, .iand, mX), (105, .ior, mX), (106, .istore_n 3, mX), (107, .iinc 5 1, mX), (110, .goto (-102), mX), (113, .iload_n 3, mX), (114, .iconst 1, mX), (115, .iand, mX), (116, .iconst 1, mX), (117, .if_icmp .ne 7, mX), (120, .iconst 1, mX), (121, .goto 4, mX), (124, .iconst 0, mX), (125, .ireturn, mX)])
noncomputable def mt130 : am_M := (⟨"AssizeRide", "why", "(I)I"⟩, prog_1_method_25_code, 2, (Option.some FieldType.int), [(0, .iload_n 1, mX), (1, .ifCond .ne 8, mX), (4, .aload_n 0, mX), (5, .getfield 89, (0, 11, 0)), (8, .ireturn, mX), (9, .iload_n 1, mX), (10, .iconst 1, mX), (11, .if_icmp .ne 10, mX), (14, .aload_n 0, mX), (15, .getfield 92, (0, 12, 0)), (18, .goto 4, mX), (21, .iconst (-1), mX), (22, .ireturn, mX)])
noncomputable def mt131 : am_M := (⟨"AssizeRide", "crown", "(IIII)I"⟩, prog_1_method_26_code, 5, (Option.some FieldType.int), [(0, .aload_n 0, mX), (1, .getfield 10, mX), (4, .invokevirtual 153, (71, 1, 0)), (7, .aload_n 0, mX), (8, .getfield 19, (0, 1, 0)), (11, .iload_n 1, mX), (12, .invokevirtual 124, (38, 2, 0)), (15, .ifCond .eq 14, mX), (18, .aload_n 0, mX), (19, .iload_n 2, mX), (20, .iload_n 3, mX), (21, .iload 4, mX), (23, .invokevirtual 221, (132, 4, 0)), (26, .ifCond .ne 6, mX), (29, .bipush (-2), mX), (31, .ireturn, mX), (32, .aload_n 0, mX), (33, .iconst (-1), mX), (34, .iload_n 1, mX), (35, .iload_n 2, mX), (36, .iload_n 3, mX), (37, .iload 4, mX), (39, .iconst 0, mX), (40, .invokevirtual 224, (133, 7, 0)), (43, .ireturn, mX)])
noncomputable def mt132 : am_M := (⟨"AssizeRide", "isDeedPlace", "(III)Z"⟩, prog_1_method_28_code, 4, (Option.some FieldType.boolean), [(0, .iload_n 1, mX), (1, .invokestatic 109, (27, 1, 0)), (4, .ifCond .eq 29, mX), (7, .iload_n 2, mX), (8, .iconst 0, mX), (9, .bipush 9, mX), (11, .invokestatic 95, (25, 3, 0)), (14, .ifCond .eq 19, mX), (17, .iload_n 3, mX), (18, .iconst 0, mX), (19, .aload_n 0, mX), (20, .getfield 85, (0, 10, 0)), (23, .invokestatic 95, (25, 3, 0)), (26, .ifCond .eq 7, mX), (29, .iconst 1, mX), (30, .goto 4, mX), (33, .iconst 0, mX), (34, .ireturn, mX)])
noncomputable def mt133 : am_M := (⟨"AssizeRide", "beginMatter", "(IIIIII)I"⟩, prog_1_method_29_code, 10, (Option.some FieldType.int), [(0, .aload_n 0, mX), (1, .getfield 10, mX), (4, .invokevirtual 196, (113, 1, 0)), (7, .lstore 7, mX), (9, .lload 7, mX), (11, .lconst 0, mX), (12, .lcmp, mX), (13, .ifCond .ne 5, mX), (16, .iconst (-1), mX), (17, .ireturn, mX), (18, .aload_n 0, mX), (19, .getfield 44, (0, 4, 0)), (22, .invokevirtual 228, (134, 1, 0)), (25, .ifCond .eq 6, mX), (28, .bipush (-3), mX), (30, .ireturn, mX), (31, .new 231, (11, 0, 0)), (34, .dup, mX), (35, .lload 7, mX), (37, .iload_n 1, mX), (38, .iload_n 2, mX), (39, .iload_n 3, mX), (40, .iload 4, mX), (42, .iload 5, mX), (44, .iload 6, mX), (46, .invokespecial 233, (135, 8, 0)), (49, .astore 9, mX), (51, .aload_n 0, mX), (52, .getfield 44, (0, 4, 0)), (55, .aload 9, mX), (57, .aload_n 0, mX), (58, .getfield 85, (0, 10, 0)), (61, .invokevirtual 236, (136, 3, 0)), (64, .ireturn, mX)])
noncomputable def mt134 : am_M := (⟨"AssizeRide$Docket", "isFull", "()Z"⟩, prog_5_method_4_code, 1, (Option.some FieldType.boolean), [(0, .aload_n 0, mX), (1, .getfield 9, (5, 2, 0)), (4, .bipush 100, mX), (6, .if_icmp .lt 7, mX), (9, .iconst 1, mX), (10, .goto 4, mX), (13, .iconst 0, mX), (14, .ireturn, mX)])
noncomputable def mt135 : am_M := (⟨"AssizeRide$Matter", "<init>", "(JIIIIII)V"⟩, prog_8_method_1_code, 9, (Option.none : Option FieldType), [(0, .aload_n 0, mX), (1, .invokespecial 3, (0, 1, 1)), (4, .aload_n 0, mX), (5, .iconst 0, mX), (6, .putfield 11, (11, 7, 0)), (9, .aload_n 0, mX), (10, .iconst 0, mX), (11, .putfield 15, (11, 8, 0)), (14, .aload_n 0, mX), (15, .iconst 0, mX), (16, .putfield 19, (11, 9, 0)), (19, .aload_n 0, mX), (20, .iconst 1, mX), (21, .putfield 22, (11, 10, 0)), (24, .aload_n 0, mX), (25, .iconst (-1), mX), (26, .putfield 25, (11, 11, 0)), (29, .aload_n 0, mX), (30, .iconst 0, mX), (31, .putfield 28, (11, 12, 0)), (34, .aload_n 0, mX), (35, .iconst (-1), mX), (36, .putfield 31, (11, 13, 0)), (39, .aload_n 0, mX), (40, .iconst (-1), mX), (41, .putfield 34, (11, 14, 0)), (44, .aload_n 0, mX), (45, .new 37, (6, 0, 0)), (48, .dup, mX), (49, .bipush 28, mX), (51, .invokespecial 39, (15, 2, 0)), (54, .putfield 42, (11, 15, 0)), (57, .aload_n 0, mX), (58, .new 37, (6, 0, 0)), (61, .dup, mX), (62, .bipush 20, mX), (64, .invokespecial 39, (15, 2, 0)), (67, .putfield 46, (11, 16, 0)), (70, .aload_n 0, mX), (71, .new 37, (6, 0, 0)), (74, .dup, mX), (75, .bipush 20, mX), (77, .invokespecial 39, (15, 2, 0)), (80, .putfield 49, (11, 17, 0)), (83, .aload_n 0, mX), (84, .new 37, (6, 0, 0)), (87, .dup, mX), (88, .iconst 4, mX), (89, .invokespecial 39, (15, 2, 0)), (92, .putfield 52, (11, 18, 0)), (95, .aload_n 0, mX), (96, .new 37, (6, 0, 0)), (99, .dup, mX), (100, .bipush 12, mX), (102, .invokespecial 39, (15, 2, 0)), (105, .putfield 55, (11, 19, 0)), (108, .aload_n 0, mX), (109, .new 37, (6, 0, 0)), (112, .dup, mX), (113, .bipush 12, mX), (115, .invokespecial 39, (15, 2, 0)), (118, .putfield 58, (11, 20, 0)), (121, .aload_n 0, mX), (122, .lload_n 1, mX), (123, .putfield 61, (11, 0, 0)), (126, .aload_n 0, mX), (127, .iload_n 3, mX), (128, .putfield 65, (11, 1, 0)), (131, .aload_n 0, mX), (132, .iload 4, mX), (134, .putfield 68, (11, 2, 0)), (137, .aload_n 0, mX), (138, .iload 5, mX), (140, .putfield 71, (11, 3, 0)), (143, .aload_n 0, mX), (144, .iload 6, mX), (146, .putfield 74, (11, 4, 0)), (149, .aload_n 0, mX), (150, .iload 7, mX), (152, .putfield 77, (11, 5, 0)), (155, .aload_n 0, mX), (156, .iload 8, mX), (158, .putfield 80, (11, 6, 0)), (161, .return_, mX)])
noncomputable def mt136 : am_M := (⟨"AssizeRide$Docket", "begin", "(LAssizeRide$Matter;I)I"⟩, prog_5_method_5_code, 3, (Option.some FieldType.int), [(0, .aload_n 0, mX), (1, .invokevirtual 92, (134, 1, 0)), (4, .ifCond .eq 6, mX), (7, .bipush (-3), mX), (9, .ireturn, mX), (10, .aload_n 0, mX), (11, .getfield 20, (5, 4, 0)), (14, .aload_n 0, mX), (15, .getfield 9, (5, 2, 0)), (18, .aload_n 1, mX), (19, .aastore, mX), (20, .aload_n 0, mX), (21, .dup, mX), (22, .getfield 9, (5, 2, 0)), (25, .iconst 1, mX), (26, .iadd, mX), (27, .putfield 9, (5, 2, 0)), (30, .aload_n 0, mX), (31, .aload_n 0, mX), (32, .getfield 9, (5, 2, 0)), (35, .iconst 1, mX), (36, .isub, mX), (37, .iconst 0, mX), (38, .iload_n 2, mX), (39, .iload_n 2, mX), (40, .invokevirtual 95, (64, 5, 0)), (43, .aload_n 0, mX), (44, .getfield 9, (5, 2, 0)), (47, .iconst 1, mX), (48, .isub, mX), (49, .ireturn, mX)])
end
section
/-! PRINTED by wip/whole/gen.py: the instructions -/
noncomputable def mt137 : am_M := (⟨"AssizeRide", "plea", "(IIIIII)I"⟩, prog_1_method_27_code, 7, (Option.some FieldType.int), [(0, .aload_n 0, mX), (1, .getfield 10, mX), (4, .invokevirtual 153, (71, 1, 0)), (7, .aload_n 0, mX), (8, .getfield 19, (0, 1, 0)), (11, .iload_n 1, mX), (12, .invokevirtual 124, (38, 2, 0)), (15, .ifCond .eq 43, mX), (18, .aload_n 0, mX), (19, .getfield 19, (0, 1, 0)), (22, .iload_n 2, mX), (23, .invokevirtual 124, (38, 2, 0)), (26, .ifCond .eq 32, mX), (29, .iload_n 1, mX), (30, .iload_n 2, mX), (31, .if_icmp .eq 27, mX), (34, .iload 6, mX), (36, .iconst 1, mX), (37, .sipush 9999, mX), (40, .invokestatic 95, (25, 3, 0)), (43, .ifCond .eq 15, mX), (46, .aload_n 0, mX), (47, .iload_n 3, mX), (48, .iload 4, mX), (50, .iload 5, mX), (52, .invokevirtual 221, (132, 4, 0)), (55, .ifCond .ne 6, mX), (58, .bipush (-2), mX), (60, .ireturn, mX), (61, .aload_n 0, mX), (62, .iload_n 1, mX), (63, .iload_n 2, mX), (64, .iload_n 3, mX), (65, .iload 4, mX), (67, .iload 5, mX), (69, .iload 6, mX), (71, .invokevirtual 224, (133, 7, 0)), (74, .ireturn, mX)])
noncomputable def mt138 : am_M := (⟨"AssizeRide", "words", "(I)I"⟩, prog_1_method_30_code, 3, (Option.some FieldType.int), [(0, .aload_n 0, mX), (1, .getfield 10, mX), (4, .invokevirtual 153, (71, 1, 0)), (7, .aload_n 0, mX), (8, .getfield 44, (0, 4, 0)), (11, .iload_n 1, mX), (12, .invokevirtual 240, (139, 2, 0)), (15, .astore_n 2, mX), (16, .aload_n 2, mX), (17, .ifnonnull 6, mX), (20, .bipush (-2), mX), (22, .ireturn, mX), (23, .aload_n 2, mX), (24, .getfield 244, (11, 7, 0)), (27, .ifCond .eq 6, mX), (30, .bipush (-4), mX), (32, .ireturn, mX), (33, .aload_n 2, mX), (34, .getfield 247, (11, 15, 0)), (37, .aload_n 0, mX), (38, .getfield 10, mX), (41, .invokevirtual 250, (140, 2, 0)), (44, .ifCond .eq 13, mX), (47, .aload_n 2, mX), (48, .getfield 247, (11, 15, 0)), (51, .getfield 254, (6, 2, 0)), (54, .goto 4, mX), (57, .iconst (-1), mX), (58, .ireturn, mX)])
noncomputable def mt139 : am_M := (⟨"AssizeRide$Docket", "findCrown", "(I)LAssizeRide$Matter;"⟩, prog_5_method_3_code, 3, (Option.some (FieldType.object "AssizeRide$Matter")), [(0, .aload_n 0, mX), (1, .iload_n 1, mX), (2, .invokevirtual 84, (46, 2, 0)), (5, .astore_n 2, mX), (6, .aload_n 2, mX), (7, .ifnull 10, mX), (10, .aload_n 2, mX), (11, .invokevirtual 88, (62, 1, 0)), (14, .ifCond .eq 7, mX), (17, .aconst_null, mX), (18, .goto 4, mX), (21, .aload_n 2, mX), (22, .areturn, mX)])
noncomputable def mt140 : am_M := (⟨"AssizeRide$Row", "readWords", "(LAssizeRide$Tape;)Z"⟩, prog_11_method_11_code, 4, (Option.some FieldType.boolean), [(0, .iconst 0, mX), (1, .istore_n 2, mX), (2, .iload_n 2, mX), (3, .bipush 20, mX), (5, .if_icmp .gt 18, mX), (8, .aload_n 1, mX), (9, .iload_n 2, mX), (10, .invokevirtual 50, (79, 2, 0)), (13, .iconst 1, mX), (14, .if_icmp .ne 9, mX), (17, .iinc 2 1, mX), (20, .goto (-18), mX), (23, .iload_n 2, mX), (24, .iconst 1, mX), (25, .bipush 20, mX), (27, .invokestatic 33, (25, 3, 0)), (30, .ifCond .eq 11, mX), (33, .aload_n 1, mX), (34, .iload_n 2, mX), (35, .invokevirtual 50, (79, 2, 0)), (38, .ifCond .eq 5, mX), (41, .iconst 0, mX), (42, .ireturn, mX), (43, .aload_n 0, mX), (44, .invokevirtual 43, (60, 1, 0)), (47, .iconst 0, mX), (48, .istore_n 3, mX), (49, .iload_n 3, mX), (50, .iload_n 2, mX), (51, .if_icmp .ge 20, mX), (54, .aload_n 0, mX), (55, .aload_n 1, mX), (56, .iload_n 3, mX), (57, .invokevirtual 56, (80, 2, 0)), (60, .iconst 0, mX), (61, .invokevirtual 46, (122, 3, 0)), (64, .pop, mX), (65, .iinc 3 1, mX), (68, .goto (-19), mX), (71, .aload_n 0, mX), (72, .iconst 1, mX), (73, .putfield 15, (6, 3, 0)), (76, .iconst 1, mX), (77, .ireturn, mX)])
noncomputable def mt141 : am_M := (⟨"AssizeRide", "allege", "(I)I"⟩, prog_1_method_31_code, 3, (Option.some FieldType.int), [(0, .aload_n 0, mX), (1, .getfield 10, mX), (4, .invokevirtual 153, (71, 1, 0)), (7, .aload_n 0, mX), (8, .getfield 44, (0, 4, 0)), (11, .iload_n 1, mX), (12, .invokevirtual 240, (139, 2, 0)), (15, .astore_n 2, mX), (16, .aload_n 2, mX), (17, .ifnonnull 6, mX), (20, .bipush (-2), mX), (22, .ireturn, mX), (23, .aload_n 2, mX), (24, .getfield 244, (11, 7, 0)), (27, .ifCond .eq 6, mX), (30, .bipush (-4), mX), (32, .ireturn, mX), (33, .aload_n 0, mX), (34, .getfield 81, (0, 9, 0)), (37, .aload_n 0, mX), (38, .getfield 10, mX), (41, .iconst 0, mX), (42, .invokevirtual 204, (121, 3, 0)), (45, .ifCond .ne 5, mX), (48, .iconst (-1), mX), (49, .ireturn, mX), (50, .aload_n 2, mX), (51, .getfield 257, (11, 16, 0)), (54, .aload_n 0, mX), (55, .getfield 81, (0, 9, 0)), (58, .invokevirtual 260, (142, 2, 0)), (61, .aload_n 2, mX), (62, .getfield 257, (11, 16, 0)), (65, .getfield 254, (6, 2, 0)), (68, .ireturn, mX)])
noncomputable def mt142 : am_M := (⟨"AssizeRide$Row", "copyFrom", "(LAssizeRide$Row;)V"⟩, prog_11_method_9_code, 3, (Option.none : Option FieldType), [(0, .aload_n 0, mX), (1, .invokevirtual 43, (60, 1, 0)), (4, .iconst 0, mX), (5, .istore_n 2, mX), (6, .iload_n 2, mX), (7, .aload_n 1, mX), (8, .getfield 9, (6, 2, 0)), (11, .if_icmp .ge 26, mX), (14, .aload_n 0, mX), (15, .aload_n 1, mX), (16, .getfield 25, (6, 0, 0)), (19, .iload_n 2, mX), (20, .laload, mX), (21, .aload_n 1, mX), (22, .getfield 29, (6, 1, 0)), (25, .iload_n 2, mX), (26, .iaload, mX), (27, .invokevirtual 46, (122, 3, 0)), (30, .pop, mX), (31, .iinc 2 1, mX), (34, .goto (-28), mX), (37, .aload_n 0, mX), (38, .aload_n 1, mX), (39, .getfield 15, (6, 3, 0)), (42, .putfield 15, (6, 3, 0)), (45, .return_, mX)])
noncomputable def mt143 : am_M := (⟨"AssizeRide", "bad", "(I)I"⟩, prog_1_method_32_code, 3, (Option.some FieldType.int), [(0, .aload_n 0, mX), (1, .getfield 44, (0, 4, 0)), (4, .iload_n 1, mX), (5, .invokevirtual 240, (139, 2, 0)), (8, .astore_n 2, mX), (9, .aload_n 2, mX), (10, .ifnonnull 8, mX), (13, .bipush (-2), mX), (15, .goto 11, mX), (18, .aload_n 0, mX), (19, .getfield 44, (0, 4, 0)), (22, .aload_n 2, mX), (23, .invokevirtual 264, (144, 2, 0)), (26, .ireturn, mX)])
noncomputable def mt144 : am_M := (⟨"AssizeRide$Docket", "indictmentFault", "(LAssizeRide$Matter;)I"⟩, prog_5_method_12_code, 5, (Option.some FieldType.int), [(0, .aload_n 1, mX), (1, .getfield 124, (11, 15, 0)), (4, .getfield 127, (6, 3, 0)), (7, .ifCond .eq 13, mX), (10, .aload_n 1, mX), (11, .getfield 131, (11, 16, 0)), (14, .getfield 127, (6, 3, 0)), (17, .ifCond .ne 6, mX), (20, .bipush 100, mX), (22, .ireturn, mX), (23, .aload_n 0, mX), (24, .getfield 76, (5, 0, 0)), (27, .iconst 0, mX), (28, .aload_n 1, mX), (29, .getfield 104, (11, 0, 0)), (32, .aload_n 1, mX), (33, .getfield 110, (11, 5, 0)), (36, .aload_n 1, mX), (37, .getfield 113, (11, 3, 0)), (40, .invokevirtual 134, (53, 5, 0)), (43, .istore_n 2, mX), (44, .iload_n 2, mX), (45, .iconst (-1), mX), (46, .if_icmp .ne 7, mX), (49, .sipush 200, mX), (52, .ireturn, mX), (53, .aload_n 0, mX), (54, .aload_n 1, mX), (55, .invokevirtual 137, (145, 2, 0)), (58, .istore_n 3, mX), (59, .iload_n 3, mX), (60, .iconst (-1), mX), (61, .if_icmp .eq 9, mX), (64, .sipush 300, mX), (67, .iload_n 3, mX), (68, .iadd, mX), (69, .ireturn, mX), (70, .aload_n 0, mX), (71, .getfield 76, (5, 0, 0)), (74, .iload_n 2, mX), (75, .aload_n 0, mX), (76, .getfield 76, (5, 0, 0)), (79, .iload_n 2, mX), (80, .aload_n 1, mX), (81, .getfield 131, (11, 16, 0)), (84, .invokevirtual 141, (123, 3, 0)), (87, .invokevirtual 145, (128, 3, 0)), (90, .istore 4, mX), (92, .iload 4, mX), (94, .iconst (-1), mX), (95, .if_icmp .ne 7, mX), (98, .iconst 0, mX), (99, .goto 9, mX), (102, .sipush 400, mX), (105, .iload 4, mX), (107, .iadd, mX), (108, .ireturn, mX)])
noncomputable def mt145 : am_M := (⟨"AssizeRide$Docket", "wordNotHad", "(LAssizeRide$Matter;)I"⟩, prog_5_method_13_code, 5, (Option.some FieldType.int), [(0, .aload_n 0, mX), (1, .getfield 76, (5, 0, 0)), (4, .iconst 1, mX), (5, .aload_n 1, mX), (6, .getfield 104, (11, 0, 0)), (9, .aload_n 1, mX), (10, .getfield 110, (11, 5, 0)), (13, .aload_n 1, mX), (14, .getfield 113, (11, 3, 0)), (17, .invokevirtual 134, (53, 5, 0)), (20, .istore_n 2, mX), (21, .iconst 0, mX), (22, .istore_n 3, mX), (23, .iconst 0, mX), (24, .istore 4, mX), (26, .iload 4, mX), (28, .aload_n 1, mX), (29, .getfield 124, (11, 15, 0)), (32, .getfield 149, (6, 2, 0)), (35, .if_icmp .ge 46, mX), (38, .iload_n 3, mX), (39, .aload_n 0, mX), (40, .getfield 76, (5, 0, 0)), (43, .iload_n 2, mX), (44, .invokevirtual 150, (124, 2, 0)), (47, .if_icmp .ge 28, mX), (50, .aload_n 1, mX), (51, .getfield 124, (11, 15, 0)), (54, .iload 4, mX), (56, .invokevirtual 154, (146, 2, 0)), (59, .aload_n 0, mX), (60, .getfield 76, (5, 0, 0)), (63, .iload_n 2, mX), (64, .iload_n 3, mX), (65, .invokevirtual 158, (125, 3, 0)), (68, .lcmp, mX), (69, .ifCond .ne 6, mX), (72, .iinc 3 1, mX), (75, .iinc 4 1, mX), (78, .goto (-52), mX), (81, .iload_n 3, mX), (82, .aload_n 0, mX), (83, .getfield 76, (5, 0, 0)), (86, .iload_n 2, mX), (87, .invokevirtual 150, (124, 2, 0)), (90, .if_icmp .ge 7, mX), (93, .iload_n 3, mX), (94, .goto 4, mX), (97, .iconst (-1), mX), (98, .ireturn, mX)])
noncomputable def mt146 : am_M := (⟨"AssizeRide$Row", "nameAt", "(I)J"⟩, prog_11_method_3_code, 2, (Option.some FieldType.long), [(0, .iload_n 1, mX), (1, .iconst 0, mX), (2, .aload_n 0, mX), (3, .getfield 9, (6, 2, 0)), (6, .iconst 1, mX), (7, .isub, mX), (8, .invokestatic 33, (25, 3, 0)), (11, .ifCond .eq 12, mX), (14, .aload_n 0, mX), (15, .getfield 25, (6, 0, 0)), (18, .iload_n 1, mX), (19, .laload, mX), (20, .goto 6, mX), (23, .ldc2_w 37, (0, 0, (-1))), (26, .lreturn, mX)])
noncomputable def mt147 : am_M := (⟨"AssizeRide", "mend", "(I)I"⟩, prog_1_method_33_code, 3, (Option.some FieldType.int), [(0, .aload_n 0, mX), (1, .getfield 44, (0, 4, 0)), (4, .iload_n 1, mX), (5, .invokevirtual 240, (139, 2, 0)), (8, .astore_n 2, mX), (9, .aload_n 2, mX), (10, .ifnonnull 6, mX), (13, .bipush (-2), mX), (15, .ireturn, mX), (16, .aload_n 2, mX), (17, .getfield 244, (11, 7, 0)), (20, .ifCond .ne 13, mX), (23, .aload_n 2, mX), (24, .getfield 247, (11, 15, 0)), (27, .getfield 268, (6, 3, 0)), (30, .ifCond .ne 6, mX), (33, .bipush (-4), mX), (35, .ireturn, mX), (36, .aload_n 0, mX), (37, .getfield 44, (0, 4, 0)), (40, .aload_n 2, mX), (41, .bipush 6, mX), (43, .invokevirtual 272, (51, 3, 0)), (46, .ifCond .ne 7, mX), (49, .iconst (-1), mX), (50, .goto 11, mX), (53, .aload_n 0, mX), (54, .getfield 44, (0, 4, 0)), (57, .aload_n 2, mX), (58, .invokevirtual 275, (148, 2, 0)), (61, .ireturn, mX)])
noncomputable def mt148 : am_M := (⟨"AssizeRide$Docket", "weaveIn", "(LAssizeRide$Matter;)I"⟩, prog_5_method_14_code, 5, (Option.some FieldType.int), [(0, .aload_n 0, mX), (1, .getfield 76, (5, 0, 0)), (4, .iconst 1, mX), (5, .aload_n 1, mX), (6, .getfield 104, (11, 0, 0)), (9, .aload_n 1, mX), (10, .getfield 110, (11, 5, 0)), (13, .aload_n 1, mX), (14, .getfield 113, (11, 3, 0)), (17, .invokevirtual 134, (53, 5, 0)), (20, .istore_n 2, mX), (21, .aload_n 0, mX), (22, .getfield 76, (5, 0, 0)), (25, .iload_n 2, mX), (26, .invokevirtual 150, (124, 2, 0)), (29, .bipush 8, mX), (31, .invokestatic 162, (44, 2, 0)), (34, .istore_n 3, mX), (35, .aload_n 0, mX), (36, .aload_n 1, mX), (37, .getfield 124, (11, 15, 0)), (40, .iload_n 2, mX), (41, .iload_n 3, mX), (42, .invokevirtual 167, (149, 4, 0)), (45, .aload_n 0, mX), (46, .getfield 64, (5, 16, 0)), (49, .iconst 0, mX), (50, .iaload, mX), (51, .istore 4, mX), (53, .aload_n 1, mX), (54, .getfield 124, (11, 15, 0)), (57, .getfield 149, (6, 2, 0)), (60, .iload 4, mX), (62, .iadd, mX), (63, .bipush 28, mX), (65, .if_icmp .le 6, mX), (68, .bipush (-3), mX), (70, .ireturn, mX), (71, .aload_n 0, mX), (72, .aload_n 1, mX), (73, .getfield 124, (11, 15, 0)), (76, .iload_n 2, mX), (77, .iload_n 3, mX), (78, .invokevirtual 171, (151, 4, 0)), (81, .aload_n 1, mX), (82, .getfield 124, (11, 15, 0)), (85, .aload_n 0, mX), (86, .getfield 72, (5, 17, 0)), (89, .invokevirtual 174, (142, 2, 0)), (92, .iload 4, mX), (94, .ireturn, mX)])
noncomputable def mt149 : am_M := (⟨"AssizeRide$Docket", "countPutIn", "(LAssizeRide$Row;II)V"⟩, prog_5_method_16_code, 7, (Option.none : Option FieldType), [(0, .aload_n 1, mX), (1, .getfield 149, (6, 2, 0)), (4, .bipush 28, mX), (6, .invokestatic 162, (44, 2, 0)), (9, .istore 4, mX), (11, .iload 4, mX), (13, .ifCond .lt 137, mX), (16, .iload_n 3, mX), (17, .istore 5, mX), (19, .iload 5, mX), (21, .ifCond .lt 123, mX), (24, .iload 5, mX), (26, .iload_n 3, mX), (27, .if_icmp .eq 12, mX), (30, .iload 4, mX), (32, .aload_n 1, mX), (33, .getfield 149, (6, 2, 0)), (36, .if_icmp .ne 12, mX), (39, .iload_n 3, mX), (40, .iload 5, mX), (42, .isub, mX), (43, .istore 6, mX), (45, .goto 79, mX), (48, .aload_n 1, mX), (49, .iload 4, mX), (51, .invokevirtual 154, (146, 2, 0)), (54, .aload_n 0, mX), (55, .getfield 76, (5, 0, 0)), (58, .iload_n 2, mX), (59, .iload 5, mX), (61, .invokevirtual 158, (125, 3, 0)), (64, .lcmp, mX), (65, .ifCond .ne 24, mX), (68, .aload_n 0, mX), (69, .getfield 64, (5, 16, 0)), (72, .iload 4, mX), (74, .iconst 1, mX), (75, .iadd, mX), (76, .iload 5, mX), (78, .iconst 1, mX), (79, .iadd, mX), (80, .invokestatic 178, (150, 2, 0)), (83, .iaload, mX), (84, .istore 6, mX), (86, .goto 38, mX), (89, .aload_n 0, mX), (90, .getfield 64, (5, 16, 0)), (93, .iload 4, mX), (95, .iconst 1, mX), (96, .iadd, mX), (97, .iload 5, mX), (99, .invokestatic 178, (150, 2, 0)), (102, .iaload, mX), (103, .iconst 1, mX), (104, .aload_n 0, mX), (105, .getfield 64, (5, 16, 0)), (108, .iload 4, mX), (110, .iload 5, mX), (112, .iconst 1, mX), (113, .iadd, mX), (114, .invokestatic 178, (150, 2, 0)), (117, .iaload, mX), (118, .iadd, mX), (119, .invokestatic 162, (44, 2, 0)), (122, .istore 6, mX), (124, .aload_n 0, mX), (125, .getfield 64, (5, 16, 0)), (128, .iload 4, mX), (130, .iload 5, mX), (132, .invokestatic 178, (150, 2, 0)), (135, .iload 6, mX), (137, .iastore, mX), (138, .iinc 5 (-1), mX), (141, .goto (-122), mX), (144, .iinc 4 (-1), mX), (147, .goto (-136), mX), (150, .return_, mX)])
noncomputable def mt150 : am_M := (⟨"AssizeRide$Docket", "cell", "(II)I"⟩, prog_5_method_15_code, 2, (Option.some FieldType.int), [(0, .iload_n 0, mX), (1, .bipush 9, mX), (3, .imul, mX), (4, .iload_n 1, mX), (5, .iadd, mX), (6, .ireturn, mX)])
noncomputable def mt151 : am_M := (⟨"AssizeRide$Docket", "weave", "(LAssizeRide$Row;II)V"⟩, prog_5_method_17_code, 9, (Option.none : Option FieldType), [(0, .aload_n 0, mX), (1, .getfield 72, (5, 17, 0)), (4, .invokevirtual 181, (60, 1, 0)), (7, .iconst 0, mX), (8, .istore 4, mX), (10, .iconst 0, mX), (11, .istore 5, mX), (13, .iconst 0, mX), (14, .istore 6, mX), (16, .iload 6, mX), (18, .bipush 28, mX), (20, .if_icmp .ge 192, mX), (23, .iload 4, mX), (25, .aload_n 1, mX), (26, .getfield 149, (6, 2, 0)), (29, .if_icmp .lt 9, mX), (32, .iload 5, mX), (34, .iload_n 3, mX), (35, .if_icmp .ge 177, mX), (38, .iload 4, mX), (40, .aload_n 1, mX), (41, .getfield 149, (6, 2, 0)), (44, .if_icmp .ge 33, mX), (47, .iload 5, mX), (49, .iload_n 3, mX), (50, .if_icmp .ge 27, mX), (53, .aload_n 1, mX), (54, .iload 4, mX), (56, .invokevirtual 154, (146, 2, 0)), (59, .aload_n 0, mX), (60, .getfield 76, (5, 0, 0)), (63, .iload_n 2, mX), (64, .iload 5, mX), (66, .invokevirtual 158, (125, 3, 0)), (69, .lcmp, mX), (70, .ifCond .ne 7, mX), (73, .iconst 1, mX), (74, .goto 4, mX), (77, .iconst 0, mX), (78, .istore 7, mX), (80, .iload 7, mX), (82, .ifCond .ne 53, mX), (85, .iload 5, mX), (87, .iload_n 3, mX), (88, .if_icmp .ge 47, mX), (91, .iload 4, mX), (93, .aload_n 1, mX), (94, .getfield 149, (6, 2, 0)), (97, .if_icmp .eq 34, mX), (100, .aload_n 0, mX), (101, .getfield 64, (5, 16, 0)), (104, .iload 4, mX), (106, .iload 5, mX), (108, .iconst 1, mX), (109, .iadd, mX), (110, .invokestatic 178, (150, 2, 0)), (113, .iaload, mX), (114, .iconst 1, mX), (115, .iadd, mX), (116, .aload_n 0, mX), (117, .getfield 64, (5, 16, 0)), (120, .iload 4, mX), (122, .iload 5, mX), (124, .invokestatic 178, (150, 2, 0)), (127, .iaload, mX), (128, .if_icmp .ne 7, mX), (131, .iconst 1, mX), (132, .goto 4, mX), (135, .iconst 0, mX), (136, .istore 8, mX), (138, .aload_n 0, mX), (139, .getfield 72, (5, 17, 0)), (142, .iload 8, mX), (144, .ifCond .eq 16, mX), (147, .aload_n 0, mX), (148, .getfield 76, (5, 0, 0)), (151, .iload_n 2, mX), (152, .iload 5, mX), (154, .invokevirtual 158, (125, 3, 0)), (157, .goto 9, mX), (160, .aload_n 1, mX), (161, .iload 4, mX), (163, .invokevirtual 154, (146, 2, 0)), (166, .iconst 0, mX), (167, .invokevirtual 184, (122, 3, 0)), (170, .pop, mX), (171, .iload 4, mX), (173, .iload 8, mX), (175, .ifCond .eq 7, mX), (178, .iconst 0, mX), (179, .goto 4, mX), (182, .iconst 1, mX), (183, .iadd, mX), (184, .istore 4, mX), (186, .iload 5, mX), (188, .iload 7, mX), (190, .ifCond .ne 8, mX), (193, .iload 8, mX), (195, .ifCond .eq 7, mX), (198, .iconst 1, mX), (199, .goto 4, mX), (202, .iconst 0, mX), (203, .iadd, mX), (204, .istore 5, mX), (206, .iinc 6 1, mX), (209, .goto (-193), mX), (212, .aload_n 0, mX), (213, .getfield 72, (5, 17, 0)), (216, .iconst 1, mX), (217, .putfield 127, (6, 3, 0)), (220, .return_, mX)])
noncomputable def mt152 : am_M := (⟨"AssizeRide", "bill", "(II)I"⟩, prog_1_method_34_code, 5, (Option.some FieldType.int), [(0, .aload_n 0, mX), (1, .getfield 44, (0, 4, 0)), (4, .iload_n 1, mX), (5, .invokevirtual 240, (139, 2, 0)), (8, .astore_n 3, mX), (9, .aload_n 3, mX), (10, .ifnull 13, mX), (13, .iload_n 2, mX), (14, .iconst 0, mX), (15, .bipush 23, mX), (17, .invokestatic 95, (25, 3, 0)), (20, .ifCond .ne 6, mX), (23, .bipush (-2), mX), (25, .ireturn, mX), (26, .aload_n 3, mX), (27, .getfield 244, (11, 7, 0)), (30, .ifCond .eq 6, mX), (33, .bipush (-4), mX), (35, .ireturn, mX), (36, .iload_n 2, mX), (37, .aload_n 0, mX), (38, .getfield 44, (0, 4, 0)), (41, .aload_n 3, mX), (42, .bipush 12, mX), (44, .invokevirtual 272, (51, 3, 0)), (47, .if_icmp .lt 18, mX), (50, .aload_n 0, mX), (51, .getfield 44, (0, 4, 0)), (54, .aload_n 3, mX), (55, .invokevirtual 264, (144, 2, 0)), (58, .ifCond .ne 7, mX), (61, .iconst 1, mX), (62, .goto 4, mX), (65, .iconst 0, mX), (66, .istore 4, mX), (68, .aload_n 0, mX), (69, .getfield 44, (0, 4, 0)), (72, .iload_n 1, mX), (73, .iload 4, mX), (75, .ifCond .eq 7, mX), (78, .iconst 2, mX), (79, .goto 4, mX), (82, .iconst 1, mX), (83, .aload_n 0, mX), (84, .getfield 85, (0, 10, 0)), (87, .invokevirtual 278, (63, 4, 0)), (90, .ireturn, mX)])
noncomputable def mt153 : am_M := (⟨"AssizeRide", "matter", "(II)I"⟩, prog_1_method_35_code, 4, (Option.some FieldType.int), [(0, .aload_n 0, mX), (1, .getfield 44, (0, 4, 0)), (4, .iload_n 1, mX), (5, .invokevirtual 281, (46, 2, 0)), (8, .astore_n 3, mX), (9, .aload_n 3, mX), (10, .ifnonnull 8, mX), (13, .bipush (-9), mX), (15, .goto 8, mX), (18, .aload_n 3, mX), (19, .iload_n 2, mX), (20, .invokevirtual 284, (154, 2, 0)), (23, .ireturn, mX)])
noncomputable def mt154 : am_M := (⟨"AssizeRide$Matter", "tellOf", "(I)I"⟩, prog_8_method_12_code, 2, (Option.some FieldType.int), [(0, .iload_n 1, mX), (1, .tableswitch 175 0 14 #[75, 88, 93, 98, 103, 108, 113, 118, 123, 136, 141, 149, 157, 165, 170], (75, 0, 0)), (76, .aload_n 0, mX), (77, .invokevirtual 83, (62, 1, 0)), (80, .ifCond .eq 7, mX), (83, .iconst 1, mX), (84, .goto 4, mX), (87, .iconst 0, mX), (88, .ireturn, mX), (89, .aload_n 0, mX), (90, .getfield 65, (11, 1, 0)), (93, .ireturn, mX), (94, .aload_n 0, mX), (95, .getfield 68, (11, 2, 0)), (98, .ireturn, mX), (99, .aload_n 0, mX), (100, .getfield 71, (11, 3, 0)), (103, .ireturn, mX), (104, .aload_n 0, mX), (105, .getfield 74, (11, 4, 0)), (108, .ireturn, mX), (109, .aload_n 0, mX), (110, .getfield 77, (11, 5, 0)), (113, .ireturn, mX), (114, .aload_n 0, mX), (115, .getfield 80, (11, 6, 0)), (118, .ireturn, mX), (119, .aload_n 0, mX), (120, .getfield 11, (11, 7, 0)), (123, .ireturn, mX), (124, .aload_n 0, mX), (125, .getfield 15, (11, 8, 0)), (128, .ifCond .eq 7, mX), (131, .iconst 1, mX), (132, .goto 4, mX), (135, .iconst 0, mX), (136, .ireturn, mX), (137, .aload_n 0, mX), (138, .getfield 19, (11, 9, 0)), (141, .ireturn, mX), (142, .aload_n 0, mX), (143, .getfield 55, (11, 19, 0)), (146, .getfield 108, (6, 2, 0)), (149, .ireturn, mX), (150, .aload_n 0, mX), (151, .getfield 52, (11, 18, 0)), (154, .getfield 108, (6, 2, 0)), (157, .ireturn, mX), (158, .aload_n 0, mX), (159, .getfield 58, (11, 20, 0)), (162, .getfield 108, (6, 2, 0)), (165, .ireturn, mX), (166, .aload_n 0, mX), (167, .getfield 22, (11, 10, 0)), (170, .ireturn, mX), (171, .aload_n 0, mX), (172, .getfield 25, (11, 11, 0)), (175, .ireturn, mX), (176, .bipush (-9), mX), (178, .ireturn, mX)])
noncomputable def mt155 : am_M := (⟨"AssizeRide", "witness", "(II)I"⟩, prog_1_method_36_code, 4, (Option.some FieldType.int), [(0, .aload_n 0, mX), (1, .getfield 44, (0, 4, 0)), (4, .iload_n 1, mX), (5, .invokevirtual 281, (46, 2, 0)), (8, .astore_n 3, mX), (9, .aload_n 3, mX), (10, .ifnull 14, mX), (13, .aload_n 0, mX), (14, .getfield 19, (0, 1, 0)), (17, .iload_n 2, mX), (18, .invokevirtual 124, (38, 2, 0)), (21, .ifCond .ne 6, mX), (24, .bipush (-2), mX), (26, .ireturn, mX), (27, .aload_n 3, mX), (28, .invokevirtual 287, (156, 1, 0)), (31, .ifCond .eq 11, mX), (34, .aload_n 3, mX), (35, .iload_n 2, mX), (36, .invokevirtual 290, (157, 2, 0)), (39, .ifCond .eq 6, mX), (42, .bipush (-4), mX), (44, .ireturn, mX), (45, .aload_n 3, mX), (46, .getfield 293, (11, 18, 0)), (49, .iload_n 2, mX), (50, .i2l, mX), (51, .iconst 0, mX), (52, .invokevirtual 296, (122, 3, 0)), (55, .ifCond .eq 13, mX), (58, .aload_n 3, mX), (59, .getfield 293, (11, 18, 0)), (62, .getfield 254, (6, 2, 0)), (65, .goto 5, mX), (68, .bipush (-3), mX), (70, .ireturn, mX)])
noncomputable def mt156 : am_M := (⟨"AssizeRide$Matter", "isOpen", "()Z"⟩, prog_8_method_3_code, 1, (Option.some FieldType.boolean), [(0, .aload_n 0, mX), (1, .getfield 11, (11, 7, 0)), (4, .ifCond .eq 28, mX), (7, .aload_n 0, mX), (8, .getfield 11, (11, 7, 0)), (11, .iconst 2, mX), (12, .if_icmp .eq 20, mX), (15, .aload_n 0, mX), (16, .getfield 11, (11, 7, 0)), (19, .iconst 3, mX), (20, .if_icmp .eq 12, mX), (23, .aload_n 0, mX), (24, .getfield 11, (11, 7, 0)), (27, .bipush 7, mX), (29, .if_icmp .ne 7, mX), (32, .iconst 1, mX), (33, .goto 4, mX), (36, .iconst 0, mX), (37, .ireturn, mX)])
noncomputable def mt157 : am_M := (⟨"AssizeRide$Matter", "involves", "(I)Z"⟩, prog_8_method_10_code, 2, (Option.some FieldType.boolean), [(0, .aload_n 0, mX), (1, .iload_n 1, mX), (2, .invokevirtual 97, (50, 2, 0)), (5, .ifCond .ne 27, mX), (8, .aload_n 0, mX), (9, .getfield 52, (11, 18, 0)), (12, .iload_n 1, mX), (13, .i2l, mX), (14, .invokevirtual 101, (48, 2, 0)), (17, .ifCond .ne 15, mX), (20, .aload_n 0, mX), (21, .getfield 55, (11, 19, 0)), (24, .iload_n 1, mX), (25, .i2l, mX), (26, .invokevirtual 101, (48, 2, 0)), (29, .ifCond .eq 7, mX), (32, .iconst 1, mX), (33, .goto 4, mX), (36, .iconst 0, mX), (37, .ireturn, mX)])
noncomputable def mt158 : am_M := (⟨"AssizeRide", "may", "(II)I"⟩, prog_1_method_37_code, 4, (Option.some FieldType.int), [(0, .aload_n 0, mX), (1, .getfield 44, (0, 4, 0)), (4, .iload_n 1, mX), (5, .invokevirtual 281, (46, 2, 0)), (8, .astore_n 3, mX), (9, .aload_n 3, mX), (10, .ifnull 14, mX), (13, .aload_n 0, mX), (14, .getfield 19, (0, 1, 0)), (17, .iload_n 2, mX), (18, .invokevirtual 124, (38, 2, 0)), (21, .ifCond .ne 6, mX), (24, .bipush (-2), mX), (26, .ireturn, mX), (27, .aload_n 0, mX), (28, .getfield 44, (0, 4, 0)), (31, .aload_n 3, mX), (32, .iload_n 2, mX), (33, .aload_n 0, mX), (34, .getfield 85, (0, 10, 0)), (37, .aload_n 0, mX), (38, .getfield 85, (0, 10, 0)), (41, .invokevirtual 300, (159, 5, 0)), (44, .ifCond .eq 7, mX), (47, .iconst 1, mX), (48, .goto 4, mX), (51, .iconst 0, mX), (52, .ireturn, mX)])
noncomputable def mt159 : am_M := (⟨"AssizeRide$Docket", "mayServe", "(LAssizeRide$Matter;III)Z"⟩, prog_5_method_18_code, 5, (Option.some FieldType.boolean), [(0, .aload_n 0, mX), (1, .aload_n 1, mX), (2, .iload_n 2, mX), (3, .iload_n 3, mX), (4, .iload 4, mX), (6, .aload_n 0, mX), (7, .aload_n 1, mX), (8, .bipush 8, mX), (10, .invokevirtual 188, (51, 3, 0)), (13, .aload_n 0, mX), (14, .aload_n 1, mX), (15, .bipush 9, mX), (17, .invokevirtual 188, (51, 3, 0)), (20, .invokevirtual 192, (160, 7, 0)), (23, .ireturn, mX)])
noncomputable def mt160 : am_M := (⟨"AssizeRide$Docket", "isFit", "(LAssizeRide$Matter;IIIII)Z"⟩, prog_5_method_19_code, 7, (Option.some FieldType.boolean), [(0, .aload_n 0, mX), (1, .getfield 80, (5, 1, 0)), (4, .iload_n 2, mX), (5, .invokevirtual 196, (161, 2, 0)), (8, .aload_n 1, mX), (9, .getfield 113, (11, 3, 0)), (12, .if_icmp .ne 96, mX), (15, .aload_n 1, mX), (16, .iload_n 2, mX), (17, .invokevirtual 199, (50, 2, 0)), (20, .ifCond .ne 88, mX), (23, .aload_n 1, mX), (24, .getfield 203, (11, 18, 0)), (27, .iload_n 2, mX), (28, .i2l, mX), (29, .invokevirtual 206, (48, 2, 0)), (32, .ifCond .ne 76, mX), (35, .aload_n 0, mX), (36, .getfield 80, (5, 1, 0)), (39, .iload_n 2, mX), (40, .iload_n 3, mX), (41, .iload 4, mX), (43, .invokevirtual 210, (33, 4, 0)), (46, .ifCond .ne 62, mX), (49, .aload_n 0, mX), (50, .getfield 80, (5, 1, 0)), (53, .iload_n 2, mX), (54, .iload_n 3, mX), (55, .iload 4, mX), (57, .invokevirtual 213, (66, 4, 0)), (60, .iload 5, mX), (62, .if_icmp .lt 46, mX), (65, .aload_n 0, mX), (66, .iload_n 2, mX), (67, .aload_n 1, mX), (68, .getfield 217, (11, 2, 0)), (71, .iload 4, mX), (73, .iload 6, mX), (75, .invokevirtual 220, (162, 5, 0)), (78, .ifCond .ne 30, mX), (81, .aload_n 1, mX), (82, .invokevirtual 88, (62, 1, 0)), (85, .ifCond .eq 19, mX), (88, .aload_n 0, mX), (89, .iload_n 2, mX), (90, .aload_n 1, mX), (91, .getfield 224, (11, 1, 0)), (94, .iload 4, mX), (96, .iload 6, mX), (98, .invokevirtual 220, (162, 5, 0)), (101, .ifCond .ne 7, mX), (104, .iconst 1, mX), (105, .goto 4, mX), (108, .iconst 0, mX), (109, .ireturn, mX)])
noncomputable def mt161 : am_M := (⟨"AssizeRide$People", "shireOf", "(I)I"⟩, prog_9_method_4_code, 2, (Option.some FieldType.int), [(0, .aload_n 0, mX), (1, .iload_n 1, mX), (2, .invokevirtual 44, (38, 2, 0)), (5, .ifCond .eq 12, mX), (8, .aload_n 0, mX), (9, .getfield 18, (2, 2, 0)), (12, .iload_n 1, mX), (13, .iaload, mX), (14, .goto 4, mX), (17, .iconst (-1), mX), (18, .ireturn, mX)])
noncomputable def mt162 : am_M := (⟨"AssizeRide$Docket", "isKin", "(IIII)Z"⟩, prog_5_method_20_code, 5, (Option.some FieldType.boolean), [(0, .aload_n 0, mX), (1, .getfield 80, (5, 1, 0)), (4, .iload_n 1, mX), (5, .iload_n 2, mX), (6, .iload_n 3, mX), (7, .invokevirtual 227, (69, 4, 0)), (10, .iconst 1, mX), (11, .iload 4, mX), (13, .invokestatic 120, (25, 3, 0)), (16, .ireturn, mX)])
noncomputable def mt163 : am_M := (⟨"AssizeRide", "list", "(I)I"⟩, prog_1_method_38_code, 3, (Option.some FieldType.int), [(0, .aload_n 0, mX), (1, .getfield 44, (0, 4, 0)), (4, .iload_n 1, mX), (5, .invokevirtual 281, (46, 2, 0)), (8, .astore_n 2, mX), (9, .aload_n 2, mX), (10, .ifnonnull 6, mX), (13, .bipush (-2), mX), (15, .ireturn, mX), (16, .aload_n 2, mX), (17, .invokevirtual 304, (164, 1, 0)), (20, .ifCond .eq 18, mX), (23, .aload_n 0, mX), (24, .getfield 44, (0, 4, 0)), (27, .aload_n 2, mX), (28, .aload_n 0, mX), (29, .getfield 85, (0, 10, 0)), (32, .invokevirtual 307, (165, 3, 0)), (35, .goto 5, mX), (38, .bipush (-4), mX), (40, .ireturn, mX)])
noncomputable def mt164 : am_M := (⟨"AssizeRide$Matter", "wantsJurors", "()Z"⟩, prog_8_method_5_code, 1, (Option.some FieldType.boolean), [(0, .aload_n 0, mX), (1, .getfield 11, (11, 7, 0)), (4, .aload_n 0, mX), (5, .invokevirtual 87, (61, 1, 0)), (8, .if_icmp .ne 7, mX), (11, .iconst 1, mX), (12, .goto 4, mX), (15, .iconst 0, mX), (16, .ireturn, mX)])
noncomputable def mt165 : am_M := (⟨"AssizeRide$Docket", "findDrawable", "(LAssizeRide$Matter;I)I"⟩, prog_5_method_21_code, 7, (Option.some FieldType.int), [(0, .aload_n 0, mX), (1, .aload_n 1, mX), (2, .bipush 8, mX), (4, .invokevirtual 188, (51, 3, 0)), (7, .istore_n 3, mX), (8, .aload_n 0, mX), (9, .aload_n 1, mX), (10, .bipush 9, mX), (12, .invokevirtual 188, (51, 3, 0)), (15, .istore 4, mX), (17, .iconst 0, mX), (18, .istore 5, mX), (20, .iconst 0, mX), (21, .istore 6, mX), (23, .iload 6, mX), (25, .bipush 120, mX), (27, .if_icmp .ge 62, mX), (30, .aload_n 0, mX), (31, .aload_n 1, mX), (32, .iload 6, mX), (34, .iload_n 2, mX), (35, .iload_n 2, mX), (36, .iload_n 3, mX), (37, .iload 4, mX), (39, .invokevirtual 192, (160, 7, 0)), (42, .ifCond .eq 41, mX), (45, .aload_n 1, mX), (46, .getfield 230, (11, 19, 0)), (49, .iload 6, mX), (51, .i2l, mX), (52, .invokevirtual 206, (48, 2, 0)), (55, .ifCond .ne 28, mX), (58, .aload_n 1, mX), (59, .getfield 233, (11, 20, 0)), (62, .iload 6, mX), (64, .i2l, mX), (65, .invokevirtual 206, (48, 2, 0)), (68, .ifCond .ne 15, mX), (71, .aload_n 0, mX), (72, .getfield 59, (5, 15, 0)), (75, .iload 5, mX), (77, .iload 6, mX), (79, .iastore, mX), (80, .iinc 5 1, mX), (83, .iinc 6 1, mX), (86, .goto (-63), mX), (89, .iload 5, mX), (91, .ireturn, mX)])
noncomputable def mt166 : am_M := (⟨"AssizeRide", "draw", "(II)I"⟩, prog_1_method_39_code, 5, (Option.some FieldType.int), [(0, .aload_n 0, mX), (1, .getfield 44, (0, 4, 0)), (4, .iload_n 1, mX), (5, .invokevirtual 281, (46, 2, 0)), (8, .astore_n 3, mX), (9, .aload_n 3, mX), (10, .ifnonnull 6, mX), (13, .bipush (-2), mX), (15, .ireturn, mX), (16, .aload_n 3, mX), (17, .invokevirtual 304, (164, 1, 0)), (20, .ifCond .ne 6, mX), (23, .bipush (-4), mX), (25, .ireturn, mX), (26, .aload_n 3, mX), (27, .getfield 310, (11, 19, 0)), (30, .getfield 254, (6, 2, 0)), (33, .aload_n 0, mX), (34, .getfield 44, (0, 4, 0)), (37, .aload_n 3, mX), (38, .bipush 7, mX), (40, .invokevirtual 272, (51, 3, 0)), (43, .if_icmp .lt 6, mX), (46, .bipush (-3), mX), (48, .ireturn, mX), (49, .iload_n 2, mX), (50, .iconst 0, mX), (51, .aload_n 0, mX), (52, .getfield 44, (0, 4, 0)), (55, .aload_n 3, mX), (56, .aload_n 0, mX), (57, .getfield 85, (0, 10, 0)), (60, .invokevirtual 307, (165, 3, 0)), (63, .iconst 1, mX), (64, .isub, mX), (65, .invokestatic 95, (25, 3, 0)), (68, .ifCond .ne 6, mX), (71, .bipush (-2), mX), (73, .ireturn, mX), (74, .aload_n 0, mX), (75, .getfield 44, (0, 4, 0)), (78, .iload_n 2, mX), (79, .invokevirtual 313, (167, 2, 0)), (82, .istore 4, mX), (84, .aload_n 3, mX), (85, .getfield 310, (11, 19, 0)), (88, .iload 4, mX), (90, .i2l, mX), (91, .iconst 0, mX), (92, .invokevirtual 296, (122, 3, 0)), (95, .pop, mX), (96, .iload 4, mX), (98, .ireturn, mX)])
noncomputable def mt167 : am_M := (⟨"AssizeRide$Docket", "drawableAt", "(I)I"⟩, prog_5_method_22_code, 2, (Option.some FieldType.int), [(0, .iload_n 1, mX), (1, .ifCond .lt 21, mX), (4, .iload_n 1, mX), (5, .aload_n 0, mX), (6, .getfield 59, (5, 15, 0)), (9, .arraylength, mX), (10, .if_icmp .ge 12, mX), (13, .aload_n 0, mX), (14, .getfield 59, (5, 15, 0)), (17, .iload_n 1, mX), (18, .iaload, mX), (19, .goto 4, mX), (22, .iconst (-1), mX), (23, .ireturn, mX)])
noncomputable def mt168 : am_M := (⟨"AssizeRide", "challenge", "(II)I"⟩, prog_1_method_40_code, 5, (Option.some FieldType.int), [(0, .aload_n 0, mX), (1, .getfield 44, (0, 4, 0)), (4, .iload_n 1, mX), (5, .invokevirtual 281, (46, 2, 0)), (8, .astore_n 3, mX), (9, .aload_n 3, mX), (10, .ifnonnull 7, mX), (13, .iconst (-1), mX), (14, .goto 12, mX), (17, .aload_n 3, mX), (18, .getfield 310, (11, 19, 0)), (21, .iload_n 2, mX), (22, .i2l, mX), (23, .invokevirtual 316, (49, 2, 0)), (26, .istore 4, mX), (28, .aload_n 3, mX), (29, .ifnull 9, mX), (32, .iload 4, mX), (34, .iconst (-1), mX), (35, .if_icmp .ne 6, mX), (38, .bipush (-2), mX), (40, .ireturn, mX), (41, .aload_n 3, mX), (42, .invokevirtual 304, (164, 1, 0)), (45, .ifCond .eq 23, mX), (48, .aload_n 3, mX), (49, .getfield 319, (11, 20, 0)), (52, .getfield 254, (6, 2, 0)), (55, .aload_n 0, mX), (56, .getfield 44, (0, 4, 0)), (59, .aload_n 3, mX), (60, .bipush 10, mX), (62, .invokevirtual 272, (51, 3, 0)), (65, .if_icmp .lt 6, mX), (68, .bipush (-4), mX), (70, .ireturn, mX), (71, .aload_n 3, mX), (72, .getfield 310, (11, 19, 0)), (75, .iload 4, mX), (77, .invokevirtual 322, (169, 2, 0)), (80, .aload_n 3, mX), (81, .getfield 319, (11, 20, 0)), (84, .iload_n 2, mX), (85, .i2l, mX), (86, .iconst 0, mX), (87, .invokevirtual 296, (122, 3, 0)), (90, .pop, mX), (91, .aload_n 3, mX), (92, .getfield 319, (11, 20, 0)), (95, .getfield 254, (6, 2, 0)), (98, .ireturn, mX)])
noncomputable def mt169 : am_M := (⟨"AssizeRide$Row", "removeAt", "(I)V"⟩, prog_11_method_7_code, 3, (Option.none : Option FieldType), [(0, .iload_n 1, mX), (1, .iconst 0, mX), (2, .aload_n 0, mX), (3, .getfield 9, (6, 2, 0)), (6, .iconst 1, mX), (7, .isub, mX), (8, .invokestatic 33, (25, 3, 0)), (11, .ifCond .ne 4, mX), (14, .return_, mX), (15, .iload_n 1, mX), (16, .iconst 1, mX), (17, .iadd, mX), (18, .istore_n 2, mX), (19, .iload_n 2, mX), (20, .aload_n 0, mX), (21, .getfield 9, (6, 2, 0)), (24, .if_icmp .ge 37, mX), (27, .aload_n 0, mX), (28, .getfield 25, (6, 0, 0)), (31, .iload_n 2, mX), (32, .iconst 1, mX), (33, .isub, mX), (34, .aload_n 0, mX), (35, .getfield 25, (6, 0, 0)), (38, .iload_n 2, mX), (39, .laload, mX), (40, .lastore, mX), (41, .aload_n 0, mX), (42, .getfield 29, (6, 1, 0)), (45, .iload_n 2, mX), (46, .iconst 1, mX), (47, .isub, mX), (48, .aload_n 0, mX), (49, .getfield 29, (6, 1, 0)), (52, .iload_n 2, mX), (53, .iaload, mX), (54, .iastore, mX), (55, .iinc 2 1, mX), (58, .goto (-39), mX), (61, .aload_n 0, mX), (62, .dup, mX), (63, .getfield 9, (6, 2, 0)), (66, .iconst 1, mX), (67, .isub, mX), (68, .putfield 9, (6, 2, 0)), (71, .return_, mX)])
noncomputable def mt170 : am_M := (⟨"AssizeRide", "full", "(I)I"⟩, prog_1_method_41_code, 3, (Option.some FieldType.int), [(0, .aload_n 0, mX), (1, .getfield 44, (0, 4, 0)), (4, .iload_n 1, mX), (5, .invokevirtual 281, (46, 2, 0)), (8, .astore_n 2, mX), (9, .aload_n 2, mX), (10, .ifnonnull 6, mX), (13, .bipush (-2), mX), (15, .ireturn, mX), (16, .aload_n 0, mX), (17, .getfield 44, (0, 4, 0)), (20, .aload_n 2, mX), (21, .invokevirtual 325, (171, 2, 0)), (24, .ifCond .eq 7, mX), (27, .iconst 1, mX), (28, .goto 4, mX), (31, .iconst 0, mX), (32, .ireturn, mX)])
noncomputable def mt171 : am_M := (⟨"AssizeRide$Docket", "isJuryFull", "(LAssizeRide$Matter;)Z"⟩, prog_5_method_26_code, 2, (Option.some FieldType.boolean), [(0, .aload_n 1, mX), (1, .getfield 230, (11, 19, 0)), (4, .getfield 149, (6, 2, 0)), (7, .aload_n 0, mX), (8, .aload_n 1, mX), (9, .bipush 7, mX), (11, .invokevirtual 188, (51, 3, 0)), (14, .if_icmp .ne 15, mX), (17, .aload_n 0, mX), (18, .aload_n 1, mX), (19, .invokevirtual 251, (172, 2, 0)), (22, .ifCond .ne 7, mX), (25, .iconst 1, mX), (26, .goto 4, mX), (29, .iconst 0, mX), (30, .ireturn, mX)])
noncomputable def mt172 : am_M := (⟨"AssizeRide$Docket", "lacksOfHundred", "(LAssizeRide$Matter;)I"⟩, prog_5_method_25_code, 2, (Option.some FieldType.int), [(0, .iconst 0, mX), (1, .aload_n 0, mX), (2, .aload_n 1, mX), (3, .bipush 11, mX), (5, .invokevirtual 188, (51, 3, 0)), (8, .aload_n 0, mX), (9, .aload_n 1, mX), (10, .invokevirtual 245, (173, 2, 0)), (13, .isub, mX), (14, .invokestatic 248, (6, 2, 0)), (17, .ireturn, mX)])
noncomputable def mt173 : am_M := (⟨"AssizeRide$Docket", "jurorsOfHundred", "(LAssizeRide$Matter;)I"⟩, prog_5_method_24_code, 4, (Option.some FieldType.int), [(0, .iconst 0, mX), (1, .istore_n 2, mX), (2, .iconst 0, mX), (3, .istore_n 3, mX), (4, .iload_n 3, mX), (5, .aload_n 1, mX), (6, .getfield 230, (11, 19, 0)), (9, .getfield 149, (6, 2, 0)), (12, .if_icmp .ge 35, mX), (15, .aload_n 0, mX), (16, .getfield 80, (5, 1, 0)), (19, .aload_n 1, mX), (20, .getfield 230, (11, 19, 0)), (23, .iload_n 3, mX), (24, .invokevirtual 154, (146, 2, 0)), (27, .l2i, mX), (28, .invokevirtual 239, (174, 2, 0)), (31, .aload_n 1, mX), (32, .getfield 242, (11, 4, 0)), (35, .if_icmp .ne 6, mX), (38, .iinc 2 1, mX), (41, .iinc 3 1, mX), (44, .goto (-40), mX), (47, .iload_n 2, mX), (48, .ireturn, mX)])
noncomputable def mt174 : am_M := (⟨"AssizeRide$People", "hundredOf", "(I)I"⟩, prog_9_method_5_code, 2, (Option.some FieldType.int), [(0, .aload_n 0, mX), (1, .iload_n 1, mX), (2, .invokevirtual 44, (38, 2, 0)), (5, .ifCond .eq 12, mX), (8, .aload_n 0, mX), (9, .getfield 22, (2, 3, 0)), (12, .iload_n 1, mX), (13, .iaload, mX), (14, .goto 4, mX), (17, .iconst (-1), mX), (18, .ireturn, mX)])
noncomputable def mt175 : am_M := (⟨"AssizeRide", "lacks", "(I)I"⟩, prog_1_method_42_code, 3, (Option.some FieldType.int), [(0, .aload_n 0, mX), (1, .getfield 44, (0, 4, 0)), (4, .iload_n 1, mX), (5, .invokevirtual 281, (46, 2, 0)), (8, .astore_n 2, mX), (9, .aload_n 2, mX), (10, .ifnonnull 8, mX), (13, .bipush (-2), mX), (15, .goto 11, mX), (18, .aload_n 0, mX), (19, .getfield 44, (0, 4, 0)), (22, .aload_n 2, mX), (23, .invokevirtual 329, (172, 2, 0)), (26, .ireturn, mX)])
noncomputable def mt176 : am_M := (⟨"AssizeRide", "juror", "(II)I"⟩, prog_1_method_43_code, 4, (Option.some FieldType.int), [(0, .aload_n 0, mX), (1, .getfield 44, (0, 4, 0)), (4, .iload_n 1, mX), (5, .invokevirtual 281, (46, 2, 0)), (8, .astore_n 3, mX), (9, .aload_n 3, mX), (10, .ifnonnull 7, mX), (13, .iconst (-1), mX), (14, .goto 12, mX), (17, .aload_n 3, mX), (18, .getfield 310, (11, 19, 0)), (21, .iload_n 2, mX), (22, .invokevirtual 332, (146, 2, 0)), (25, .l2i, mX), (26, .ireturn, mX)])
noncomputable def mt177 : am_M := (⟨"AssizeRide", "hear", "(I)I"⟩, prog_1_method_44_code, 3, (Option.some FieldType.int), [(0, .aload_n 0, mX), (1, .getfield 10, mX), (4, .invokevirtual 153, (71, 1, 0)), (7, .aload_n 0, mX), (8, .getfield 44, (0, 4, 0)), (11, .iload_n 1, mX), (12, .invokevirtual 281, (46, 2, 0)), (15, .astore_n 2, mX), (16, .aload_n 2, mX), (17, .ifnonnull 6, mX), (20, .bipush (-2), mX), (22, .ireturn, mX), (23, .aload_n 2, mX), (24, .invokevirtual 304, (164, 1, 0)), (27, .ifCond .eq 14, mX), (30, .aload_n 0, mX), (31, .getfield 44, (0, 4, 0)), (34, .aload_n 2, mX), (35, .invokevirtual 325, (171, 2, 0)), (38, .ifCond .ne 6, mX), (41, .bipush (-4), mX), (43, .ireturn, mX), (44, .aload_n 0, mX), (45, .getfield 81, (0, 9, 0)), (48, .aload_n 0, mX), (49, .getfield 10, mX), (52, .iconst 0, mX), (53, .invokevirtual 204, (121, 3, 0)), (56, .ifCond .ne 5, mX), (59, .iconst (-1), mX), (60, .ireturn, mX), (61, .aload_n 2, mX), (62, .getfield 335, (11, 17, 0)), (65, .aload_n 0, mX), (66, .getfield 81, (0, 9, 0)), (69, .invokevirtual 260, (142, 2, 0)), (72, .aload_n 2, mX), (73, .aload_n 0, mX), (74, .getfield 85, (0, 10, 0)), (77, .putfield 338, (11, 11, 0)), (80, .aload_n 0, mX), (81, .getfield 44, (0, 4, 0)), (84, .iload_n 1, mX), (85, .aload_n 0, mX), (86, .getfield 44, (0, 4, 0)), (89, .aload_n 2, mX), (90, .invokevirtual 341, (178, 2, 0)), (93, .aload_n 0, mX), (94, .getfield 85, (0, 10, 0)), (97, .invokevirtual 278, (63, 4, 0)), (100, .ireturn, mX)])
noncomputable def mt178 : am_M := (⟨"AssizeRide$Docket", "verdict", "(LAssizeRide$Matter;)I"⟩, prog_5_method_30_code, 2, (Option.some FieldType.int), [(0, .aload_n 0, mX), (1, .aload_n 1, mX), (2, .invokevirtual 265, (179, 2, 0)), (5, .ifCond .ne 5, mX), (8, .iconst 4, mX), (9, .ireturn, mX), (10, .aload_n 1, mX), (11, .invokevirtual 88, (62, 1, 0)), (14, .ifCond .eq 5, mX), (17, .iconst 5, mX), (18, .ireturn, mX), (19, .aload_n 0, mX), (20, .aload_n 1, mX), (21, .getfield 104, (11, 0, 0)), (24, .invokevirtual 269, (180, 2, 0)), (27, .ifCond .eq 7, mX), (30, .iconst 4, mX), (31, .goto 4, mX), (34, .iconst 3, mX), (35, .ireturn, mX)])
noncomputable def mt179 : am_M := (⟨"AssizeRide$Docket", "isMade", "(LAssizeRide$Matter;)Z"⟩, prog_5_method_29_code, 3, (Option.some FieldType.boolean), [(0, .aload_n 0, mX), (1, .getfield 76, (5, 0, 0)), (4, .iconst 0, mX), (5, .aload_n 1, mX), (6, .getfield 104, (11, 0, 0)), (9, .aload_n 1, mX), (10, .getfield 110, (11, 5, 0)), (13, .aload_n 1, mX), (14, .getfield 113, (11, 3, 0)), (17, .invokevirtual 134, (53, 5, 0)), (20, .istore_n 2, mX), (21, .iload_n 2, mX), (22, .iconst (-1), mX), (23, .if_icmp .eq 31, mX), (26, .aload_n 0, mX), (27, .getfield 76, (5, 0, 0)), (30, .iload_n 2, mX), (31, .aload_n 0, mX), (32, .getfield 76, (5, 0, 0)), (35, .iload_n 2, mX), (36, .aload_n 1, mX), (37, .getfield 262, (11, 17, 0)), (40, .invokevirtual 141, (123, 3, 0)), (43, .invokevirtual 145, (128, 3, 0)), (46, .iconst (-1), mX), (47, .if_icmp .ne 7, mX), (50, .iconst 1, mX), (51, .goto 4, mX), (54, .iconst 0, mX), (55, .ireturn, mX)])
noncomputable def mt180 : am_M := (⟨"AssizeRide$Docket", "isSettledAsNone", "(J)Z"⟩, prog_5_method_31_code, 4, (Option.some FieldType.boolean), [(0, .aload_n 0, mX), (1, .getfield 37, (5, 8, 0)), (4, .iconst 1, mX), (5, .isub, mX), (6, .istore_n 3, mX), (7, .iload_n 3, mX), (8, .ifCond .lt 35, mX), (11, .aload_n 0, mX), (12, .getfield 30, (5, 6, 0)), (15, .iload_n 3, mX), (16, .laload, mX), (17, .lload_n 1, mX), (18, .lcmp, mX), (19, .ifCond .ne 18, mX), (22, .aload_n 0, mX), (23, .getfield 34, (5, 7, 0)), (26, .iload_n 3, mX), (27, .baload, mX), (28, .ifCond .ne 7, mX), (31, .iconst 1, mX), (32, .goto 4, mX), (35, .iconst 0, mX), (36, .ireturn, mX), (37, .iinc 3 (-1), mX), (40, .goto (-33), mX), (43, .iconst 0, mX), (44, .ireturn, mX)])
noncomputable def mt181 : am_M := (⟨"AssizeRide", "judge", "(I)I"⟩, prog_1_method_45_code, 3, (Option.some FieldType.int), [(0, .aload_n 0, mX), (1, .getfield 44, (0, 4, 0)), (4, .iload_n 1, mX), (5, .invokevirtual 240, (139, 2, 0)), (8, .astore_n 2, mX), (9, .aload_n 2, mX), (10, .ifnonnull 6, mX), (13, .bipush (-2), mX), (15, .ireturn, mX), (16, .aload_n 2, mX), (17, .getfield 244, (11, 7, 0)), (20, .iconst 3, mX), (21, .if_icmp .eq 6, mX), (24, .bipush (-4), mX), (26, .ireturn, mX), (27, .aload_n 0, mX), (28, .getfield 44, (0, 4, 0)), (31, .iload_n 1, mX), (32, .aload_n 2, mX), (33, .aload_n 0, mX), (34, .getfield 85, (0, 10, 0)), (37, .invokevirtual 344, (182, 4, 0)), (40, .aload_n 2, mX), (41, .getfield 348, (11, 8, 0)), (44, .ifCond .eq 7, mX), (47, .iconst 1, mX), (48, .goto 4, mX), (51, .iconst 0, mX), (52, .ireturn, mX)])
noncomputable def mt182 : am_M := (⟨"AssizeRide$Docket", "sentence", "(ILAssizeRide$Matter;I)V"⟩, prog_5_method_32_code, 4, (Option.none : Option FieldType), [(0, .aload_n 2, mX), (1, .aload_n 0, mX), (2, .aload_n 2, mX), (3, .iconst 2, mX), (4, .invokevirtual 188, (51, 3, 0)), (7, .iconst 1, mX), (8, .if_icmp .ne 7, mX), (11, .iconst 1, mX), (12, .goto 4, mX), (15, .iconst 0, mX), (16, .putfield 272, (11, 8, 0)), (19, .aload_n 2, mX), (20, .getfield 272, (11, 8, 0)), (23, .ifCond .ne 26, mX), (26, .aload_n 2, mX), (27, .aload_n 0, mX), (28, .aload_n 2, mX), (29, .iconst 3, mX), (30, .invokevirtual 188, (51, 3, 0)), (33, .putfield 275, (11, 9, 0)), (36, .aload_n 0, mX), (37, .dup, mX), (38, .getfield 15, (5, 3, 0)), (41, .aload_n 2, mX), (42, .getfield 275, (11, 9, 0)), (45, .iadd, mX), (46, .putfield 15, (5, 3, 0)), (49, .aload_n 0, mX), (50, .iload_n 1, mX), (51, .iconst 5, mX), (52, .iload_n 3, mX), (53, .invokevirtual 278, (63, 4, 0)), (56, .pop, mX), (57, .return_, mX)])
noncomputable def mt183 : am_M := (⟨"AssizeRide", "benefit", "(I)I"⟩, prog_1_method_46_code, 3, (Option.some FieldType.int), [(0, .aload_n 0, mX), (1, .getfield 44, (0, 4, 0)), (4, .iload_n 1, mX), (5, .invokevirtual 240, (139, 2, 0)), (8, .astore_n 2, mX), (9, .aload_n 2, mX), (10, .ifnonnull 6, mX), (13, .bipush (-2), mX), (15, .ireturn, mX), (16, .aload_n 2, mX), (17, .invokevirtual 351, (184, 1, 0)), (20, .ifCond .eq 29, mX), (23, .aload_n 0, mX), (24, .getfield 44, (0, 4, 0)), (27, .aload_n 2, mX), (28, .getfield 354, (11, 2, 0)), (31, .invokevirtual 357, (185, 2, 0)), (34, .ifCond .ne 15, mX), (37, .aload_n 0, mX), (38, .getfield 44, (0, 4, 0)), (41, .aload_n 2, mX), (42, .iconst 4, mX), (43, .invokevirtual 272, (51, 3, 0)), (46, .ifCond .ne 6, mX), (49, .bipush (-4), mX), (51, .ireturn, mX), (52, .aload_n 0, mX), (53, .getfield 44, (0, 4, 0)), (56, .iload_n 1, mX), (57, .aload_n 2, mX), (58, .aload_n 0, mX), (59, .getfield 85, (0, 10, 0)), (62, .invokevirtual 360, (186, 4, 0)), (65, .iconst 1, mX), (66, .ireturn, mX)])
noncomputable def mt184 : am_M := (⟨"AssizeRide$Matter", "isJudgedToDie", "()Z"⟩, prog_8_method_6_code, 1, (Option.some FieldType.boolean), [(0, .aload_n 0, mX), (1, .getfield 11, (11, 7, 0)), (4, .iconst 5, mX), (5, .if_icmp .ne 14, mX), (8, .aload_n 0, mX), (9, .getfield 15, (11, 8, 0)), (12, .ifCond .eq 7, mX), (15, .iconst 1, mX), (16, .goto 4, mX), (19, .iconst 0, mX), (20, .ireturn, mX)])
noncomputable def mt185 : am_M := (⟨"AssizeRide$Docket", "hadBenefit", "(I)Z"⟩, prog_5_method_34_code, 2, (Option.some FieldType.boolean), [(0, .iload_n 1, mX), (1, .ifCond .lt 25, mX), (4, .iload_n 1, mX), (5, .aload_n 0, mX), (6, .getfield 26, (5, 5, 0)), (9, .arraylength, mX), (10, .if_icmp .ge 16, mX), (13, .aload_n 0, mX), (14, .getfield 26, (5, 5, 0)), (17, .iload_n 1, mX), (18, .baload, mX), (19, .ifCond .eq 7, mX), (22, .iconst 1, mX), (23, .goto 4, mX), (26, .iconst 0, mX), (27, .ireturn, mX)])
noncomputable def mt186 : am_M := (⟨"AssizeRide$Docket", "giveBenefit", "(ILAssizeRide$Matter;I)V"⟩, prog_5_method_36_code, 4, (Option.none : Option FieldType), [(0, .aload_n 0, mX), (1, .aload_n 2, mX), (2, .getfield 217, (11, 2, 0)), (5, .iconst 1, mX), (6, .invokevirtual 288, (59, 3, 0)), (9, .aload_n 2, mX), (10, .iconst 0, mX), (11, .putfield 272, (11, 8, 0)), (14, .aload_n 0, mX), (15, .iload_n 1, mX), (16, .bipush 6, mX), (18, .iload_n 3, mX), (19, .invokevirtual 278, (63, 4, 0)), (22, .pop, mX), (23, .return_, mX)])
noncomputable def mt187 : am_M := (⟨"AssizeRide", "keep", "(I)I"⟩, prog_1_method_47_code, 3, (Option.some FieldType.int), [(0, .aload_n 0, mX), (1, .getfield 44, (0, 4, 0)), (4, .iload_n 1, mX), (5, .invokevirtual 240, (139, 2, 0)), (8, .astore_n 2, mX), (9, .aload_n 2, mX), (10, .ifnonnull 6, mX), (13, .bipush (-2), mX), (15, .ireturn, mX), (16, .aload_n 2, mX), (17, .getfield 244, (11, 7, 0)), (20, .iconst 3, mX), (21, .if_icmp .ne 15, mX), (24, .aload_n 0, mX), (25, .getfield 44, (0, 4, 0)), (28, .aload_n 2, mX), (29, .iconst 5, mX), (30, .invokevirtual 272, (51, 3, 0)), (33, .ifCond .ne 6, mX), (36, .bipush (-4), mX), (38, .ireturn, mX), (39, .aload_n 0, mX), (40, .getfield 44, (0, 4, 0)), (43, .iload_n 1, mX), (44, .bipush 7, mX), (46, .aload_n 0, mX), (47, .getfield 85, (0, 10, 0)), (50, .invokevirtual 278, (63, 4, 0)), (53, .pop, mX), (54, .iconst 1, mX), (55, .ireturn, mX)])
noncomputable def mt188 : am_M := (⟨"AssizeRide", "settle", "(Z)I"⟩, prog_1_method_48_code, 4, (Option.some FieldType.int), [(0, .aload_n 0, mX), (1, .getfield 10, mX), (4, .invokevirtual 153, (71, 1, 0)), (7, .aload_n 0, mX), (8, .getfield 10, mX), (11, .invokevirtual 196, (113, 1, 0)), (14, .lstore_n 2, mX), (15, .lload_n 2, mX), (16, .lconst 0, mX), (17, .lcmp, mX), (18, .ifCond .ne 7, mX), (21, .iconst (-1), mX), (22, .goto 16, mX), (25, .aload_n 0, mX), (26, .getfield 44, (0, 4, 0)), (29, .lload_n 2, mX), (30, .iload_n 1, mX), (31, .aload_n 0, mX), (32, .getfield 85, (0, 10, 0)), (35, .invokevirtual 363, (189, 4, 0)), (38, .ireturn, mX)])
noncomputable def mt189 : am_M := (⟨"AssizeRide$Docket", "settleDeed", "(JZI)I"⟩, prog_5_method_33_code, 8, (Option.some FieldType.int), [(0, .aload_n 0, mX), (1, .getfield 37, (5, 8, 0)), (4, .bipush 40, mX), (6, .if_icmp .lt 6, mX), (9, .bipush (-3), mX), (11, .ireturn, mX), (12, .aload_n 0, mX), (13, .getfield 30, (5, 6, 0)), (16, .aload_n 0, mX), (17, .getfield 37, (5, 8, 0)), (20, .lload_n 1, mX), (21, .lastore, mX), (22, .aload_n 0, mX), (23, .getfield 34, (5, 7, 0)), (26, .aload_n 0, mX), (27, .getfield 37, (5, 8, 0)), (30, .iload_n 3, mX), (31, .bastore, mX), (32, .aload_n 0, mX), (33, .dup, mX), (34, .getfield 37, (5, 8, 0)), (37, .iconst 1, mX), (38, .iadd, mX), (39, .putfield 37, (5, 8, 0)), (42, .iconst 0, mX), (43, .istore 5, mX), (45, .iconst 0, mX), (46, .istore 6, mX), (48, .iload 6, mX), (50, .aload_n 0, mX), (51, .getfield 9, (5, 2, 0)), (54, .if_icmp .ge 78, mX), (57, .aload_n 0, mX), (58, .iload 6, mX), (60, .invokevirtual 84, (46, 2, 0)), (63, .astore 7, mX), (65, .aload 7, mX), (67, .ifnull 59, mX), (70, .aload 7, mX), (72, .getfield 99, (11, 7, 0)), (75, .bipush 7, mX), (77, .if_icmp .ne 49, mX), (80, .aload 7, mX), (82, .getfield 104, (11, 0, 0)), (85, .lload_n 1, mX), (86, .lcmp, mX), (87, .ifCond .ne 39, mX), (90, .iinc 5 1, mX), (93, .iload_n 3, mX), (94, .ifCond .eq 16, mX), (97, .aload_n 0, mX), (98, .iload 6, mX), (100, .aload 7, mX), (102, .iload 4, mX), (104, .invokevirtual 281, (182, 4, 0)), (107, .goto 19, mX), (110, .aload 7, mX), (112, .iconst 1, mX), (113, .putfield 285, (11, 12, 0)), (116, .aload_n 0, mX), (117, .iload 6, mX), (119, .iconst 4, mX), (120, .iload 4, mX), (122, .invokevirtual 278, (63, 4, 0)), (125, .pop, mX), (126, .iinc 6 1, mX), (129, .goto (-81), mX), (132, .iload 5, mX), (134, .ireturn, mX)])
noncomputable def mt190 : am_M := (⟨"AssizeRide", "pardon", "(III)I"⟩, prog_1_method_49_code, 5, (Option.some FieldType.int), [(0, .aload_n 0, mX), (1, .getfield 44, (0, 4, 0)), (4, .iload_n 1, mX), (5, .invokevirtual 240, (139, 2, 0)), (8, .astore 4, mX), (10, .aload 4, mX), (12, .ifnull 24, mX), (15, .iload_n 2, mX), (16, .invokestatic 109, (27, 1, 0)), (19, .ifCond .eq 17, mX), (22, .iload_n 3, mX), (23, .aload_n 0, mX), (24, .getfield 85, (0, 10, 0)), (27, .sipush 399, mX), (30, .invokestatic 95, (25, 3, 0)), (33, .ifCond .ne 6, mX), (36, .bipush (-2), mX), (38, .ireturn, mX), (39, .aload 4, mX), (41, .invokevirtual 351, (184, 1, 0)), (44, .ifCond .ne 6, mX), (47, .bipush (-4), mX), (49, .ireturn, mX), (50, .aload 4, mX), (52, .iconst 0, mX), (53, .putfield 348, (11, 8, 0)), (56, .aload 4, mX), (58, .iload_n 2, mX), (59, .putfield 367, (11, 13, 0)), (62, .aload 4, mX), (64, .iload_n 3, mX), (65, .putfield 370, (11, 14, 0)), (68, .aload_n 0, mX), (69, .getfield 44, (0, 4, 0)), (72, .iload_n 1, mX), (73, .bipush 8, mX), (75, .aload_n 0, mX), (76, .getfield 85, (0, 10, 0)), (79, .invokevirtual 278, (63, 4, 0)), (82, .pop, mX), (83, .iconst 1, mX), (84, .ireturn, mX)])
noncomputable def mt191 : am_M := (⟨"AssizeRide", "undo", "(I)I"⟩, prog_1_method_50_code, 3, (Option.some FieldType.int), [(0, .aload_n 0, mX), (1, .getfield 44, (0, 4, 0)), (4, .iload_n 1, mX), (5, .invokevirtual 281, (46, 2, 0)), (8, .astore_n 2, mX), (9, .aload_n 2, mX), (10, .ifnonnull 6, mX), (13, .bipush (-2), mX), (15, .ireturn, mX), (16, .aload_n 2, mX), (17, .getfield 244, (11, 7, 0)), (20, .iconst 5, mX), (21, .if_icmp .eq 23, mX), (24, .aload_n 2, mX), (25, .getfield 244, (11, 7, 0)), (28, .bipush 6, mX), (30, .if_icmp .eq 14, mX), (33, .aload_n 2, mX), (34, .getfield 244, (11, 7, 0)), (37, .iconst 4, mX), (38, .if_icmp .eq 6, mX), (41, .bipush (-4), mX), (43, .ireturn, mX), (44, .aload_n 0, mX), (45, .getfield 44, (0, 4, 0)), (48, .iload_n 1, mX), (49, .aload_n 2, mX), (50, .aload_n 0, mX), (51, .getfield 85, (0, 10, 0)), (54, .invokevirtual 373, (58, 4, 0)), (57, .ireturn, mX)])
noncomputable def mt192 : am_M := (⟨"AssizeRide", "commit", "(II)I"⟩, prog_1_method_51_code, 3, (Option.some FieldType.int), [(0, .aload_n 0, mX), (1, .getfield 19, (0, 1, 0)), (4, .iload_n 1, mX), (5, .invokevirtual 124, (38, 2, 0)), (8, .ifCond .eq 10, mX), (11, .iload_n 2, mX), (12, .invokestatic 109, (27, 1, 0)), (15, .ifCond .ne 6, mX), (18, .bipush (-2), mX), (20, .ireturn, mX), (21, .aload_n 0, mX), (22, .getfield 51, (0, 5, 0)), (25, .iload_n 1, mX), (26, .invokevirtual 377, (193, 2, 0)), (29, .iconst (-1), mX), (30, .if_icmp .eq 6, mX), (33, .bipush (-4), mX), (35, .ireturn, mX), (36, .aload_n 0, mX), (37, .getfield 51, (0, 5, 0)), (40, .iload_n 1, mX), (41, .iload_n 2, mX), (42, .aload_n 0, mX), (43, .getfield 85, (0, 10, 0)), (46, .invokevirtual 380, (194, 4, 0)), (49, .aload_n 0, mX), (50, .getfield 51, (0, 5, 0)), (53, .iload_n 2, mX), (54, .invokevirtual 384, (195, 2, 0)), (57, .ireturn, mX)])
noncomputable def mt193 : am_M := (⟨"AssizeRide$Gaols", "gaolOf", "(I)I"⟩, prog_6_method_2_code, 2, (Option.some FieldType.int), [(0, .iload_n 1, mX), (1, .ifCond .lt 21, mX), (4, .iload_n 1, mX), (5, .aload_n 0, mX), (6, .getfield 11, (7, 0, 0)), (9, .arraylength, mX), (10, .if_icmp .ge 12, mX), (13, .aload_n 0, mX), (14, .getfield 11, (7, 0, 0)), (17, .iload_n 1, mX), (18, .iaload, mX), (19, .goto 4, mX), (22, .iconst (-1), mX), (23, .ireturn, mX)])
noncomputable def mt194 : am_M := (⟨"AssizeRide$Gaols", "takeIn", "(III)V"⟩, prog_6_method_4_code, 4, (Option.none : Option FieldType), [(0, .iload_n 1, mX), (1, .ifCond .lt 26, mX), (4, .iload_n 1, mX), (5, .aload_n 0, mX), (6, .getfield 11, (7, 0, 0)), (9, .arraylength, mX), (10, .if_icmp .ge 17, mX), (13, .aload_n 0, mX), (14, .getfield 11, (7, 0, 0)), (17, .iload_n 1, mX), (18, .iload_n 2, mX), (19, .iastore, mX), (20, .aload_n 0, mX), (21, .getfield 17, (7, 1, 0)), (24, .iload_n 1, mX), (25, .iload_n 3, mX), (26, .iastore, mX), (27, .return_, mX)])
noncomputable def mt195 : am_M := (⟨"AssizeRide$Gaols", "countIn", "(I)I"⟩, prog_6_method_3_code, 4, (Option.some FieldType.int), [(0, .iconst 0, mX), (1, .istore_n 2, mX), (2, .iconst 0, mX), (3, .istore_n 3, mX), (4, .iload_n 3, mX), (5, .aload_n 0, mX), (6, .getfield 11, (7, 0, 0)), (9, .arraylength, mX), (10, .if_icmp .ge 22, mX), (13, .aload_n 0, mX), (14, .getfield 11, (7, 0, 0)), (17, .iload_n 3, mX), (18, .iaload, mX), (19, .iload_n 1, mX), (20, .if_icmp .ne 6, mX), (23, .iinc 2 1, mX), (26, .iinc 3 1, mX), (29, .goto (-25), mX), (32, .iload_n 2, mX), (33, .ireturn, mX)])
noncomputable def mt196 : am_M := (⟨"AssizeRide", "bail", "(I)I"⟩, prog_1_method_52_code, 3, (Option.some FieldType.int), [(0, .aload_n 0, mX), (1, .getfield 19, (0, 1, 0)), (4, .iload_n 1, mX), (5, .invokevirtual 124, (38, 2, 0)), (8, .ifCond .ne 6, mX), (11, .bipush (-2), mX), (13, .ireturn, mX), (14, .aload_n 0, mX), (15, .getfield 51, (0, 5, 0)), (18, .iload_n 1, mX), (19, .invokevirtual 377, (193, 2, 0)), (22, .istore_n 2, mX), (23, .iload_n 2, mX), (24, .iconst (-1), mX), (25, .if_icmp .ne 6, mX), (28, .bipush (-4), mX), (30, .ireturn, mX), (31, .aload_n 0, mX), (32, .getfield 51, (0, 5, 0)), (35, .iload_n 1, mX), (36, .aload_n 0, mX), (37, .getfield 85, (0, 10, 0)), (40, .invokevirtual 387, (197, 3, 0)), (43, .iload_n 2, mX), (44, .ireturn, mX)])
noncomputable def mt197 : am_M := (⟨"AssizeRide$Gaols", "letOut", "(II)V"⟩, prog_6_method_5_code, 3, (Option.none : Option FieldType), [(0, .aload_n 0, mX), (1, .iload_n 1, mX), (2, .invokevirtual 63, (193, 2, 0)), (5, .iconst (-1), mX), (6, .if_icmp .eq 27, mX), (9, .aload_n 0, mX), (10, .getfield 20, (7, 2, 0)), (13, .iload_n 1, mX), (14, .dup2, mX), (15, .iaload, mX), (16, .iload_n 2, mX), (17, .aload_n 0, mX), (18, .getfield 17, (7, 1, 0)), (21, .iload_n 1, mX), (22, .iaload, mX), (23, .isub, mX), (24, .iadd, mX), (25, .iastore, mX), (26, .aload_n 0, mX), (27, .getfield 11, (7, 0, 0)), (30, .iload_n 1, mX), (31, .iconst (-1), mX), (32, .iastore, mX), (33, .return_, mX)])
noncomputable def mt198 : am_M := (⟨"AssizeRide", "deliver", "(I)I"⟩, prog_1_method_53_code, 2, (Option.some FieldType.int), [(0, .iload_n 1, mX), (1, .invokestatic 109, (27, 1, 0)), (4, .ifCond .eq 22, mX), (7, .aload_n 0, mX), (8, .getfield 51, (0, 5, 0)), (11, .iload_n 1, mX), (12, .aload_n 0, mX), (13, .getfield 44, (0, 4, 0)), (16, .aload_n 0, mX), (17, .getfield 85, (0, 10, 0)), (20, .invokevirtual 391, (199, 4, 0)), (23, .goto 5, mX), (26, .bipush (-2), mX), (28, .ireturn, mX)])
noncomputable def mt199 : am_M := (⟨"AssizeRide$Gaols", "empty", "(ILAssizeRide$Docket;I)I"⟩, prog_6_method_7_code, 7, (Option.some FieldType.int), [(0, .iconst 0, mX), (1, .istore 4, mX), (3, .aload_n 0, mX), (4, .iconst 0, mX), (5, .putfield 29, (7, 5, 0)), (8, .iconst 0, mX), (9, .istore 5, mX), (11, .iload 5, mX), (13, .aload_n 0, mX), (14, .getfield 11, (7, 0, 0)), (17, .arraylength, mX), (18, .if_icmp .ge 79, mX), (21, .aload_n 0, mX), (22, .getfield 11, (7, 0, 0)), (25, .iload 5, mX), (27, .iaload, mX), (28, .iload_n 1, mX), (29, .if_icmp .ne 62, mX), (32, .aload_n 2, mX), (33, .iload 5, mX), (35, .invokevirtual 67, (200, 2, 0)), (38, .istore 6, mX), (40, .iload 6, mX), (42, .iconst (-1), mX), (43, .if_icmp .ne 16, mX), (46, .aload_n 0, mX), (47, .iload 5, mX), (49, .iload_n 3, mX), (50, .invokevirtual 72, (197, 3, 0)), (53, .iinc 4 1, mX), (56, .goto 35, mX), (59, .aload_n 0, mX), (60, .getfield 23, (7, 3, 0)), (63, .aload_n 0, mX), (64, .getfield 29, (7, 5, 0)), (67, .iload 5, mX), (69, .iastore, mX), (70, .aload_n 0, mX), (71, .getfield 26, (7, 4, 0)), (74, .aload_n 0, mX), (75, .getfield 29, (7, 5, 0)), (78, .iload 6, mX), (80, .iastore, mX), (81, .aload_n 0, mX), (82, .dup, mX), (83, .getfield 29, (7, 5, 0)), (86, .iconst 1, mX), (87, .iadd, mX), (88, .putfield 29, (7, 5, 0)), (91, .iinc 5 1, mX), (94, .goto (-83), mX), (97, .iload 4, mX), (99, .ireturn, mX)])
noncomputable def mt200 : am_M := (⟨"AssizeRide$Docket", "holdingMatter", "(I)I"⟩, prog_5_method_39_code, 4, (Option.some FieldType.int), [(0, .iconst 0, mX), (1, .istore_n 2, mX), (2, .iload_n 2, mX), (3, .aload_n 0, mX), (4, .getfield 9, (5, 2, 0)), (7, .if_icmp .ge 36, mX), (10, .aload_n 0, mX), (11, .iload_n 2, mX), (12, .invokevirtual 84, (46, 2, 0)), (15, .astore_n 3, mX), (16, .aload_n 3, mX), (17, .ifnull 20, mX), (20, .aload_n 3, mX), (21, .getfield 217, (11, 2, 0)), (24, .iload_n 1, mX), (25, .if_icmp .ne 12, mX), (28, .aload_n 3, mX), (29, .invokevirtual 302, (201, 1, 0)), (32, .ifCond .eq 5, mX), (35, .iload_n 2, mX), (36, .ireturn, mX), (37, .iinc 2 1, mX), (40, .goto (-38), mX), (43, .iconst (-1), mX), (44, .ireturn, mX)])
noncomputable def mt201 : am_M := (⟨"AssizeRide$Matter", "holdsInGaol", "()Z"⟩, prog_8_method_7_code, 1, (Option.some FieldType.boolean), [(0, .aload_n 0, mX), (1, .invokevirtual 83, (62, 1, 0)), (4, .ifCond .ne 30, mX), (7, .aload_n 0, mX), (8, .invokevirtual 91, (156, 1, 0)), (11, .ifCond .ne 19, mX), (14, .aload_n 0, mX), (15, .invokevirtual 94, (184, 1, 0)), (18, .ifCond .ne 12, mX), (21, .aload_n 0, mX), (22, .getfield 11, (11, 7, 0)), (25, .bipush 9, mX), (27, .if_icmp .ne 7, mX), (30, .iconst 1, mX), (31, .goto 4, mX), (34, .iconst 0, mX), (35, .ireturn, mX)])
noncomputable def mt202 : am_M := (⟨"AssizeRide", "left", "(II)I"⟩, prog_1_method_54_code, 3, (Option.some FieldType.int), [(0, .aload_n 0, mX), (1, .getfield 51, (0, 5, 0)), (4, .iload_n 1, mX), (5, .iload_n 2, mX), (6, .invokevirtual 395, (203, 3, 0)), (9, .ireturn, mX)])
noncomputable def mt203 : am_M := (⟨"AssizeRide$Gaols", "tellOfLeft", "(II)I"⟩, prog_6_method_8_code, 3, (Option.some FieldType.int), [(0, .iload_n 1, mX), (1, .ifCond .lt 20, mX), (4, .iload_n 1, mX), (5, .aload_n 0, mX), (6, .getfield 29, (7, 5, 0)), (9, .if_icmp .ge 12, mX), (12, .iload_n 2, mX), (13, .iconst 0, mX), (14, .iconst 1, mX), (15, .invokestatic 76, (25, 3, 0)), (18, .ifCond .ne 5, mX), (21, .iconst (-1), mX), (22, .ireturn, mX), (23, .iload_n 2, mX), (24, .ifCond .ne 12, mX), (27, .aload_n 0, mX), (28, .getfield 23, (7, 3, 0)), (31, .iload_n 1, mX), (32, .iaload, mX), (33, .goto 9, mX), (36, .aload_n 0, mX), (37, .getfield 26, (7, 4, 0)), (40, .iload_n 1, mX), (41, .iaload, mX), (42, .ireturn, mX)])
noncomputable def mt204 : am_M := (⟨"AssizeRide", "prisoner", "(II)I"⟩, prog_1_method_55_code, 3, (Option.some FieldType.int), [(0, .aload_n 0, mX), (1, .getfield 19, (0, 1, 0)), (4, .iload_n 1, mX), (5, .invokevirtual 124, (38, 2, 0)), (8, .ifCond .eq 12, mX), (11, .iload_n 2, mX), (12, .iconst 0, mX), (13, .iconst 1, mX), (14, .invokestatic 95, (25, 3, 0)), (17, .ifCond .ne 6, mX), (20, .bipush (-2), mX), (22, .ireturn, mX), (23, .iload_n 2, mX), (24, .ifCond .ne 14, mX), (27, .aload_n 0, mX), (28, .getfield 51, (0, 5, 0)), (31, .iload_n 1, mX), (32, .invokevirtual 377, (193, 2, 0)), (35, .goto 15, mX), (38, .aload_n 0, mX), (39, .getfield 51, (0, 5, 0)), (42, .iload_n 1, mX), (43, .aload_n 0, mX), (44, .getfield 85, (0, 10, 0)), (47, .invokevirtual 398, (205, 3, 0)), (50, .ireturn, mX)])
noncomputable def mt205 : am_M := (⟨"AssizeRide$Gaols", "daysWaited", "(II)I"⟩, prog_6_method_6_code, 3, (Option.some FieldType.int), [(0, .iload_n 1, mX), (1, .ifCond .lt 12, mX), (4, .iload_n 1, mX), (5, .aload_n 0, mX), (6, .getfield 20, (7, 2, 0)), (9, .arraylength, mX), (10, .if_icmp .lt 5, mX), (13, .iconst 0, mX), (14, .ireturn, mX), (15, .aload_n 0, mX), (16, .getfield 20, (7, 2, 0)), (19, .iload_n 1, mX), (20, .iaload, mX), (21, .aload_n 0, mX), (22, .getfield 11, (7, 0, 0)), (25, .iload_n 1, mX), (26, .iaload, mX), (27, .iconst (-1), mX), (28, .if_icmp .ne 7, mX), (31, .iconst 0, mX), (32, .goto 11, mX), (35, .iload_n 2, mX), (36, .aload_n 0, mX), (37, .getfield 17, (7, 1, 0)), (40, .iload_n 1, mX), (41, .iaload, mX), (42, .isub, mX), (43, .iadd, mX), (44, .ireturn, mX)])
noncomputable def mt206 : am_M := (⟨"AssizeRide", "bond", "(IIIII)I"⟩, prog_1_method_56_code, 6, (Option.some FieldType.int), [(0, .aload_n 0, mX), (1, .getfield 19, (0, 1, 0)), (4, .iload_n 1, mX), (5, .invokevirtual 124, (38, 2, 0)), (8, .ifCond .eq 52, mX), (11, .iload_n 2, mX), (12, .invokestatic 109, (27, 1, 0)), (15, .ifCond .eq 45, mX), (18, .iload_n 3, mX), (19, .invokestatic 127, (39, 1, 0)), (22, .ifCond .eq 38, mX), (25, .iload 4, mX), (27, .invokestatic 127, (39, 1, 0)), (30, .ifCond .eq 30, mX), (33, .iload 4, mX), (35, .iload_n 3, mX), (36, .if_icmp .lt 24, mX), (39, .iload 4, mX), (41, .aload_n 0, mX), (42, .getfield 85, (0, 10, 0)), (45, .if_icmp .lt 15, mX), (48, .iload 5, mX), (50, .iconst 1, mX), (51, .sipush 9999, mX), (54, .invokestatic 95, (25, 3, 0)), (57, .ifCond .ne 6, mX), (60, .bipush (-2), mX), (62, .ireturn, mX), (63, .aload_n 0, mX), (64, .getfield 51, (0, 5, 0)), (67, .iload_n 1, mX), (68, .iload_n 2, mX), (69, .iload_n 3, mX), (70, .iload 4, mX), (72, .iload 5, mX), (74, .invokevirtual 401, (207, 6, 0)), (77, .ireturn, mX)])
noncomputable def mt207 : am_M := (⟨"AssizeRide$Gaols", "bind", "(IIIII)I"⟩, prog_6_method_9_code, 6, (Option.some FieldType.int), [(0, .aload_n 0, mX), (1, .getfield 33, (7, 6, 0)), (4, .bipush 80, mX), (6, .if_icmp .lt 6, mX), (9, .bipush (-3), mX), (11, .ireturn, mX), (12, .aload_n 0, mX), (13, .getfield 39, (7, 8, 0)), (16, .aload_n 0, mX), (17, .getfield 33, (7, 6, 0)), (20, .iload_n 1, mX), (21, .iastore, mX), (22, .aload_n 0, mX), (23, .getfield 42, (7, 9, 0)), (26, .aload_n 0, mX), (27, .getfield 33, (7, 6, 0)), (30, .iload_n 2, mX), (31, .iastore, mX), (32, .aload_n 0, mX), (33, .getfield 45, (7, 10, 0)), (36, .aload_n 0, mX), (37, .getfield 33, (7, 6, 0)), (40, .iload_n 3, mX), (41, .iastore, mX), (42, .aload_n 0, mX), (43, .getfield 48, (7, 11, 0)), (46, .aload_n 0, mX), (47, .getfield 33, (7, 6, 0)), (50, .iload 4, mX), (52, .iastore, mX), (53, .aload_n 0, mX), (54, .getfield 51, (7, 12, 0)), (57, .aload_n 0, mX), (58, .getfield 33, (7, 6, 0)), (61, .iload 5, mX), (63, .iastore, mX), (64, .aload_n 0, mX), (65, .getfield 54, (7, 13, 0)), (68, .aload_n 0, mX), (69, .getfield 33, (7, 6, 0)), (72, .iconst 0, mX), (73, .iastore, mX), (74, .aload_n 0, mX), (75, .dup, mX), (76, .getfield 33, (7, 6, 0)), (79, .iconst 1, mX), (80, .iadd, mX), (81, .putfield 33, (7, 6, 0)), (84, .aload_n 0, mX), (85, .getfield 33, (7, 6, 0)), (88, .iconst 1, mX), (89, .isub, mX), (90, .ireturn, mX)])
noncomputable def mt208 : am_M := (⟨"AssizeRide", "seen", "(II)I"⟩, prog_1_method_57_code, 3, (Option.some FieldType.int), [(0, .aload_n 0, mX), (1, .getfield 19, (0, 1, 0)), (4, .iload_n 1, mX), (5, .invokevirtual 124, (38, 2, 0)), (8, .ifCond .eq 10, mX), (11, .iload_n 2, mX), (12, .invokestatic 109, (27, 1, 0)), (15, .ifCond .ne 6, mX), (18, .bipush (-2), mX), (20, .ireturn, mX), (21, .aload_n 0, mX), (22, .getfield 51, (0, 5, 0)), (25, .iload_n 1, mX), (26, .iload_n 2, mX), (27, .aload_n 0, mX), (28, .getfield 85, (0, 10, 0)), (31, .invokevirtual 405, (209, 4, 0)), (34, .bipush 100, mX), (36, .aload_n 0, mX), (37, .getfield 44, (0, 4, 0)), (40, .iload_n 1, mX), (41, .iload_n 2, mX), (42, .aload_n 0, mX), (43, .getfield 85, (0, 10, 0)), (46, .invokevirtual 408, (210, 4, 0)), (49, .imul, mX), (50, .iadd, mX), (51, .ireturn, mX)])
noncomputable def mt209 : am_M := (⟨"AssizeRide$Gaols", "meetBonds", "(III)I"⟩, prog_6_method_10_code, 6, (Option.some FieldType.int), [(0, .iconst 0, mX), (1, .istore 4, mX), (3, .iconst 0, mX), (4, .istore 5, mX), (6, .iload 5, mX), (8, .aload_n 0, mX), (9, .getfield 33, (7, 6, 0)), (12, .if_icmp .ge 73, mX), (15, .aload_n 0, mX), (16, .getfield 54, (7, 13, 0)), (19, .iload 5, mX), (21, .iaload, mX), (22, .ifCond .ne 57, mX), (25, .aload_n 0, mX), (26, .getfield 39, (7, 8, 0)), (29, .iload 5, mX), (31, .iaload, mX), (32, .iload_n 1, mX), (33, .if_icmp .ne 46, mX), (36, .aload_n 0, mX), (37, .getfield 42, (7, 9, 0)), (40, .iload 5, mX), (42, .iaload, mX), (43, .iload_n 2, mX), (44, .if_icmp .ne 35, mX), (47, .iload_n 3, mX), (48, .aload_n 0, mX), (49, .getfield 45, (7, 10, 0)), (52, .iload 5, mX), (54, .iaload, mX), (55, .aload_n 0, mX), (56, .getfield 48, (7, 11, 0)), (59, .iload 5, mX), (61, .iaload, mX), (62, .invokestatic 76, (25, 3, 0)), (65, .ifCond .eq 14, mX), (68, .aload_n 0, mX), (69, .getfield 54, (7, 13, 0)), (72, .iload 5, mX), (74, .iconst 1, mX), (75, .iastore, mX), (76, .iinc 4 1, mX), (79, .iinc 5 1, mX), (82, .goto (-76), mX), (85, .iload 4, mX), (87, .ireturn, mX)])
noncomputable def mt210 : am_M := (⟨"AssizeRide$Docket", "breakPardons", "(III)I"⟩, prog_5_method_37_code, 7, (Option.some FieldType.int), [(0, .iconst 0, mX), (1, .istore 4, mX), (3, .iconst 0, mX), (4, .istore 5, mX), (6, .iload 5, mX), (8, .aload_n 0, mX), (9, .getfield 9, (5, 2, 0)), (12, .if_icmp .ge 78, mX), (15, .aload_n 0, mX), (16, .iload 5, mX), (18, .invokevirtual 84, (46, 2, 0)), (21, .astore 6, mX), (23, .aload 6, mX), (25, .ifnull 59, mX), (28, .aload 6, mX), (30, .getfield 99, (11, 7, 0)), (33, .bipush 8, mX), (35, .if_icmp .ne 49, mX), (38, .aload 6, mX), (40, .getfield 217, (11, 2, 0)), (43, .iload_n 1, mX), (44, .if_icmp .ne 40, mX), (47, .aload 6, mX), (49, .getfield 292, (11, 13, 0)), (52, .iload_n 2, mX), (53, .if_icmp .ne 31, mX), (56, .iload_n 3, mX), (57, .aload 6, mX), (59, .getfield 295, (11, 14, 0)), (62, .if_icmp .gt 22, mX), (65, .aload 6, mX), (67, .iconst 1, mX), (68, .putfield 272, (11, 8, 0)), (71, .aload_n 0, mX), (72, .iload 5, mX), (74, .bipush 9, mX), (76, .iload_n 3, mX), (77, .invokevirtual 278, (63, 4, 0)), (80, .pop, mX), (81, .iinc 4 1, mX), (84, .iinc 5 1, mX), (87, .goto (-81), mX), (90, .iload 4, mX), (92, .ireturn, mX)])
noncomputable def mt211 : am_M := (⟨"AssizeRide", "bonded", "(II)I"⟩, prog_1_method_58_code, 3, (Option.some FieldType.int), [(0, .aload_n 0, mX), (1, .getfield 51, (0, 5, 0)), (4, .iload_n 1, mX), (5, .iload_n 2, mX), (6, .invokevirtual 411, (212, 3, 0)), (9, .ireturn, mX)])
noncomputable def mt212 : am_M := (⟨"AssizeRide$Gaols", "tellOfBond", "(II)I"⟩, prog_6_method_12_code, 3, (Option.some FieldType.int), [(0, .iload_n 1, mX), (1, .ifCond .lt 11, mX), (4, .iload_n 1, mX), (5, .aload_n 0, mX), (6, .getfield 33, (7, 6, 0)), (9, .if_icmp .lt 5, mX), (12, .iconst (-1), mX), (13, .ireturn, mX), (14, .iload_n 2, mX), (15, .tableswitch 79 0 5 #[37, 44, 51, 58, 65, 72], (37, 0, 0)), (52, .aload_n 0, mX), (53, .getfield 39, (7, 8, 0)), (56, .iload_n 1, mX), (57, .iaload, mX), (58, .ireturn, mX), (59, .aload_n 0, mX), (60, .getfield 42, (7, 9, 0)), (63, .iload_n 1, mX), (64, .iaload, mX), (65, .ireturn, mX), (66, .aload_n 0, mX), (67, .getfield 45, (7, 10, 0)), (70, .iload_n 1, mX), (71, .iaload, mX), (72, .ireturn, mX), (73, .aload_n 0, mX), (74, .getfield 48, (7, 11, 0)), (77, .iload_n 1, mX), (78, .iaload, mX), (79, .ireturn, mX), (80, .aload_n 0, mX), (81, .getfield 51, (7, 12, 0)), (84, .iload_n 1, mX), (85, .iaload, mX), (86, .ireturn, mX), (87, .aload_n 0, mX), (88, .getfield 54, (7, 13, 0)), (91, .iload_n 1, mX), (92, .iaload, mX), (93, .ireturn, mX), (94, .iconst (-1), mX), (95, .ireturn, mX)])
noncomputable def mt213 : am_M := (⟨"AssizeRide", "hours", "(II)I"⟩, prog_1_method_59_code, 5, (Option.some FieldType.int), [(0, .aload_n 0, mX), (1, .getfield 44, (0, 4, 0)), (4, .iload_n 1, mX), (5, .invokevirtual 281, (46, 2, 0)), (8, .astore_n 3, mX), (9, .aload_n 3, mX), (10, .ifnull 12, mX), (13, .iload_n 2, mX), (14, .iconst 1, mX), (15, .iconst 4, mX), (16, .invokestatic 95, (25, 3, 0)), (19, .ifCond .ne 6, mX), (22, .bipush (-2), mX), (24, .ireturn, mX), (25, .aload_n 3, mX), (26, .getfield 414, (11, 10, 0)), (29, .istore 4, mX), (31, .aload_n 3, mX), (32, .iload_n 2, mX), (33, .putfield 414, (11, 10, 0)), (36, .iload 4, mX), (38, .ireturn, mX)])
noncomputable def mt214 : am_M := (⟨"AssizeRide", "order", "()I"⟩, prog_1_method_60_code, 1, (Option.some FieldType.int), [(0, .aload_n 0, mX), (1, .getfield 58, (0, 6, 0)), (4, .invokevirtual 417, (215, 1, 0)), (7, .iconst 1, mX), (8, .ireturn, mX)])
noncomputable def mt215 : am_M := (⟨"AssizeRide$DayOrder", "beginAnew", "()V"⟩, prog_4_method_2_code, 1, (Option.none : Option FieldType), [(0, .aload_n 0, mX), (1, .iconst 0, mX), (2, .putfield 9, (8, 0, 0)), (5, .aload_n 0, mX), (6, .iconst 0, mX), (7, .putfield 22, (8, 3, 0)), (10, .return_, mX)])
noncomputable def mt216 : am_M := (⟨"AssizeRide", "put", "(I)I"⟩, prog_1_method_61_code, 2, (Option.some FieldType.int), [(0, .aload_n 0, mX), (1, .getfield 44, (0, 4, 0)), (4, .iload_n 1, mX), (5, .invokevirtual 281, (46, 2, 0)), (8, .ifnonnull 6, mX), (11, .bipush (-2), mX), (13, .ireturn, mX), (14, .aload_n 0, mX), (15, .getfield 58, (0, 6, 0)), (18, .iload_n 1, mX), (19, .invokevirtual 420, (217, 2, 0)), (22, .ifCond .eq 8, mX), (25, .bipush (-4), mX), (27, .goto 11, mX), (30, .aload_n 0, mX), (31, .getfield 58, (0, 6, 0)), (34, .iload_n 1, mX), (35, .invokevirtual 421, (218, 2, 0)), (38, .ireturn, mX)])
noncomputable def mt217 : am_M := (⟨"AssizeRide$DayOrder", "has", "(I)Z"⟩, prog_4_method_3_code, 3, (Option.some FieldType.boolean), [(0, .iconst 0, mX), (1, .istore_n 2, mX), (2, .iload_n 2, mX), (3, .aload_n 0, mX), (4, .getfield 9, (8, 0, 0)), (7, .if_icmp .ge 21, mX), (10, .aload_n 0, mX), (11, .getfield 15, (8, 1, 0)), (14, .iload_n 2, mX), (15, .iaload, mX), (16, .iload_n 1, mX), (17, .if_icmp .ne 5, mX), (20, .iconst 1, mX), (21, .ireturn, mX), (22, .iinc 2 1, mX), (25, .goto (-23), mX), (28, .iconst 0, mX), (29, .ireturn, mX)])
noncomputable def mt218 : am_M := (⟨"AssizeRide$DayOrder", "insert", "(I)I"⟩, prog_4_method_4_code, 3, (Option.some FieldType.int), [(0, .aload_n 0, mX), (1, .getfield 9, (8, 0, 0)), (4, .iconst 5, mX), (5, .if_icmp .lt 6, mX), (8, .bipush (-3), mX), (10, .ireturn, mX), (11, .aload_n 0, mX), (12, .getfield 9, (8, 0, 0)), (15, .istore_n 2, mX), (16, .iload_n 2, mX), (17, .ifCond .le 35, mX), (20, .aload_n 0, mX), (21, .getfield 15, (8, 1, 0)), (24, .iload_n 2, mX), (25, .iconst 1, mX), (26, .isub, mX), (27, .iaload, mX), (28, .iload_n 1, mX), (29, .if_icmp .le 23, mX), (32, .aload_n 0, mX), (33, .getfield 15, (8, 1, 0)), (36, .iload_n 2, mX), (37, .aload_n 0, mX), (38, .getfield 15, (8, 1, 0)), (41, .iload_n 2, mX), (42, .iconst 1, mX), (43, .isub, mX), (44, .iaload, mX), (45, .iastore, mX), (46, .iinc 2 (-1), mX), (49, .goto (-33), mX), (52, .aload_n 0, mX), (53, .getfield 15, (8, 1, 0)), (56, .iload_n 2, mX), (57, .iload_n 1, mX), (58, .iastore, mX), (59, .aload_n 0, mX), (60, .dup, mX), (61, .getfield 9, (8, 0, 0)), (64, .iconst 1, mX), (65, .iadd, mX), (66, .putfield 9, (8, 0, 0)), (69, .aload_n 0, mX), (70, .iconst 0, mX), (71, .putfield 22, (8, 3, 0)), (74, .aload_n 0, mX), (75, .getfield 9, (8, 0, 0)), (78, .ireturn, mX)])
noncomputable def mt219 : am_M := (⟨"AssizeRide", "best", "(I)I"⟩, prog_1_method_62_code, 2, (Option.some FieldType.int), [(0, .iload_n 1, mX), (1, .iconst 1, mX), (2, .bipush 10, mX), (4, .invokestatic 95, (25, 3, 0)), (7, .ifCond .eq 18, mX), (10, .aload_n 0, mX), (11, .getfield 58, (0, 6, 0)), (14, .iload_n 1, mX), (15, .aload_n 0, mX), (16, .getfield 44, (0, 4, 0)), (19, .invokevirtual 424, (220, 3, 0)), (22, .goto 5, mX), (25, .bipush (-2), mX), (27, .ireturn, mX)])
noncomputable def mt220 : am_M := (⟨"AssizeRide$DayOrder", "layBest", "(ILAssizeRide$Docket;)I"⟩, prog_4_method_7_code, 4, (Option.some FieldType.int), [(0, .aload_n 0, mX), (1, .aload_n 0, mX), (2, .iload_n 1, mX), (3, .aload_n 2, mX), (4, .invokevirtual 63, (221, 3, 0)), (7, .putfield 39, (8, 8, 0)), (10, .aload_n 0, mX), (11, .iconst 0, mX), (12, .invokevirtual 67, (224, 2, 0)), (15, .istore_n 3, mX), (16, .aload_n 0, mX), (17, .iconst 0, mX), (18, .iload_n 3, mX), (19, .invokevirtual 71, (227, 3, 0)), (22, .pop, mX), (23, .aload_n 0, mX), (24, .getfield 33, (8, 6, 0)), (27, .iconst 0, mX), (28, .aload_n 0, mX), (29, .getfield 19, (8, 2, 0)), (32, .iconst 0, mX), (33, .iconst 5, mX), (34, .invokestatic 75, (0, 5, 2)), (37, .aload_n 0, mX), (38, .iconst 1, mX), (39, .putfield 22, (8, 3, 0)), (42, .iload_n 3, mX), (43, .ireturn, mX)])
noncomputable def mt221 : am_M := (⟨"AssizeRide$DayOrder", "mostByHours", "(ILAssizeRide$Docket;)I"⟩, prog_4_method_12_code, 7, (Option.some FieldType.int), [(0, .aload_n 0, mX), (1, .iload_n 1, mX), (2, .aload_n 2, mX), (3, .invokevirtual 93, (222, 3, 0)), (6, .iconst 0, mX), (7, .istore_n 3, mX), (8, .iconst 0, mX), (9, .istore 4, mX), (11, .iconst 1, mX), (12, .istore 5, mX), (14, .iload 5, mX), (16, .iconst 4, mX), (17, .if_icmp .gt 60, mX), (20, .iconst 0, mX), (21, .istore 6, mX), (23, .iload 6, mX), (25, .aload_n 0, mX), (26, .getfield 9, (8, 0, 0)), (29, .if_icmp .ge 42, mX), (32, .aload_n 0, mX), (33, .getfield 26, (8, 4, 0)), (36, .iload 6, mX), (38, .iaload, mX), (39, .iload 5, mX), (41, .if_icmp .ne 24, mX), (44, .iload 4, mX), (46, .iload 5, mX), (48, .iadd, mX), (49, .iconst 2, mX), (50, .iload_n 1, mX), (51, .imul, mX), (52, .if_icmp .gt 13, mX), (55, .iload 4, mX), (57, .iload 5, mX), (59, .iadd, mX), (60, .istore 4, mX), (62, .iinc 3 1, mX), (65, .iinc 6 1, mX), (68, .goto (-45), mX), (71, .iinc 5 1, mX), (74, .goto (-60), mX), (77, .iload_n 3, mX), (78, .ireturn, mX)])
noncomputable def mt222 : am_M := (⟨"AssizeRide$DayOrder", "prepare", "(ILAssizeRide$Docket;)V"⟩, prog_4_method_5_code, 8, (Option.none : Option FieldType), [(0, .aload_n 0, mX), (1, .iload_n 1, mX), (2, .putfield 36, (8, 7, 0)), (5, .aload_n 0, mX), (6, .getfield 33, (8, 6, 0)), (9, .bipush 99, mX), (11, .invokestatic 42, (17, 2, 0)), (14, .iconst 0, mX), (15, .istore_n 3, mX), (16, .iload_n 3, mX), (17, .aload_n 0, mX), (18, .getfield 9, (8, 0, 0)), (21, .if_icmp .ge 122, mX), (24, .aload_n 2, mX), (25, .aload_n 0, mX), (26, .getfield 15, (8, 1, 0)), (29, .iload_n 3, mX), (30, .iaload, mX), (31, .invokevirtual 48, (46, 2, 0)), (34, .astore 4, mX), (36, .aload_n 0, mX), (37, .getfield 26, (8, 4, 0)), (40, .iload_n 3, mX), (41, .aload 4, mX), (43, .ifnonnull 7, mX), (46, .iconst 1, mX), (47, .goto 8, mX), (50, .aload 4, mX), (52, .getfield 54, (11, 10, 0)), (55, .iastore, mX), (56, .iconst 0, mX), (57, .istore 5, mX), (59, .iload 5, mX), (61, .iload_n 3, mX), (62, .if_icmp .ge 75, mX), (65, .aload_n 2, mX), (66, .aload_n 0, mX), (67, .getfield 15, (8, 1, 0)), (70, .iload 5, mX), (72, .iaload, mX), (73, .invokevirtual 48, (46, 2, 0)), (76, .astore 6, mX), (78, .aload 4, mX), (80, .ifnull 22, mX), (83, .aload 6, mX), (85, .ifnull 17, mX), (88, .aload 4, mX), (90, .aload 6, mX), (92, .invokevirtual 59, (223, 2, 0)), (95, .ifCond .eq 7, mX), (98, .iconst 1, mX), (99, .goto 4, mX), (102, .iconst 0, mX), (103, .istore 7, mX), (105, .aload_n 0, mX), (106, .getfield 29, (8, 5, 0)), (109, .iload_n 3, mX), (110, .iconst 5, mX), (111, .imul, mX), (112, .iload 5, mX), (114, .iadd, mX), (115, .iload 7, mX), (117, .bastore, mX), (118, .aload_n 0, mX), (119, .getfield 29, (8, 5, 0)), (122, .iload 5, mX), (124, .iconst 5, mX), (125, .imul, mX), (126, .iload_n 3, mX), (127, .iadd, mX), (128, .iload 7, mX), (130, .bastore, mX), (131, .iinc 5 1, mX), (134, .goto (-75), mX), (137, .iinc 3 1, mX), (140, .goto (-124), mX), (143, .return_, mX)])
noncomputable def mt223 : am_M := (⟨"AssizeRide$Matter", "sharesPeople", "(LAssizeRide$Matter;)Z"⟩, prog_8_method_11_code, 3, (Option.some FieldType.boolean), [(0, .aload_n 1, mX), (1, .aload_n 0, mX), (2, .getfield 68, (11, 2, 0)), (5, .invokevirtual 105, (157, 2, 0)), (8, .ifCond .ne 21, mX), (11, .aload_n 0, mX), (12, .invokevirtual 83, (62, 1, 0)), (15, .ifCond .eq 16, mX), (18, .aload_n 1, mX), (19, .aload_n 0, mX), (20, .getfield 65, (11, 1, 0)), (23, .invokevirtual 105, (157, 2, 0)), (26, .ifCond .eq 5, mX), (29, .iconst 1, mX), (30, .ireturn, mX), (31, .iconst 0, mX), (32, .istore_n 2, mX), (33, .iload_n 2, mX), (34, .aload_n 0, mX), (35, .getfield 52, (11, 18, 0)), (38, .getfield 108, (6, 2, 0)), (41, .if_icmp .ge 27, mX), (44, .aload_n 1, mX), (45, .aload_n 0, mX), (46, .getfield 52, (11, 18, 0)), (49, .iload_n 2, mX), (50, .invokevirtual 111, (146, 2, 0)), (53, .l2i, mX), (54, .invokevirtual 105, (157, 2, 0)), (57, .ifCond .eq 5, mX), (60, .iconst 1, mX), (61, .ireturn, mX), (62, .iinc 2 1, mX), (65, .goto (-32), mX), (68, .iconst 0, mX), (69, .istore_n 2, mX), (70, .iload_n 2, mX), (71, .aload_n 0, mX), (72, .getfield 55, (11, 19, 0)), (75, .getfield 108, (6, 2, 0)), (78, .if_icmp .ge 27, mX), (81, .aload_n 1, mX), (82, .aload_n 0, mX), (83, .getfield 55, (11, 19, 0)), (86, .iload_n 2, mX), (87, .invokevirtual 111, (146, 2, 0)), (90, .l2i, mX), (91, .invokevirtual 105, (157, 2, 0)), (94, .ifCond .eq 5, mX), (97, .iconst 1, mX), (98, .ireturn, mX), (99, .iinc 2 1, mX), (102, .goto (-32), mX), (105, .iconst 0, mX), (106, .ireturn, mX)])
noncomputable def mt224 : am_M := (⟨"AssizeRide$DayOrder", "mostLaid", "(I)I"⟩, prog_4_method_8_code, 7, (Option.some FieldType.int), [(0, .iload_n 1, mX), (1, .istore_n 2, mX), (2, .iload_n 1, mX), (3, .ifCond .ne 7, mX), (6, .iconst 1, mX), (7, .goto 4, mX), (10, .iconst 2, mX), (11, .istore_n 3, mX), (12, .iconst 0, mX), (13, .istore 4, mX), (15, .iload 4, mX), (17, .aload_n 0, mX), (18, .getfield 9, (8, 0, 0)), (21, .if_icmp .ge 90, mX), (24, .iload_n 2, mX), (25, .aload_n 0, mX), (26, .getfield 39, (8, 8, 0)), (29, .if_icmp .ge 82, mX), (32, .iconst 0, mX), (33, .istore 5, mX), (35, .iload 5, mX), (37, .iload_n 3, mX), (38, .if_icmp .ge 67, mX), (41, .aload_n 0, mX), (42, .getfield 33, (8, 6, 0)), (45, .iload 4, mX), (47, .iaload, mX), (48, .bipush 99, mX), (50, .if_icmp .ne 55, mX), (53, .aload_n 0, mX), (54, .iload 4, mX), (56, .iload 5, mX), (58, .invokevirtual 81, (225, 3, 0)), (61, .istore 6, mX), (63, .iload 6, mX), (65, .iconst (-1), mX), (66, .if_icmp .eq 33, mX), (69, .aload_n 0, mX), (70, .getfield 33, (8, 6, 0)), (73, .iload 4, mX), (75, .iload 6, mX), (77, .iastore, mX), (78, .iload_n 2, mX), (79, .aload_n 0, mX), (80, .iload_n 1, mX), (81, .iconst 1, mX), (82, .iadd, mX), (83, .invokevirtual 67, (224, 2, 0)), (86, .invokestatic 85, (6, 2, 0)), (89, .istore_n 2, mX), (90, .aload_n 0, mX), (91, .getfield 33, (8, 6, 0)), (94, .iload 4, mX), (96, .bipush 99, mX), (98, .iastore, mX), (99, .iinc 5 1, mX), (102, .goto (-67), mX), (105, .iinc 4 1, mX), (108, .goto (-93), mX), (111, .iload_n 2, mX), (112, .ireturn, mX)])
noncomputable def mt225 : am_M := (⟨"AssizeRide$DayOrder", "soonest", "(II)I"⟩, prog_4_method_9_code, 4, (Option.some FieldType.int), [(0, .iconst 0, mX), (1, .istore_n 3, mX), (2, .iload_n 3, mX), (3, .aload_n 0, mX), (4, .getfield 36, (8, 7, 0)), (7, .if_icmp .ge 28, mX), (10, .aload_n 0, mX), (11, .iload_n 1, mX), (12, .iconst 2, mX), (13, .iload_n 3, mX), (14, .imul, mX), (15, .iload_n 2, mX), (16, .iadd, mX), (17, .invokevirtual 90, (226, 3, 0)), (20, .ifCond .eq 9, mX), (23, .iconst 2, mX), (24, .iload_n 3, mX), (25, .imul, mX), (26, .iload_n 2, mX), (27, .iadd, mX), (28, .ireturn, mX), (29, .iinc 3 1, mX), (32, .goto (-30), mX), (35, .iconst (-1), mX), (36, .ireturn, mX)])
noncomputable def mt226 : am_M := (⟨"AssizeRide$DayOrder", "fits", "(II)Z"⟩, prog_4_method_6_code, 7, (Option.some FieldType.boolean), [(0, .iload_n 2, mX), (1, .iconst 2, mX), (2, .idiv, mX), (3, .istore_n 3, mX), (4, .iload_n 3, mX), (5, .aload_n 0, mX), (6, .getfield 26, (8, 4, 0)), (9, .iload_n 1, mX), (10, .iaload, mX), (11, .iadd, mX), (12, .aload_n 0, mX), (13, .getfield 36, (8, 7, 0)), (16, .if_icmp .le 5, mX), (19, .iconst 0, mX), (20, .ireturn, mX), (21, .iconst 0, mX), (22, .istore 4, mX), (24, .iload 4, mX), (26, .aload_n 0, mX), (27, .getfield 9, (8, 0, 0)), (30, .if_icmp .ge 108, mX), (33, .aload_n 0, mX), (34, .getfield 33, (8, 6, 0)), (37, .iload 4, mX), (39, .iaload, mX), (40, .iconst 2, mX), (41, .idiv, mX), (42, .istore 5, mX), (44, .iload 4, mX), (46, .iload_n 1, mX), (47, .if_icmp .eq 44, mX), (50, .aload_n 0, mX), (51, .getfield 33, (8, 6, 0)), (54, .iload 4, mX), (56, .iaload, mX), (57, .bipush 99, mX), (59, .if_icmp .eq 32, mX), (62, .aload_n 0, mX), (63, .getfield 33, (8, 6, 0)), (66, .iload 4, mX), (68, .iaload, mX), (69, .iconst 2, mX), (70, .irem, mX), (71, .iload_n 2, mX), (72, .iconst 2, mX), (73, .irem, mX), (74, .if_icmp .eq 21, mX), (77, .aload_n 0, mX), (78, .getfield 29, (8, 5, 0)), (81, .iload_n 1, mX), (82, .iconst 5, mX), (83, .imul, mX), (84, .iload 4, mX), (86, .iadd, mX), (87, .baload, mX), (88, .ifCond .ne 7, mX), (91, .iconst 1, mX), (92, .goto 4, mX), (95, .iconst 0, mX), (96, .istore 6, mX), (98, .iload 6, mX), (100, .ifCond .ne 32, mX), (103, .iload_n 3, mX), (104, .iload 5, mX), (106, .aload_n 0, mX), (107, .getfield 26, (8, 4, 0)), (110, .iload 4, mX), (112, .iaload, mX), (113, .iadd, mX), (114, .if_icmp .ge 18, mX), (117, .iload 5, mX), (119, .iload_n 3, mX), (120, .aload_n 0, mX), (121, .getfield 26, (8, 4, 0)), (124, .iload_n 1, mX), (125, .iaload, mX), (126, .iadd, mX), (127, .if_icmp .ge 5, mX), (130, .iconst 0, mX), (131, .ireturn, mX), (132, .iinc 4 1, mX), (135, .goto (-111), mX), (138, .iconst 1, mX), (139, .ireturn, mX)])
noncomputable def mt227 : am_M := (⟨"AssizeRide$DayOrder", "tryFrom", "(II)Z"⟩, prog_4_method_10_code, 4, (Option.some FieldType.boolean), [(0, .iload_n 2, mX), (1, .aload_n 0, mX), (2, .getfield 9, (8, 0, 0)), (5, .iload_n 1, mX), (6, .isub, mX), (7, .if_icmp .le 5, mX), (10, .iconst 0, mX), (11, .ireturn, mX), (12, .iload_n 1, mX), (13, .aload_n 0, mX), (14, .getfield 9, (8, 0, 0)), (17, .if_icmp .lt 5, mX), (20, .iconst 1, mX), (21, .ireturn, mX), (22, .iconst 0, mX), (23, .istore_n 3, mX), (24, .iload_n 3, mX), (25, .iconst 2, mX), (26, .aload_n 0, mX), (27, .getfield 36, (8, 7, 0)), (30, .imul, mX), (31, .if_icmp .ge 48, mX), (34, .aload_n 0, mX), (35, .iload_n 1, mX), (36, .iload_n 3, mX), (37, .invokevirtual 90, (226, 3, 0)), (40, .ifCond .eq 33, mX), (43, .aload_n 0, mX), (44, .getfield 33, (8, 6, 0)), (47, .iload_n 1, mX), (48, .iload_n 3, mX), (49, .iastore, mX), (50, .aload_n 0, mX), (51, .iload_n 1, mX), (52, .iconst 1, mX), (53, .iadd, mX), (54, .iload_n 2, mX), (55, .iconst 1, mX), (56, .isub, mX), (57, .invokevirtual 71, (227, 3, 0)), (60, .ifCond .eq 5, mX), (63, .iconst 1, mX), (64, .ireturn, mX), (65, .aload_n 0, mX), (66, .getfield 33, (8, 6, 0)), (69, .iload_n 1, mX), (70, .bipush 99, mX), (72, .iastore, mX), (73, .iinc 3 1, mX), (76, .goto (-52), mX), (79, .aload_n 0, mX), (80, .iload_n 1, mX), (81, .iconst 1, mX), (82, .iadd, mX), (83, .iload_n 2, mX), (84, .invokevirtual 71, (227, 3, 0)), (87, .ireturn, mX)])
noncomputable def mt228 : am_M := (⟨"AssizeRide", "laid", "(I)I"⟩, prog_1_method_63_code, 2, (Option.some FieldType.int), [(0, .aload_n 0, mX), (1, .getfield 58, (0, 6, 0)), (4, .iload_n 1, mX), (5, .invokevirtual 428, (229, 2, 0)), (8, .ireturn, mX)])
noncomputable def mt229 : am_M := (⟨"AssizeRide$DayOrder", "placeOf", "(I)I"⟩, prog_4_method_11_code, 2, (Option.some FieldType.int), [(0, .aload_n 0, mX), (1, .getfield 22, (8, 3, 0)), (4, .ifCond .eq 24, mX), (7, .iload_n 1, mX), (8, .ifCond .lt 20, mX), (11, .iload_n 1, mX), (12, .aload_n 0, mX), (13, .getfield 9, (8, 0, 0)), (16, .if_icmp .ge 12, mX), (19, .aload_n 0, mX), (20, .getfield 19, (8, 2, 0)), (23, .iload_n 1, mX), (24, .iaload, mX), (25, .goto 4, mX), (28, .iconst (-1), mX), (29, .ireturn, mX)])
noncomputable def mt230 : am_M := (⟨"AssizeRide", "bound", "(I)I"⟩, prog_1_method_64_code, 2, (Option.some FieldType.int), [(0, .iload_n 1, mX), (1, .iconst 1, mX), (2, .bipush 10, mX), (4, .invokestatic 95, (25, 3, 0)), (7, .ifCond .eq 18, mX), (10, .aload_n 0, mX), (11, .getfield 58, (0, 6, 0)), (14, .iload_n 1, mX), (15, .aload_n 0, mX), (16, .getfield 44, (0, 4, 0)), (19, .invokevirtual 431, (221, 3, 0)), (22, .goto 5, mX), (25, .bipush (-2), mX), (27, .ireturn, mX)])
noncomputable def mt231 : am_M := (⟨"AssizeRide", "prove", "(I)I"⟩, prog_1_method_65_code, 3, (Option.some FieldType.int), [(0, .aload_n 0, mX), (1, .getfield 10, mX), (4, .invokevirtual 434, (72, 1, 0)), (7, .istore_n 2, mX), (8, .iload_n 1, mX), (9, .iconst 1, mX), (10, .bipush 10, mX), (12, .invokestatic 95, (25, 3, 0)), (15, .ifCond .eq 23, mX), (18, .aload_n 0, mX), (19, .getfield 58, (0, 6, 0)), (22, .aload_n 0, mX), (23, .getfield 10, mX), (26, .iload_n 2, mX), (27, .iload_n 1, mX), (28, .aload_n 0, mX), (29, .getfield 44, (0, 4, 0)), (32, .invokevirtual 437, (232, 5, 0)), (35, .goto 5, mX), (38, .bipush (-2), mX), (40, .ireturn, mX)])
noncomputable def mt232 : am_M := (⟨"AssizeRide$DayOrder", "laidRightly", "(LAssizeRide$Tape;IILAssizeRide$Docket;)I"⟩, prog_4_method_13_code, 8, (Option.some FieldType.int), [(0, .iload_n 2, mX), (1, .aload_n 0, mX), (2, .getfield 9, (8, 0, 0)), (5, .if_icmp .eq 5, mX), (8, .iconst (-1), mX), (9, .ireturn, mX), (10, .aload_n 0, mX), (11, .iload_n 3, mX), (12, .aload 4, mX), (14, .invokevirtual 93, (222, 3, 0)), (17, .iconst 0, mX), (18, .istore 5, mX), (20, .iconst 0, mX), (21, .istore 6, mX), (23, .iload 6, mX), (25, .aload_n 0, mX), (26, .getfield 9, (8, 0, 0)), (29, .if_icmp .ge 77, mX), (32, .aload_n 1, mX), (33, .getfield 97, (1, 0, 0)), (36, .iload 6, mX), (38, .iaload, mX), (39, .istore 7, mX), (41, .aload_n 0, mX), (42, .getfield 33, (8, 6, 0)), (45, .iload 6, mX), (47, .iload 7, mX), (49, .bipush 122, mX), (51, .if_icmp .ne 8, mX), (54, .bipush 99, mX), (56, .goto 8, mX), (59, .iload 7, mX), (61, .bipush 48, mX), (63, .isub, mX), (64, .iastore, mX), (65, .iload 7, mX), (67, .bipush 122, mX), (69, .if_icmp .eq 31, mX), (72, .iload 7, mX), (74, .bipush 48, mX), (76, .if_icmp .lt 19, mX), (79, .aload_n 0, mX), (80, .iload 6, mX), (82, .aload_n 0, mX), (83, .getfield 33, (8, 6, 0)), (86, .iload 6, mX), (88, .iaload, mX), (89, .invokevirtual 90, (226, 3, 0)), (92, .ifCond .ne 5, mX), (95, .iconst (-1), mX), (96, .ireturn, mX), (97, .iinc 5 1, mX), (100, .iinc 6 1, mX), (103, .goto (-80), mX), (106, .iload 5, mX), (108, .ireturn, mX)])
noncomputable def mt233 : am_M := (⟨"AssizeRide", "far", "(II)I"⟩, prog_1_method_66_code, 3, (Option.some FieldType.int), [(0, .iload_n 1, mX), (1, .invokestatic 109, (27, 1, 0)), (4, .ifCond .eq 22, mX), (7, .iload_n 2, mX), (8, .invokestatic 109, (27, 1, 0)), (11, .ifCond .eq 15, mX), (14, .aload_n 0, mX), (15, .getfield 65, (0, 7, 0)), (18, .iload_n 1, mX), (19, .iload_n 2, mX), (20, .invokevirtual 441, (234, 3, 0)), (23, .goto 5, mX), (26, .bipush (-2), mX), (28, .ireturn, mX)])
noncomputable def mt234 : am_M := (⟨"AssizeRide$Circuit", "daysBetween", "(II)I"⟩, prog_3_method_5_code, 3, (Option.some FieldType.int), [(0, .aload_n 0, mX), (1, .getfield 15, (9, 1, 0)), (4, .iload_n 1, mX), (5, .bipush 6, mX), (7, .imul, mX), (8, .iload_n 2, mX), (9, .iadd, mX), (10, .iaload, mX), (11, .ireturn, mX)])
noncomputable def mt235 : am_M := (⟨"AssizeRide", "ride", "(IIII)I"⟩, prog_1_method_67_code, 5, (Option.some FieldType.int), [(0, .iload_n 1, mX), (1, .invokestatic 109, (27, 1, 0)), (4, .ifCond .eq 30, mX), (7, .iload_n 2, mX), (8, .invokestatic 127, (39, 1, 0)), (11, .ifCond .eq 23, mX), (14, .iload_n 3, mX), (15, .iconst 1, mX), (16, .bipush 63, mX), (18, .invokestatic 95, (25, 3, 0)), (21, .ifCond .eq 13, mX), (24, .iload 4, mX), (26, .iconst 1, mX), (27, .iconst 5, mX), (28, .invokestatic 95, (25, 3, 0)), (31, .ifCond .ne 6, mX), (34, .bipush (-2), mX), (36, .ireturn, mX), (37, .aload_n 0, mX), (38, .getfield 65, (0, 7, 0)), (41, .iload_n 1, mX), (42, .iload_n 2, mX), (43, .iload_n 3, mX), (44, .iload 4, mX), (46, .aload_n 0, mX), (47, .getfield 51, (0, 5, 0)), (50, .invokevirtual 444, (236, 6, 0)), (53, .ireturn, mX)])
noncomputable def mt236 : am_M := (⟨"AssizeRide$Circuit", "plan", "(IIIILAssizeRide$Gaols;)I"⟩, prog_3_method_7_code, 6, (Option.some FieldType.int), [(0, .aload_n 0, mX), (1, .iload_n 1, mX), (2, .iload_n 3, mX), (3, .invokevirtual 72, (237, 3, 0)), (6, .ifCond .ne 5, mX), (9, .iconst (-1), mX), (10, .ireturn, mX), (11, .aload_n 0, mX), (12, .iload_n 2, mX), (13, .putfield 28, (9, 5, 0)), (16, .aload_n 0, mX), (17, .iload 4, mX), (19, .putfield 31, (9, 6, 0)), (22, .aload_n 0, mX), (23, .iconst 0, mX), (24, .iload_n 1, mX), (25, .iload_n 2, mX), (26, .iload_n 3, mX), (27, .aload 5, mX), (29, .invokevirtual 76, (238, 6, 0)), (32, .ireturn, mX)])
noncomputable def mt237 : am_M := (⟨"AssizeRide$Circuit", "reachesAll", "(II)Z"⟩, prog_3_method_6_code, 4, (Option.some FieldType.boolean), [(0, .iconst 0, mX), (1, .istore_n 3, mX), (2, .iload_n 3, mX), (3, .bipush 6, mX), (5, .if_icmp .ge 30, mX), (8, .iload_n 2, mX), (9, .iload_n 3, mX), (10, .ishr, mX), (11, .iconst 1, mX), (12, .iand, mX), (13, .iconst 1, mX), (14, .if_icmp .ne 15, mX), (17, .aload_n 0, mX), (18, .iload_n 1, mX), (19, .iload_n 3, mX), (20, .invokevirtual 68, (234, 3, 0)), (23, .iconst (-1), mX), (24, .if_icmp .ne 5, mX), (27, .iconst 0, mX), (28, .ireturn, mX), (29, .iinc 3 1, mX), (32, .goto (-30), mX), (35, .iconst 1, mX), (36, .ireturn, mX)])
noncomputable def mt238 : am_M := (⟨"AssizeRide$Circuit", "layRest", "(IIIILAssizeRide$Gaols;)I"⟩, prog_3_method_9_code, 10, (Option.some FieldType.int), [(0, .iconst 0, mX), (1, .istore 6, mX), (3, .iload 6, mX), (5, .bipush 6, mX), (7, .if_icmp .ge 23, mX), (10, .aload_n 0, mX), (11, .getfield 34, (9, 7, 0)), (14, .iload 6, mX), (16, .aload 5, mX), (18, .iload 6, mX), (20, .invokevirtual 80, (195, 2, 0)), (23, .iastore, mX), (24, .iinc 6 1, mX), (27, .goto (-24), mX), (30, .aload_n 0, mX), (31, .iconst (-1), mX), (32, .putfield 43, (9, 10, 0)), (35, .aload_n 0, mX), (36, .iload_n 1, mX), (37, .iload_n 2, mX), (38, .iload_n 3, mX), (39, .iload 4, mX), (41, .iconst 0, mX), (42, .invokevirtual 86, (239, 6, 0)), (45, .aload_n 0, mX), (46, .iload_n 1, mX), (47, .iload 4, mX), (49, .invokestatic 90, (119, 1, 0)), (52, .iadd, mX), (53, .bipush 6, mX), (55, .invokestatic 95, (44, 2, 0)), (58, .putfield 18, (9, 2, 0)), (61, .iload_n 2, mX), (62, .istore 6, mX), (64, .iload_n 3, mX), (65, .istore 7, mX), (67, .iload_n 1, mX), (68, .istore 8, mX), (70, .iload 8, mX), (72, .aload_n 0, mX), (73, .getfield 18, (9, 2, 0)), (76, .if_icmp .ge 69, mX), (79, .aload_n 0, mX), (80, .getfield 22, (9, 3, 0)), (83, .iload 8, mX), (85, .aload_n 0, mX), (86, .getfield 40, (9, 9, 0)), (89, .iload 8, mX), (91, .iaload, mX), (92, .iastore, mX), (93, .aload_n 0, mX), (94, .getfield 25, (9, 4, 0)), (97, .iload 8, mX), (99, .iload 7, mX), (101, .aload_n 0, mX), (102, .iload 6, mX), (104, .aload_n 0, mX), (105, .getfield 22, (9, 3, 0)), (108, .iload 8, mX), (110, .iaload, mX), (111, .invokevirtual 68, (234, 3, 0)), (114, .iadd, mX), (115, .iastore, mX), (116, .aload_n 0, mX), (117, .getfield 22, (9, 3, 0)), (120, .iload 8, mX), (122, .iaload, mX), (123, .istore 6, mX), (125, .aload_n 0, mX), (126, .getfield 25, (9, 4, 0)), (129, .iload 8, mX), (131, .iaload, mX), (132, .aload_n 0, mX), (133, .getfield 31, (9, 6, 0)), (136, .iadd, mX), (137, .istore 7, mX), (139, .iinc 8 1, mX), (142, .goto (-72), mX), (145, .iconst 0, mX), (146, .istore 8, mX), (148, .iconst 0, mX), (149, .istore 9, mX), (151, .iload 9, mX), (153, .aload_n 0, mX), (154, .getfield 18, (9, 2, 0)), (157, .if_icmp .ge 39, mX), (160, .iload 8, mX), (162, .aload_n 0, mX), (163, .getfield 34, (9, 7, 0)), (166, .aload_n 0, mX), (167, .getfield 22, (9, 3, 0)), (170, .iload 9, mX), (172, .iaload, mX), (173, .iaload, mX), (174, .aload_n 0, mX), (175, .getfield 25, (9, 4, 0)), (178, .iload 9, mX), (180, .iaload, mX), (181, .aload_n 0, mX), (182, .getfield 28, (9, 5, 0)), (185, .isub, mX), (186, .imul, mX), (187, .iadd, mX), (188, .istore 8, mX), (190, .iinc 9 1, mX), (193, .goto (-42), mX), (196, .iload 8, mX), (198, .ireturn, mX)])
noncomputable def mt239 : am_M := (⟨"AssizeRide$Circuit", "tryNext", "(IIIII)V"⟩, prog_3_method_10_code, 8, (Option.none : Option FieldType), [(0, .iload 4, mX), (2, .ifCond .eq 9, mX), (5, .iload_n 1, mX), (6, .bipush 6, mX), (8, .if_icmp .lt 64, mX), (11, .aload_n 0, mX), (12, .getfield 43, (9, 10, 0)), (15, .iconst (-1), mX), (16, .if_icmp .eq 29, mX), (19, .iload 5, mX), (21, .aload_n 0, mX), (22, .getfield 43, (9, 10, 0)), (25, .if_icmp .lt 20, mX), (28, .iload 5, mX), (30, .aload_n 0, mX), (31, .getfield 43, (9, 10, 0)), (34, .if_icmp .ne 37, mX), (37, .iload_n 3, mX), (38, .aload_n 0, mX), (39, .getfield 46, (9, 11, 0)), (42, .if_icmp .ge 29, mX), (45, .aload_n 0, mX), (46, .iload 5, mX), (48, .putfield 43, (9, 10, 0)), (51, .aload_n 0, mX), (52, .iload_n 3, mX), (53, .putfield 46, (9, 11, 0)), (56, .aload_n 0, mX), (57, .getfield 37, (9, 8, 0)), (60, .iconst 0, mX), (61, .aload_n 0, mX), (62, .getfield 40, (9, 9, 0)), (65, .iconst 0, mX), (66, .bipush 6, mX), (68, .invokestatic 58, (0, 5, 2)), (71, .return_, mX), (72, .iconst 0, mX), (73, .istore 6, mX), (75, .iload 6, mX), (77, .bipush 6, mX), (79, .if_icmp .ge 82, mX), (82, .iload 4, mX), (84, .iload 6, mX), (86, .ishr, mX), (87, .iconst 1, mX), (88, .iand, mX), (89, .iconst 1, mX), (90, .if_icmp .ne 65, mX), (93, .iload_n 3, mX), (94, .aload_n 0, mX), (95, .iload_n 2, mX), (96, .iload 6, mX), (98, .invokevirtual 68, (234, 3, 0)), (101, .iadd, mX), (102, .istore 7, mX), (104, .aload_n 0, mX), (105, .getfield 37, (9, 8, 0)), (108, .iload_n 1, mX), (109, .iload 6, mX), (111, .iastore, mX), (112, .aload_n 0, mX), (113, .iload_n 1, mX), (114, .iconst 1, mX), (115, .iadd, mX), (116, .iload 6, mX), (118, .iload 7, mX), (120, .aload_n 0, mX), (121, .getfield 31, (9, 6, 0)), (124, .iadd, mX), (125, .iload 4, mX), (127, .iconst 1, mX), (128, .iload 6, mX), (130, .ishl, mX), (131, .iconst (-1), mX), (132, .ixor, mX), (133, .iand, mX), (134, .iload 5, mX), (136, .aload_n 0, mX), (137, .getfield 34, (9, 7, 0)), (140, .iload 6, mX), (142, .iaload, mX), (143, .iload 7, mX), (145, .aload_n 0, mX), (146, .getfield 28, (9, 5, 0)), (149, .isub, mX), (150, .imul, mX), (151, .iadd, mX), (152, .invokevirtual 86, (239, 6, 0)), (155, .iinc 6 1, mX), (158, .goto (-83), mX), (161, .return_, mX)])
noncomputable def mt240 : am_M := (⟨"AssizeRide", "late", "(II)I"⟩, prog_1_method_68_code, 3, (Option.some FieldType.int), [(0, .aload_n 0, mX), (1, .getfield 65, (0, 7, 0)), (4, .getfield 448, (9, 2, 0)), (7, .ifCond .ne 6, mX), (10, .bipush (-4), mX), (12, .ireturn, mX), (13, .iload_n 1, mX), (14, .iconst 1, mX), (15, .aload_n 0, mX), (16, .getfield 65, (0, 7, 0)), (19, .getfield 448, (9, 2, 0)), (22, .invokestatic 95, (25, 3, 0)), (25, .ifCond .eq 13, mX), (28, .iload_n 2, mX), (29, .iconst 1, mX), (30, .bipush 50, mX), (32, .invokestatic 95, (25, 3, 0)), (35, .ifCond .ne 6, mX), (38, .bipush (-2), mX), (40, .ireturn, mX), (41, .aload_n 0, mX), (42, .getfield 65, (0, 7, 0)), (45, .iload_n 1, mX), (46, .iload_n 2, mX), (47, .aload_n 0, mX), (48, .getfield 51, (0, 5, 0)), (51, .invokevirtual 449, (241, 4, 0)), (54, .ireturn, mX)])
noncomputable def mt241 : am_M := (⟨"AssizeRide$Circuit", "delay", "(IILAssizeRide$Gaols;)I"⟩, prog_3_method_8_code, 6, (Option.some FieldType.int), [(0, .iload_n 1, mX), (1, .iconst 1, mX), (2, .if_icmp .lt 11, mX), (5, .iload_n 1, mX), (6, .aload_n 0, mX), (7, .getfield 18, (9, 2, 0)), (10, .if_icmp .le 6, mX), (13, .bipush (-2), mX), (15, .ireturn, mX), (16, .iconst 0, mX), (17, .istore 4, mX), (19, .iload_n 1, mX), (20, .istore 5, mX), (22, .iload 5, mX), (24, .aload_n 0, mX), (25, .getfield 18, (9, 2, 0)), (28, .if_icmp .ge 23, mX), (31, .iload 4, mX), (33, .iconst 1, mX), (34, .aload_n 0, mX), (35, .getfield 22, (9, 3, 0)), (38, .iload 5, mX), (40, .iaload, mX), (41, .ishl, mX), (42, .ior, mX), (43, .istore 4, mX), (45, .iinc 5 1, mX), (48, .goto (-26), mX), (51, .aload_n 0, mX), (52, .aload_n 0, mX), (53, .getfield 22, (9, 3, 0)), (56, .iload_n 1, mX), (57, .iconst 1, mX), (58, .isub, mX), (59, .iaload, mX), (60, .iload 4, mX), (62, .invokevirtual 72, (237, 3, 0)), (65, .ifCond .ne 5, mX), (68, .iconst (-1), mX), (69, .ireturn, mX), (70, .aload_n 0, mX), (71, .iload_n 1, mX), (72, .aload_n 0, mX), (73, .getfield 22, (9, 3, 0)), (76, .iload_n 1, mX), (77, .iconst 1, mX), (78, .isub, mX), (79, .iaload, mX), (80, .aload_n 0, mX), (81, .getfield 25, (9, 4, 0)), (84, .iload_n 1, mX), (85, .iconst 1, mX), (86, .isub, mX), (87, .iaload, mX), (88, .aload_n 0, mX), (89, .getfield 31, (9, 6, 0)), (92, .iadd, mX), (93, .iload_n 2, mX), (94, .iadd, mX), (95, .iload 4, mX), (97, .aload_n 3, mX), (98, .invokevirtual 76, (238, 6, 0)), (101, .ireturn, mX)])
noncomputable def mt242 : am_M := (⟨"AssizeRide", "rode", "(II)I"⟩, prog_1_method_69_code, 3, (Option.some FieldType.int), [(0, .aload_n 0, mX), (1, .getfield 65, (0, 7, 0)), (4, .iload_n 1, mX), (5, .iload_n 2, mX), (6, .invokevirtual 453, (243, 3, 0)), (9, .ireturn, mX)])
noncomputable def mt243 : am_M := (⟨"AssizeRide$Circuit", "tellOfRide", "(II)I"⟩, prog_3_method_11_code, 3, (Option.some FieldType.int), [(0, .iload_n 1, mX), (1, .ifCond .lt 20, mX), (4, .iload_n 1, mX), (5, .aload_n 0, mX), (6, .getfield 18, (9, 2, 0)), (9, .if_icmp .ge 12, mX), (12, .iload_n 2, mX), (13, .iconst 0, mX), (14, .iconst 1, mX), (15, .invokestatic 100, (25, 3, 0)), (18, .ifCond .ne 5, mX), (21, .iconst (-1), mX), (22, .ireturn, mX), (23, .iload_n 2, mX), (24, .ifCond .ne 12, mX), (27, .aload_n 0, mX), (28, .getfield 22, (9, 3, 0)), (31, .iload_n 1, mX), (32, .iaload, mX), (33, .goto 9, mX), (36, .aload_n 0, mX), (37, .getfield 25, (9, 4, 0)), (40, .iload_n 1, mX), (41, .iaload, mX), (42, .ireturn, mX)])
noncomputable def mt244 : am_M := (⟨"AssizeRide", "roll", "(I)I"⟩, prog_1_method_70_code, 3, (Option.some FieldType.int), [(0, .aload_n 0, mX), (1, .getfield 10, mX), (4, .invokevirtual 434, (72, 1, 0)), (7, .istore_n 2, mX), (8, .iload_n 1, mX), (9, .iconst 0, mX), (10, .iconst 2, mX), (11, .invokestatic 95, (25, 3, 0)), (14, .ifCond .eq 19, mX), (17, .aload_n 0, mX), (18, .getfield 72, (0, 8, 0)), (21, .iload_n 1, mX), (22, .aload_n 0, mX), (23, .getfield 10, mX), (26, .iload_n 2, mX), (27, .invokevirtual 456, (245, 4, 0)), (30, .goto 5, mX), (33, .bipush (-2), mX), (35, .ireturn, mX)])
noncomputable def mt245 : am_M := (⟨"AssizeRide$Rolls", "write", "(ILAssizeRide$Tape;I)I"⟩, prog_10_method_2_code, 7, (Option.some FieldType.int), [(0, .iload_n 1, mX), (1, .ifCond .lt 20, mX), (4, .iload_n 1, mX), (5, .iconst 3, mX), (6, .if_icmp .ge 15, mX), (9, .iload_n 3, mX), (10, .bipush 30, mX), (12, .if_icmp .gt 9, mX), (15, .iload_n 3, mX), (16, .iconst 3, mX), (17, .irem, mX), (18, .ifCond .eq 5, mX), (21, .iconst (-1), mX), (22, .ireturn, mX), (23, .iconst 0, mX), (24, .istore 4, mX), (26, .iload 4, mX), (28, .iload_n 3, mX), (29, .if_icmp .ge 28, mX), (32, .aload_n 2, mX), (33, .getfield 31, (1, 0, 0)), (36, .iload 4, mX), (38, .iaload, mX), (39, .bipush 48, mX), (41, .bipush 57, mX), (43, .invokestatic 36, (25, 3, 0)), (46, .ifCond .ne 5, mX), (49, .iconst (-1), mX), (50, .ireturn, mX), (51, .iinc 4 1, mX), (54, .goto (-28), mX), (57, .aload_n 0, mX), (58, .getfield 11, (10, 0, 0)), (61, .iload_n 1, mX), (62, .iload_n 3, mX), (63, .iconst 3, mX), (64, .idiv, mX), (65, .iastore, mX), (66, .iconst 0, mX), (67, .istore 4, mX), (69, .iload 4, mX), (71, .aload_n 0, mX), (72, .getfield 11, (10, 0, 0)), (75, .iload_n 1, mX), (76, .iaload, mX), (77, .if_icmp .ge 64, mX), (80, .iconst 0, mX), (81, .istore 5, mX), (83, .iconst 0, mX), (84, .istore 6, mX), (86, .iload 6, mX), (88, .iconst 3, mX), (89, .if_icmp .ge 32, mX), (92, .iload 5, mX), (94, .bipush 10, mX), (96, .imul, mX), (97, .aload_n 2, mX), (98, .getfield 31, (1, 0, 0)), (101, .iload 4, mX), (103, .iconst 3, mX), (104, .imul, mX), (105, .iload 6, mX), (107, .iadd, mX), (108, .iaload, mX), (109, .iadd, mX), (110, .bipush 48, mX), (112, .isub, mX), (113, .istore 5, mX), (115, .iinc 6 1, mX), (118, .goto (-32), mX), (121, .aload_n 0, mX), (122, .getfield 15, (10, 1, 0)), (125, .iload_n 1, mX), (126, .bipush 10, mX), (128, .imul, mX), (129, .iload 4, mX), (131, .iadd, mX), (132, .iload 5, mX), (134, .iastore, mX), (135, .iinc 4 1, mX), (138, .goto (-69), mX), (141, .aload_n 0, mX), (142, .iconst 0, mX), (143, .putfield 27, (10, 5, 0)), (146, .aload_n 0, mX), (147, .getfield 11, (10, 0, 0)), (150, .iload_n 1, mX), (151, .iaload, mX), (152, .ireturn, mX)])
noncomputable def mt246 : am_M := (⟨"AssizeRide", "join", "()I"⟩, prog_1_method_71_code, 1, (Option.some FieldType.int), [(0, .aload_n 0, mX), (1, .getfield 72, (0, 8, 0)), (4, .invokevirtual 460, (247, 1, 0)), (7, .ireturn, mX)])
noncomputable def mt247 : am_M := (⟨"AssizeRide$Rolls", "lay", "()I"⟩, prog_10_method_9_code, 5, (Option.some FieldType.int), [(0, .aload_n 0, mX), (1, .getfield 11, (10, 0, 0)), (4, .iconst 0, mX), (5, .iaload, mX), (6, .istore_n 1, mX), (7, .iload_n 1, mX), (8, .ifCond .lt 96, mX), (11, .aload_n 0, mX), (12, .getfield 11, (10, 0, 0)), (15, .iconst 1, mX), (16, .iaload, mX), (17, .istore_n 2, mX), (18, .iload_n 2, mX), (19, .ifCond .lt 79, mX), (22, .aload_n 0, mX), (23, .getfield 11, (10, 0, 0)), (26, .iconst 2, mX), (27, .iaload, mX), (28, .istore_n 3, mX), (29, .iload_n 3, mX), (30, .ifCond .lt 62, mX), (33, .aload_n 0, mX), (34, .getfield 21, (10, 3, 0)), (37, .iconst 0, mX), (38, .iload_n 1, mX), (39, .iastore, mX), (40, .aload_n 0, mX), (41, .getfield 21, (10, 3, 0)), (44, .iconst 1, mX), (45, .iload_n 2, mX), (46, .iastore, mX), (47, .aload_n 0, mX), (48, .getfield 21, (10, 3, 0)), (51, .iconst 2, mX), (52, .iload_n 3, mX), (53, .iastore, mX), (54, .aload_n 0, mX), (55, .invokevirtual 60, (248, 1, 0)), (58, .istore 4, mX), (60, .aload_n 0, mX), (61, .getfield 18, (10, 2, 0)), (64, .iload_n 1, mX), (65, .iload_n 2, mX), (66, .iload_n 3, mX), (67, .invokestatic 53, (251, 3, 0)), (70, .iload 4, mX), (72, .ifCond .ne 7, mX), (75, .iconst 0, mX), (76, .goto 9, mX), (79, .aload_n 0, mX), (80, .iload 4, mX), (82, .invokevirtual 64, (250, 2, 0)), (85, .iastore, mX), (86, .iinc 3 (-1), mX), (89, .goto (-60), mX), (92, .iinc 2 (-1), mX), (95, .goto (-77), mX), (98, .iinc 1 (-1), mX), (101, .goto (-94), mX), (104, .aload_n 0, mX), (105, .invokevirtual 67, (255, 1, 0)), (108, .aload_n 0, mX), (109, .getfield 18, (10, 2, 0)), (112, .iconst 0, mX), (113, .iaload, mX), (114, .ireturn, mX)])
noncomputable def mt248 : am_M := (⟨"AssizeRide$Rolls", "bestTake", "()I"⟩, prog_10_method_10_code, 5, (Option.some FieldType.int), [(0, .iconst 0, mX), (1, .istore_n 1, mX), (2, .iconst 0, mX), (3, .istore_n 2, mX), (4, .iconst 0, mX), (5, .istore_n 3, mX), (6, .iload_n 3, mX), (7, .getstatic 70, (0, 3, 0)), (10, .arraylength, mX), (11, .if_icmp .ge 51, mX), (14, .aload_n 0, mX), (15, .getstatic 70, (0, 3, 0)), (18, .iload_n 3, mX), (19, .iaload, mX), (20, .invokevirtual 73, (249, 2, 0)), (23, .ifCond .eq 33, mX), (26, .aload_n 0, mX), (27, .getstatic 70, (0, 3, 0)), (30, .iload_n 3, mX), (31, .iaload, mX), (32, .invokevirtual 64, (250, 2, 0)), (35, .istore 4, mX), (37, .iload_n 1, mX), (38, .ifCond .eq 9, mX), (41, .iload 4, mX), (43, .iload_n 2, mX), (44, .if_icmp .ge 12, mX), (47, .getstatic 70, (0, 3, 0)), (50, .iload_n 3, mX), (51, .iaload, mX), (52, .istore_n 1, mX), (53, .iload 4, mX), (55, .istore_n 2, mX), (56, .iinc 3 1, mX), (59, .goto (-53), mX), (62, .iload_n 1, mX), (63, .ireturn, mX)])
noncomputable def mt249 : am_M := (⟨"AssizeRide$Rolls", "canTake", "(I)Z"⟩, prog_10_method_5_code, 3, (Option.some FieldType.boolean), [(0, .iconst 0, mX), (1, .istore_n 2, mX), (2, .iload_n 2, mX), (3, .iconst 3, mX), (4, .if_icmp .ge 35, mX), (7, .iload_n 1, mX), (8, .iload_n 2, mX), (9, .ishr, mX), (10, .iconst 1, mX), (11, .iand, mX), (12, .iconst 1, mX), (13, .if_icmp .ne 20, mX), (16, .aload_n 0, mX), (17, .getfield 21, (10, 3, 0)), (20, .iload_n 2, mX), (21, .iaload, mX), (22, .aload_n 0, mX), (23, .getfield 11, (10, 0, 0)), (26, .iload_n 2, mX), (27, .iaload, mX), (28, .if_icmp .lt 5, mX), (31, .iconst 0, mX), (32, .ireturn, mX), (33, .iinc 2 1, mX), (36, .goto (-34), mX), (39, .iconst 1, mX), (40, .ireturn, mX)])
noncomputable def mt250 : am_M := (⟨"AssizeRide$Rolls", "costBehind", "(I)I"⟩, prog_10_method_7_code, 3, (Option.some FieldType.int), [(0, .aload_n 0, mX), (1, .getfield 21, (10, 3, 0)), (4, .iconst 0, mX), (5, .iaload, mX), (6, .iload_n 1, mX), (7, .iconst 1, mX), (8, .iand, mX), (9, .iadd, mX), (10, .aload_n 0, mX), (11, .getfield 21, (10, 3, 0)), (14, .iconst 1, mX), (15, .iaload, mX), (16, .iload_n 1, mX), (17, .iconst 1, mX), (18, .ishr, mX), (19, .iconst 1, mX), (20, .iand, mX), (21, .iadd, mX), (22, .aload_n 0, mX), (23, .getfield 21, (10, 3, 0)), (26, .iconst 2, mX), (27, .iaload, mX), (28, .iload_n 1, mX), (29, .iconst 2, mX), (30, .ishr, mX), (31, .iconst 1, mX), (32, .iand, mX), (33, .iadd, mX), (34, .invokestatic 53, (251, 3, 0)), (37, .istore_n 2, mX), (38, .aload_n 0, mX), (39, .iload_n 1, mX), (40, .invokevirtual 57, (252, 2, 0)), (43, .aload_n 0, mX), (44, .getfield 18, (10, 2, 0)), (47, .iload_n 2, mX), (48, .iaload, mX), (49, .iadd, mX), (50, .ireturn, mX)])
noncomputable def mt251 : am_M := (⟨"AssizeRide$Rolls", "cell", "(III)I"⟩, prog_10_method_8_code, 3, (Option.some FieldType.int), [(0, .iload_n 0, mX), (1, .bipush 11, mX), (3, .imul, mX), (4, .iload_n 1, mX), (5, .iadd, mX), (6, .bipush 11, mX), (8, .imul, mX), (9, .iload_n 2, mX), (10, .iadd, mX), (11, .ireturn, mX)])
noncomputable def mt252 : am_M := (⟨"AssizeRide$Rolls", "costOfRow", "(I)I"⟩, prog_10_method_6_code, 5, (Option.some FieldType.int), [(0, .iconst 3, mX), (1, .iload_n 1, mX), (2, .invokestatic 40, (119, 1, 0)), (5, .isub, mX), (6, .istore_n 2, mX), (7, .iconst 0, mX), (8, .istore_n 3, mX), (9, .iload_n 3, mX), (10, .iconst 3, mX), (11, .if_icmp .ge 60, mX), (14, .iconst 0, mX), (15, .istore 4, mX), (17, .iload 4, mX), (19, .iload_n 3, mX), (20, .if_icmp .ge 45, mX), (23, .iload_n 1, mX), (24, .iload_n 3, mX), (25, .ishr, mX), (26, .iconst 1, mX), (27, .iand, mX), (28, .iconst 1, mX), (29, .if_icmp .ne 30, mX), (32, .iload_n 1, mX), (33, .iload 4, mX), (35, .ishr, mX), (36, .iconst 1, mX), (37, .iand, mX), (38, .iconst 1, mX), (39, .if_icmp .ne 20, mX), (42, .iload_n 2, mX), (43, .aload_n 0, mX), (44, .iload_n 3, mX), (45, .invokevirtual 46, (253, 2, 0)), (48, .aload_n 0, mX), (49, .iload 4, mX), (51, .invokevirtual 46, (253, 2, 0)), (54, .invokestatic 49, (254, 2, 0)), (57, .iadd, mX), (58, .istore_n 2, mX), (59, .iinc 4 1, mX), (62, .goto (-45), mX), (65, .iinc 3 1, mX), (68, .goto (-59), mX), (71, .iload_n 2, mX), (72, .ireturn, mX)])
noncomputable def mt253 : am_M := (⟨"AssizeRide$Rolls", "lineAt", "(I)I"⟩, prog_10_method_3_code, 2, (Option.some FieldType.int), [(0, .aload_n 0, mX), (1, .getfield 15, (10, 1, 0)), (4, .iload_n 1, mX), (5, .bipush 10, mX), (7, .imul, mX), (8, .aload_n 0, mX), (9, .getfield 21, (10, 3, 0)), (12, .iload_n 1, mX), (13, .iaload, mX), (14, .iadd, mX), (15, .iaload, mX), (16, .ireturn, mX)])
noncomputable def mt254 : am_M := (⟨"AssizeRide$Rolls", "unlike", "(II)I"⟩, prog_10_method_4_code, 2, (Option.some FieldType.int), [(0, .iload_n 0, mX), (1, .iload_n 1, mX), (2, .if_icmp .ne 5, mX), (5, .iconst 0, mX), (6, .ireturn, mX), (7, .iload_n 0, mX), (8, .bipush 10, mX), (10, .idiv, mX), (11, .iload_n 1, mX), (12, .bipush 10, mX), (14, .idiv, mX), (15, .if_icmp .ne 7, mX), (18, .iconst 1, mX), (19, .goto 4, mX), (22, .iconst 4, mX), (23, .ireturn, mX)])
noncomputable def mt255 : am_M := (⟨"AssizeRide$Rolls", "writeRows", "()V"⟩, prog_10_method_11_code, 4, (Option.none : Option FieldType), [(0, .aload_n 0, mX), (1, .getfield 21, (10, 3, 0)), (4, .iconst 0, mX), (5, .invokestatic 77, (17, 2, 0)), (8, .aload_n 0, mX), (9, .iconst 0, mX), (10, .putfield 27, (10, 5, 0)), (13, .aload_n 0, mX), (14, .invokevirtual 60, (248, 1, 0)), (17, .istore_n 1, mX), (18, .iload_n 1, mX), (19, .ifCond .eq 103, mX), (22, .aload_n 0, mX), (23, .getfield 27, (10, 5, 0)), (26, .bipush 30, mX), (28, .if_icmp .ge 94, mX), (31, .iconst 0, mX), (32, .istore_n 2, mX), (33, .iload_n 2, mX), (34, .iconst 3, mX), (35, .if_icmp .ge 69, mX), (38, .iload_n 1, mX), (39, .iload_n 2, mX), (40, .ishr, mX), (41, .iconst 1, mX), (42, .iand, mX), (43, .iconst 1, mX), (44, .if_icmp .ne 7, mX), (47, .iconst 1, mX), (48, .goto 4, mX), (51, .iconst 0, mX), (52, .istore_n 3, mX), (53, .aload_n 0, mX), (54, .getfield 24, (10, 4, 0)), (57, .aload_n 0, mX), (58, .getfield 27, (10, 5, 0)), (61, .iconst 3, mX), (62, .imul, mX), (63, .iload_n 2, mX), (64, .iadd, mX), (65, .iload_n 3, mX), (66, .ifCond .eq 12, mX), (69, .aload_n 0, mX), (70, .getfield 21, (10, 3, 0)), (73, .iload_n 2, mX), (74, .iaload, mX), (75, .goto 4, mX), (78, .iconst (-1), mX), (79, .iastore, mX), (80, .aload_n 0, mX), (81, .getfield 21, (10, 3, 0)), (84, .iload_n 2, mX), (85, .dup2, mX), (86, .iaload, mX), (87, .iload_n 3, mX), (88, .ifCond .eq 7, mX), (91, .iconst 1, mX), (92, .goto 4, mX), (95, .iconst 0, mX), (96, .iadd, mX), (97, .iastore, mX), (98, .iinc 2 1, mX), (101, .goto (-68), mX), (104, .aload_n 0, mX), (105, .dup, mX), (106, .getfield 27, (10, 5, 0)), (109, .iconst 1, mX), (110, .iadd, mX), (111, .putfield 27, (10, 5, 0)), (114, .aload_n 0, mX), (115, .invokevirtual 60, (248, 1, 0)), (118, .istore_n 1, mX), (119, .goto (-101), mX), (122, .return_, mX)])
noncomputable def mt256 : am_M := (⟨"AssizeRide", "joined", "(II)I"⟩, prog_1_method_72_code, 3, (Option.some FieldType.int), [(0, .aload_n 0, mX), (1, .getfield 72, (0, 8, 0)), (4, .iload_n 1, mX), (5, .iload_n 2, mX), (6, .invokevirtual 463, (257, 3, 0)), (9, .ireturn, mX)])
noncomputable def mt257 : am_M := (⟨"AssizeRide$Rolls", "tellOfRow", "(II)I"⟩, prog_10_method_12_code, 3, (Option.some FieldType.int), [(0, .iload_n 1, mX), (1, .ifCond .lt 20, mX), (4, .iload_n 1, mX), (5, .aload_n 0, mX), (6, .getfield 27, (10, 5, 0)), (9, .if_icmp .ge 12, mX), (12, .iload_n 2, mX), (13, .iconst 0, mX), (14, .iconst 3, mX), (15, .invokestatic 36, (25, 3, 0)), (18, .ifCond .ne 6, mX), (21, .bipush (-9), mX), (23, .ireturn, mX), (24, .iload_n 2, mX), (25, .iconst 3, mX), (26, .if_icmp .ge 14, mX), (29, .aload_n 0, mX), (30, .getfield 24, (10, 4, 0)), (33, .iload_n 1, mX), (34, .iconst 3, mX), (35, .imul, mX), (36, .iload_n 2, mX), (37, .iadd, mX), (38, .iaload, mX), (39, .ireturn, mX), (40, .aload_n 0, mX), (41, .iload_n 1, mX), (42, .invokevirtual 83, (258, 2, 0)), (45, .ifCond .eq 7, mX), (48, .iconst 1, mX), (49, .goto 4, mX), (52, .iconst 0, mX), (53, .ireturn, mX)])
noncomputable def mt258 : am_M := (⟨"AssizeRide$Rolls", "isSure", "(I)Z"⟩, prog_10_method_13_code, 6, (Option.some FieldType.boolean), [(0, .iconst 0, mX), (1, .istore_n 2, mX), (2, .iload_n 2, mX), (3, .iconst 3, mX), (4, .if_icmp .ge 87, mX), (7, .iconst 0, mX), (8, .istore_n 3, mX), (9, .iload_n 3, mX), (10, .iload_n 2, mX), (11, .if_icmp .ge 74, mX), (14, .aload_n 0, mX), (15, .getfield 24, (10, 4, 0)), (18, .iload_n 1, mX), (19, .iconst 3, mX), (20, .imul, mX), (21, .iload_n 2, mX), (22, .iadd, mX), (23, .iaload, mX), (24, .istore 4, mX), (26, .aload_n 0, mX), (27, .getfield 24, (10, 4, 0)), (30, .iload_n 1, mX), (31, .iconst 3, mX), (32, .imul, mX), (33, .iload_n 3, mX), (34, .iadd, mX), (35, .iaload, mX), (36, .istore 5, mX), (38, .iload 4, mX), (40, .iconst (-1), mX), (41, .if_icmp .eq 38, mX), (44, .iload 5, mX), (46, .iconst (-1), mX), (47, .if_icmp .eq 32, mX), (50, .aload_n 0, mX), (51, .getfield 15, (10, 1, 0)), (54, .iload_n 2, mX), (55, .bipush 10, mX), (57, .imul, mX), (58, .iload 4, mX), (60, .iadd, mX), (61, .iaload, mX), (62, .aload_n 0, mX), (63, .getfield 15, (10, 1, 0)), (66, .iload_n 3, mX), (67, .bipush 10, mX), (69, .imul, mX), (70, .iload 5, mX), (72, .iadd, mX), (73, .iaload, mX), (74, .if_icmp .ne 5, mX), (77, .iconst 1, mX), (78, .ireturn, mX), (79, .iinc 3 1, mX), (82, .goto (-73), mX), (85, .iinc 2 1, mX), (88, .goto (-86), mX), (91, .iconst 0, mX), (92, .ireturn, mX)])
noncomputable def mt259 : am_M := (⟨"AssizeRide", "putRight", "(III)I"⟩, prog_1_method_73_code, 4, (Option.some FieldType.int), [(0, .aload_n 0, mX), (1, .getfield 44, (0, 4, 0)), (4, .iload_n 1, mX), (5, .invokevirtual 281, (46, 2, 0)), (8, .ifnull 25, mX), (11, .iload_n 2, mX), (12, .iconst 0, mX), (13, .bipush 9, mX), (15, .invokestatic 95, (25, 3, 0)), (18, .ifCond .eq 15, mX), (21, .iload_n 3, mX), (22, .iconst 0, mX), (23, .aload_n 0, mX), (24, .getfield 85, (0, 10, 0)), (27, .invokestatic 95, (25, 3, 0)), (30, .ifCond .ne 6, mX), (33, .bipush (-2), mX), (35, .ireturn, mX), (36, .aload_n 0, mX), (37, .getfield 44, (0, 4, 0)), (40, .iload_n 1, mX), (41, .iload_n 2, mX), (42, .iload_n 3, mX), (43, .aload_n 0, mX), (44, .getfield 85, (0, 10, 0)), (47, .invokevirtual 466, (260, 5, 0)), (50, .ireturn, mX)])
noncomputable def mt260 : am_M := (⟨"AssizeRide$Docket", "setRight", "(IIII)I"⟩, prog_5_method_10_code, 5, (Option.some FieldType.int), [(0, .iload_n 1, mX), (1, .ifCond .lt 20, mX), (4, .iload_n 1, mX), (5, .bipush 100, mX), (7, .if_icmp .ge 14, mX), (10, .aload_n 0, mX), (11, .getfield 40, (5, 9, 0)), (14, .iload_n 1, mX), (15, .iaload, mX), (16, .bipush 40, mX), (18, .if_icmp .lt 6, mX), (21, .bipush (-3), mX), (23, .ireturn, mX), (24, .aload_n 0, mX), (25, .getfield 40, (5, 9, 0)), (28, .iload_n 1, mX), (29, .dup2, mX), (30, .iaload, mX), (31, .iconst 1, mX), (32, .iadd, mX), (33, .iastore, mX), (34, .aload_n 0, mX), (35, .iload_n 1, mX), (36, .iload_n 2, mX), (37, .iload_n 3, mX), (38, .iload 4, mX), (40, .invokevirtual 95, (64, 5, 0)), (43, .aload_n 0, mX), (44, .getfield 40, (5, 9, 0)), (47, .iload_n 1, mX), (48, .iaload, mX), (49, .ireturn, mX)])
noncomputable def mt261 : am_M := (⟨"AssizeRide", "stateOn", "(III)I"⟩, prog_1_method_74_code, 4, (Option.some FieldType.int), [(0, .aload_n 0, mX), (1, .getfield 44, (0, 4, 0)), (4, .iload_n 1, mX), (5, .invokevirtual 281, (46, 2, 0)), (8, .ifnull 17, mX), (11, .iload_n 2, mX), (12, .invokestatic 127, (39, 1, 0)), (15, .ifCond .eq 10, mX), (18, .iload_n 3, mX), (19, .invokestatic 127, (39, 1, 0)), (22, .ifCond .ne 6, mX), (25, .bipush (-2), mX), (27, .ireturn, mX), (28, .aload_n 0, mX), (29, .getfield 44, (0, 4, 0)), (32, .iload_n 1, mX), (33, .iload_n 2, mX), (34, .iload_n 3, mX), (35, .invokevirtual 469, (262, 4, 0)), (38, .ireturn, mX)])
noncomputable def mt262 : am_M := (⟨"AssizeRide$Docket", "stateAsKnown", "(III)I"⟩, prog_5_method_11_code, 7, (Option.some FieldType.int), [(0, .iconst (-1), mX), (1, .istore 4, mX), (3, .iconst (-1), mX), (4, .istore 5, mX), (6, .iconst 0, mX), (7, .istore 6, mX), (9, .iload 6, mX), (11, .aload_n 0, mX), (12, .getfield 56, (5, 14, 0)), (15, .if_icmp .ge 65, mX), (18, .aload_n 0, mX), (19, .getfield 44, (5, 10, 0)), (22, .iload 6, mX), (24, .iaload, mX), (25, .iload_n 1, mX), (26, .if_icmp .ne 48, mX), (29, .aload_n 0, mX), (30, .getfield 53, (5, 13, 0)), (33, .iload 6, mX), (35, .iaload, mX), (36, .iload_n 3, mX), (37, .if_icmp .gt 37, mX), (40, .aload_n 0, mX), (41, .getfield 50, (5, 12, 0)), (44, .iload 6, mX), (46, .iaload, mX), (47, .iload 5, mX), (49, .iload_n 2, mX), (50, .invokestatic 120, (25, 3, 0)), (53, .ifCond .eq 21, mX), (56, .aload_n 0, mX), (57, .getfield 50, (5, 12, 0)), (60, .iload 6, mX), (62, .iaload, mX), (63, .istore 5, mX), (65, .aload_n 0, mX), (66, .getfield 47, (5, 11, 0)), (69, .iload 6, mX), (71, .iaload, mX), (72, .istore 4, mX), (74, .iinc 6 1, mX), (77, .goto (-68), mX), (80, .iload 4, mX), (82, .ireturn, mX)])
noncomputable def mt263 : am_M := (⟨"AssizeRide", "check", "(I)I"⟩, prog_1_method_75_code, 3, (Option.some FieldType.int), [(0, .aload_n 0, mX), (1, .getfield 44, (0, 4, 0)), (4, .iload_n 1, mX), (5, .invokevirtual 281, (46, 2, 0)), (8, .astore_n 2, mX), (9, .aload_n 2, mX), (10, .ifnonnull 6, mX), (13, .bipush (-2), mX), (15, .ireturn, mX), (16, .aload_n 2, mX), (17, .invokevirtual 472, (264, 1, 0)), (20, .ifCond .ne 6, mX), (23, .bipush (-4), mX), (25, .ireturn, mX), (26, .aload_n 2, mX), (27, .invokevirtual 475, (62, 1, 0)), (30, .ifCond .ne 16, mX), (33, .aload_n 0, mX), (34, .getfield 44, (0, 4, 0)), (37, .aload_n 2, mX), (38, .invokevirtual 264, (144, 2, 0)), (41, .ifCond .eq 5, mX), (44, .iconst 1, mX), (45, .ireturn, mX), (46, .aload_n 0, mX), (47, .getfield 44, (0, 4, 0)), (50, .aload_n 2, mX), (51, .aload_n 0, mX), (52, .getfield 85, (0, 10, 0)), (55, .invokevirtual 478, (265, 3, 0)), (58, .ifCond .eq 5, mX), (61, .iconst 2, mX), (62, .ireturn, mX), (63, .aload_n 0, mX), (64, .getfield 44, (0, 4, 0)), (67, .aload_n 2, mX), (68, .invokevirtual 482, (179, 2, 0)), (71, .aload_n 2, mX), (72, .getfield 244, (11, 7, 0)), (75, .iconst 4, mX), (76, .if_icmp .ne 7, mX), (79, .iconst 1, mX), (80, .goto 4, mX), (83, .iconst 0, mX), (84, .if_icmp .ne 7, mX), (87, .iconst 3, mX), (88, .goto 4, mX), (91, .iconst 0, mX), (92, .ireturn, mX)])
noncomputable def mt264 : am_M := (⟨"AssizeRide$Matter", "canBeChecked", "()Z"⟩, prog_8_method_8_code, 1, (Option.some FieldType.boolean), [(0, .aload_n 0, mX), (1, .getfield 11, (11, 7, 0)), (4, .iconst 4, mX), (5, .if_icmp .ne 18, mX), (8, .aload_n 0, mX), (9, .getfield 28, (11, 12, 0)), (12, .ifCond .ne 7, mX), (15, .iconst 1, mX), (16, .goto 20, mX), (19, .iconst 0, mX), (20, .goto 16, mX), (23, .aload_n 0, mX), (24, .getfield 11, (11, 7, 0)), (27, .iconst 3, mX), (28, .if_icmp .lt 7, mX), (31, .iconst 1, mX), (32, .goto 4, mX), (35, .iconst 0, mX), (36, .ireturn, mX)])
noncomputable def mt265 : am_M := (⟨"AssizeRide$Docket", "hasBarredJuror", "(LAssizeRide$Matter;I)Z"⟩, prog_5_method_23_code, 6, (Option.some FieldType.boolean), [(0, .aload_n 0, mX), (1, .aload_n 1, mX), (2, .bipush 8, mX), (4, .invokevirtual 188, (51, 3, 0)), (7, .istore_n 3, mX), (8, .aload_n 0, mX), (9, .aload_n 1, mX), (10, .bipush 9, mX), (12, .invokevirtual 188, (51, 3, 0)), (15, .istore 4, mX), (17, .iconst 0, mX), (18, .istore 5, mX), (20, .iload 5, mX), (22, .aload_n 1, mX), (23, .getfield 230, (11, 19, 0)), (26, .getfield 149, (6, 2, 0)), (29, .if_icmp .ge 37, mX), (32, .aload_n 0, mX), (33, .aload_n 1, mX), (34, .aload_n 1, mX), (35, .getfield 230, (11, 19, 0)), (38, .iload 5, mX), (40, .invokevirtual 154, (146, 2, 0)), (43, .l2i, mX), (44, .aload_n 1, mX), (45, .getfield 236, (11, 11, 0)), (48, .iload_n 2, mX), (49, .iload_n 3, mX), (50, .iload 4, mX), (52, .invokevirtual 192, (160, 7, 0)), (55, .ifCond .ne 5, mX), (58, .iconst 1, mX), (59, .ireturn, mX), (60, .iinc 5 1, mX), (63, .goto (-43), mX), (66, .iconst 0, mX), (67, .ireturn, mX)])
end
section
/-! PRINTED by wip/whole/gen.py: the instructions -/
noncomputable def mt266 : am_M := (⟨"AssizeRide", "count", "(I)I"⟩, prog_1_method_76_code, 2, (Option.some FieldType.int), [(0, .iload_n 1, mX), (1, .bipush 10, mX), (3, .bipush 15, mX), (5, .invokestatic 95, (25, 3, 0)), (8, .ifCond .eq 15, mX), (11, .aload_n 0, mX), (12, .getfield 51, (0, 5, 0)), (15, .iload_n 1, mX), (16, .bipush 10, mX), (18, .isub, mX), (19, .invokevirtual 384, (195, 2, 0)), (22, .ireturn, mX), (23, .iload_n 1, mX), (24, .bipush 20, mX), (26, .bipush 29, mX), (28, .invokestatic 95, (25, 3, 0)), (31, .ifCond .eq 15, mX), (34, .aload_n 0, mX), (35, .getfield 44, (0, 4, 0)), (38, .iload_n 1, mX), (39, .bipush 20, mX), (41, .isub, mX), (42, .invokevirtual 485, (267, 2, 0)), (45, .ireturn, mX), (46, .iload_n 1, mX), (47, .tableswitch 126 0 8 #[49, 54, 62, 70, 78, 86, 94, 110, 118], (49, 0, 0)), (96, .aload_n 0, mX), (97, .getfield 85, (0, 10, 0)), (100, .ireturn, mX), (101, .aload_n 0, mX), (102, .getfield 19, (0, 1, 0)), (105, .getfield 488, (2, 0, 0)), (108, .ireturn, mX), (109, .aload_n 0, mX), (110, .getfield 19, (0, 1, 0)), (113, .getfield 134, (2, 1, 0)), (116, .ireturn, mX), (117, .aload_n 0, mX), (118, .getfield 26, (0, 2, 0)), (121, .getfield 489, (3, 0, 0)), (124, .ireturn, mX), (125, .aload_n 0, mX), (126, .getfield 44, (0, 4, 0)), (129, .getfield 492, (5, 2, 0)), (132, .ireturn, mX), (133, .aload_n 0, mX), (134, .getfield 51, (0, 5, 0)), (137, .getfield 493, (7, 6, 0)), (140, .ireturn, mX), (141, .aload_n 0, mX), (142, .getfield 44, (0, 4, 0)), (145, .getfield 496, (5, 3, 0)), (148, .aload_n 0, mX), (149, .getfield 51, (0, 5, 0)), (152, .getfield 499, (7, 7, 0)), (155, .iadd, mX), (156, .ireturn, mX), (157, .aload_n 0, mX), (158, .getfield 10, mX), (161, .getfield 106, (1, 1, 0)), (164, .ireturn, mX), (165, .aload_n 0, mX), (166, .getfield 58, (0, 6, 0)), (169, .getfield 502, (8, 0, 0)), (172, .ireturn, mX), (173, .iconst (-1), mX), (174, .ireturn, mX)])
noncomputable def mt267 : am_M := (⟨"AssizeRide$Docket", "countOfState", "(I)I"⟩, prog_5_method_6_code, 5, (Option.some FieldType.int), [(0, .iconst 0, mX), (1, .istore_n 2, mX), (2, .iconst 0, mX), (3, .istore_n 3, mX), (4, .iload_n 3, mX), (5, .aload_n 0, mX), (6, .getfield 9, (5, 2, 0)), (9, .if_icmp .ge 33, mX), (12, .aload_n 0, mX), (13, .iload_n 3, mX), (14, .invokevirtual 84, (46, 2, 0)), (17, .astore 4, mX), (19, .aload 4, mX), (21, .ifnull 15, mX), (24, .aload 4, mX), (26, .getfield 99, (11, 7, 0)), (29, .iload_n 1, mX), (30, .if_icmp .ne 6, mX), (33, .iinc 2 1, mX), (36, .iinc 3 1, mX), (39, .goto (-35), mX), (42, .iload_n 2, mX), (43, .ireturn, mX)])
noncomputable def mt268 : am_M := (⟨"AssizeRideModel", "<init>", "()V"⟩, prog_14_method_1_code, 2, (Option.none : Option FieldType), [(0, .aload_n 0, mX), (1, .invokespecial 1, (0, 1, 1)), (4, .aload_n 0, mX), (5, .sipush 1200, mX), (8, .newarray .byte, mX), (10, .putfield 9, (12, 0, 0)), (13, .aload_n 0, mX), (14, .bipush 36, mX), (16, .newarray .int, mX), (18, .putfield 13, (12, 11, 0)), (21, .aload_n 0, mX), (22, .bipush 120, mX), (24, .newarray .int, mX), (26, .putfield 17, (12, 12, 0)), (29, .aload_n 0, mX), (30, .bipush 120, mX), (32, .newarray .int, mX), (34, .putfield 20, (12, 13, 0)), (37, .aload_n 0, mX), (38, .sipush 300, mX), (41, .newarray .int, mX), (43, .putfield 23, (12, 15, 0)), (46, .aload_n 0, mX), (47, .sipush 300, mX), (50, .newarray .int, mX), (52, .putfield 26, (12, 16, 0)), (55, .aload_n 0, mX), (56, .sipush 300, mX), (59, .newarray .int, mX), (61, .putfield 29, (12, 17, 0)), (64, .aload_n 0, mX), (65, .sipush 300, mX), (68, .newarray .int, mX), (70, .putfield 32, (12, 18, 0)), (73, .aload_n 0, mX), (74, .sipush 300, mX), (77, .newarray .int, mX), (79, .putfield 35, (12, 19, 0)), (82, .aload_n 0, mX), (83, .sipush 300, mX), (86, .newarray .int, mX), (88, .putfield 38, (12, 20, 0)), (91, .aload_n 0, mX), (92, .iconst (-1), mX), (93, .putfield 41, (12, 23, 0)), (96, .aload_n 0, mX), (97, .bipush 31, mX), (99, .newarray .int, mX), (101, .putfield 45, (12, 24, 0)), (104, .aload_n 0, mX), (105, .bipush 31, mX), (107, .newarray .int, mX), (109, .putfield 48, (12, 25, 0)), (112, .aload_n 0, mX), (113, .bipush 31, mX), (115, .newarray .int, mX), (117, .putfield 51, (12, 26, 0)), (120, .aload_n 0, mX), (121, .sipush 1240, mX), (124, .newarray .int, mX), (126, .putfield 54, (12, 27, 0)), (129, .aload_n 0, mX), (130, .sipush 1240, mX), (133, .newarray .long, mX), (135, .putfield 57, (12, 28, 0)), (138, .aload_n 0, mX), (139, .sipush 1240, mX), (142, .newarray .int, mX), (144, .putfield 61, (12, 29, 0)), (147, .aload_n 0, mX), (148, .sipush 1240, mX), (151, .newarray .int, mX), (153, .putfield 64, (12, 30, 0)), (156, .aload_n 0, mX), (157, .sipush 1240, mX), (160, .newarray .int, mX), (162, .putfield 67, (12, 31, 0)), (165, .aload_n 0, mX), (166, .sipush 1240, mX), (169, .newarray .int, mX), (171, .putfield 70, (12, 32, 0)), (174, .aload_n 0, mX), (175, .sipush 1240, mX), (178, .newarray .int, mX), (180, .putfield 73, (12, 33, 0)), (183, .aload_n 0, mX), (184, .sipush 13020, mX), (187, .newarray .int, mX), (189, .putfield 76, (12, 34, 0)), (192, .aload_n 0, mX), (193, .sipush 13020, mX), (196, .newarray .int, mX), (198, .putfield 79, (12, 35, 0)), (201, .aload_n 0, mX), (202, .sipush 13020, mX), (205, .newarray .int, mX), (207, .putfield 82, (12, 36, 0)), (210, .aload_n 0, mX), (211, .sipush 13020, mX), (214, .newarray .int, mX), (216, .putfield 85, (12, 37, 0)), (219, .aload_n 0, mX), (220, .sipush 19220, mX), (223, .newarray .long, mX), (225, .putfield 88, (12, 38, 0)), (228, .aload_n 0, mX), (229, .sipush 19220, mX), (232, .newarray .int, mX), (234, .putfield 91, (12, 39, 0)), (237, .aload_n 0, mX), (238, .sipush 25420, mX), (241, .newarray .int, mX), (243, .putfield 94, (12, 40, 0)), (246, .aload_n 0, mX), (247, .sipush 10230, mX), (250, .newarray .long, mX), (252, .putfield 97, (12, 41, 0)), (255, .aload_n 0, mX), (256, .sipush 4020, mX), (259, .newarray .long, mX), (261, .putfield 100, (12, 50, 0)), (264, .aload_n 0, mX), (265, .sipush 4020, mX), (268, .newarray .int, mX), (270, .putfield 103, (12, 51, 0)), (273, .aload_n 0, mX), (274, .sipush 201, mX), (277, .newarray .int, mX), (279, .putfield 106, (12, 52, 0)), (282, .aload_n 0, mX), (283, .bipush 64, mX), (285, .newarray .boolean, mX), (287, .putfield 109, (12, 53, 0)), (290, .aload_n 0, mX), (291, .iconst (-1), mX), (292, .putfield 113, (12, 54, 0)), (295, .aload_n 0, mX), (296, .iconst (-1), mX), (297, .putfield 116, (12, 55, 0)), (300, .aload_n 0, mX), (301, .bipush 100, mX), (303, .newarray .boolean, mX), (305, .putfield 119, (12, 57, 0)), (308, .aload_n 0, mX), (309, .bipush 100, mX), (311, .newarray .int, mX), (313, .putfield 122, (12, 58, 0)), (316, .aload_n 0, mX), (317, .bipush 100, mX), (319, .newarray .int, mX), (321, .putfield 125, (12, 59, 0)), (324, .aload_n 0, mX), (325, .bipush 100, mX), (327, .newarray .int, mX), (329, .putfield 128, (12, 60, 0)), (332, .aload_n 0, mX), (333, .bipush 100, mX), (335, .newarray .int, mX), (337, .putfield 131, (12, 61, 0)), (340, .aload_n 0, mX), (341, .bipush 100, mX), (343, .newarray .int, mX), (345, .putfield 134, (12, 62, 0)), (348, .aload_n 0, mX), (349, .bipush 100, mX), (351, .newarray .int, mX), (353, .putfield 137, (12, 63, 0)), (356, .aload_n 0, mX), (357, .bipush 100, mX), (359, .newarray .long, mX), (361, .putfield 140, (12, 64, 0)), (364, .aload_n 0, mX), (365, .bipush 100, mX), (367, .newarray .int, mX), (369, .putfield 143, (12, 65, 0)), (372, .aload_n 0, mX), (373, .bipush 100, mX), (375, .newarray .boolean, mX), (377, .putfield 146, (12, 66, 0)), (380, .aload_n 0, mX), (381, .bipush 100, mX), (383, .newarray .int, mX), (385, .putfield 149, (12, 67, 0)), (388, .aload_n 0, mX), (389, .bipush 100, mX), (391, .newarray .boolean, mX), (393, .putfield 152, (12, 68, 0)), (396, .aload_n 0, mX), (397, .bipush 100, mX), (399, .newarray .boolean, mX), (401, .putfield 155, (12, 69, 0)), (404, .aload_n 0, mX), (405, .bipush 100, mX), (407, .newarray .boolean, mX), (409, .putfield 158, (12, 70, 0)), (412, .aload_n 0, mX), (413, .bipush 100, mX), (415, .newarray .int, mX), (417, .putfield 161, (12, 71, 0)), (420, .aload_n 0, mX), (421, .bipush 100, mX), (423, .newarray .int, mX), (425, .putfield 164, (12, 72, 0)), (428, .aload_n 0, mX), (429, .bipush 100, mX), (431, .newarray .int, mX), (433, .putfield 167, (12, 73, 0)), (436, .aload_n 0, mX), (437, .bipush 100, mX), (439, .newarray .int, mX), (441, .putfield 170, (12, 74, 0)), (444, .aload_n 0, mX), (445, .sipush 3030, mX), (448, .newarray .long, mX), (450, .putfield 173, (12, 75, 0)), (453, .aload_n 0, mX), (454, .bipush 101, mX), (456, .newarray .int, mX), (458, .putfield 176, (12, 76, 0)), (461, .aload_n 0, mX), (462, .bipush 100, mX), (464, .newarray .boolean, mX), (466, .putfield 179, (12, 77, 0)), (469, .aload_n 0, mX), (470, .bipush 100, mX), (472, .newarray .boolean, mX), (474, .putfield 182, (12, 78, 0)), (477, .aload_n 0, mX), (478, .sipush 1200, mX), (481, .newarray .int, mX), (483, .putfield 185, (12, 79, 0)), (486, .aload_n 0, mX), (487, .bipush 100, mX), (489, .newarray .int, mX), (491, .putfield 188, (12, 80, 0)), (494, .aload_n 0, mX), (495, .sipush 400, mX), (498, .newarray .int, mX), (500, .putfield 191, (12, 81, 0)), (503, .aload_n 0, mX), (504, .bipush 100, mX), (506, .newarray .int, mX), (508, .putfield 194, (12, 82, 0)), (511, .aload_n 0, mX), (512, .sipush 1200, mX), (515, .newarray .int, mX), (517, .putfield 197, (12, 83, 0)), (520, .aload_n 0, mX), (521, .bipush 100, mX), (523, .newarray .int, mX), (525, .putfield 200, (12, 84, 0)), (528, .aload_n 0, mX), (529, .ldc 203, (0, 0, 40000)), (531, .newarray .int, mX), (533, .putfield 204, (12, 88, 0)), (536, .aload_n 0, mX), (537, .ldc 203, (0, 0, 40000)), (539, .newarray .int, mX), (541, .putfield 207, (12, 89, 0)), (544, .aload_n 0, mX), (545, .sipush 4000, mX), (548, .newarray .int, mX), (550, .putfield 210, (12, 90, 0)), (553, .aload_n 0, mX), (554, .sipush 4000, mX), (557, .newarray .int, mX), (559, .putfield 213, (12, 91, 0)), (562, .aload_n 0, mX), (563, .sipush 4000, mX), (566, .newarray .int, mX), (568, .putfield 216, (12, 92, 0)), (571, .aload_n 0, mX), (572, .sipush 4000, mX), (575, .newarray .int, mX), (577, .putfield 219, (12, 93, 0)), (580, .aload_n 0, mX), (581, .sipush 4000, mX), (584, .newarray .int, mX), (586, .putfield 222, (12, 94, 0)), (589, .aload_n 0, mX), (590, .sipush 270, mX), (593, .newarray .int, mX), (595, .putfield 225, (12, 95, 0)), (598, .aload_n 0, mX), (599, .bipush 40, mX), (601, .newarray .long, mX), (603, .putfield 228, (12, 97, 0)), (606, .aload_n 0, mX), (607, .bipush 40, mX), (609, .newarray .boolean, mX), (611, .putfield 231, (12, 98, 0)), (614, .aload_n 0, mX), (615, .bipush 120, mX), (617, .newarray .int, mX), (619, .putfield 234, (12, 99, 0)), (622, .aload_n 0, mX), (623, .bipush 120, mX), (625, .newarray .int, mX), (627, .putfield 237, (12, 100, 0)), (630, .aload_n 0, mX), (631, .bipush 120, mX), (633, .newarray .int, mX), (635, .putfield 240, (12, 101, 0)), (638, .aload_n 0, mX), (639, .bipush 120, mX), (641, .newarray .int, mX), (643, .putfield 243, (12, 103, 0)), (646, .aload_n 0, mX), (647, .bipush 120, mX), (649, .newarray .int, mX), (651, .putfield 246, (12, 104, 0)), (654, .aload_n 0, mX), (655, .bipush 80, mX), (657, .newarray .int, mX), (659, .putfield 249, (12, 106, 0)), (662, .aload_n 0, mX), (663, .bipush 80, mX), (665, .newarray .int, mX), (667, .putfield 252, (12, 107, 0)), (670, .aload_n 0, mX), (671, .bipush 80, mX), (673, .newarray .int, mX), (675, .putfield 255, (12, 108, 0)), (678, .aload_n 0, mX), (679, .bipush 80, mX), (681, .newarray .int, mX), (683, .putfield 258, (12, 109, 0)), (686, .aload_n 0, mX), (687, .bipush 80, mX), (689, .newarray .int, mX), (691, .putfield 261, (12, 110, 0)), (694, .aload_n 0, mX), (695, .bipush 80, mX), (697, .newarray .int, mX), (699, .putfield 264, (12, 111, 0)), (702, .aload_n 0, mX), (703, .iconst 5, mX), (704, .newarray .int, mX), (706, .putfield 267, (12, 113, 0)), (709, .aload_n 0, mX), (710, .iconst 5, mX), (711, .newarray .int, mX), (713, .putfield 270, (12, 114, 0)), (716, .aload_n 0, mX), (717, .iconst 5, mX), (718, .newarray .int, mX), (720, .putfield 273, (12, 115, 0)), (723, .aload_n 0, mX), (724, .iconst 5, mX), (725, .newarray .int, mX), (727, .putfield 276, (12, 116, 0)), (730, .aload_n 0, mX), (731, .bipush 25, mX), (733, .newarray .boolean, mX), (735, .putfield 279, (12, 118, 0)), (738, .aload_n 0, mX), (739, .bipush 36, mX), (741, .newarray .int, mX), (743, .putfield 282, (12, 119, 0)), (746, .aload_n 0, mX), (747, .bipush 6, mX), (749, .newarray .int, mX), (751, .putfield 285, (12, 123, 0)), (754, .aload_n 0, mX), (755, .bipush 6, mX), (757, .newarray .int, mX), (759, .putfield 288, (12, 124, 0)), (762, .aload_n 0, mX), (763, .bipush 6, mX), (765, .newarray .int, mX), (767, .putfield 291, (12, 125, 0)), (770, .aload_n 0, mX), (771, .bipush 6, mX), (773, .newarray .int, mX), (775, .putfield 294, (12, 126, 0)), (778, .aload_n 0, mX), (779, .bipush 6, mX), (781, .newarray .int, mX), (783, .putfield 297, (12, 127, 0)), (786, .aload_n 0, mX), (787, .bipush 6, mX), (789, .newarray .int, mX), (791, .putfield 300, (12, 128, 0)), (794, .aload_n 0, mX), (795, .bipush 30, mX), (797, .newarray .int, mX), (799, .putfield 303, (12, 133, 0)), (802, .aload_n 0, mX), (803, .iconst 3, mX), (804, .newarray .int, mX), (806, .putfield 306, (12, 134, 0)), (809, .aload_n 0, mX), (810, .bipush 90, mX), (812, .newarray .int, mX), (814, .putfield 309, (12, 137, 0)), (817, .aload_n 0, mX), (818, .bipush 30, mX), (820, .newarray .boolean, mX), (822, .putfield 312, (12, 138, 0)), (825, .aload_n 0, mX), (826, .sipush 1331, mX), (829, .newarray .int, mX), (831, .putfield 315, (12, 139, 0)), (834, .iconst 0, mX), (835, .istore_n 1, mX), (836, .iload_n 1, mX), (837, .bipush 36, mX), (839, .if_icmp .ge 16, mX), (842, .aload_n 0, mX), (843, .getfield 13, (12, 11, 0)), (846, .iload_n 1, mX), (847, .iconst (-1), mX), (848, .iastore, mX), (849, .iinc 1 1, mX), (852, .goto (-16), mX), (855, .iconst 0, mX), (856, .istore_n 1, mX), (857, .iload_n 1, mX), (858, .iconst 3, mX), (859, .if_icmp .ge 16, mX), (862, .aload_n 0, mX), (863, .getfield 306, (12, 134, 0)), (866, .iload_n 1, mX), (867, .iconst 0, mX), (868, .iastore, mX), (869, .iinc 1 1, mX), (872, .goto (-15), mX), (875, .iconst 0, mX), (876, .istore_n 1, mX), (877, .iload_n 1, mX), (878, .iconst 5, mX), (879, .if_icmp .ge 16, mX), (882, .aload_n 0, mX), (883, .getfield 270, (12, 114, 0)), (886, .iload_n 1, mX), (887, .iconst (-1), mX), (888, .iastore, mX), (889, .iinc 1 1, mX), (892, .goto (-15), mX), (895, .return_, mX)])
noncomputable def mt269 : am_M := (⟨"AssizeRideModel", "feed", "(IIIII)I"⟩, prog_14_method_5_code, 9, (Option.some FieldType.int), [(0, .aload_n 0, mX), (1, .getfield 322, (12, 1, 0)), (4, .bipush 20, mX), (6, .iadd, mX), (7, .sipush 1200, mX), (10, .if_icmp .le 6, mX), (13, .bipush (-3), mX), (15, .ireturn, mX), (16, .iconst 0, mX), (17, .istore 6, mX), (19, .iload 6, mX), (21, .iconst 5, mX), (22, .if_icmp .ge 93, mX), (25, .iload 6, mX), (27, .ifCond .ne 7, mX), (30, .iload_n 1, mX), (31, .goto 36, mX), (34, .iload 6, mX), (36, .iconst 1, mX), (37, .if_icmp .ne 7, mX), (40, .iload_n 2, mX), (41, .goto 26, mX), (44, .iload 6, mX), (46, .iconst 2, mX), (47, .if_icmp .ne 7, mX), (50, .iload_n 3, mX), (51, .goto 16, mX), (54, .iload 6, mX), (56, .iconst 3, mX), (57, .if_icmp .ne 8, mX), (60, .iload 4, mX), (62, .goto 5, mX), (65, .iload 5, mX), (67, .istore 7, mX), (69, .bipush 24, mX), (71, .istore 8, mX), (73, .iload 8, mX), (75, .ifCond .lt 34, mX), (78, .aload_n 0, mX), (79, .getfield 9, (12, 0, 0)), (82, .aload_n 0, mX), (83, .getfield 322, (12, 1, 0)), (86, .iload 7, mX), (88, .iload 8, mX), (90, .ishr, mX), (91, .i2b, mX), (92, .bastore, mX), (93, .aload_n 0, mX), (94, .dup, mX), (95, .getfield 322, (12, 1, 0)), (98, .iconst 1, mX), (99, .iadd, mX), (100, .putfield 322, (12, 1, 0)), (103, .iinc 8 (-8), mX), (106, .goto (-33), mX), (109, .iinc 6 1, mX), (112, .goto (-93), mX), (115, .aload_n 0, mX), (116, .getfield 322, (12, 1, 0)), (119, .ireturn, mX)])
noncomputable def mt270 : am_M := (⟨"AssizeRideModel", "end", "(I)I"⟩, prog_14_method_6_code, 2, (Option.some FieldType.int), [(0, .iload_n 1, mX), (1, .ifCond .lt 11, mX), (4, .iload_n 1, mX), (5, .aload_n 0, mX), (6, .getfield 322, (12, 1, 0)), (9, .if_icmp .le 5, mX), (12, .iconst (-1), mX), (13, .ireturn, mX), (14, .aload_n 0, mX), (15, .iload_n 1, mX), (16, .putfield 322, (12, 1, 0)), (19, .iload_n 1, mX), (20, .ireturn, mX)])
noncomputable def mt271 : am_M := (⟨"AssizeRideModel", "road", "(III)I"⟩, prog_14_method_14_code, 5, (Option.some FieldType.int), [(0, .iload_n 1, mX), (1, .invokestatic 384, (272, 1, 0)), (4, .ifCond .eq 30, mX), (7, .iload_n 2, mX), (8, .invokestatic 384, (272, 1, 0)), (11, .ifCond .eq 23, mX), (14, .iload_n 1, mX), (15, .iload_n 2, mX), (16, .if_icmp .eq 18, mX), (19, .iload_n 3, mX), (20, .iconst (-1), mX), (21, .if_icmp .eq 16, mX), (24, .iload_n 3, mX), (25, .iconst 1, mX), (26, .bipush 9, mX), (28, .invokestatic 318, (273, 3, 0)), (31, .ifCond .ne 6, mX), (34, .bipush (-2), mX), (36, .ireturn, mX), (37, .aload_n 0, mX), (38, .getfield 13, (12, 11, 0)), (41, .bipush 6, mX), (43, .iload_n 1, mX), (44, .imul, mX), (45, .iload_n 2, mX), (46, .iadd, mX), (47, .iaload, mX), (48, .istore 4, mX), (50, .aload_n 0, mX), (51, .getfield 13, (12, 11, 0)), (54, .bipush 6, mX), (56, .iload_n 1, mX), (57, .imul, mX), (58, .iload_n 2, mX), (59, .iadd, mX), (60, .iload_n 3, mX), (61, .iastore, mX), (62, .aload_n 0, mX), (63, .getfield 13, (12, 11, 0)), (66, .bipush 6, mX), (68, .iload_n 2, mX), (69, .imul, mX), (70, .iload_n 1, mX), (71, .iadd, mX), (72, .iload_n 3, mX), (73, .iastore, mX), (74, .iload 4, mX), (76, .ireturn, mX)])
noncomputable def mt272 : am_M := (⟨"AssizeRideModel", "isShire", "(I)Z"⟩, prog_14_method_3_code, 1, (Option.some FieldType.boolean), [(0, .iload_n 0, mX), (1, .iconst 0, mX), (2, .iconst 5, mX), (3, .invokestatic 318, (273, 3, 0)), (6, .ireturn, mX)])
noncomputable def mt273 : am_M := (⟨"AssizeRideModel", "in", "(III)Z"⟩, prog_14_method_2_code, 3, (Option.some FieldType.boolean), [(0, .iload_n 0, mX), (1, .iload_n 1, mX), (2, .if_icmp .lt 12, mX), (5, .iload_n 0, mX), (6, .iload_n 2, mX), (7, .if_icmp .gt 7, mX), (10, .iconst 1, mX), (11, .goto 4, mX), (14, .iconst 0, mX), (15, .ireturn, mX)])
noncomputable def mt274 : am_M := (⟨"AssizeRideModel", "person", "(II)I"⟩, prog_14_method_15_code, 3, (Option.some FieldType.int), [(0, .iload_n 1, mX), (1, .invokestatic 384, (272, 1, 0)), (4, .ifCond .eq 13, mX), (7, .iload_n 2, mX), (8, .iconst 0, mX), (9, .bipush 9, mX), (11, .invokestatic 318, (273, 3, 0)), (14, .ifCond .ne 6, mX), (17, .bipush (-2), mX), (19, .ireturn, mX), (20, .aload_n 0, mX), (21, .getfield 387, (12, 10, 0)), (24, .bipush 120, mX), (26, .if_icmp .ne 6, mX), (29, .bipush (-3), mX), (31, .ireturn, mX), (32, .aload_n 0, mX), (33, .getfield 17, (12, 12, 0)), (36, .aload_n 0, mX), (37, .getfield 387, (12, 10, 0)), (40, .iload_n 1, mX), (41, .iastore, mX), (42, .aload_n 0, mX), (43, .getfield 20, (12, 13, 0)), (46, .aload_n 0, mX), (47, .getfield 387, (12, 10, 0)), (50, .iload_n 2, mX), (51, .iastore, mX), (52, .aload_n 0, mX), (53, .getfield 234, (12, 99, 0)), (56, .aload_n 0, mX), (57, .getfield 387, (12, 10, 0)), (60, .iconst (-1), mX), (61, .iastore, mX), (62, .aload_n 0, mX), (63, .dup, mX), (64, .getfield 387, (12, 10, 0)), (67, .iconst 1, mX), (68, .iadd, mX), (69, .putfield 387, (12, 10, 0)), (72, .aload_n 0, mX), (73, .getfield 387, (12, 10, 0)), (76, .iconst 1, mX), (77, .isub, mX), (78, .ireturn, mX)])
noncomputable def mt275 : am_M := (⟨"AssizeRideModel", "land", "(III)I"⟩, prog_14_method_18_code, 4, (Option.some FieldType.int), [(0, .aload_n 0, mX), (1, .iload_n 1, mX), (2, .invokevirtual 396, (276, 2, 0)), (5, .ifCond .eq 33, mX), (8, .iload_n 2, mX), (9, .iconst 0, mX), (10, .sipush 9999, mX), (13, .invokestatic 318, (273, 3, 0)), (16, .ifCond .eq 22, mX), (19, .iload_n 3, mX), (20, .invokestatic 399, (277, 1, 0)), (23, .ifCond .eq 15, mX), (26, .aload_n 0, mX), (27, .iconst 0, mX), (28, .iload_n 1, mX), (29, .iconst (-1), mX), (30, .iload_n 2, mX), (31, .iload_n 3, mX), (32, .invokevirtual 402, (278, 6, 0)), (35, .goto 5, mX), (38, .bipush (-2), mX), (40, .ireturn, mX)])
noncomputable def mt276 : am_M := (⟨"AssizeRideModel", "isOne", "(I)Z"⟩, prog_14_method_16_code, 2, (Option.some FieldType.boolean), [(0, .iload_n 1, mX), (1, .iconst 0, mX), (2, .aload_n 0, mX), (3, .getfield 387, (12, 10, 0)), (6, .iconst 1, mX), (7, .isub, mX), (8, .invokestatic 318, (273, 3, 0)), (11, .ireturn, mX)])
noncomputable def mt277 : am_M := (⟨"AssizeRideModel", "isDay", "(I)Z"⟩, prog_14_method_4_code, 1, (Option.some FieldType.boolean), [(0, .iload_n 0, mX), (1, .iconst 0, mX), (2, .sipush 399, mX), (5, .invokestatic 318, (273, 3, 0)), (8, .ireturn, mX)])
noncomputable def mt278 : am_M := (⟨"AssizeRideModel", "tell", "(IIIII)I"⟩, prog_14_method_17_code, 6, (Option.some FieldType.int), [(0, .aload_n 0, mX), (1, .getfield 390, (12, 14, 0)), (4, .sipush 300, mX), (7, .if_icmp .ne 6, mX), (10, .bipush (-3), mX), (12, .ireturn, mX), (13, .aload_n 0, mX), (14, .getfield 23, (12, 15, 0)), (17, .aload_n 0, mX), (18, .getfield 390, (12, 14, 0)), (21, .iload_n 1, mX), (22, .iastore, mX), (23, .aload_n 0, mX), (24, .getfield 26, (12, 16, 0)), (27, .aload_n 0, mX), (28, .getfield 390, (12, 14, 0)), (31, .iload_n 2, mX), (32, .iastore, mX), (33, .aload_n 0, mX), (34, .getfield 29, (12, 17, 0)), (37, .aload_n 0, mX), (38, .getfield 390, (12, 14, 0)), (41, .iload_n 3, mX), (42, .iastore, mX), (43, .aload_n 0, mX), (44, .getfield 32, (12, 18, 0)), (47, .aload_n 0, mX), (48, .getfield 390, (12, 14, 0)), (51, .iload 4, mX), (53, .iastore, mX), (54, .aload_n 0, mX), (55, .getfield 35, (12, 19, 0)), (58, .aload_n 0, mX), (59, .getfield 390, (12, 14, 0)), (62, .iload 5, mX), (64, .iastore, mX), (65, .aload_n 0, mX), (66, .getfield 38, (12, 20, 0)), (69, .aload_n 0, mX), (70, .getfield 390, (12, 14, 0)), (73, .aload_n 0, mX), (74, .getfield 393, (12, 9, 0)), (77, .iastore, mX), (78, .aload_n 0, mX), (79, .dup, mX), (80, .getfield 390, (12, 14, 0)), (83, .iconst 1, mX), (84, .iadd, mX), (85, .putfield 390, (12, 14, 0)), (88, .aload_n 0, mX), (89, .getfield 390, (12, 14, 0)), (92, .ireturn, mX)])
noncomputable def mt279 : am_M := (⟨"AssizeRideModel", "dead", "(II)I"⟩, prog_14_method_19_code, 3, (Option.some FieldType.int), [(0, .aload_n 0, mX), (1, .iload_n 1, mX), (2, .invokevirtual 396, (276, 2, 0)), (5, .ifCond .eq 22, mX), (8, .iload_n 2, mX), (9, .invokestatic 399, (277, 1, 0)), (12, .ifCond .eq 15, mX), (15, .aload_n 0, mX), (16, .iconst 1, mX), (17, .iload_n 1, mX), (18, .iconst (-1), mX), (19, .iconst 0, mX), (20, .iload_n 2, mX), (21, .invokevirtual 402, (278, 6, 0)), (24, .goto 5, mX), (27, .bipush (-2), mX), (29, .ireturn, mX)])
noncomputable def mt280 : am_M := (⟨"AssizeRideModel", "kin", "(III)I"⟩, prog_14_method_20_code, 10, (Option.some FieldType.int), [(0, .aload_n 0, mX), (1, .iload_n 1, mX), (2, .invokevirtual 396, (276, 2, 0)), (5, .ifCond .eq 25, mX), (8, .aload_n 0, mX), (9, .iload_n 2, mX), (10, .invokevirtual 396, (276, 2, 0)), (13, .ifCond .eq 17, mX), (16, .iload_n 1, mX), (17, .iload_n 2, mX), (18, .if_icmp .eq 12, mX), (21, .iload_n 3, mX), (22, .iconst 0, mX), (23, .iconst 4, mX), (24, .invokestatic 318, (273, 3, 0)), (27, .ifCond .ne 6, mX), (30, .bipush (-2), mX), (32, .ireturn, mX), (33, .aload_n 0, mX), (34, .iconst 2, mX), (35, .iload_n 1, mX), (36, .iload_n 2, mX), (37, .iload_n 3, mX), (38, .iconst 0, mX), (39, .invokevirtual 402, (278, 6, 0)), (42, .bipush (-3), mX), (44, .if_icmp .ne 6, mX), (47, .bipush (-3), mX), (49, .ireturn, mX), (50, .iconst 0, mX), (51, .istore 4, mX), (53, .iconst 0, mX), (54, .istore 5, mX), (56, .iload 5, mX), (58, .aload_n 0, mX), (59, .getfield 406, (12, 56, 0)), (62, .if_icmp .ge 171, mX), (65, .aload_n 0, mX), (66, .getfield 143, (12, 65, 0)), (69, .iload 5, mX), (71, .iaload, mX), (72, .iconst 3, mX), (73, .if_icmp .eq 17, mX), (76, .aload_n 0, mX), (77, .getfield 143, (12, 65, 0)), (80, .iload 5, mX), (82, .iaload, mX), (83, .iconst 5, mX), (84, .if_icmp .eq 6, mX), (87, .goto 140, mX), (90, .iconst 0, mX), (91, .istore 6, mX), (93, .iconst 0, mX), (94, .istore 7, mX), (96, .iload 7, mX), (98, .aload_n 0, mX), (99, .getfield 188, (12, 80, 0)), (102, .iload 5, mX), (104, .iaload, mX), (105, .if_icmp .ge 93, mX), (108, .aload_n 0, mX), (109, .getfield 185, (12, 79, 0)), (112, .bipush 12, mX), (114, .iload 5, mX), (116, .imul, mX), (117, .iload 7, mX), (119, .iadd, mX), (120, .iaload, mX), (121, .istore 8, mX), (123, .iload 8, mX), (125, .iload_n 1, mX), (126, .if_icmp .ne 7, mX), (129, .iload_n 2, mX), (130, .goto 14, mX), (133, .iload 8, mX), (135, .iload_n 2, mX), (136, .if_icmp .ne 7, mX), (139, .iload_n 1, mX), (140, .goto 4, mX), (143, .iconst (-1), mX), (144, .istore 9, mX), (146, .iload 6, mX), (148, .ifCond .ne 37, mX), (151, .iload 9, mX), (153, .iconst (-1), mX), (154, .if_icmp .eq 35, mX), (157, .aload_n 0, mX), (158, .iload 5, mX), (160, .iload 9, mX), (162, .invokevirtual 409, (281, 3, 0)), (165, .ifCond .eq 24, mX), (168, .iload_n 3, mX), (169, .iconst 1, mX), (170, .aload_n 0, mX), (171, .bipush 9, mX), (173, .lconst 0, mX), (174, .iload 5, mX), (176, .invokevirtual 413, (282, 4, 0)), (179, .invokestatic 318, (273, 3, 0)), (182, .ifCond .eq 7, mX), (185, .iconst 1, mX), (186, .goto 4, mX), (189, .iconst 0, mX), (190, .istore 6, mX), (192, .iinc 7 1, mX), (195, .goto (-99), mX), (198, .iload 6, mX), (200, .ifCond .eq 27, mX), (203, .aload_n 0, mX), (204, .bipush 13, mX), (206, .lconst 0, mX), (207, .iload 5, mX), (209, .invokevirtual 413, (282, 4, 0)), (212, .ifCond .ne 6, mX), (215, .goto 12, mX), (218, .aload_n 0, mX), (219, .iload 5, mX), (221, .invokevirtual 417, (289, 2, 0)), (224, .iinc 4 1, mX), (227, .iinc 5 1, mX), (230, .goto (-174), mX), (233, .iload 4, mX), (235, .ireturn, mX)])
noncomputable def mt281 : am_M := (⟨"AssizeRideModel", "isParty", "(II)Z"⟩, prog_14_method_71_code, 3, (Option.some FieldType.boolean), [(0, .aload_n 0, mX), (1, .getfield 125, (12, 59, 0)), (4, .iload_n 1, mX), (5, .iaload, mX), (6, .iload_n 2, mX), (7, .if_icmp .eq 13, mX), (10, .aload_n 0, mX), (11, .getfield 122, (12, 58, 0)), (14, .iload_n 1, mX), (15, .iaload, mX), (16, .iload_n 2, mX), (17, .if_icmp .ne 7, mX), (20, .iconst 1, mX), (21, .goto 4, mX), (24, .iconst 0, mX), (25, .ireturn, mX)])
noncomputable def mt282 : am_M := (⟨"AssizeRideModel", "tellsOf", "(IJI)I"⟩, prog_14_method_51_code, 5, (Option.some FieldType.int), [(0, .aload_n 0, mX), (1, .iload_n 1, mX), (2, .iload_n 1, mX), (3, .bipush 7, mX), (5, .if_icmp .ge 13, mX), (8, .aload_n 0, mX), (9, .getfield 140, (12, 64, 0)), (12, .iload 4, mX), (14, .laload, mX), (15, .goto 4, mX), (18, .lload_n 2, mX), (19, .aload_n 0, mX), (20, .getfield 134, (12, 62, 0)), (23, .iload 4, mX), (25, .iaload, mX), (26, .aload_n 0, mX), (27, .getfield 128, (12, 60, 0)), (30, .iload 4, mX), (32, .iaload, mX), (33, .invokevirtual 522, (283, 5, 0)), (36, .ireturn, mX)])
noncomputable def mt283 : am_M := (⟨"AssizeRideModel", "tellsAt", "(IJII)I"⟩, prog_14_method_50_code, 7, (Option.some FieldType.int), [(0, .aload_n 0, mX), (1, .iload_n 1, mX), (2, .lload_n 2, mX), (3, .iload 4, mX), (5, .iload 5, mX), (7, .invokevirtual 515, (284, 5, 0)), (10, .istore 6, mX), (12, .iload 6, mX), (14, .iconst (-1), mX), (15, .if_icmp .ne 8, mX), (18, .iload_n 1, mX), (19, .invokestatic 519, (288, 1, 0)), (22, .ireturn, mX), (23, .iload_n 1, mX), (24, .iconst 2, mX), (25, .if_icmp .ge 13, mX), (28, .aload_n 0, mX), (29, .getfield 67, (12, 31, 0)), (32, .iload 6, mX), (34, .iaload, mX), (35, .goto 10, mX), (38, .aload_n 0, mX), (39, .getfield 61, (12, 29, 0)), (42, .iload 6, mX), (44, .iaload, mX), (45, .ireturn, mX)])
noncomputable def mt284 : am_M := (⟨"AssizeRideModel", "lawOf", "(IJII)I"⟩, prog_14_method_48_code, 8, (Option.some FieldType.int), [(0, .aload_n 0, mX), (1, .getfield 499, (12, 21, 0)), (4, .iconst 1, mX), (5, .isub, mX), (6, .istore 6, mX), (8, .iload 6, mX), (10, .ifCond .lt 32, mX), (13, .aload_n 0, mX), (14, .iload 6, mX), (16, .iload_n 1, mX), (17, .lload_n 2, mX), (18, .iload 4, mX), (20, .iload 5, mX), (22, .invokevirtual 511, (285, 6, 0)), (25, .istore 7, mX), (27, .iload 7, mX), (29, .iconst (-1), mX), (30, .if_icmp .eq 6, mX), (33, .iload 7, mX), (35, .ireturn, mX), (36, .iinc 6 (-1), mX), (39, .goto (-31), mX), (42, .iconst (-1), mX), (43, .ireturn, mX)])
noncomputable def mt285 : am_M := (⟨"AssizeRideModel", "clauseOf", "(IIJII)I"⟩, prog_14_method_47_code, 8, (Option.some FieldType.int), [(0, .aload_n 0, mX), (1, .iload_n 1, mX), (2, .iload 5, mX), (4, .iload 6, mX), (6, .invokevirtual 505, (286, 4, 0)), (9, .ifCond .ne 5, mX), (12, .iconst (-1), mX), (13, .ireturn, mX), (14, .bipush 40, mX), (16, .iload_n 1, mX), (17, .imul, mX), (18, .istore 7, mX), (20, .iload 7, mX), (22, .bipush 40, mX), (24, .iload_n 1, mX), (25, .imul, mX), (26, .aload_n 0, mX), (27, .getfield 51, (12, 26, 0)), (30, .iload_n 1, mX), (31, .iaload, mX), (32, .iadd, mX), (33, .if_icmp .ge 58, mX), (36, .aload_n 0, mX), (37, .getfield 54, (12, 27, 0)), (40, .iload 7, mX), (42, .iaload, mX), (43, .iload_n 2, mX), (44, .if_icmp .ne 41, mX), (47, .iload_n 2, mX), (48, .bipush 6, mX), (50, .if_icmp .gt 15, mX), (53, .aload_n 0, mX), (54, .getfield 57, (12, 28, 0)), (57, .iload 7, mX), (59, .laload, mX), (60, .lload_n 3, mX), (61, .lcmp, mX), (62, .ifCond .ne 23, mX), (65, .aload_n 0, mX), (66, .iload 7, mX), (68, .iload 5, mX), (70, .iload 6, mX), (72, .invokevirtual 508, (287, 4, 0)), (75, .ifCond .eq 7, mX), (78, .iconst (-1), mX), (79, .goto 5, mX), (82, .iload 7, mX), (84, .ireturn, mX), (85, .iinc 7 1, mX), (88, .goto (-68), mX), (91, .iconst (-1), mX), (92, .ireturn, mX)])
noncomputable def mt286 : am_M := (⟨"AssizeRideModel", "isBegun", "(III)Z"⟩, prog_14_method_45_code, 4, (Option.some FieldType.boolean), [(0, .aload_n 0, mX), (1, .getfield 45, (12, 24, 0)), (4, .iload_n 1, mX), (5, .iaload, mX), (6, .iload_n 2, mX), (7, .if_icmp .gt 21, mX), (10, .aload_n 0, mX), (11, .getfield 48, (12, 25, 0)), (14, .iload_n 1, mX), (15, .iaload, mX), (16, .iload_n 3, mX), (17, .ishr, mX), (18, .iconst 1, mX), (19, .iand, mX), (20, .iconst 1, mX), (21, .if_icmp .ne 7, mX), (24, .iconst 1, mX), (25, .goto 4, mX), (28, .iconst 0, mX), (29, .ireturn, mX)])
noncomputable def mt287 : am_M := (⟨"AssizeRideModel", "isStruck", "(III)Z"⟩, prog_14_method_46_code, 7, (Option.some FieldType.boolean), [(0, .iload_n 1, mX), (1, .bipush 40, mX), (3, .idiv, mX), (4, .istore 4, mX), (6, .iload 4, mX), (8, .iconst 1, mX), (9, .iadd, mX), (10, .istore 5, mX), (12, .iload 5, mX), (14, .aload_n 0, mX), (15, .getfield 499, (12, 21, 0)), (18, .if_icmp .ge 120, mX), (21, .aload_n 0, mX), (22, .iload 5, mX), (24, .iload_n 2, mX), (25, .iload_n 3, mX), (26, .invokevirtual 505, (286, 4, 0)), (29, .ifCond .ne 6, mX), (32, .goto 100, mX), (35, .bipush 40, mX), (37, .iload 5, mX), (39, .imul, mX), (40, .istore 6, mX), (42, .iload 6, mX), (44, .bipush 40, mX), (46, .iload 5, mX), (48, .imul, mX), (49, .aload_n 0, mX), (50, .getfield 51, (12, 26, 0)), (53, .iload 5, mX), (55, .iaload, mX), (56, .iadd, mX), (57, .if_icmp .ge 75, mX), (60, .aload_n 0, mX), (61, .getfield 54, (12, 27, 0)), (64, .iload 6, mX), (66, .iaload, mX), (67, .bipush 14, mX), (69, .if_icmp .ne 57, mX), (72, .aload_n 0, mX), (73, .getfield 61, (12, 29, 0)), (76, .iload 6, mX), (78, .iaload, mX), (79, .iload 4, mX), (81, .if_icmp .ne 45, mX), (84, .aload_n 0, mX), (85, .getfield 57, (12, 28, 0)), (88, .iload 6, mX), (90, .laload, mX), (91, .lconst 0, mX), (92, .lcmp, mX), (93, .ifCond .eq 31, mX), (96, .aload_n 0, mX), (97, .getfield 54, (12, 27, 0)), (100, .iload_n 1, mX), (101, .iaload, mX), (102, .bipush 7, mX), (104, .if_icmp .ge 22, mX), (107, .aload_n 0, mX), (108, .getfield 57, (12, 28, 0)), (111, .iload 6, mX), (113, .laload, mX), (114, .aload_n 0, mX), (115, .getfield 57, (12, 28, 0)), (118, .iload_n 1, mX), (119, .laload, mX), (120, .lcmp, mX), (121, .ifCond .ne 5, mX), (124, .iconst 1, mX), (125, .ireturn, mX), (126, .iinc 6 1, mX), (129, .goto (-87), mX), (132, .iinc 5 1, mX), (135, .goto (-123), mX), (138, .iconst 0, mX), (139, .ireturn, mX)])
noncomputable def mt288 : am_M := (⟨"AssizeRideModel", "plain", "(I)I"⟩, prog_14_method_49_code, 1, (Option.some FieldType.int), [(0, .iload_n 0, mX), (1, .ifCond .ne 7, mX), (4, .iconst (-1), mX), (5, .goto 63, mX), (8, .iload_n 0, mX), (9, .bipush 7, mX), (11, .if_icmp .ne 8, mX), (14, .bipush 6, mX), (16, .goto 52, mX), (19, .iload_n 0, mX), (20, .bipush 8, mX), (22, .if_icmp .ne 8, mX), (25, .bipush 20, mX), (27, .goto 41, mX), (30, .iload_n 0, mX), (31, .bipush 9, mX), (33, .if_icmp .eq 9, mX), (36, .iload_n 0, mX), (37, .bipush 10, mX), (39, .if_icmp .ne 7, mX), (42, .iconst 2, mX), (43, .goto 25, mX), (46, .iload_n 0, mX), (47, .bipush 11, mX), (49, .if_icmp .ne 7, mX), (52, .iconst 1, mX), (53, .goto 15, mX), (56, .iload_n 0, mX), (57, .bipush 12, mX), (59, .if_icmp .ne 8, mX), (62, .bipush 12, mX), (64, .goto 4, mX), (67, .iconst 0, mX), (68, .ireturn, mX)])
noncomputable def mt289 : am_M := (⟨"AssizeRideModel", "again", "(I)V"⟩, prog_14_method_101_code, 2, (Option.none : Option FieldType), [(0, .aload_n 0, mX), (1, .dup, mX), (2, .getfield 621, (12, 85, 0)), (5, .aload_n 0, mX), (6, .getfield 149, (12, 67, 0)), (9, .iload_n 1, mX), (10, .iaload, mX), (11, .isub, mX), (12, .putfield 621, (12, 85, 0)), (15, .aload_n 0, mX), (16, .getfield 149, (12, 67, 0)), (19, .iload_n 1, mX), (20, .iconst 0, mX), (21, .iastore, mX), (22, .aload_n 0, mX), (23, .getfield 146, (12, 66, 0)), (26, .iload_n 1, mX), (27, .iconst 0, mX), (28, .bastore, mX), (29, .aload_n 0, mX), (30, .getfield 152, (12, 68, 0)), (33, .iload_n 1, mX), (34, .iconst 0, mX), (35, .bastore, mX), (36, .aload_n 0, mX), (37, .getfield 188, (12, 80, 0)), (40, .iload_n 1, mX), (41, .iconst 0, mX), (42, .iastore, mX), (43, .aload_n 0, mX), (44, .getfield 200, (12, 84, 0)), (47, .iload_n 1, mX), (48, .iconst 0, mX), (49, .iastore, mX), (50, .aload_n 0, mX), (51, .getfield 106, (12, 52, 0)), (54, .iconst 2, mX), (55, .iload_n 1, mX), (56, .imul, mX), (57, .iconst 1, mX), (58, .iadd, mX), (59, .iconst 0, mX), (60, .iastore, mX), (61, .aload_n 0, mX), (62, .getfield 161, (12, 71, 0)), (65, .iload_n 1, mX), (66, .iconst (-1), mX), (67, .iastore, mX), (68, .aload_n 0, mX), (69, .getfield 155, (12, 69, 0)), (72, .iload_n 1, mX), (73, .iconst 0, mX), (74, .bastore, mX), (75, .aload_n 0, mX), (76, .iload_n 1, mX), (77, .aload_n 0, mX), (78, .getfield 119, (12, 57, 0)), (81, .iload_n 1, mX), (82, .baload, mX), (83, .ifCond .eq 7, mX), (86, .iconst 0, mX), (87, .goto 4, mX), (90, .iconst 2, mX), (91, .invokevirtual 559, (290, 3, 0)), (94, .return_, mX)])
noncomputable def mt290 : am_M := (⟨"AssizeRideModel", "comes", "(II)V"⟩, prog_14_method_65_code, 3, (Option.none : Option FieldType), [(0, .aload_n 0, mX), (1, .getfield 143, (12, 65, 0)), (4, .iload_n 1, mX), (5, .iload_n 2, mX), (6, .iastore, mX), (7, .aload_n 0, mX), (8, .dup, mX), (9, .getfield 553, (12, 86, 0)), (12, .iconst 1, mX), (13, .iadd, mX), (14, .putfield 553, (12, 86, 0)), (17, .aload_n 0, mX), (18, .getfield 204, (12, 88, 0)), (21, .sipush 400, mX), (24, .iload_n 1, mX), (25, .imul, mX), (26, .aload_n 0, mX), (27, .getfield 393, (12, 9, 0)), (30, .iadd, mX), (31, .iload_n 2, mX), (32, .iastore, mX), (33, .aload_n 0, mX), (34, .getfield 207, (12, 89, 0)), (37, .sipush 400, mX), (40, .iload_n 1, mX), (41, .imul, mX), (42, .aload_n 0, mX), (43, .getfield 393, (12, 9, 0)), (46, .iadd, mX), (47, .aload_n 0, mX), (48, .getfield 553, (12, 86, 0)), (51, .iastore, mX), (52, .return_, mX)])
noncomputable def mt291 : am_M := (⟨"AssizeRideModel", "landOn", "(III)I"⟩, prog_14_method_24_code, 4, (Option.some FieldType.int), [(0, .aload_n 0, mX), (1, .iload_n 1, mX), (2, .invokevirtual 396, (276, 2, 0)), (5, .ifCond .eq 27, mX), (8, .iload_n 2, mX), (9, .invokestatic 399, (277, 1, 0)), (12, .ifCond .eq 20, mX), (15, .iload_n 3, mX), (16, .invokestatic 399, (277, 1, 0)), (19, .ifCond .eq 13, mX), (22, .aload_n 0, mX), (23, .iload_n 1, mX), (24, .iload_n 2, mX), (25, .iload_n 3, mX), (26, .invokevirtual 421, (292, 4, 0)), (29, .goto 5, mX), (32, .bipush (-2), mX), (34, .ireturn, mX)])
noncomputable def mt292 : am_M := (⟨"AssizeRideModel", "landOf", "(III)I"⟩, prog_14_method_21_code, 6, (Option.some FieldType.int), [(0, .iconst (-1), mX), (1, .istore 4, mX), (3, .iconst 0, mX), (4, .istore 5, mX), (6, .iload 5, mX), (8, .aload_n 0, mX), (9, .getfield 390, (12, 14, 0)), (12, .if_icmp .ge 79, mX), (15, .aload_n 0, mX), (16, .getfield 23, (12, 15, 0)), (19, .iload 5, mX), (21, .iaload, mX), (22, .ifCond .ne 63, mX), (25, .aload_n 0, mX), (26, .getfield 26, (12, 16, 0)), (29, .iload 5, mX), (31, .iaload, mX), (32, .iload_n 1, mX), (33, .if_icmp .ne 52, mX), (36, .aload_n 0, mX), (37, .getfield 38, (12, 20, 0)), (40, .iload 5, mX), (42, .iaload, mX), (43, .iload_n 3, mX), (44, .if_icmp .gt 41, mX), (47, .aload_n 0, mX), (48, .getfield 35, (12, 19, 0)), (51, .iload 5, mX), (53, .iaload, mX), (54, .iload_n 2, mX), (55, .if_icmp .gt 30, mX), (58, .iload 4, mX), (60, .iconst (-1), mX), (61, .if_icmp .eq 20, mX), (64, .aload_n 0, mX), (65, .getfield 35, (12, 19, 0)), (68, .iload 5, mX), (70, .iaload, mX), (71, .aload_n 0, mX), (72, .getfield 35, (12, 19, 0)), (75, .iload 4, mX), (77, .iaload, mX), (78, .if_icmp .lt 7, mX), (81, .iload 5, mX), (83, .istore 4, mX), (85, .iinc 5 1, mX), (88, .goto (-82), mX), (91, .iload 4, mX), (93, .iconst (-1), mX), (94, .if_icmp .ne 7, mX), (97, .iconst 0, mX), (98, .goto 10, mX), (101, .aload_n 0, mX), (102, .getfield 32, (12, 18, 0)), (105, .iload 4, mX), (107, .iaload, mX), (108, .ireturn, mX)])
noncomputable def mt293 : am_M := (⟨"AssizeRideModel", "deadOn", "(III)I"⟩, prog_14_method_25_code, 4, (Option.some FieldType.int), [(0, .aload_n 0, mX), (1, .iload_n 1, mX), (2, .invokevirtual 396, (276, 2, 0)), (5, .ifCond .eq 35, mX), (8, .iload_n 2, mX), (9, .invokestatic 399, (277, 1, 0)), (12, .ifCond .eq 28, mX), (15, .iload_n 3, mX), (16, .invokestatic 399, (277, 1, 0)), (19, .ifCond .eq 21, mX), (22, .aload_n 0, mX), (23, .iload_n 1, mX), (24, .iload_n 2, mX), (25, .iload_n 3, mX), (26, .invokevirtual 425, (294, 4, 0)), (29, .ifCond .eq 7, mX), (32, .iconst 1, mX), (33, .goto 9, mX), (36, .iconst 0, mX), (37, .goto 5, mX), (40, .bipush (-2), mX), (42, .ireturn, mX)])
noncomputable def mt294 : am_M := (⟨"AssizeRideModel", "isDead", "(III)Z"⟩, prog_14_method_22_code, 5, (Option.some FieldType.boolean), [(0, .iconst 0, mX), (1, .istore 4, mX), (3, .iload 4, mX), (5, .aload_n 0, mX), (6, .getfield 390, (12, 14, 0)), (9, .if_icmp .ge 55, mX), (12, .aload_n 0, mX), (13, .getfield 23, (12, 15, 0)), (16, .iload 4, mX), (18, .iaload, mX), (19, .iconst 1, mX), (20, .if_icmp .ne 38, mX), (23, .aload_n 0, mX), (24, .getfield 26, (12, 16, 0)), (27, .iload 4, mX), (29, .iaload, mX), (30, .iload_n 1, mX), (31, .if_icmp .ne 27, mX), (34, .aload_n 0, mX), (35, .getfield 38, (12, 20, 0)), (38, .iload 4, mX), (40, .iaload, mX), (41, .iload_n 3, mX), (42, .if_icmp .gt 16, mX), (45, .aload_n 0, mX), (46, .getfield 35, (12, 19, 0)), (49, .iload 4, mX), (51, .iaload, mX), (52, .iload_n 2, mX), (53, .if_icmp .gt 5, mX), (56, .iconst 1, mX), (57, .ireturn, mX), (58, .iinc 4 1, mX), (61, .goto (-58), mX), (64, .iconst 0, mX), (65, .ireturn, mX)])
noncomputable def mt295 : am_M := (⟨"AssizeRideModel", "kinOn", "(III)I"⟩, prog_14_method_26_code, 4, (Option.some FieldType.int), [(0, .aload_n 0, mX), (1, .iload_n 1, mX), (2, .invokevirtual 396, (276, 2, 0)), (5, .ifCond .eq 33, mX), (8, .aload_n 0, mX), (9, .iload_n 2, mX), (10, .invokevirtual 396, (276, 2, 0)), (13, .ifCond .eq 25, mX), (16, .iload_n 1, mX), (17, .iload_n 2, mX), (18, .if_icmp .eq 20, mX), (21, .iload_n 3, mX), (22, .invokestatic 399, (277, 1, 0)), (25, .ifCond .eq 13, mX), (28, .aload_n 0, mX), (29, .iload_n 1, mX), (30, .iload_n 2, mX), (31, .iload_n 3, mX), (32, .invokevirtual 428, (296, 4, 0)), (35, .goto 5, mX), (38, .bipush (-2), mX), (40, .ireturn, mX)])
noncomputable def mt296 : am_M := (⟨"AssizeRideModel", "kinOf", "(III)I"⟩, prog_14_method_23_code, 6, (Option.some FieldType.int), [(0, .iconst 0, mX), (1, .istore 4, mX), (3, .iconst 0, mX), (4, .istore 5, mX), (6, .iload 5, mX), (8, .aload_n 0, mX), (9, .getfield 390, (12, 14, 0)), (12, .if_icmp .ge 84, mX), (15, .aload_n 0, mX), (16, .getfield 23, (12, 15, 0)), (19, .iload 5, mX), (21, .iaload, mX), (22, .iconst 2, mX), (23, .if_icmp .ne 67, mX), (26, .aload_n 0, mX), (27, .getfield 38, (12, 20, 0)), (30, .iload 5, mX), (32, .iaload, mX), (33, .iload_n 3, mX), (34, .if_icmp .gt 56, mX), (37, .aload_n 0, mX), (38, .getfield 26, (12, 16, 0)), (41, .iload 5, mX), (43, .iaload, mX), (44, .iload_n 1, mX), (45, .if_icmp .ne 14, mX), (48, .aload_n 0, mX), (49, .getfield 29, (12, 17, 0)), (52, .iload 5, mX), (54, .iaload, mX), (55, .iload_n 2, mX), (56, .if_icmp .eq 25, mX), (59, .aload_n 0, mX), (60, .getfield 26, (12, 16, 0)), (63, .iload 5, mX), (65, .iaload, mX), (66, .iload_n 2, mX), (67, .if_icmp .ne 23, mX), (70, .aload_n 0, mX), (71, .getfield 29, (12, 17, 0)), (74, .iload 5, mX), (76, .iaload, mX), (77, .iload_n 1, mX), (78, .if_icmp .ne 12, mX), (81, .aload_n 0, mX), (82, .getfield 32, (12, 18, 0)), (85, .iload 5, mX), (87, .iaload, mX), (88, .istore 4, mX), (90, .iinc 5 1, mX), (93, .goto (-87), mX), (96, .iload 4, mX), (98, .ireturn, mX)])
noncomputable def mt297 : am_M := (⟨"AssizeRideModel", "act", "(II)I"⟩, prog_14_method_42_code, 6, (Option.some FieldType.int), [(0, .aload_n 0, mX), (1, .invokevirtual 381, (298, 1, 0)), (4, .iload_n 1, mX), (5, .invokestatic 399, (277, 1, 0)), (8, .ifCond .eq 35, mX), (11, .iload_n 2, mX), (12, .iconst 1, mX), (13, .bipush 63, mX), (15, .invokestatic 318, (273, 3, 0)), (18, .ifCond .eq 25, mX), (21, .aload_n 0, mX), (22, .getfield 499, (12, 21, 0)), (25, .ifCond .le 21, mX), (28, .iload_n 1, mX), (29, .aload_n 0, mX), (30, .getfield 45, (12, 24, 0)), (33, .aload_n 0, mX), (34, .getfield 499, (12, 21, 0)), (37, .iconst 1, mX), (38, .isub, mX), (39, .iaload, mX), (40, .if_icmp .ge 6, mX), (43, .bipush (-2), mX), (45, .ireturn, mX), (46, .aload_n 0, mX), (47, .iconst 0, mX), (48, .putfield 431, (12, 22, 0)), (51, .aload_n 0, mX), (52, .iconst (-1), mX), (53, .putfield 41, (12, 23, 0)), (56, .aload_n 0, mX), (57, .getfield 51, (12, 26, 0)), (60, .bipush 30, mX), (62, .iconst 0, mX), (63, .iastore, mX), (64, .aload_n 0, mX), (65, .iconst 0, mX), (66, .putfield 452, (12, 42, 0)), (69, .aload_n 0, mX), (70, .iconst 0, mX), (71, .putfield 440, (12, 43, 0)), (74, .aload_n 0, mX), (75, .iconst 0, mX), (76, .putfield 434, (12, 44, 0)), (79, .aload_n 0, mX), (80, .iconst 0, mX), (81, .putfield 477, (12, 45, 0)), (84, .aload_n 0, mX), (85, .getfield 356, (12, 3, 0)), (88, .bipush 8, mX), (90, .if_icmp .eq 12, mX), (93, .aload_n 0, mX), (94, .invokevirtual 502, (304, 1, 0)), (97, .ifCond .ne (-13), mX), (100, .iconst (-1), mX), (101, .ireturn, mX), (102, .aload_n 0, mX), (103, .getfield 499, (12, 21, 0)), (106, .bipush 30, mX), (108, .if_icmp .ne 6, mX), (111, .bipush (-3), mX), (113, .ireturn, mX), (114, .aload_n 0, mX), (115, .getfield 45, (12, 24, 0)), (118, .aload_n 0, mX), (119, .getfield 499, (12, 21, 0)), (122, .iload_n 1, mX), (123, .iastore, mX), (124, .aload_n 0, mX), (125, .getfield 48, (12, 25, 0)), (128, .aload_n 0, mX), (129, .getfield 499, (12, 21, 0)), (132, .iload_n 2, mX), (133, .iastore, mX), (134, .aload_n 0, mX), (135, .getfield 51, (12, 26, 0)), (138, .aload_n 0, mX), (139, .getfield 499, (12, 21, 0)), (142, .aload_n 0, mX), (143, .getfield 51, (12, 26, 0)), (146, .bipush 30, mX), (148, .iaload, mX), (149, .iastore, mX), (150, .iconst 0, mX), (151, .istore_n 3, mX), (152, .iload_n 3, mX), (153, .bipush 40, mX), (155, .if_icmp .ge 125, mX), (158, .bipush 40, mX), (160, .aload_n 0, mX), (161, .getfield 499, (12, 21, 0)), (164, .imul, mX), (165, .iload_n 3, mX), (166, .iadd, mX), (167, .istore 4, mX), (169, .sipush 1200, mX), (172, .iload_n 3, mX), (173, .iadd, mX), (174, .istore 5, mX), (176, .aload_n 0, mX), (177, .getfield 54, (12, 27, 0)), (180, .iload 4, mX), (182, .aload_n 0, mX), (183, .getfield 54, (12, 27, 0)), (186, .iload 5, mX), (188, .iaload, mX), (189, .iastore, mX), (190, .aload_n 0, mX), (191, .getfield 57, (12, 28, 0)), (194, .iload 4, mX), (196, .aload_n 0, mX), (197, .getfield 57, (12, 28, 0)), (200, .iload 5, mX), (202, .laload, mX), (203, .lastore, mX), (204, .aload_n 0, mX), (205, .getfield 61, (12, 29, 0)), (208, .iload 4, mX), (210, .aload_n 0, mX), (211, .getfield 61, (12, 29, 0)), (214, .iload 5, mX), (216, .iaload, mX), (217, .iastore, mX), (218, .aload_n 0, mX), (219, .getfield 64, (12, 30, 0)), (222, .iload 4, mX), (224, .aload_n 0, mX), (225, .getfield 64, (12, 30, 0)), (228, .iload 5, mX), (230, .iaload, mX), (231, .iastore, mX), (232, .aload_n 0, mX), (233, .getfield 67, (12, 31, 0)), (236, .iload 4, mX), (238, .aload_n 0, mX), (239, .getfield 67, (12, 31, 0)), (242, .iload 5, mX), (244, .iaload, mX), (245, .iastore, mX), (246, .aload_n 0, mX), (247, .getfield 70, (12, 32, 0)), (250, .iload 4, mX), (252, .aload_n 0, mX), (253, .getfield 70, (12, 32, 0)), (256, .iload 5, mX), (258, .iaload, mX), (259, .iastore, mX), (260, .aload_n 0, mX), (261, .getfield 73, (12, 33, 0)), (264, .iload 4, mX), (266, .aload_n 0, mX), (267, .getfield 73, (12, 33, 0)), (270, .iload 5, mX), (272, .iaload, mX), (273, .iastore, mX), (274, .iinc 3 1, mX), (277, .goto (-125), mX), (280, .iconst 0, mX), (281, .istore_n 3, mX), (282, .iload_n 3, mX), (283, .sipush 420, mX), (286, .if_icmp .ge 84, mX), (289, .sipush 420, mX), (292, .aload_n 0, mX), (293, .getfield 499, (12, 21, 0)), (296, .imul, mX), (297, .iload_n 3, mX), (298, .iadd, mX), (299, .istore 4, mX), (301, .sipush 12600, mX), (304, .iload_n 3, mX), (305, .iadd, mX), (306, .istore 5, mX), (308, .aload_n 0, mX), (309, .getfield 76, (12, 34, 0)), (312, .iload 4, mX), (314, .aload_n 0, mX), (315, .getfield 76, (12, 34, 0)), (318, .iload 5, mX), (320, .iaload, mX), (321, .iastore, mX), (322, .aload_n 0, mX), (323, .getfield 79, (12, 35, 0)), (326, .iload 4, mX), (328, .aload_n 0, mX), (329, .getfield 79, (12, 35, 0)), (332, .iload 5, mX), (334, .iaload, mX), (335, .iastore, mX), (336, .aload_n 0, mX), (337, .getfield 82, (12, 36, 0)), (340, .iload 4, mX), (342, .aload_n 0, mX), (343, .getfield 82, (12, 36, 0)), (346, .iload 5, mX), (348, .iaload, mX), (349, .iastore, mX), (350, .aload_n 0, mX), (351, .getfield 85, (12, 37, 0)), (354, .iload 4, mX), (356, .aload_n 0, mX), (357, .getfield 85, (12, 37, 0)), (360, .iload 5, mX), (362, .iaload, mX), (363, .iastore, mX), (364, .iinc 3 1, mX), (367, .goto (-85), mX), (370, .iconst 0, mX), (371, .istore_n 3, mX), (372, .iload_n 3, mX), (373, .sipush 620, mX), (376, .if_icmp .ge 59, mX), (379, .aload_n 0, mX), (380, .getfield 88, (12, 38, 0)), (383, .sipush 620, mX), (386, .aload_n 0, mX), (387, .getfield 499, (12, 21, 0)), (390, .imul, mX), (391, .iload_n 3, mX), (392, .iadd, mX), (393, .aload_n 0, mX), (394, .getfield 88, (12, 38, 0)), (397, .sipush 18600, mX), (400, .iload_n 3, mX), (401, .iadd, mX), (402, .laload, mX), (403, .lastore, mX), (404, .aload_n 0, mX), (405, .getfield 91, (12, 39, 0)), (408, .sipush 620, mX), (411, .aload_n 0, mX), (412, .getfield 499, (12, 21, 0)), (415, .imul, mX), (416, .iload_n 3, mX), (417, .iadd, mX), (418, .aload_n 0, mX), (419, .getfield 91, (12, 39, 0)), (422, .sipush 18600, mX), (425, .iload_n 3, mX), (426, .iadd, mX), (427, .iaload, mX), (428, .iastore, mX), (429, .iinc 3 1, mX), (432, .goto (-60), mX), (435, .iconst 0, mX), (436, .istore_n 3, mX), (437, .iload_n 3, mX), (438, .sipush 820, mX), (441, .if_icmp .ge 34, mX), (444, .aload_n 0, mX), (445, .getfield 94, (12, 40, 0)), (448, .sipush 820, mX), (451, .aload_n 0, mX), (452, .getfield 499, (12, 21, 0)), (455, .imul, mX), (456, .iload_n 3, mX), (457, .iadd, mX), (458, .aload_n 0, mX), (459, .getfield 94, (12, 40, 0)), (462, .sipush 24600, mX), (465, .iload_n 3, mX), (466, .iadd, mX), (467, .iaload, mX), (468, .iastore, mX), (469, .iinc 3 1, mX), (472, .goto (-35), mX), (475, .iconst 0, mX), (476, .istore_n 3, mX), (477, .iload_n 3, mX), (478, .sipush 330, mX), (481, .if_icmp .ge 34, mX), (484, .aload_n 0, mX), (485, .getfield 97, (12, 41, 0)), (488, .sipush 330, mX), (491, .aload_n 0, mX), (492, .getfield 499, (12, 21, 0)), (495, .imul, mX), (496, .iload_n 3, mX), (497, .iadd, mX), (498, .aload_n 0, mX), (499, .getfield 97, (12, 41, 0)), (502, .sipush 9900, mX), (505, .iload_n 3, mX), (506, .iadd, mX), (507, .laload, mX), (508, .lastore, mX), (509, .iinc 3 1, mX), (512, .goto (-35), mX), (515, .aload_n 0, mX), (516, .dup, mX), (517, .getfield 499, (12, 21, 0)), (520, .iconst 1, mX), (521, .iadd, mX), (522, .putfield 499, (12, 21, 0)), (525, .aload_n 0, mX), (526, .getfield 499, (12, 21, 0)), (529, .iconst 1, mX), (530, .isub, mX), (531, .ireturn, mX)])
noncomputable def mt298 : am_M := (⟨"AssizeRideModel", "take", "()V"⟩, prog_14_method_7_code, 1, (Option.none : Option FieldType), [(0, .aload_n 0, mX), (1, .aload_n 0, mX), (2, .getfield 322, (12, 1, 0)), (5, .putfield 325, (12, 2, 0)), (8, .aload_n 0, mX), (9, .iconst 0, mX), (10, .putfield 322, (12, 1, 0)), (13, .aload_n 0, mX), (14, .iconst 0, mX), (15, .putfield 328, (12, 6, 0)), (18, .aload_n 0, mX), (19, .invokevirtual 331, (299, 1, 0)), (22, .return_, mX)])
noncomputable def mt299 : am_M := (⟨"AssizeRideModel", "scan", "()V"⟩, prog_14_method_12_code, 4, (Option.none : Option FieldType), [(0, .aload_n 0, mX), (1, .getfield 328, (12, 6, 0)), (4, .istore_n 1, mX), (5, .aload_n 0, mX), (6, .iload_n 1, mX), (7, .invokevirtual 346, (300, 2, 0)), (10, .bipush 32, mX), (12, .if_icmp .eq 13, mX), (15, .aload_n 0, mX), (16, .iload_n 1, mX), (17, .invokevirtual 346, (300, 2, 0)), (20, .bipush 10, mX), (22, .if_icmp .ne 9, mX), (25, .iinc 1 1, mX), (28, .goto (-23), mX), (31, .aload_n 0, mX), (32, .iload_n 1, mX), (33, .putfield 350, (12, 5, 0)), (36, .aload_n 0, mX), (37, .iload_n 1, mX), (38, .invokevirtual 346, (300, 2, 0)), (41, .istore_n 2, mX), (42, .iload_n 1, mX), (43, .iconst 1, mX), (44, .iadd, mX), (45, .istore_n 3, mX), (46, .aload_n 0, mX), (47, .iconst (-1), mX), (48, .putfield 353, (12, 4, 0)), (51, .iload_n 2, mX), (52, .iconst (-1), mX), (53, .if_icmp .ne 14, mX), (56, .aload_n 0, mX), (57, .bipush 8, mX), (59, .putfield 356, (12, 3, 0)), (62, .iload_n 1, mX), (63, .istore_n 3, mX), (64, .goto 249, mX), (67, .iload_n 2, mX), (68, .invokestatic 359, (301, 1, 0)), (71, .ifCond .eq 100, mX), (74, .aload_n 0, mX), (75, .lconst 0, mX), (76, .putfield 363, (12, 8, 0)), (79, .iload_n 1, mX), (80, .istore_n 3, mX), (81, .aload_n 0, mX), (82, .iload_n 3, mX), (83, .invokevirtual 346, (300, 2, 0)), (86, .invokestatic 359, (301, 1, 0)), (89, .ifCond .eq 42, mX), (92, .iload_n 3, mX), (93, .iload_n 1, mX), (94, .isub, mX), (95, .bipush 12, mX), (97, .if_icmp .ge 28, mX), (100, .aload_n 0, mX), (101, .ldc2_w 367, (0, 0, 32)), (104, .aload_n 0, mX), (105, .getfield 363, (12, 8, 0)), (108, .lmul, mX), (109, .aload_n 0, mX), (110, .iload_n 3, mX), (111, .invokevirtual 346, (300, 2, 0)), (114, .i2l, mX), (115, .ladd, mX), (116, .ldc2_w 369, (0, 0, 97)), (119, .lsub, mX), (120, .lconst 1, mX), (121, .ladd, mX), (122, .putfield 363, (12, 8, 0)), (125, .iinc 3 1, mX), (128, .goto (-47), mX), (131, .aload_n 0, mX), (132, .iload_n 3, mX), (133, .iload_n 1, mX), (134, .isub, mX), (135, .bipush 12, mX), (137, .if_icmp .le 7, mX), (140, .iconst 0, mX), (141, .goto 4, mX), (144, .iconst 1, mX), (145, .putfield 356, (12, 3, 0)), (148, .aload_n 0, mX), (149, .getfield 356, (12, 3, 0)), (152, .iconst 1, mX), (153, .if_icmp .ne 160, mX), (156, .aload_n 0, mX), (157, .aload_n 0, mX), (158, .iload_n 1, mX), (159, .iload_n 3, mX), (160, .iload_n 1, mX), (161, .isub, mX), (162, .invokevirtual 371, (302, 3, 0)), (165, .putfield 353, (12, 4, 0)), (168, .goto 145, mX), (171, .iload_n 2, mX), (172, .invokestatic 375, (303, 1, 0)), (175, .ifCond .eq 81, mX), (178, .aload_n 0, mX), (179, .iload_n 2, mX), (180, .bipush 48, mX), (182, .isub, mX), (183, .putfield 378, (12, 7, 0)), (186, .aload_n 0, mX), (187, .iload_n 3, mX), (188, .invokevirtual 346, (300, 2, 0)), (191, .invokestatic 375, (303, 1, 0)), (194, .ifCond .eq 43, mX), (197, .aload_n 0, mX), (198, .iload_n 3, mX), (199, .iload_n 1, mX), (200, .isub, mX), (201, .iconst 4, mX), (202, .if_icmp .ge 22, mX), (205, .bipush 10, mX), (207, .aload_n 0, mX), (208, .getfield 378, (12, 7, 0)), (211, .imul, mX), (212, .aload_n 0, mX), (213, .iload_n 3, mX), (214, .invokevirtual 346, (300, 2, 0)), (217, .iadd, mX), (218, .bipush 48, mX), (220, .isub, mX), (221, .goto 7, mX), (224, .aload_n 0, mX), (225, .getfield 378, (12, 7, 0)), (228, .putfield 378, (12, 7, 0)), (231, .iinc 3 1, mX), (234, .goto (-48), mX), (237, .aload_n 0, mX), (238, .iload_n 3, mX), (239, .iload_n 1, mX), (240, .isub, mX), (241, .iconst 4, mX), (242, .if_icmp .le 7, mX), (245, .iconst 0, mX), (246, .goto 4, mX), (249, .iconst 2, mX), (250, .putfield 356, (12, 3, 0)), (253, .goto 60, mX), (256, .aload_n 0, mX), (257, .iload_n 2, mX), (258, .bipush 59, mX), (260, .if_icmp .ne 7, mX), (263, .iconst 3, mX), (264, .goto 46, mX), (267, .iload_n 2, mX), (268, .bipush 61, mX), (270, .if_icmp .ne 7, mX), (273, .iconst 4, mX), (274, .goto 36, mX), (277, .iload_n 2, mX), (278, .bipush 40, mX), (280, .if_icmp .ne 7, mX), (283, .iconst 5, mX), (284, .goto 26, mX), (287, .iload_n 2, mX), (288, .bipush 41, mX), (290, .if_icmp .ne 8, mX), (293, .bipush 6, mX), (295, .goto 15, mX), (298, .iload_n 2, mX), (299, .bipush 43, mX), (301, .if_icmp .ne 8, mX), (304, .bipush 7, mX), (306, .goto 4, mX), (309, .iconst 0, mX), (310, .putfield 356, (12, 3, 0)), (313, .aload_n 0, mX), (314, .iload_n 3, mX), (315, .putfield 328, (12, 6, 0)), (318, .return_, mX)])
noncomputable def mt300 : am_M := (⟨"AssizeRideModel", "see", "(I)I"⟩, prog_14_method_8_code, 2, (Option.some FieldType.int), [(0, .iload_n 1, mX), (1, .aload_n 0, mX), (2, .getfield 325, (12, 2, 0)), (5, .if_icmp .ge 16, mX), (8, .aload_n 0, mX), (9, .getfield 9, (12, 0, 0)), (12, .iload_n 1, mX), (13, .baload, mX), (14, .sipush 255, mX), (17, .iand, mX), (18, .goto 4, mX), (21, .iconst (-1), mX), (22, .ireturn, mX)])
noncomputable def mt301 : am_M := (⟨"AssizeRideModel", "isSmall", "(I)Z"⟩, prog_14_method_9_code, 1, (Option.some FieldType.boolean), [(0, .iload_n 0, mX), (1, .bipush 97, mX), (3, .if_icmp .lt 13, mX), (6, .iload_n 0, mX), (7, .bipush 122, mX), (9, .if_icmp .gt 7, mX), (12, .iconst 1, mX), (13, .goto 4, mX), (16, .iconst 0, mX), (17, .ireturn, mX)])
noncomputable def mt302 : am_M := (⟨"AssizeRideModel", "keyAt", "(II)I"⟩, prog_14_method_11_code, 8, (Option.some FieldType.int), [(0, .iconst 0, mX), (1, .istore_n 3, mX), (2, .iconst 0, mX), (3, .istore 4, mX), (5, .iconst 0, mX), (6, .istore 5, mX), (8, .iload 5, mX), (10, .ldc_w 334, (1, 10, 0)), (13, .invokevirtual 336, (7, 1, 0)), (16, .if_icmp .ge 106, mX), (19, .ldc_w 334, (1, 10, 0)), (22, .iload 5, mX), (24, .invokevirtual 342, (9, 2, 0)), (27, .bipush 32, mX), (29, .if_icmp .eq 6, mX), (32, .goto 84, mX), (35, .iload 5, mX), (37, .iload 4, mX), (39, .isub, mX), (40, .iload_n 2, mX), (41, .if_icmp .ne 7, mX), (44, .iconst 1, mX), (45, .goto 4, mX), (48, .iconst 0, mX), (49, .istore 6, mX), (51, .iconst 0, mX), (52, .istore 7, mX), (54, .iload 7, mX), (56, .iload_n 2, mX), (57, .if_icmp .ge 43, mX), (60, .iload 6, mX), (62, .ifCond .eq 38, mX), (65, .ldc_w 334, (1, 10, 0)), (68, .iload 4, mX), (70, .iload 7, mX), (72, .iadd, mX), (73, .invokevirtual 342, (9, 2, 0)), (76, .aload_n 0, mX), (77, .iload_n 1, mX), (78, .iload 7, mX), (80, .iadd, mX), (81, .invokevirtual 346, (300, 2, 0)), (84, .if_icmp .ne 7, mX), (87, .iconst 1, mX), (88, .goto 4, mX), (91, .iconst 0, mX), (92, .istore 6, mX), (94, .iinc 7 1, mX), (97, .goto (-43), mX), (100, .iload 6, mX), (102, .ifCond .eq 5, mX), (105, .iload_n 3, mX), (106, .ireturn, mX), (107, .iinc 3 1, mX), (110, .iload 5, mX), (112, .iconst 1, mX), (113, .iadd, mX), (114, .istore 4, mX), (116, .iinc 5 1, mX), (119, .goto (-111), mX), (122, .iconst (-1), mX), (123, .ireturn, mX)])
noncomputable def mt303 : am_M := (⟨"AssizeRideModel", "isDigit", "(I)Z"⟩, prog_14_method_10_code, 1, (Option.some FieldType.boolean), [(0, .iload_n 0, mX), (1, .bipush 48, mX), (3, .if_icmp .lt 13, mX), (6, .iload_n 0, mX), (7, .bipush 57, mX), (9, .if_icmp .gt 7, mX), (12, .iconst 1, mX), (13, .goto 4, mX), (16, .iconst 0, mX), (17, .ireturn, mX)])
noncomputable def mt304 : am_M := (⟨"AssizeRideModel", "readClause", "()Z"⟩, prog_14_method_40_code, 6, (Option.some FieldType.boolean), [(0, .aload_n 0, mX), (1, .getfield 356, (12, 3, 0)), (4, .iconst 1, mX), (5, .if_icmp .ne 19, mX), (8, .aload_n 0, mX), (9, .getfield 353, (12, 4, 0)), (12, .ifCond .lt 12, mX), (15, .aload_n 0, mX), (16, .getfield 353, (12, 4, 0)), (19, .bipush 16, mX), (21, .if_icmp .le 9, mX), (24, .aload_n 0, mX), (25, .iconst 1, mX), (26, .invokevirtual 437, (305, 2, 0)), (29, .ireturn, mX), (30, .aload_n 0, mX), (31, .getfield 353, (12, 4, 0)), (34, .istore_n 1, mX), (35, .iload_n 1, mX), (36, .invokestatic 480, (306, 1, 0)), (39, .istore_n 2, mX), (40, .aload_n 0, mX), (41, .getfield 51, (12, 26, 0)), (44, .bipush 30, mX), (46, .iaload, mX), (47, .istore_n 3, mX), (48, .iload_n 2, mX), (49, .bipush 7, mX), (51, .bipush 13, mX), (53, .invokestatic 318, (273, 3, 0)), (56, .ifCond .eq 19, mX), (59, .aload_n 0, mX), (60, .iload_n 2, mX), (61, .lconst 0, mX), (62, .iload_n 3, mX), (63, .invokevirtual 483, (307, 4, 0)), (66, .ifCond .eq 9, mX), (69, .aload_n 0, mX), (70, .iconst 3, mX), (71, .invokevirtual 437, (305, 2, 0)), (74, .ireturn, mX), (75, .iload_n 3, mX), (76, .bipush 40, mX), (78, .if_icmp .ne 9, mX), (81, .aload_n 0, mX), (82, .iconst 4, mX), (83, .invokevirtual 437, (305, 2, 0)), (86, .ireturn, mX), (87, .sipush 1200, mX), (90, .iload_n 3, mX), (91, .iadd, mX), (92, .istore 4, mX), (94, .aload_n 0, mX), (95, .getfield 54, (12, 27, 0)), (98, .iload 4, mX), (100, .iload_n 2, mX), (101, .iastore, mX), (102, .aload_n 0, mX), (103, .getfield 57, (12, 28, 0)), (106, .iload 4, mX), (108, .lconst 0, mX), (109, .lastore, mX), (110, .aload_n 0, mX), (111, .getfield 61, (12, 29, 0)), (114, .iload 4, mX), (116, .iconst 0, mX), (117, .iastore, mX), (118, .aload_n 0, mX), (119, .getfield 67, (12, 31, 0)), (122, .iload 4, mX), (124, .iconst 0, mX), (125, .iastore, mX), (126, .aload_n 0, mX), (127, .invokevirtual 331, (299, 1, 0)), (130, .iload_n 2, mX), (131, .bipush 7, mX), (133, .if_icmp .ge 51, mX), (136, .aload_n 0, mX), (137, .getfield 356, (12, 3, 0)), (140, .iconst 1, mX), (141, .if_icmp .eq 9, mX), (144, .aload_n 0, mX), (145, .iconst 1, mX), (146, .invokevirtual 437, (305, 2, 0)), (149, .ireturn, mX), (150, .aload_n 0, mX), (151, .iload_n 2, mX), (152, .aload_n 0, mX), (153, .getfield 363, (12, 8, 0)), (156, .iload_n 3, mX), (157, .invokevirtual 483, (307, 4, 0)), (160, .ifCond .eq 9, mX), (163, .aload_n 0, mX), (164, .iconst 3, mX), (165, .invokevirtual 437, (305, 2, 0)), (168, .ireturn, mX), (169, .aload_n 0, mX), (170, .getfield 57, (12, 28, 0)), (173, .iload 4, mX), (175, .aload_n 0, mX), (176, .getfield 363, (12, 8, 0)), (179, .lastore, mX), (180, .aload_n 0, mX), (181, .invokevirtual 331, (299, 1, 0)), (184, .iconst 1, mX), (185, .istore 5, mX), (187, .iload_n 1, mX), (188, .ifCond .ne 14, mX), (191, .aload_n 0, mX), (192, .iload 4, mX), (194, .invokevirtual 487, (308, 2, 0)), (197, .istore 5, mX), (199, .goto 148, mX), (202, .iload_n 1, mX), (203, .iconst 1, mX), (204, .if_icmp .ne 14, mX), (207, .aload_n 0, mX), (208, .iload 4, mX), (210, .invokevirtual 490, (316, 2, 0)), (213, .istore 5, mX), (215, .goto 132, mX), (218, .iload_n 1, mX), (219, .iconst 3, mX), (220, .if_icmp .ne 18, mX), (223, .aload_n 0, mX), (224, .iload 4, mX), (226, .iconst 0, mX), (227, .sipush 9999, mX), (230, .invokevirtual 493, (317, 4, 0)), (233, .istore 5, mX), (235, .goto 112, mX), (238, .iload_n 1, mX), (239, .bipush 16, mX), (241, .if_icmp .ne 14, mX), (244, .aload_n 0, mX), (245, .iload 4, mX), (247, .invokevirtual 496, (318, 2, 0)), (250, .istore 5, mX), (252, .goto 95, mX), (255, .iload_n 2, mX), (256, .bipush 6, mX), (258, .if_icmp .le 66, mX), (261, .iload_n 2, mX), (262, .bipush 13, mX), (264, .if_icmp .ge 60, mX), (267, .aload_n 0, mX), (268, .iload 4, mX), (270, .iload_n 2, mX), (271, .bipush 7, mX), (273, .if_icmp .ne 7, mX), (276, .iconst 1, mX), (277, .goto 4, mX), (280, .iconst 0, mX), (281, .iload_n 2, mX), (282, .bipush 8, mX), (284, .if_icmp .ne 9, mX), (287, .sipush 9999, mX), (290, .goto 26, mX), (293, .iload_n 2, mX), (294, .bipush 9, mX), (296, .if_icmp .ne 7, mX), (299, .iconst 4, mX), (300, .goto 16, mX), (303, .iload_n 2, mX), (304, .bipush 12, mX), (306, .if_icmp .ne 8, mX), (309, .bipush 23, mX), (311, .goto 5, mX), (314, .bipush 12, mX), (316, .invokevirtual 493, (317, 4, 0)), (319, .istore 5, mX), (321, .goto 26, mX), (324, .aload_n 0, mX), (325, .getfield 61, (12, 29, 0)), (328, .iload 4, mX), (330, .iload_n 1, mX), (331, .iconst 5, mX), (332, .if_icmp .eq 9, mX), (335, .iload_n 1, mX), (336, .bipush 15, mX), (338, .if_icmp .ne 7, mX), (341, .iconst 0, mX), (342, .goto 4, mX), (345, .iconst 1, mX), (346, .iastore, mX), (347, .iload 5, mX), (349, .ifCond .ne 5, mX), (352, .iconst 0, mX), (353, .ireturn, mX), (354, .aload_n 0, mX), (355, .getfield 356, (12, 3, 0)), (358, .iconst 3, mX), (359, .if_icmp .eq 9, mX), (362, .aload_n 0, mX), (363, .iconst 1, mX), (364, .invokevirtual 437, (305, 2, 0)), (367, .ireturn, mX), (368, .aload_n 0, mX), (369, .invokevirtual 331, (299, 1, 0)), (372, .aload_n 0, mX), (373, .getfield 51, (12, 26, 0)), (376, .bipush 30, mX), (378, .dup2, mX), (379, .iaload, mX), (380, .iconst 1, mX), (381, .iadd, mX), (382, .iastore, mX), (383, .iconst 1, mX), (384, .ireturn, mX)])
noncomputable def mt305 : am_M := (⟨"AssizeRideModel", "wrong", "(I)Z"⟩, prog_14_method_27_code, 2, (Option.some FieldType.boolean), [(0, .aload_n 0, mX), (1, .iload_n 1, mX), (2, .putfield 431, (12, 22, 0)), (5, .aload_n 0, mX), (6, .aload_n 0, mX), (7, .getfield 350, (12, 5, 0)), (10, .putfield 41, (12, 23, 0)), (13, .iconst 0, mX), (14, .ireturn, mX)])
noncomputable def mt306 : am_M := (⟨"AssizeRideModel", "kindOf", "(I)I"⟩, prog_14_method_38_code, 1, (Option.some FieldType.int), [(0, .iload_n 0, mX), (1, .iconst 4, mX), (2, .if_icmp .gt 7, mX), (5, .iload_n 0, mX), (6, .goto 28, mX), (9, .iload_n 0, mX), (10, .bipush 14, mX), (12, .if_icmp .ge 9, mX), (15, .iload_n 0, mX), (16, .iconst 1, mX), (17, .isub, mX), (18, .goto 16, mX), (21, .iload_n 0, mX), (22, .bipush 16, mX), (24, .if_icmp .ge 8, mX), (27, .bipush 13, mX), (29, .goto 5, mX), (32, .bipush 14, mX), (34, .ireturn, mX)])
noncomputable def mt307 : am_M := (⟨"AssizeRideModel", "isTold", "(IJI)Z"⟩, prog_14_method_39_code, 6, (Option.some FieldType.boolean), [(0, .sipush 1200, mX), (3, .istore 5, mX), (5, .iload 5, mX), (7, .sipush 1200, mX), (10, .iload 4, mX), (12, .iadd, mX), (13, .if_icmp .ge 34, mX), (16, .aload_n 0, mX), (17, .getfield 54, (12, 27, 0)), (20, .iload 5, mX), (22, .iaload, mX), (23, .iload_n 1, mX), (24, .if_icmp .ne 17, mX), (27, .aload_n 0, mX), (28, .getfield 57, (12, 28, 0)), (31, .iload 5, mX), (33, .laload, mX), (34, .lload_n 2, mX), (35, .lcmp, mX), (36, .ifCond .ne 5, mX), (39, .iconst 1, mX), (40, .ireturn, mX), (41, .iinc 5 1, mX), (44, .goto (-39), mX), (47, .iconst 0, mX), (48, .ireturn, mX)])
noncomputable def mt308 : am_M := (⟨"AssizeRideModel", "readDeed", "(I)Z"⟩, prog_14_method_36_code, 2, (Option.some FieldType.boolean), [(0, .aload_n 0, mX), (1, .getfield 356, (12, 3, 0)), (4, .iconst 4, mX), (5, .if_icmp .eq 9, mX), (8, .aload_n 0, mX), (9, .iconst 1, mX), (10, .invokevirtual 437, (305, 2, 0)), (13, .ireturn, mX), (14, .aload_n 0, mX), (15, .invokevirtual 331, (299, 1, 0)), (18, .aload_n 0, mX), (19, .getfield 64, (12, 30, 0)), (22, .iload_n 1, mX), (23, .aload_n 0, mX), (24, .getfield 452, (12, 42, 0)), (27, .iastore, mX), (28, .aload_n 0, mX), (29, .getfield 70, (12, 32, 0)), (32, .iload_n 1, mX), (33, .aload_n 0, mX), (34, .getfield 434, (12, 44, 0)), (37, .iastore, mX), (38, .aload_n 0, mX), (39, .iconst 0, mX), (40, .putfield 449, (12, 46, 0)), (43, .aload_n 0, mX), (44, .iconst 0, mX), (45, .putfield 462, (12, 47, 0)), (48, .aload_n 0, mX), (49, .invokevirtual 465, (309, 1, 0)), (52, .ifCond .ne 5, mX), (55, .iconst 0, mX), (56, .ireturn, mX), (57, .aload_n 0, mX), (58, .getfield 356, (12, 3, 0)), (61, .iconst 1, mX), (62, .if_icmp .ne 31, mX), (65, .aload_n 0, mX), (66, .getfield 353, (12, 4, 0)), (69, .bipush 17, mX), (71, .if_icmp .ne 22, mX), (74, .aload_n 0, mX), (75, .invokevirtual 331, (299, 1, 0)), (78, .aload_n 0, mX), (79, .invokevirtual 465, (309, 1, 0)), (82, .ifCond .ne 5, mX), (85, .iconst 0, mX), (86, .ireturn, mX), (87, .aload_n 0, mX), (88, .bipush (-4), mX), (90, .invokevirtual 455, (313, 2, 0)), (93, .aload_n 0, mX), (94, .getfield 67, (12, 31, 0)), (97, .iload_n 1, mX), (98, .aload_n 0, mX), (99, .getfield 449, (12, 46, 0)), (102, .iastore, mX), (103, .aload_n 0, mX), (104, .getfield 73, (12, 33, 0)), (107, .iload_n 1, mX), (108, .aload_n 0, mX), (109, .getfield 434, (12, 44, 0)), (112, .aload_n 0, mX), (113, .getfield 70, (12, 32, 0)), (116, .iload_n 1, mX), (117, .iaload, mX), (118, .isub, mX), (119, .iastore, mX), (120, .iconst 1, mX), (121, .ireturn, mX)])
noncomputable def mt309 : am_M := (⟨"AssizeRideModel", "readCond", "()Z"⟩, prog_14_method_34_code, 1, (Option.some FieldType.boolean), [(0, .aload_n 0, mX), (1, .invokevirtual 474, (310, 1, 0)), (4, .ifCond .ne 5, mX), (7, .iconst 0, mX), (8, .ireturn, mX), (9, .aload_n 0, mX), (10, .getfield 356, (12, 3, 0)), (13, .iconst 1, mX), (14, .if_icmp .ne 34, mX), (17, .aload_n 0, mX), (18, .getfield 353, (12, 4, 0)), (21, .bipush 18, mX), (23, .if_icmp .ne 25, mX), (26, .aload_n 0, mX), (27, .invokevirtual 331, (299, 1, 0)), (30, .aload_n 0, mX), (31, .invokevirtual 474, (310, 1, 0)), (34, .ifCond .ne 5, mX), (37, .iconst 0, mX), (38, .ireturn, mX), (39, .aload_n 0, mX), (40, .bipush (-2), mX), (42, .invokevirtual 455, (313, 2, 0)), (45, .goto (-36), mX), (48, .iconst 1, mX), (49, .ireturn, mX)])
noncomputable def mt310 : am_M := (⟨"AssizeRideModel", "readAll", "()Z"⟩, prog_14_method_33_code, 1, (Option.some FieldType.boolean), [(0, .aload_n 0, mX), (1, .invokevirtual 471, (311, 1, 0)), (4, .ifCond .ne 5, mX), (7, .iconst 0, mX), (8, .ireturn, mX), (9, .aload_n 0, mX), (10, .getfield 356, (12, 3, 0)), (13, .iconst 1, mX), (14, .if_icmp .ne 33, mX), (17, .aload_n 0, mX), (18, .getfield 353, (12, 4, 0)), (21, .bipush 19, mX), (23, .if_icmp .ne 24, mX), (26, .aload_n 0, mX), (27, .invokevirtual 331, (299, 1, 0)), (30, .aload_n 0, mX), (31, .invokevirtual 471, (311, 1, 0)), (34, .ifCond .ne 5, mX), (37, .iconst 0, mX), (38, .ireturn, mX), (39, .aload_n 0, mX), (40, .iconst (-1), mX), (41, .invokevirtual 455, (313, 2, 0)), (44, .goto (-35), mX), (47, .iconst 1, mX), (48, .ireturn, mX)])
noncomputable def mt311 : am_M := (⟨"AssizeRideModel", "readOne", "()Z"⟩, prog_14_method_32_code, 3, (Option.some FieldType.boolean), [(0, .iconst 0, mX), (1, .istore_n 1, mX), (2, .aload_n 0, mX), (3, .getfield 356, (12, 3, 0)), (6, .iconst 1, mX), (7, .if_icmp .ne 22, mX), (10, .aload_n 0, mX), (11, .getfield 353, (12, 4, 0)), (14, .bipush 20, mX), (16, .if_icmp .ne 13, mX), (19, .iinc 1 1, mX), (22, .aload_n 0, mX), (23, .invokevirtual 331, (299, 1, 0)), (26, .goto (-24), mX), (29, .aload_n 0, mX), (30, .getfield 356, (12, 3, 0)), (33, .iconst 5, mX), (34, .if_icmp .ne 73, mX), (37, .aload_n 0, mX), (38, .getfield 462, (12, 47, 0)), (41, .bipush 6, mX), (43, .if_icmp .ne 9, mX), (46, .aload_n 0, mX), (47, .iconst 4, mX), (48, .invokevirtual 437, (305, 2, 0)), (51, .ireturn, mX), (52, .aload_n 0, mX), (53, .dup, mX), (54, .getfield 462, (12, 47, 0)), (57, .iconst 1, mX), (58, .iadd, mX), (59, .putfield 462, (12, 47, 0)), (62, .aload_n 0, mX), (63, .invokevirtual 331, (299, 1, 0)), (66, .aload_n 0, mX), (67, .invokevirtual 465, (309, 1, 0)), (70, .ifCond .ne 5, mX), (73, .iconst 0, mX), (74, .ireturn, mX), (75, .aload_n 0, mX), (76, .getfield 356, (12, 3, 0)), (79, .bipush 6, mX), (81, .if_icmp .eq 9, mX), (84, .aload_n 0, mX), (85, .iconst 1, mX), (86, .invokevirtual 437, (305, 2, 0)), (89, .ireturn, mX), (90, .aload_n 0, mX), (91, .dup, mX), (92, .getfield 462, (12, 47, 0)), (95, .iconst 1, mX), (96, .isub, mX), (97, .putfield 462, (12, 47, 0)), (100, .aload_n 0, mX), (101, .invokevirtual 331, (299, 1, 0)), (104, .goto 12, mX), (107, .aload_n 0, mX), (108, .invokevirtual 468, (312, 1, 0)), (111, .ifCond .ne 5, mX), (114, .iconst 0, mX), (115, .ireturn, mX), (116, .iconst 0, mX), (117, .istore_n 2, mX), (118, .iload_n 2, mX), (119, .iload_n 1, mX), (120, .if_icmp .ge 15, mX), (123, .aload_n 0, mX), (124, .bipush (-3), mX), (126, .invokevirtual 455, (313, 2, 0)), (129, .iinc 2 1, mX), (132, .goto (-14), mX), (135, .iconst 1, mX), (136, .ireturn, mX)])
noncomputable def mt312 : am_M := (⟨"AssizeRideModel", "readTest", "()Z"⟩, prog_14_method_31_code, 2, (Option.some FieldType.boolean), [(0, .aload_n 0, mX), (1, .getfield 356, (12, 3, 0)), (4, .iconst 2, mX), (5, .if_icmp .eq 26, mX), (8, .aload_n 0, mX), (9, .getfield 356, (12, 3, 0)), (12, .iconst 1, mX), (13, .if_icmp .ne 12, mX), (16, .aload_n 0, mX), (17, .getfield 353, (12, 4, 0)), (20, .bipush 17, mX), (22, .if_icmp .lt 9, mX), (25, .aload_n 0, mX), (26, .iconst 1, mX), (27, .invokevirtual 437, (305, 2, 0)), (30, .ireturn, mX), (31, .aload_n 0, mX), (32, .getfield 449, (12, 46, 0)), (35, .bipush 20, mX), (37, .if_icmp .ne 9, mX), (40, .aload_n 0, mX), (41, .iconst 4, mX), (42, .invokevirtual 437, (305, 2, 0)), (45, .ireturn, mX), (46, .sipush 12600, mX), (49, .aload_n 0, mX), (50, .getfield 452, (12, 42, 0)), (53, .iadd, mX), (54, .istore_n 1, mX), (55, .aload_n 0, mX), (56, .dup, mX), (57, .getfield 452, (12, 42, 0)), (60, .iconst 1, mX), (61, .iadd, mX), (62, .putfield 452, (12, 42, 0)), (65, .aload_n 0, mX), (66, .aload_n 0, mX), (67, .getfield 449, (12, 46, 0)), (70, .invokevirtual 455, (313, 2, 0)), (73, .aload_n 0, mX), (74, .dup, mX), (75, .getfield 449, (12, 46, 0)), (78, .iconst 1, mX), (79, .iadd, mX), (80, .putfield 449, (12, 46, 0)), (83, .aload_n 0, mX), (84, .getfield 79, (12, 35, 0)), (87, .iload_n 1, mX), (88, .aload_n 0, mX), (89, .getfield 440, (12, 43, 0)), (92, .iastore, mX), (93, .aload_n 0, mX), (94, .invokevirtual 458, (314, 1, 0)), (97, .ifCond .ne 5, mX), (100, .iconst 0, mX), (101, .ireturn, mX), (102, .aload_n 0, mX), (103, .getfield 82, (12, 36, 0)), (106, .iload_n 1, mX), (107, .aload_n 0, mX), (108, .getfield 443, (12, 48, 0)), (111, .iastore, mX), (112, .aload_n 0, mX), (113, .getfield 76, (12, 34, 0)), (116, .iload_n 1, mX), (117, .iconst 0, mX), (118, .iastore, mX), (119, .aload_n 0, mX), (120, .getfield 85, (12, 37, 0)), (123, .iload_n 1, mX), (124, .iconst 0, mX), (125, .iastore, mX), (126, .aload_n 0, mX), (127, .getfield 356, (12, 3, 0)), (130, .iconst 1, mX), (131, .if_icmp .ne 21, mX), (134, .aload_n 0, mX), (135, .getfield 353, (12, 4, 0)), (138, .bipush 21, mX), (140, .if_icmp .lt 12, mX), (143, .aload_n 0, mX), (144, .getfield 353, (12, 4, 0)), (147, .bipush 23, mX), (149, .if_icmp .le 5, mX), (152, .iconst 1, mX), (153, .ireturn, mX), (154, .aload_n 0, mX), (155, .getfield 76, (12, 34, 0)), (158, .iload_n 1, mX), (159, .aload_n 0, mX), (160, .getfield 353, (12, 4, 0)), (163, .bipush 21, mX), (165, .isub, mX), (166, .iconst 1, mX), (167, .iadd, mX), (168, .iastore, mX), (169, .aload_n 0, mX), (170, .invokevirtual 331, (299, 1, 0)), (173, .aload_n 0, mX), (174, .invokevirtual 458, (314, 1, 0)), (177, .ifCond .ne 5, mX), (180, .iconst 0, mX), (181, .ireturn, mX), (182, .aload_n 0, mX), (183, .getfield 85, (12, 37, 0)), (186, .iload_n 1, mX), (187, .aload_n 0, mX), (188, .getfield 443, (12, 48, 0)), (191, .iastore, mX), (192, .iconst 1, mX), (193, .ireturn, mX)])
noncomputable def mt313 : am_M := (⟨"AssizeRideModel", "addStep", "(I)V"⟩, prog_14_method_28_code, 2, (Option.none : Option FieldType), [(0, .aload_n 0, mX), (1, .getfield 94, (12, 40, 0)), (4, .sipush 24600, mX), (7, .aload_n 0, mX), (8, .getfield 434, (12, 44, 0)), (11, .iadd, mX), (12, .iload_n 1, mX), (13, .iastore, mX), (14, .aload_n 0, mX), (15, .dup, mX), (16, .getfield 434, (12, 44, 0)), (19, .iconst 1, mX), (20, .iadd, mX), (21, .putfield 434, (12, 44, 0)), (24, .return_, mX)])
noncomputable def mt314 : am_M := (⟨"AssizeRideModel", "readSum", "()Z"⟩, prog_14_method_30_code, 1, (Option.some FieldType.boolean), [(0, .aload_n 0, mX), (1, .iconst 0, mX), (2, .putfield 443, (12, 48, 0)), (5, .aload_n 0, mX), (6, .aload_n 0, mX), (7, .getfield 443, (12, 48, 0)), (10, .invokevirtual 446, (315, 2, 0)), (13, .ifCond .ne 5, mX), (16, .iconst 0, mX), (17, .ireturn, mX), (18, .aload_n 0, mX), (19, .dup, mX), (20, .getfield 443, (12, 48, 0)), (23, .iconst 1, mX), (24, .iadd, mX), (25, .putfield 443, (12, 48, 0)), (28, .aload_n 0, mX), (29, .getfield 356, (12, 3, 0)), (32, .bipush 7, mX), (34, .if_icmp .eq 5, mX), (37, .iconst 1, mX), (38, .ireturn, mX), (39, .aload_n 0, mX), (40, .invokevirtual 331, (299, 1, 0)), (43, .goto (-38), mX)])
noncomputable def mt315 : am_M := (⟨"AssizeRideModel", "readTerm", "(I)Z"⟩, prog_14_method_29_code, 4, (Option.some FieldType.boolean), [(0, .aload_n 0, mX), (1, .getfield 356, (12, 3, 0)), (4, .iconst 2, mX), (5, .if_icmp .ne 7, mX), (8, .iconst 1, mX), (9, .goto 4, mX), (12, .iconst 0, mX), (13, .istore_n 2, mX), (14, .iload_n 2, mX), (15, .ifCond .ne 26, mX), (18, .aload_n 0, mX), (19, .getfield 356, (12, 3, 0)), (22, .iconst 1, mX), (23, .if_icmp .ne 12, mX), (26, .aload_n 0, mX), (27, .getfield 353, (12, 4, 0)), (30, .bipush 17, mX), (32, .if_icmp .lt 9, mX), (35, .aload_n 0, mX), (36, .iconst 1, mX), (37, .invokevirtual 437, (305, 2, 0)), (40, .ireturn, mX), (41, .iload_n 1, mX), (42, .iconst 4, mX), (43, .if_icmp .ne 9, mX), (46, .aload_n 0, mX), (47, .iconst 4, mX), (48, .invokevirtual 437, (305, 2, 0)), (51, .ireturn, mX), (52, .sipush 18600, mX), (55, .aload_n 0, mX), (56, .getfield 440, (12, 43, 0)), (59, .iadd, mX), (60, .istore_n 3, mX), (61, .aload_n 0, mX), (62, .getfield 88, (12, 38, 0)), (65, .iload_n 3, mX), (66, .iload_n 2, mX), (67, .ifCond .eq 7, mX), (70, .lconst 0, mX), (71, .goto 7, mX), (74, .aload_n 0, mX), (75, .getfield 363, (12, 8, 0)), (78, .lastore, mX), (79, .aload_n 0, mX), (80, .getfield 91, (12, 39, 0)), (83, .iload_n 3, mX), (84, .iload_n 2, mX), (85, .ifCond .eq 10, mX), (88, .aload_n 0, mX), (89, .getfield 378, (12, 7, 0)), (92, .goto 4, mX), (95, .iconst 0, mX), (96, .iastore, mX), (97, .aload_n 0, mX), (98, .dup, mX), (99, .getfield 440, (12, 43, 0)), (102, .iconst 1, mX), (103, .iadd, mX), (104, .putfield 440, (12, 43, 0)), (107, .aload_n 0, mX), (108, .invokevirtual 331, (299, 1, 0)), (111, .iconst 1, mX), (112, .ireturn, mX)])
noncomputable def mt316 : am_M := (⟨"AssizeRideModel", "readWords", "(I)Z"⟩, prog_14_method_37_code, 2, (Option.some FieldType.boolean), [(0, .aload_n 0, mX), (1, .getfield 64, (12, 30, 0)), (4, .iload_n 1, mX), (5, .aload_n 0, mX), (6, .getfield 477, (12, 45, 0)), (9, .iastore, mX), (10, .aload_n 0, mX), (11, .getfield 67, (12, 31, 0)), (14, .iload_n 1, mX), (15, .iconst 0, mX), (16, .iastore, mX), (17, .aload_n 0, mX), (18, .getfield 356, (12, 3, 0)), (21, .iconst 1, mX), (22, .if_icmp .eq 9, mX), (25, .aload_n 0, mX), (26, .iconst 1, mX), (27, .invokevirtual 437, (305, 2, 0)), (30, .ireturn, mX), (31, .aload_n 0, mX), (32, .getfield 356, (12, 3, 0)), (35, .iconst 1, mX), (36, .if_icmp .ne 64, mX), (39, .aload_n 0, mX), (40, .getfield 67, (12, 31, 0)), (43, .iload_n 1, mX), (44, .iaload, mX), (45, .bipush 8, mX), (47, .if_icmp .ne 9, mX), (50, .aload_n 0, mX), (51, .iconst 4, mX), (52, .invokevirtual 437, (305, 2, 0)), (55, .ireturn, mX), (56, .aload_n 0, mX), (57, .getfield 97, (12, 41, 0)), (60, .sipush 9900, mX), (63, .aload_n 0, mX), (64, .getfield 477, (12, 45, 0)), (67, .iadd, mX), (68, .aload_n 0, mX), (69, .getfield 363, (12, 8, 0)), (72, .lastore, mX), (73, .aload_n 0, mX), (74, .dup, mX), (75, .getfield 477, (12, 45, 0)), (78, .iconst 1, mX), (79, .iadd, mX), (80, .putfield 477, (12, 45, 0)), (83, .aload_n 0, mX), (84, .getfield 67, (12, 31, 0)), (87, .iload_n 1, mX), (88, .dup2, mX), (89, .iaload, mX), (90, .iconst 1, mX), (91, .iadd, mX), (92, .iastore, mX), (93, .aload_n 0, mX), (94, .invokevirtual 331, (299, 1, 0)), (97, .goto (-66), mX), (100, .iconst 1, mX), (101, .ireturn, mX)])
noncomputable def mt317 : am_M := (⟨"AssizeRideModel", "readNumber", "(III)Z"⟩, prog_14_method_35_code, 4, (Option.some FieldType.boolean), [(0, .aload_n 0, mX), (1, .getfield 356, (12, 3, 0)), (4, .iconst 2, mX), (5, .if_icmp .eq 9, mX), (8, .aload_n 0, mX), (9, .iconst 1, mX), (10, .invokevirtual 437, (305, 2, 0)), (13, .ireturn, mX), (14, .aload_n 0, mX), (15, .getfield 378, (12, 7, 0)), (18, .iload_n 2, mX), (19, .iload_n 3, mX), (20, .invokestatic 318, (273, 3, 0)), (23, .ifCond .ne 9, mX), (26, .aload_n 0, mX), (27, .iconst 2, mX), (28, .invokevirtual 437, (305, 2, 0)), (31, .ireturn, mX), (32, .aload_n 0, mX), (33, .getfield 61, (12, 29, 0)), (36, .iload_n 1, mX), (37, .aload_n 0, mX), (38, .getfield 378, (12, 7, 0)), (41, .iastore, mX), (42, .aload_n 0, mX), (43, .invokevirtual 331, (299, 1, 0)), (46, .iconst 1, mX), (47, .ireturn, mX)])
noncomputable def mt318 : am_M := (⟨"AssizeRideModel", "readStrike", "(I)Z"⟩, prog_14_method_41_code, 2, (Option.some FieldType.boolean), [(0, .aload_n 0, mX), (1, .iload_n 1, mX), (2, .iconst 0, mX), (3, .aload_n 0, mX), (4, .getfield 499, (12, 21, 0)), (7, .iconst 1, mX), (8, .isub, mX), (9, .invokevirtual 493, (317, 4, 0)), (12, .ifCond .ne 5, mX), (15, .iconst 0, mX), (16, .ireturn, mX), (17, .aload_n 0, mX), (18, .getfield 356, (12, 3, 0)), (21, .iconst 1, mX), (22, .if_icmp .ne 17, mX), (25, .aload_n 0, mX), (26, .getfield 57, (12, 28, 0)), (29, .iload_n 1, mX), (30, .aload_n 0, mX), (31, .getfield 363, (12, 8, 0)), (34, .lastore, mX), (35, .aload_n 0, mX), (36, .invokevirtual 331, (299, 1, 0)), (39, .iconst 1, mX), (40, .ireturn, mX)])
noncomputable def mt319 : am_M := (⟨"AssizeRideModel", "fault", "(I)I"⟩, prog_14_method_43_code, 2, (Option.some FieldType.int), [(0, .iload_n 1, mX), (1, .ifCond .ne 10, mX), (4, .aload_n 0, mX), (5, .getfield 431, (12, 22, 0)), (8, .goto 16, mX), (11, .iload_n 1, mX), (12, .iconst 1, mX), (13, .if_icmp .ne 10, mX), (16, .aload_n 0, mX), (17, .getfield 41, (12, 23, 0)), (20, .goto 4, mX), (23, .iconst (-1), mX), (24, .ireturn, mX)])
noncomputable def mt320 : am_M := (⟨"AssizeRideModel", "told", "(II)I"⟩, prog_14_method_44_code, 3, (Option.some FieldType.int), [(0, .iload_n 1, mX), (1, .iconst 0, mX), (2, .aload_n 0, mX), (3, .getfield 499, (12, 21, 0)), (6, .iconst 1, mX), (7, .isub, mX), (8, .invokestatic 318, (273, 3, 0)), (11, .ifCond .ne 5, mX), (14, .iconst (-1), mX), (15, .ireturn, mX), (16, .iload_n 2, mX), (17, .ifCond .ne 12, mX), (20, .aload_n 0, mX), (21, .getfield 45, (12, 24, 0)), (24, .iload_n 1, mX), (25, .iaload, mX), (26, .goto 32, mX), (29, .iload_n 2, mX), (30, .iconst 1, mX), (31, .if_icmp .ne 12, mX), (34, .aload_n 0, mX), (35, .getfield 48, (12, 25, 0)), (38, .iload_n 1, mX), (39, .iaload, mX), (40, .goto 18, mX), (43, .iload_n 2, mX), (44, .iconst 2, mX), (45, .if_icmp .ne 12, mX), (48, .aload_n 0, mX), (49, .getfield 51, (12, 26, 0)), (52, .iload_n 1, mX), (53, .iaload, mX), (54, .goto 4, mX), (57, .iconst (-1), mX), (58, .ireturn, mX)])
noncomputable def mt321 : am_M := (⟨"AssizeRideModel", "law", "(III)I"⟩, prog_14_method_53_code, 6, (Option.some FieldType.int), [(0, .aload_n 0, mX), (1, .iload_n 1, mX), (2, .iload_n 2, mX), (3, .iload_n 3, mX), (4, .invokevirtual 532, (322, 4, 0)), (7, .istore 4, mX), (9, .iload 4, mX), (11, .ifCond .eq 6, mX), (14, .iload 4, mX), (16, .ireturn, mX), (17, .aload_n 0, mX), (18, .iload_n 1, mX), (19, .aload_n 0, mX), (20, .getfield 529, (12, 49, 0)), (23, .iload_n 2, mX), (24, .iload_n 3, mX), (25, .invokevirtual 515, (284, 5, 0)), (28, .istore 5, mX), (30, .iload 5, mX), (32, .iconst (-1), mX), (33, .if_icmp .ne 7, mX), (36, .iconst (-1), mX), (37, .goto 8, mX), (40, .iload 5, mX), (42, .bipush 40, mX), (44, .idiv, mX), (45, .ireturn, mX)])
noncomputable def mt322 : am_M := (⟨"AssizeRideModel", "asked", "(III)I"⟩, prog_14_method_52_code, 4, (Option.some FieldType.int), [(0, .aload_n 0, mX), (1, .aload_n 0, mX), (2, .invokevirtual 525, (323, 1, 0)), (5, .putfield 529, (12, 49, 0)), (8, .iload_n 1, mX), (9, .iconst 0, mX), (10, .bipush 13, mX), (12, .invokestatic 318, (273, 3, 0)), (15, .ifCond .eq 17, mX), (18, .iload_n 2, mX), (19, .invokestatic 399, (277, 1, 0)), (22, .ifCond .eq 10, mX), (25, .iload_n 3, mX), (26, .invokestatic 384, (272, 1, 0)), (29, .ifCond .ne 6, mX), (32, .bipush (-2), mX), (34, .ireturn, mX), (35, .iload_n 1, mX), (36, .bipush 7, mX), (38, .if_icmp .ge 17, mX), (41, .aload_n 0, mX), (42, .getfield 529, (12, 49, 0)), (45, .lconst 0, mX), (46, .lcmp, mX), (47, .ifCond .ne 8, mX), (50, .bipush (-4), mX), (52, .goto 4, mX), (55, .iconst 0, mX), (56, .ireturn, mX)])
noncomputable def mt323 : am_M := (⟨"AssizeRideModel", "oneWord", "()J"⟩, prog_14_method_13_code, 3, (Option.some FieldType.long), [(0, .aload_n 0, mX), (1, .invokevirtual 381, (298, 1, 0)), (4, .aload_n 0, mX), (5, .getfield 356, (12, 3, 0)), (8, .iconst 1, mX), (9, .if_icmp .eq 5, mX), (12, .lconst 0, mX), (13, .lreturn, mX), (14, .aload_n 0, mX), (15, .getfield 363, (12, 8, 0)), (18, .lstore_n 1, mX), (19, .aload_n 0, mX), (20, .invokevirtual 331, (299, 1, 0)), (23, .aload_n 0, mX), (24, .getfield 356, (12, 3, 0)), (27, .bipush 8, mX), (29, .if_icmp .ne 7, mX), (32, .lload_n 1, mX), (33, .goto 4, mX), (36, .lconst 0, mX), (37, .lreturn, mX)])
noncomputable def mt324 : am_M := (⟨"AssizeRideModel", "tells", "(III)I"⟩, prog_14_method_54_code, 5, (Option.some FieldType.int), [(0, .aload_n 0, mX), (1, .iload_n 1, mX), (2, .iload_n 2, mX), (3, .iload_n 3, mX), (4, .invokevirtual 532, (322, 4, 0)), (7, .istore 4, mX), (9, .iload 4, mX), (11, .ifCond .eq 8, mX), (14, .iload 4, mX), (16, .goto 14, mX), (19, .aload_n 0, mX), (20, .iload_n 1, mX), (21, .aload_n 0, mX), (22, .getfield 529, (12, 49, 0)), (25, .iload_n 2, mX), (26, .iload_n 3, mX), (27, .invokevirtual 522, (283, 5, 0)), (30, .ireturn, mX)])
noncomputable def mt325 : am_M := (⟨"AssizeRideModel", "quarrel", "(III)I"⟩, prog_14_method_55_code, 9, (Option.some FieldType.int), [(0, .aload_n 0, mX), (1, .iload_n 1, mX), (2, .iload_n 2, mX), (3, .iload_n 3, mX), (4, .invokevirtual 532, (322, 4, 0)), (7, .istore 4, mX), (9, .iload 4, mX), (11, .ifCond .eq 6, mX), (14, .iload 4, mX), (16, .ireturn, mX), (17, .aload_n 0, mX), (18, .iload_n 1, mX), (19, .aload_n 0, mX), (20, .getfield 529, (12, 49, 0)), (23, .iload_n 2, mX), (24, .iload_n 3, mX), (25, .invokevirtual 515, (284, 5, 0)), (28, .istore 5, mX), (30, .iload 5, mX), (32, .iconst (-1), mX), (33, .if_icmp .ne 5, mX), (36, .iconst 0, mX), (37, .ireturn, mX), (38, .iconst 0, mX), (39, .istore 6, mX), (41, .iconst 0, mX), (42, .istore 7, mX), (44, .iconst 0, mX), (45, .istore 8, mX), (47, .iload 8, mX), (49, .aload_n 0, mX), (50, .getfield 499, (12, 21, 0)), (53, .if_icmp .ge 61, mX), (56, .aload_n 0, mX), (57, .getfield 45, (12, 24, 0)), (60, .iload 8, mX), (62, .iaload, mX), (63, .aload_n 0, mX), (64, .getfield 45, (12, 24, 0)), (67, .iload 5, mX), (69, .bipush 40, mX), (71, .idiv, mX), (72, .iaload, mX), (73, .if_icmp .ne 35, mX), (76, .aload_n 0, mX), (77, .iload 8, mX), (79, .iload_n 1, mX), (80, .aload_n 0, mX), (81, .getfield 529, (12, 49, 0)), (84, .iload_n 2, mX), (85, .iload_n 3, mX), (86, .invokevirtual 511, (285, 6, 0)), (89, .iconst (-1), mX), (90, .if_icmp .ne 6, mX), (93, .goto 15, mX), (96, .iload 6, mX), (98, .iconst 1, mX), (99, .iload 8, mX), (101, .ishl, mX), (102, .ior, mX), (103, .istore 6, mX), (105, .iinc 7 1, mX), (108, .iinc 8 1, mX), (111, .goto (-64), mX), (114, .iload 7, mX), (116, .iconst 1, mX), (117, .if_icmp .le 8, mX), (120, .iload 6, mX), (122, .goto 4, mX), (125, .iconst 0, mX), (126, .ireturn, mX)])
noncomputable def mt326 : am_M := (⟨"AssizeRideModel", "weigh", "(II)I"⟩, prog_14_method_63_code, 6, (Option.some FieldType.int), [(0, .aload_n 0, mX), (1, .invokevirtual 381, (298, 1, 0)), (4, .iload_n 1, mX), (5, .invokestatic 399, (277, 1, 0)), (8, .ifCond .eq 10, mX), (11, .iload_n 2, mX), (12, .invokestatic 384, (272, 1, 0)), (15, .ifCond .ne 6, mX), (18, .bipush (-2), mX), (20, .ireturn, mX), (21, .aload_n 0, mX), (22, .getfield 356, (12, 3, 0)), (25, .iconst 1, mX), (26, .if_icmp .eq 5, mX), (29, .iconst (-1), mX), (30, .ireturn, mX), (31, .aload_n 0, mX), (32, .getfield 363, (12, 8, 0)), (35, .lstore_n 3, mX), (36, .aload_n 0, mX), (37, .invokevirtual 331, (299, 1, 0)), (40, .aload_n 0, mX), (41, .getfield 356, (12, 3, 0)), (44, .iconst 3, mX), (45, .if_icmp .eq 5, mX), (48, .iconst (-1), mX), (49, .ireturn, mX), (50, .aload_n 0, mX), (51, .invokevirtual 331, (299, 1, 0)), (54, .aload_n 0, mX), (55, .invokevirtual 544, (327, 1, 0)), (58, .ifCond .ne 5, mX), (61, .iconst (-1), mX), (62, .ireturn, mX), (63, .aload_n 0, mX), (64, .iconst 0, mX), (65, .lload_n 3, mX), (66, .iload_n 1, mX), (67, .iload_n 2, mX), (68, .invokevirtual 515, (284, 5, 0)), (71, .istore 5, mX), (73, .iload 5, mX), (75, .iconst (-1), mX), (76, .if_icmp .ne 6, mX), (79, .bipush (-4), mX), (81, .ireturn, mX), (82, .aload_n 0, mX), (83, .aload_n 0, mX), (84, .iload 5, mX), (86, .sipush 200, mX), (89, .invokevirtual 547, (328, 3, 0)), (92, .putfield 113, (12, 54, 0)), (95, .aload_n 0, mX), (96, .aload_n 0, mX), (97, .iload 5, mX), (99, .aload_n 0, mX), (100, .getfield 113, (12, 54, 0)), (103, .invokevirtual 550, (331, 3, 0)), (106, .putfield 116, (12, 55, 0)), (109, .aload_n 0, mX), (110, .getfield 116, (12, 55, 0)), (113, .iconst (-1), mX), (114, .if_icmp .ne 7, mX), (117, .iconst 1, mX), (118, .goto 4, mX), (121, .iconst 0, mX), (122, .ireturn, mX)])
noncomputable def mt327 : am_M := (⟨"AssizeRideModel", "readFacts", "()Z"⟩, prog_14_method_56_code, 3, (Option.some FieldType.boolean), [(0, .aload_n 0, mX), (1, .getfield 106, (12, 52, 0)), (4, .sipush 200, mX), (7, .iconst 0, mX), (8, .iastore, mX), (9, .aload_n 0, mX), (10, .getfield 356, (12, 3, 0)), (13, .bipush 8, mX), (15, .if_icmp .eq 159, mX), (18, .aload_n 0, mX), (19, .getfield 106, (12, 52, 0)), (22, .sipush 200, mX), (25, .iaload, mX), (26, .istore_n 1, mX), (27, .aload_n 0, mX), (28, .getfield 356, (12, 3, 0)), (31, .iconst 1, mX), (32, .if_icmp .ne 9, mX), (35, .iload_n 1, mX), (36, .bipush 20, mX), (38, .if_icmp .ne 5, mX), (41, .iconst 0, mX), (42, .ireturn, mX), (43, .iconst 0, mX), (44, .istore_n 2, mX), (45, .iload_n 2, mX), (46, .iload_n 1, mX), (47, .if_icmp .ge 29, mX), (50, .aload_n 0, mX), (51, .getfield 100, (12, 50, 0)), (54, .sipush 4000, mX), (57, .iload_n 2, mX), (58, .iadd, mX), (59, .laload, mX), (60, .aload_n 0, mX), (61, .getfield 363, (12, 8, 0)), (64, .lcmp, mX), (65, .ifCond .ne 5, mX), (68, .iconst 0, mX), (69, .ireturn, mX), (70, .iinc 2 1, mX), (73, .goto (-28), mX), (76, .aload_n 0, mX), (77, .getfield 100, (12, 50, 0)), (80, .sipush 4000, mX), (83, .iload_n 1, mX), (84, .iadd, mX), (85, .aload_n 0, mX), (86, .getfield 363, (12, 8, 0)), (89, .lastore, mX), (90, .aload_n 0, mX), (91, .getfield 103, (12, 51, 0)), (94, .sipush 4000, mX), (97, .iload_n 1, mX), (98, .iadd, mX), (99, .iconst 1, mX), (100, .iastore, mX), (101, .aload_n 0, mX), (102, .invokevirtual 331, (299, 1, 0)), (105, .aload_n 0, mX), (106, .getfield 356, (12, 3, 0)), (109, .iconst 4, mX), (110, .if_icmp .ne 35, mX), (113, .aload_n 0, mX), (114, .invokevirtual 331, (299, 1, 0)), (117, .aload_n 0, mX), (118, .getfield 356, (12, 3, 0)), (121, .iconst 2, mX), (122, .if_icmp .eq 5, mX), (125, .iconst 0, mX), (126, .ireturn, mX), (127, .aload_n 0, mX), (128, .getfield 103, (12, 51, 0)), (131, .sipush 4000, mX), (134, .iload_n 1, mX), (135, .iadd, mX), (136, .aload_n 0, mX), (137, .getfield 378, (12, 7, 0)), (140, .iastore, mX), (141, .aload_n 0, mX), (142, .invokevirtual 331, (299, 1, 0)), (145, .aload_n 0, mX), (146, .getfield 356, (12, 3, 0)), (149, .iconst 3, mX), (150, .if_icmp .eq 5, mX), (153, .iconst 0, mX), (154, .ireturn, mX), (155, .aload_n 0, mX), (156, .invokevirtual 331, (299, 1, 0)), (159, .aload_n 0, mX), (160, .getfield 106, (12, 52, 0)), (163, .sipush 200, mX), (166, .dup2, mX), (167, .iaload, mX), (168, .iconst 1, mX), (169, .iadd, mX), (170, .iastore, mX), (171, .goto (-162), mX), (174, .iconst 1, mX), (175, .ireturn, mX)])
noncomputable def mt328 : am_M := (⟨"AssizeRideModel", "metOf", "(II)I"⟩, prog_14_method_60_code, 5, (Option.some FieldType.int), [(0, .iconst 0, mX), (1, .istore_n 3, mX), (2, .iconst 0, mX), (3, .istore 4, mX), (5, .iload 4, mX), (7, .aload_n 0, mX), (8, .getfield 67, (12, 31, 0)), (11, .iload_n 1, mX), (12, .iaload, mX), (13, .if_icmp .ge 27, mX), (16, .aload_n 0, mX), (17, .iload_n 1, mX), (18, .iload 4, mX), (20, .iload_n 2, mX), (21, .invokevirtual 538, (329, 4, 0)), (24, .ifCond .eq 10, mX), (27, .iload_n 3, mX), (28, .iconst 1, mX), (29, .iload 4, mX), (31, .ishl, mX), (32, .ior, mX), (33, .istore_n 3, mX), (34, .iinc 4 1, mX), (37, .goto (-32), mX), (40, .iload_n 3, mX), (41, .ireturn, mX)])
noncomputable def mt329 : am_M := (⟨"AssizeRideModel", "isMet", "(III)Z"⟩, prog_14_method_59_code, 8, (Option.some FieldType.boolean), [(0, .iload_n 1, mX), (1, .bipush 40, mX), (3, .idiv, mX), (4, .istore 4, mX), (6, .sipush 420, mX), (9, .iload 4, mX), (11, .imul, mX), (12, .aload_n 0, mX), (13, .getfield 64, (12, 30, 0)), (16, .iload_n 1, mX), (17, .iaload, mX), (18, .iadd, mX), (19, .iload_n 2, mX), (20, .iadd, mX), (21, .istore 5, mX), (23, .aload_n 0, mX), (24, .sipush 620, mX), (27, .iload 4, mX), (29, .imul, mX), (30, .aload_n 0, mX), (31, .getfield 79, (12, 35, 0)), (34, .iload 5, mX), (36, .iaload, mX), (37, .iadd, mX), (38, .aload_n 0, mX), (39, .getfield 82, (12, 36, 0)), (42, .iload 5, mX), (44, .iaload, mX), (45, .iload_n 3, mX), (46, .invokevirtual 535, (330, 4, 0)), (49, .istore 6, mX), (51, .aload_n 0, mX), (52, .sipush 620, mX), (55, .iload 4, mX), (57, .imul, mX), (58, .aload_n 0, mX), (59, .getfield 79, (12, 35, 0)), (62, .iload 5, mX), (64, .iaload, mX), (65, .iadd, mX), (66, .aload_n 0, mX), (67, .getfield 82, (12, 36, 0)), (70, .iload 5, mX), (72, .iaload, mX), (73, .iadd, mX), (74, .aload_n 0, mX), (75, .getfield 85, (12, 37, 0)), (78, .iload 5, mX), (80, .iaload, mX), (81, .iload_n 3, mX), (82, .invokevirtual 535, (330, 4, 0)), (85, .istore 7, mX), (87, .aload_n 0, mX), (88, .getfield 76, (12, 34, 0)), (91, .iload 5, mX), (93, .iaload, mX), (94, .ifCond .ne 16, mX), (97, .iload 6, mX), (99, .ifCond .le 7, mX), (102, .iconst 1, mX), (103, .goto 71, mX), (106, .iconst 0, mX), (107, .goto 67, mX), (110, .aload_n 0, mX), (111, .getfield 76, (12, 34, 0)), (114, .iload 5, mX), (116, .iaload, mX), (117, .iconst 1, mX), (118, .if_icmp .ne 18, mX), (121, .iload 6, mX), (123, .iload 7, mX), (125, .if_icmp .le 7, mX), (128, .iconst 1, mX), (129, .goto 45, mX), (132, .iconst 0, mX), (133, .goto 41, mX), (136, .aload_n 0, mX), (137, .getfield 76, (12, 34, 0)), (140, .iload 5, mX), (142, .iaload, mX), (143, .iconst 2, mX), (144, .if_icmp .ne 18, mX), (147, .iload 6, mX), (149, .iload 7, mX), (151, .if_icmp .ge 7, mX), (154, .iconst 1, mX), (155, .goto 19, mX), (158, .iconst 0, mX), (159, .goto 15, mX), (162, .iload 6, mX), (164, .iload 7, mX), (166, .if_icmp .ne 7, mX), (169, .iconst 1, mX), (170, .goto 4, mX), (173, .iconst 0, mX), (174, .ireturn, mX)])
noncomputable def mt330 : am_M := (⟨"AssizeRideModel", "sumOf", "(III)I"⟩, prog_14_method_58_code, 7, (Option.some FieldType.int), [(0, .iconst 0, mX), (1, .istore 4, mX), (3, .iload_n 1, mX), (4, .istore 5, mX), (6, .iload 5, mX), (8, .iload_n 1, mX), (9, .iload_n 2, mX), (10, .iadd, mX), (11, .if_icmp .ge 93, mX), (14, .iload 4, mX), (16, .aload_n 0, mX), (17, .getfield 91, (12, 39, 0)), (20, .iload 5, mX), (22, .iaload, mX), (23, .iadd, mX), (24, .istore 4, mX), (26, .iconst 0, mX), (27, .istore 6, mX), (29, .iload 6, mX), (31, .aload_n 0, mX), (32, .getfield 106, (12, 52, 0)), (35, .iload_n 3, mX), (36, .iaload, mX), (37, .if_icmp .ge 61, mX), (40, .aload_n 0, mX), (41, .getfield 88, (12, 38, 0)), (44, .iload 5, mX), (46, .laload, mX), (47, .lconst 0, mX), (48, .lcmp, mX), (49, .ifCond .eq 49, mX), (52, .aload_n 0, mX), (53, .getfield 100, (12, 50, 0)), (56, .bipush 20, mX), (58, .iload_n 3, mX), (59, .imul, mX), (60, .iload 6, mX), (62, .iadd, mX), (63, .laload, mX), (64, .aload_n 0, mX), (65, .getfield 88, (12, 38, 0)), (68, .iload 5, mX), (70, .laload, mX), (71, .lcmp, mX), (72, .ifCond .ne 20, mX), (75, .iload 4, mX), (77, .aload_n 0, mX), (78, .getfield 103, (12, 51, 0)), (81, .bipush 20, mX), (83, .iload_n 3, mX), (84, .imul, mX), (85, .iload 6, mX), (87, .iadd, mX), (88, .iaload, mX), (89, .iadd, mX), (90, .istore 4, mX), (92, .iinc 6 1, mX), (95, .goto (-66), mX), (98, .iinc 5 1, mX), (101, .goto (-95), mX), (104, .iload 4, mX), (106, .ireturn, mX)])
noncomputable def mt331 : am_M := (⟨"AssizeRideModel", "lackOf", "(II)I"⟩, prog_14_method_62_code, 4, (Option.some FieldType.int), [(0, .aload_n 0, mX), (1, .iload_n 1, mX), (2, .iload_n 2, mX), (3, .invokevirtual 541, (332, 3, 0)), (6, .ifCond .eq 5, mX), (9, .iconst (-1), mX), (10, .ireturn, mX), (11, .iconst 0, mX), (12, .istore_n 3, mX), (13, .iload_n 3, mX), (14, .aload_n 0, mX), (15, .getfield 67, (12, 31, 0)), (18, .iload_n 1, mX), (19, .iaload, mX), (20, .if_icmp .ge 24, mX), (23, .aload_n 0, mX), (24, .iload_n 1, mX), (25, .iload_n 2, mX), (26, .iconst 1, mX), (27, .iload_n 3, mX), (28, .ishl, mX), (29, .ixor, mX), (30, .invokevirtual 541, (332, 3, 0)), (33, .ifCond .eq 5, mX), (36, .iload_n 3, mX), (37, .ireturn, mX), (38, .iinc 3 1, mX), (41, .goto (-28), mX), (44, .bipush 99, mX), (46, .ireturn, mX)])
noncomputable def mt332 : am_M := (⟨"AssizeRideModel", "isMade", "(II)Z"⟩, prog_14_method_61_code, 7, (Option.some FieldType.boolean), [(0, .iconst 0, mX), (1, .istore_n 3, mX), (2, .iconst 0, mX), (3, .istore 4, mX), (5, .iload 4, mX), (7, .aload_n 0, mX), (8, .getfield 73, (12, 33, 0)), (11, .iload_n 1, mX), (12, .iaload, mX), (13, .if_icmp .ge 201, mX), (16, .aload_n 0, mX), (17, .getfield 94, (12, 40, 0)), (20, .sipush 820, mX), (23, .iload_n 1, mX), (24, .bipush 40, mX), (26, .idiv, mX), (27, .imul, mX), (28, .aload_n 0, mX), (29, .getfield 70, (12, 32, 0)), (32, .iload_n 1, mX), (33, .iaload, mX), (34, .iadd, mX), (35, .iload 4, mX), (37, .iadd, mX), (38, .iaload, mX), (39, .istore 5, mX), (41, .iload 5, mX), (43, .ifCond .lt 30, mX), (46, .aload_n 0, mX), (47, .getfield 109, (12, 53, 0)), (50, .iload_n 3, mX), (51, .iload_n 2, mX), (52, .iload 5, mX), (54, .ishr, mX), (55, .iconst 1, mX), (56, .iand, mX), (57, .iconst 1, mX), (58, .if_icmp .ne 7, mX), (61, .iconst 1, mX), (62, .goto 4, mX), (65, .iconst 0, mX), (66, .bastore, mX), (67, .iinc 3 1, mX), (70, .goto 138, mX), (73, .iload 5, mX), (75, .bipush (-3), mX), (77, .if_icmp .ne 30, mX), (80, .aload_n 0, mX), (81, .getfield 109, (12, 53, 0)), (84, .iload_n 3, mX), (85, .iconst 1, mX), (86, .isub, mX), (87, .aload_n 0, mX), (88, .getfield 109, (12, 53, 0)), (91, .iload_n 3, mX), (92, .iconst 1, mX), (93, .isub, mX), (94, .baload, mX), (95, .ifCond .ne 7, mX), (98, .iconst 1, mX), (99, .goto 4, mX), (102, .iconst 0, mX), (103, .bastore, mX), (104, .goto 104, mX), (107, .iinc 3 (-1), mX), (110, .aload_n 0, mX), (111, .getfield 109, (12, 53, 0)), (114, .iload_n 3, mX), (115, .baload, mX), (116, .istore 6, mX), (118, .aload_n 0, mX), (119, .getfield 109, (12, 53, 0)), (122, .iload_n 3, mX), (123, .iconst 1, mX), (124, .isub, mX), (125, .iload 5, mX), (127, .iconst (-1), mX), (128, .if_icmp .ne 27, mX), (131, .aload_n 0, mX), (132, .getfield 109, (12, 53, 0)), (135, .iload_n 3, mX), (136, .iconst 1, mX), (137, .isub, mX), (138, .baload, mX), (139, .ifCond .eq 12, mX), (142, .iload 6, mX), (144, .ifCond .eq 7, mX), (147, .iconst 1, mX), (148, .goto 59, mX), (151, .iconst 0, mX), (152, .goto 55, mX), (155, .iload 5, mX), (157, .bipush (-2), mX), (159, .if_icmp .ne 27, mX), (162, .aload_n 0, mX), (163, .getfield 109, (12, 53, 0)), (166, .iload_n 3, mX), (167, .iconst 1, mX), (168, .isub, mX), (169, .baload, mX), (170, .ifCond .ne 8, mX), (173, .iload 6, mX), (175, .ifCond .eq 7, mX), (178, .iconst 1, mX), (179, .goto 28, mX), (182, .iconst 0, mX), (183, .goto 24, mX), (186, .aload_n 0, mX), (187, .getfield 109, (12, 53, 0)), (190, .iload_n 3, mX), (191, .iconst 1, mX), (192, .isub, mX), (193, .baload, mX), (194, .ifCond .eq 12, mX), (197, .iload 6, mX), (199, .ifCond .ne 7, mX), (202, .iconst 1, mX), (203, .goto 4, mX), (206, .iconst 0, mX), (207, .bastore, mX), (208, .iinc 4 1, mX), (211, .goto (-206), mX), (214, .aload_n 0, mX), (215, .getfield 109, (12, 53, 0)), (218, .iconst 0, mX), (219, .baload, mX), (220, .ireturn, mX)])
noncomputable def mt333 : am_M := (⟨"AssizeRideModel", "why", "(I)I"⟩, prog_14_method_64_code, 2, (Option.some FieldType.int), [(0, .iload_n 1, mX), (1, .ifCond .ne 10, mX), (4, .aload_n 0, mX), (5, .getfield 113, (12, 54, 0)), (8, .goto 16, mX), (11, .iload_n 1, mX), (12, .iconst 1, mX), (13, .if_icmp .ne 10, mX), (16, .aload_n 0, mX), (17, .getfield 116, (12, 55, 0)), (20, .goto 4, mX), (23, .iconst (-1), mX), (24, .ireturn, mX)])
noncomputable def mt334 : am_M := (⟨"AssizeRideModel", "crown", "(IIII)I"⟩, prog_14_method_69_code, 5, (Option.some FieldType.int), [(0, .aload_n 0, mX), (1, .aload_n 0, mX), (2, .invokevirtual 525, (323, 1, 0)), (5, .putfield 529, (12, 49, 0)), (8, .aload_n 0, mX), (9, .iload_n 1, mX), (10, .invokevirtual 396, (276, 2, 0)), (13, .ifCond .eq 33, mX), (16, .iload_n 2, mX), (17, .invokestatic 384, (272, 1, 0)), (20, .ifCond .eq 26, mX), (23, .iload_n 3, mX), (24, .iconst 0, mX), (25, .bipush 9, mX), (27, .invokestatic 318, (273, 3, 0)), (30, .ifCond .eq 16, mX), (33, .iload 4, mX), (35, .iconst 0, mX), (36, .aload_n 0, mX), (37, .getfield 393, (12, 9, 0)), (40, .invokestatic 318, (273, 3, 0)), (43, .ifCond .ne 6, mX), (46, .bipush (-2), mX), (48, .ireturn, mX), (49, .aload_n 0, mX), (50, .getfield 529, (12, 49, 0)), (53, .lconst 0, mX), (54, .lcmp, mX), (55, .ifCond .ne 5, mX), (58, .iconst (-1), mX), (59, .ireturn, mX), (60, .aload_n 0, mX), (61, .getfield 406, (12, 56, 0)), (64, .bipush 100, mX), (66, .if_icmp .ne 8, mX), (69, .bipush (-3), mX), (71, .goto 15, mX), (74, .aload_n 0, mX), (75, .iconst 0, mX), (76, .iload_n 1, mX), (77, .iconst (-1), mX), (78, .iload_n 2, mX), (79, .iload_n 3, mX), (80, .iload 4, mX), (82, .iconst 0, mX), (83, .invokevirtual 563, (335, 8, 0)), (86, .ireturn, mX)])
noncomputable def mt335 : am_M := (⟨"AssizeRideModel", "begins", "(ZIIIIII)I"⟩, prog_14_method_68_code, 9, (Option.some FieldType.int), [(0, .aload_n 0, mX), (1, .getfield 406, (12, 56, 0)), (4, .istore 8, mX), (6, .aload_n 0, mX), (7, .getfield 119, (12, 57, 0)), (10, .iload 8, mX), (12, .iload_n 1, mX), (13, .bastore, mX), (14, .aload_n 0, mX), (15, .getfield 122, (12, 58, 0)), (18, .iload 8, mX), (20, .iload_n 1, mX), (21, .ifCond .eq 7, mX), (24, .iload_n 2, mX), (25, .goto 4, mX), (28, .iconst (-1), mX), (29, .iastore, mX), (30, .aload_n 0, mX), (31, .getfield 125, (12, 59, 0)), (34, .iload 8, mX), (36, .iload_n 1, mX), (37, .ifCond .eq 7, mX), (40, .iload_n 3, mX), (41, .goto 4, mX), (44, .iload_n 2, mX), (45, .iastore, mX), (46, .aload_n 0, mX), (47, .getfield 128, (12, 60, 0)), (50, .iload 8, mX), (52, .iload 4, mX), (54, .iastore, mX), (55, .aload_n 0, mX), (56, .getfield 131, (12, 61, 0)), (59, .iload 8, mX), (61, .iload 5, mX), (63, .iastore, mX), (64, .aload_n 0, mX), (65, .getfield 134, (12, 62, 0)), (68, .iload 8, mX), (70, .iload 6, mX), (72, .iastore, mX), (73, .aload_n 0, mX), (74, .getfield 137, (12, 63, 0)), (77, .iload 8, mX), (79, .iload 7, mX), (81, .iastore, mX), (82, .aload_n 0, mX), (83, .getfield 140, (12, 64, 0)), (86, .iload 8, mX), (88, .aload_n 0, mX), (89, .getfield 529, (12, 49, 0)), (92, .lastore, mX), (93, .aload_n 0, mX), (94, .getfield 161, (12, 71, 0)), (97, .iload 8, mX), (99, .iconst (-1), mX), (100, .iastore, mX), (101, .aload_n 0, mX), (102, .getfield 170, (12, 74, 0)), (105, .iload 8, mX), (107, .iconst 1, mX), (108, .iastore, mX), (109, .aload_n 0, mX), (110, .dup, mX), (111, .getfield 406, (12, 56, 0)), (114, .iconst 1, mX), (115, .iadd, mX), (116, .putfield 406, (12, 56, 0)), (119, .aload_n 0, mX), (120, .iload 8, mX), (122, .iconst 0, mX), (123, .invokevirtual 559, (290, 3, 0)), (126, .iload 8, mX), (128, .ireturn, mX)])
noncomputable def mt336 : am_M := (⟨"AssizeRideModel", "plea", "(IIIIII)I"⟩, prog_14_method_70_code, 7, (Option.some FieldType.int), [(0, .aload_n 0, mX), (1, .aload_n 0, mX), (2, .invokevirtual 525, (323, 1, 0)), (5, .putfield 529, (12, 49, 0)), (8, .aload_n 0, mX), (9, .iload_n 1, mX), (10, .invokevirtual 396, (276, 2, 0)), (13, .ifCond .eq 59, mX), (16, .aload_n 0, mX), (17, .iload_n 2, mX), (18, .invokevirtual 396, (276, 2, 0)), (21, .ifCond .eq 51, mX), (24, .iload_n 1, mX), (25, .iload_n 2, mX), (26, .if_icmp .eq 46, mX), (29, .iload_n 3, mX), (30, .invokestatic 384, (272, 1, 0)), (33, .ifCond .eq 39, mX), (36, .iload 4, mX), (38, .iconst 0, mX), (39, .bipush 9, mX), (41, .invokestatic 318, (273, 3, 0)), (44, .ifCond .eq 28, mX), (47, .iload 5, mX), (49, .iconst 0, mX), (50, .aload_n 0, mX), (51, .getfield 393, (12, 9, 0)), (54, .invokestatic 318, (273, 3, 0)), (57, .ifCond .eq 15, mX), (60, .iload 6, mX), (62, .iconst 1, mX), (63, .sipush 9999, mX), (66, .invokestatic 318, (273, 3, 0)), (69, .ifCond .ne 6, mX), (72, .bipush (-2), mX), (74, .ireturn, mX), (75, .aload_n 0, mX), (76, .getfield 529, (12, 49, 0)), (79, .lconst 0, mX), (80, .lcmp, mX), (81, .ifCond .ne 5, mX), (84, .iconst (-1), mX), (85, .ireturn, mX), (86, .aload_n 0, mX), (87, .getfield 406, (12, 56, 0)), (90, .bipush 100, mX), (92, .if_icmp .ne 8, mX), (95, .bipush (-3), mX), (97, .goto 17, mX), (100, .aload_n 0, mX), (101, .iconst 1, mX), (102, .iload_n 1, mX), (103, .iload_n 2, mX), (104, .iload_n 3, mX), (105, .iload 4, mX), (107, .iload 5, mX), (109, .iload 6, mX), (111, .invokevirtual 563, (335, 8, 0)), (114, .ireturn, mX)])
noncomputable def mt337 : am_M := (⟨"AssizeRideModel", "words", "(I)I"⟩, prog_14_method_72_code, 4, (Option.some FieldType.int), [(0, .aload_n 0, mX), (1, .invokevirtual 381, (298, 1, 0)), (4, .aload_n 0, mX), (5, .iload_n 1, mX), (6, .invokevirtual 567, (338, 2, 0)), (9, .ifCond .ne 6, mX), (12, .bipush (-2), mX), (14, .ireturn, mX), (15, .aload_n 0, mX), (16, .getfield 143, (12, 65, 0)), (19, .iload_n 1, mX), (20, .iaload, mX), (21, .ifCond .eq 6, mX), (24, .bipush (-4), mX), (26, .ireturn, mX), (27, .iconst 0, mX), (28, .istore_n 2, mX), (29, .aload_n 0, mX), (30, .getfield 356, (12, 3, 0)), (33, .iconst 1, mX), (34, .if_icmp .ne 33, mX), (37, .iload_n 2, mX), (38, .bipush 20, mX), (40, .if_icmp .ge 27, mX), (43, .aload_n 0, mX), (44, .getfield 173, (12, 75, 0)), (47, .sipush 3000, mX), (50, .iload_n 2, mX), (51, .iadd, mX), (52, .aload_n 0, mX), (53, .getfield 363, (12, 8, 0)), (56, .lastore, mX), (57, .iinc 2 1, mX), (60, .aload_n 0, mX), (61, .invokevirtual 331, (299, 1, 0)), (64, .goto (-35), mX), (67, .aload_n 0, mX), (68, .getfield 356, (12, 3, 0)), (71, .bipush 8, mX), (73, .if_icmp .ne 7, mX), (76, .iload_n 2, mX), (77, .ifCond .ne 5, mX), (80, .iconst (-1), mX), (81, .ireturn, mX), (82, .iconst 0, mX), (83, .istore_n 3, mX), (84, .iload_n 3, mX), (85, .iload_n 2, mX), (86, .if_icmp .ge 30, mX), (89, .aload_n 0, mX), (90, .getfield 173, (12, 75, 0)), (93, .bipush 30, mX), (95, .iload_n 1, mX), (96, .imul, mX), (97, .iload_n 3, mX), (98, .iadd, mX), (99, .aload_n 0, mX), (100, .getfield 173, (12, 75, 0)), (103, .sipush 3000, mX), (106, .iload_n 3, mX), (107, .iadd, mX), (108, .laload, mX), (109, .lastore, mX), (110, .iinc 3 1, mX), (113, .goto (-29), mX), (116, .aload_n 0, mX), (117, .getfield 176, (12, 76, 0)), (120, .iload_n 1, mX), (121, .iload_n 2, mX), (122, .iastore, mX), (123, .aload_n 0, mX), (124, .getfield 179, (12, 77, 0)), (127, .iload_n 1, mX), (128, .iconst 1, mX), (129, .bastore, mX), (130, .iload_n 2, mX), (131, .ireturn, mX)])
noncomputable def mt338 : am_M := (⟨"AssizeRideModel", "isCrown", "(I)Z"⟩, prog_14_method_67_code, 2, (Option.some FieldType.boolean), [(0, .aload_n 0, mX), (1, .iload_n 1, mX), (2, .invokevirtual 556, (339, 2, 0)), (5, .ifCond .eq 16, mX), (8, .aload_n 0, mX), (9, .getfield 119, (12, 57, 0)), (12, .iload_n 1, mX), (13, .baload, mX), (14, .ifCond .ne 7, mX), (17, .iconst 1, mX), (18, .goto 4, mX), (21, .iconst 0, mX), (22, .ireturn, mX)])
noncomputable def mt339 : am_M := (⟨"AssizeRideModel", "isMatter", "(I)Z"⟩, prog_14_method_66_code, 2, (Option.some FieldType.boolean), [(0, .iload_n 1, mX), (1, .iconst 0, mX), (2, .aload_n 0, mX), (3, .getfield 406, (12, 56, 0)), (6, .iconst 1, mX), (7, .isub, mX), (8, .invokestatic 318, (273, 3, 0)), (11, .ireturn, mX)])
noncomputable def mt340 : am_M := (⟨"AssizeRideModel", "allege", "(I)I"⟩, prog_14_method_73_code, 2, (Option.some FieldType.int), [(0, .aload_n 0, mX), (1, .invokevirtual 381, (298, 1, 0)), (4, .aload_n 0, mX), (5, .iload_n 1, mX), (6, .invokevirtual 567, (338, 2, 0)), (9, .ifCond .ne 6, mX), (12, .bipush (-2), mX), (14, .ireturn, mX), (15, .aload_n 0, mX), (16, .getfield 143, (12, 65, 0)), (19, .iload_n 1, mX), (20, .iaload, mX), (21, .ifCond .eq 6, mX), (24, .bipush (-4), mX), (26, .ireturn, mX), (27, .aload_n 0, mX), (28, .invokevirtual 544, (327, 1, 0)), (31, .ifCond .ne 5, mX), (34, .iconst (-1), mX), (35, .ireturn, mX), (36, .aload_n 0, mX), (37, .iconst 2, mX), (38, .iload_n 1, mX), (39, .imul, mX), (40, .invokevirtual 570, (341, 2, 0)), (43, .aload_n 0, mX), (44, .getfield 182, (12, 78, 0)), (47, .iload_n 1, mX), (48, .iconst 1, mX), (49, .bastore, mX), (50, .aload_n 0, mX), (51, .getfield 106, (12, 52, 0)), (54, .iconst 2, mX), (55, .iload_n 1, mX), (56, .imul, mX), (57, .iaload, mX), (58, .ireturn, mX)])
noncomputable def mt341 : am_M := (⟨"AssizeRideModel", "keepFacts", "(I)V"⟩, prog_14_method_57_code, 3, (Option.none : Option FieldType), [(0, .aload_n 0, mX), (1, .getfield 106, (12, 52, 0)), (4, .iload_n 1, mX), (5, .aload_n 0, mX), (6, .getfield 106, (12, 52, 0)), (9, .sipush 200, mX), (12, .iaload, mX), (13, .iastore, mX), (14, .iconst 0, mX), (15, .istore_n 2, mX), (16, .iload_n 2, mX), (17, .bipush 20, mX), (19, .if_icmp .ge 51, mX), (22, .aload_n 0, mX), (23, .getfield 100, (12, 50, 0)), (26, .bipush 20, mX), (28, .iload_n 1, mX), (29, .imul, mX), (30, .iload_n 2, mX), (31, .iadd, mX), (32, .aload_n 0, mX), (33, .getfield 100, (12, 50, 0)), (36, .sipush 4000, mX), (39, .iload_n 2, mX), (40, .iadd, mX), (41, .laload, mX), (42, .lastore, mX), (43, .aload_n 0, mX), (44, .getfield 103, (12, 51, 0)), (47, .bipush 20, mX), (49, .iload_n 1, mX), (50, .imul, mX), (51, .iload_n 2, mX), (52, .iadd, mX), (53, .aload_n 0, mX), (54, .getfield 103, (12, 51, 0)), (57, .sipush 4000, mX), (60, .iload_n 2, mX), (61, .iadd, mX), (62, .iaload, mX), (63, .iastore, mX), (64, .iinc 2 1, mX), (67, .goto (-51), mX), (70, .return_, mX)])
noncomputable def mt342 : am_M := (⟨"AssizeRideModel", "bad", "(I)I"⟩, prog_14_method_76_code, 2, (Option.some FieldType.int), [(0, .aload_n 0, mX), (1, .iload_n 1, mX), (2, .invokevirtual 567, (338, 2, 0)), (5, .ifCond .eq 11, mX), (8, .aload_n 0, mX), (9, .iload_n 1, mX), (10, .invokevirtual 577, (343, 2, 0)), (13, .goto 5, mX), (16, .bipush (-2), mX), (18, .ireturn, mX)])
noncomputable def mt343 : am_M := (⟨"AssizeRideModel", "badOf", "(I)I"⟩, prog_14_method_74_code, 6, (Option.some FieldType.int), [(0, .aload_n 0, mX), (1, .getfield 179, (12, 77, 0)), (4, .iload_n 1, mX), (5, .baload, mX), (6, .ifCond .eq 12, mX), (9, .aload_n 0, mX), (10, .getfield 182, (12, 78, 0)), (13, .iload_n 1, mX), (14, .baload, mX), (15, .ifCond .ne 6, mX), (18, .bipush 100, mX), (20, .ireturn, mX), (21, .aload_n 0, mX), (22, .iconst 0, mX), (23, .aload_n 0, mX), (24, .getfield 140, (12, 64, 0)), (27, .iload_n 1, mX), (28, .laload, mX), (29, .aload_n 0, mX), (30, .getfield 134, (12, 62, 0)), (33, .iload_n 1, mX), (34, .iaload, mX), (35, .aload_n 0, mX), (36, .getfield 128, (12, 60, 0)), (39, .iload_n 1, mX), (40, .iaload, mX), (41, .invokevirtual 515, (284, 5, 0)), (44, .istore_n 2, mX), (45, .iload_n 2, mX), (46, .iconst (-1), mX), (47, .if_icmp .ne 7, mX), (50, .sipush 200, mX), (53, .ireturn, mX), (54, .aload_n 0, mX), (55, .iconst 1, mX), (56, .aload_n 0, mX), (57, .getfield 140, (12, 64, 0)), (60, .iload_n 1, mX), (61, .laload, mX), (62, .aload_n 0, mX), (63, .getfield 134, (12, 62, 0)), (66, .iload_n 1, mX), (67, .iaload, mX), (68, .aload_n 0, mX), (69, .getfield 128, (12, 60, 0)), (72, .iload_n 1, mX), (73, .iaload, mX), (74, .invokevirtual 515, (284, 5, 0)), (77, .istore_n 3, mX), (78, .iconst 0, mX), (79, .istore 4, mX), (81, .iconst 0, mX), (82, .istore 5, mX), (84, .iload_n 3, mX), (85, .iconst (-1), mX), (86, .if_icmp .eq 81, mX), (89, .iload 5, mX), (91, .aload_n 0, mX), (92, .getfield 67, (12, 31, 0)), (95, .iload_n 3, mX), (96, .iaload, mX), (97, .if_icmp .ge 70, mX), (100, .iload 4, mX), (102, .aload_n 0, mX), (103, .getfield 176, (12, 76, 0)), (106, .iload_n 1, mX), (107, .iaload, mX), (108, .if_icmp .ge 32, mX), (111, .aload_n 0, mX), (112, .getfield 173, (12, 75, 0)), (115, .bipush 30, mX), (117, .iload_n 1, mX), (118, .imul, mX), (119, .iload 4, mX), (121, .iadd, mX), (122, .laload, mX), (123, .aload_n 0, mX), (124, .iload_n 3, mX), (125, .iload 5, mX), (127, .invokevirtual 573, (344, 3, 0)), (130, .lcmp, mX), (131, .ifCond .eq 9, mX), (134, .iinc 4 1, mX), (137, .goto (-37), mX), (140, .iload 4, mX), (142, .aload_n 0, mX), (143, .getfield 176, (12, 76, 0)), (146, .iload_n 1, mX), (147, .iaload, mX), (148, .if_icmp .ne 10, mX), (151, .sipush 300, mX), (154, .iload 5, mX), (156, .iadd, mX), (157, .ireturn, mX), (158, .iinc 4 1, mX), (161, .iinc 5 1, mX), (164, .goto (-80), mX), (167, .aload_n 0, mX), (168, .iload_n 2, mX), (169, .aload_n 0, mX), (170, .iload_n 2, mX), (171, .iconst 2, mX), (172, .iload_n 1, mX), (173, .imul, mX), (174, .invokevirtual 547, (328, 3, 0)), (177, .invokevirtual 550, (331, 3, 0)), (180, .istore 5, mX), (182, .iload 5, mX), (184, .iconst (-1), mX), (185, .if_icmp .ne 7, mX), (188, .iconst 0, mX), (189, .goto 9, mX), (192, .sipush 400, mX), (195, .iload 5, mX), (197, .iadd, mX), (198, .ireturn, mX)])
noncomputable def mt344 : am_M := (⟨"AssizeRideModel", "needed", "(II)J"⟩, prog_14_method_75_code, 3, (Option.some FieldType.long), [(0, .aload_n 0, mX), (1, .getfield 97, (12, 41, 0)), (4, .sipush 330, mX), (7, .iload_n 1, mX), (8, .bipush 40, mX), (10, .idiv, mX), (11, .imul, mX), (12, .aload_n 0, mX), (13, .getfield 64, (12, 30, 0)), (16, .iload_n 1, mX), (17, .iaload, mX), (18, .iadd, mX), (19, .iload_n 2, mX), (20, .iadd, mX), (21, .laload, mX), (22, .lreturn, mX)])
noncomputable def mt345 : am_M := (⟨"AssizeRideModel", "mend", "(I)I"⟩, prog_14_method_78_code, 8, (Option.some FieldType.int), [(0, .aload_n 0, mX), (1, .iload_n 1, mX), (2, .invokevirtual 567, (338, 2, 0)), (5, .ifCond .ne 6, mX), (8, .bipush (-2), mX), (10, .ireturn, mX), (11, .aload_n 0, mX), (12, .getfield 143, (12, 65, 0)), (15, .iload_n 1, mX), (16, .iaload, mX), (17, .ifCond .ne 12, mX), (20, .aload_n 0, mX), (21, .getfield 179, (12, 77, 0)), (24, .iload_n 1, mX), (25, .baload, mX), (26, .ifCond .ne 6, mX), (29, .bipush (-4), mX), (31, .ireturn, mX), (32, .aload_n 0, mX), (33, .bipush 6, mX), (35, .lconst 0, mX), (36, .iload_n 1, mX), (37, .invokevirtual 413, (282, 4, 0)), (40, .ifCond .ne 5, mX), (43, .iconst (-1), mX), (44, .ireturn, mX), (45, .aload_n 0, mX), (46, .iconst 1, mX), (47, .aload_n 0, mX), (48, .getfield 140, (12, 64, 0)), (51, .iload_n 1, mX), (52, .laload, mX), (53, .aload_n 0, mX), (54, .getfield 134, (12, 62, 0)), (57, .iload_n 1, mX), (58, .iaload, mX), (59, .aload_n 0, mX), (60, .getfield 128, (12, 60, 0)), (63, .iload_n 1, mX), (64, .iaload, mX), (65, .invokevirtual 515, (284, 5, 0)), (68, .istore_n 2, mX), (69, .iload_n 2, mX), (70, .iconst (-1), mX), (71, .if_icmp .ne 5, mX), (74, .iconst 0, mX), (75, .ireturn, mX), (76, .aload_n 0, mX), (77, .iload_n 1, mX), (78, .iload_n 2, mX), (79, .invokevirtual 580, (346, 3, 0)), (82, .aload_n 0, mX), (83, .getfield 176, (12, 76, 0)), (86, .iload_n 1, mX), (87, .iaload, mX), (88, .aload_n 0, mX), (89, .getfield 67, (12, 31, 0)), (92, .iload_n 2, mX), (93, .iaload, mX), (94, .iadd, mX), (95, .aload_n 0, mX), (96, .getfield 225, (12, 95, 0)), (99, .iconst 0, mX), (100, .iaload, mX), (101, .isub, mX), (102, .bipush 28, mX), (104, .if_icmp .le 6, mX), (107, .bipush (-3), mX), (109, .ireturn, mX), (110, .iconst 0, mX), (111, .istore_n 3, mX), (112, .iconst 0, mX), (113, .istore 4, mX), (115, .iconst 0, mX), (116, .istore 5, mX), (118, .iload 4, mX), (120, .aload_n 0, mX), (121, .getfield 176, (12, 76, 0)), (124, .iload_n 1, mX), (125, .iaload, mX), (126, .if_icmp .lt 14, mX), (129, .iload 5, mX), (131, .aload_n 0, mX), (132, .getfield 67, (12, 31, 0)), (135, .iload_n 2, mX), (136, .iaload, mX), (137, .if_icmp .ge 193, mX), (140, .iload 4, mX), (142, .aload_n 0, mX), (143, .getfield 176, (12, 76, 0)), (146, .iload_n 1, mX), (147, .iaload, mX), (148, .if_icmp .ge 7, mX), (151, .iconst 1, mX), (152, .goto 4, mX), (155, .iconst 0, mX), (156, .istore 6, mX), (158, .iload 5, mX), (160, .aload_n 0, mX), (161, .getfield 67, (12, 31, 0)), (164, .iload_n 2, mX), (165, .iaload, mX), (166, .if_icmp .ge 7, mX), (169, .iconst 1, mX), (170, .goto 4, mX), (173, .iconst 0, mX), (174, .istore 7, mX), (176, .iload 6, mX), (178, .ifCond .eq 57, mX), (181, .iload 7, mX), (183, .ifCond .eq 52, mX), (186, .aload_n 0, mX), (187, .getfield 173, (12, 75, 0)), (190, .bipush 30, mX), (192, .iload_n 1, mX), (193, .imul, mX), (194, .iload 4, mX), (196, .iadd, mX), (197, .laload, mX), (198, .aload_n 0, mX), (199, .iload_n 2, mX), (200, .iload 5, mX), (202, .invokevirtual 573, (344, 3, 0)), (205, .lcmp, mX), (206, .ifCond .ne 29, mX), (209, .aload_n 0, mX), (210, .getfield 173, (12, 75, 0)), (213, .sipush 3000, mX), (216, .iload_n 3, mX), (217, .iadd, mX), (218, .aload_n 0, mX), (219, .iload_n 2, mX), (220, .iload 5, mX), (222, .invokevirtual 573, (344, 3, 0)), (225, .lastore, mX), (226, .iinc 4 1, mX), (229, .iinc 5 1, mX), (232, .goto 92, mX), (235, .iload 7, mX), (237, .ifCond .eq 62, mX), (240, .iload 6, mX), (242, .ifCond .eq 34, mX), (245, .aload_n 0, mX), (246, .getfield 225, (12, 95, 0)), (249, .bipush 9, mX), (251, .iload 4, mX), (253, .imul, mX), (254, .iload 5, mX), (256, .iadd, mX), (257, .iconst 1, mX), (258, .iadd, mX), (259, .iaload, mX), (260, .aload_n 0, mX), (261, .getfield 225, (12, 95, 0)), (264, .bipush 9, mX), (266, .iload 4, mX), (268, .imul, mX), (269, .iload 5, mX), (271, .iadd, mX), (272, .iaload, mX), (273, .if_icmp .ne 26, mX), (276, .aload_n 0, mX), (277, .getfield 173, (12, 75, 0)), (280, .sipush 3000, mX), (283, .iload_n 3, mX), (284, .iadd, mX), (285, .aload_n 0, mX), (286, .iload_n 2, mX), (287, .iload 5, mX), (289, .invokevirtual 573, (344, 3, 0)), (292, .lastore, mX), (293, .iinc 5 1, mX), (296, .goto 28, mX), (299, .aload_n 0, mX), (300, .getfield 173, (12, 75, 0)), (303, .sipush 3000, mX), (306, .iload_n 3, mX), (307, .iadd, mX), (308, .aload_n 0, mX), (309, .getfield 173, (12, 75, 0)), (312, .bipush 30, mX), (314, .iload_n 1, mX), (315, .imul, mX), (316, .iload 4, mX), (318, .iadd, mX), (319, .laload, mX), (320, .lastore, mX), (321, .iinc 4 1, mX), (324, .iinc 3 1, mX), (327, .goto (-209), mX), (330, .iload_n 3, mX), (331, .aload_n 0, mX), (332, .getfield 176, (12, 76, 0)), (335, .iload_n 1, mX), (336, .iaload, mX), (337, .isub, mX), (338, .istore 6, mX), (340, .iconst 0, mX), (341, .istore 7, mX), (343, .iload 7, mX), (345, .iload_n 3, mX), (346, .if_icmp .ge 32, mX), (349, .aload_n 0, mX), (350, .getfield 173, (12, 75, 0)), (353, .bipush 30, mX), (355, .iload_n 1, mX), (356, .imul, mX), (357, .iload 7, mX), (359, .iadd, mX), (360, .aload_n 0, mX), (361, .getfield 173, (12, 75, 0)), (364, .sipush 3000, mX), (367, .iload 7, mX), (369, .iadd, mX), (370, .laload, mX), (371, .lastore, mX), (372, .iinc 7 1, mX), (375, .goto (-32), mX), (378, .aload_n 0, mX), (379, .getfield 176, (12, 76, 0)), (382, .iload_n 1, mX), (383, .iload_n 3, mX), (384, .iastore, mX), (385, .iload 6, mX), (387, .ireturn, mX)])
noncomputable def mt346 : am_M := (⟨"AssizeRideModel", "makeBoth", "(II)V"⟩, prog_14_method_77_code, 6, (Option.none : Option FieldType), [(0, .aload_n 0, mX), (1, .getfield 176, (12, 76, 0)), (4, .iload_n 1, mX), (5, .iaload, mX), (6, .istore_n 3, mX), (7, .iload_n 3, mX), (8, .ifCond .lt 164, mX), (11, .aload_n 0, mX), (12, .getfield 67, (12, 31, 0)), (15, .iload_n 2, mX), (16, .iaload, mX), (17, .istore 4, mX), (19, .iload 4, mX), (21, .ifCond .lt 145, mX), (24, .bipush 9, mX), (26, .iload_n 3, mX), (27, .imul, mX), (28, .iload 4, mX), (30, .iadd, mX), (31, .istore 5, mX), (33, .iload_n 3, mX), (34, .aload_n 0, mX), (35, .getfield 176, (12, 76, 0)), (38, .iload_n 1, mX), (39, .iaload, mX), (40, .if_icmp .eq 14, mX), (43, .iload 4, mX), (45, .aload_n 0, mX), (46, .getfield 67, (12, 31, 0)), (49, .iload_n 2, mX), (50, .iaload, mX), (51, .if_icmp .ne 14, mX), (54, .aload_n 0, mX), (55, .getfield 225, (12, 95, 0)), (58, .iload 5, mX), (60, .iconst 0, mX), (61, .iastore, mX), (62, .goto 98, mX), (65, .aload_n 0, mX), (66, .getfield 173, (12, 75, 0)), (69, .bipush 30, mX), (71, .iload_n 1, mX), (72, .imul, mX), (73, .iload_n 3, mX), (74, .iadd, mX), (75, .laload, mX), (76, .aload_n 0, mX), (77, .iload_n 2, mX), (78, .iload 4, mX), (80, .invokevirtual 573, (344, 3, 0)), (83, .lcmp, mX), (84, .ifCond .ne 25, mX), (87, .aload_n 0, mX), (88, .getfield 225, (12, 95, 0)), (91, .iload 5, mX), (93, .iconst 1, mX), (94, .aload_n 0, mX), (95, .getfield 225, (12, 95, 0)), (98, .iload 5, mX), (100, .bipush 10, mX), (102, .iadd, mX), (103, .iaload, mX), (104, .iadd, mX), (105, .iastore, mX), (106, .goto 54, mX), (109, .aload_n 0, mX), (110, .getfield 225, (12, 95, 0)), (113, .iload 5, mX), (115, .aload_n 0, mX), (116, .getfield 225, (12, 95, 0)), (119, .iload 5, mX), (121, .bipush 9, mX), (123, .iadd, mX), (124, .iaload, mX), (125, .aload_n 0, mX), (126, .getfield 225, (12, 95, 0)), (129, .iload 5, mX), (131, .iconst 1, mX), (132, .iadd, mX), (133, .iaload, mX), (134, .if_icmp .le 16, mX), (137, .aload_n 0, mX), (138, .getfield 225, (12, 95, 0)), (141, .iload 5, mX), (143, .bipush 9, mX), (145, .iadd, mX), (146, .iaload, mX), (147, .goto 12, mX), (150, .aload_n 0, mX), (151, .getfield 225, (12, 95, 0)), (154, .iload 5, mX), (156, .iconst 1, mX), (157, .iadd, mX), (158, .iaload, mX), (159, .iastore, mX), (160, .iinc 4 (-1), mX), (163, .goto (-144), mX), (166, .iinc 3 (-1), mX), (169, .goto (-162), mX), (172, .return_, mX)])
noncomputable def mt347 : am_M := (⟨"AssizeRideModel", "bill", "(II)I"⟩, prog_14_method_79_code, 3, (Option.some FieldType.int), [(0, .aload_n 0, mX), (1, .iload_n 1, mX), (2, .invokevirtual 567, (338, 2, 0)), (5, .ifCond .eq 13, mX), (8, .iload_n 2, mX), (9, .iconst 0, mX), (10, .bipush 23, mX), (12, .invokestatic 318, (273, 3, 0)), (15, .ifCond .ne 6, mX), (18, .bipush (-2), mX), (20, .ireturn, mX), (21, .aload_n 0, mX), (22, .getfield 143, (12, 65, 0)), (25, .iload_n 1, mX), (26, .iaload, mX), (27, .ifCond .eq 6, mX), (30, .bipush (-4), mX), (32, .ireturn, mX), (33, .aload_n 0, mX), (34, .iload_n 1, mX), (35, .aload_n 0, mX), (36, .iload_n 1, mX), (37, .invokevirtual 577, (343, 2, 0)), (40, .ifCond .ne 19, mX), (43, .iload_n 2, mX), (44, .aload_n 0, mX), (45, .bipush 12, mX), (47, .lconst 0, mX), (48, .iload_n 1, mX), (49, .invokevirtual 413, (282, 4, 0)), (52, .if_icmp .lt 7, mX), (55, .iconst 2, mX), (56, .goto 4, mX), (59, .iconst 1, mX), (60, .invokevirtual 559, (290, 3, 0)), (63, .aload_n 0, mX), (64, .getfield 143, (12, 65, 0)), (67, .iload_n 1, mX), (68, .iaload, mX), (69, .ireturn, mX)])
end
section
/-! PRINTED by wip/whole/gen.py: the instructions -/
noncomputable def mt348 : am_M := (⟨"AssizeRideModel", "matter", "(II)I"⟩, prog_14_method_80_code, 3, (Option.some FieldType.int), [(0, .aload_n 0, mX), (1, .iload_n 1, mX), (2, .invokevirtual 556, (339, 2, 0)), (5, .ifCond .ne 6, mX), (8, .bipush (-9), mX), (10, .ireturn, mX), (11, .iload_n 2, mX), (12, .tableswitch 197 0 14 #[76, 91, 98, 105, 112, 119, 126, 133, 140, 155, 162, 169, 176, 183, 190], (76, 0, 0)), (88, .aload_n 0, mX), (89, .getfield 119, (12, 57, 0)), (92, .iload_n 1, mX), (93, .baload, mX), (94, .ifCond .eq 7, mX), (97, .iconst 1, mX), (98, .goto 4, mX), (101, .iconst 0, mX), (102, .ireturn, mX), (103, .aload_n 0, mX), (104, .getfield 122, (12, 58, 0)), (107, .iload_n 1, mX), (108, .iaload, mX), (109, .ireturn, mX), (110, .aload_n 0, mX), (111, .getfield 125, (12, 59, 0)), (114, .iload_n 1, mX), (115, .iaload, mX), (116, .ireturn, mX), (117, .aload_n 0, mX), (118, .getfield 128, (12, 60, 0)), (121, .iload_n 1, mX), (122, .iaload, mX), (123, .ireturn, mX), (124, .aload_n 0, mX), (125, .getfield 131, (12, 61, 0)), (128, .iload_n 1, mX), (129, .iaload, mX), (130, .ireturn, mX), (131, .aload_n 0, mX), (132, .getfield 134, (12, 62, 0)), (135, .iload_n 1, mX), (136, .iaload, mX), (137, .ireturn, mX), (138, .aload_n 0, mX), (139, .getfield 137, (12, 63, 0)), (142, .iload_n 1, mX), (143, .iaload, mX), (144, .ireturn, mX), (145, .aload_n 0, mX), (146, .getfield 143, (12, 65, 0)), (149, .iload_n 1, mX), (150, .iaload, mX), (151, .ireturn, mX), (152, .aload_n 0, mX), (153, .getfield 146, (12, 66, 0)), (156, .iload_n 1, mX), (157, .baload, mX), (158, .ifCond .eq 7, mX), (161, .iconst 1, mX), (162, .goto 4, mX), (165, .iconst 0, mX), (166, .ireturn, mX), (167, .aload_n 0, mX), (168, .getfield 149, (12, 67, 0)), (171, .iload_n 1, mX), (172, .iaload, mX), (173, .ireturn, mX), (174, .aload_n 0, mX), (175, .getfield 188, (12, 80, 0)), (178, .iload_n 1, mX), (179, .iaload, mX), (180, .ireturn, mX), (181, .aload_n 0, mX), (182, .getfield 194, (12, 82, 0)), (185, .iload_n 1, mX), (186, .iaload, mX), (187, .ireturn, mX), (188, .aload_n 0, mX), (189, .getfield 200, (12, 84, 0)), (192, .iload_n 1, mX), (193, .iaload, mX), (194, .ireturn, mX), (195, .aload_n 0, mX), (196, .getfield 170, (12, 74, 0)), (199, .iload_n 1, mX), (200, .iaload, mX), (201, .ireturn, mX), (202, .aload_n 0, mX), (203, .getfield 161, (12, 71, 0)), (206, .iload_n 1, mX), (207, .iaload, mX), (208, .ireturn, mX), (209, .bipush (-9), mX), (211, .ireturn, mX)])
noncomputable def mt349 : am_M := (⟨"AssizeRideModel", "witness", "(II)I"⟩, prog_14_method_84_code, 3, (Option.some FieldType.int), [(0, .aload_n 0, mX), (1, .iload_n 1, mX), (2, .invokevirtual 556, (339, 2, 0)), (5, .ifCond .eq 11, mX), (8, .aload_n 0, mX), (9, .iload_n 2, mX), (10, .invokevirtual 396, (276, 2, 0)), (13, .ifCond .ne 6, mX), (16, .bipush (-2), mX), (18, .ireturn, mX), (19, .aload_n 0, mX), (20, .iload_n 1, mX), (21, .invokevirtual 583, (350, 2, 0)), (24, .ifCond .eq 30, mX), (27, .aload_n 0, mX), (28, .iload_n 1, mX), (29, .iload_n 2, mX), (30, .invokevirtual 586, (351, 3, 0)), (33, .ifCond .ne 21, mX), (36, .aload_n 0, mX), (37, .iload_n 1, mX), (38, .iload_n 2, mX), (39, .invokevirtual 409, (281, 3, 0)), (42, .ifCond .ne 12, mX), (45, .aload_n 0, mX), (46, .iload_n 1, mX), (47, .iload_n 2, mX), (48, .invokevirtual 589, (352, 3, 0)), (51, .ifCond .eq 6, mX), (54, .bipush (-4), mX), (56, .ireturn, mX), (57, .aload_n 0, mX), (58, .getfield 194, (12, 82, 0)), (61, .iload_n 1, mX), (62, .iaload, mX), (63, .iconst 4, mX), (64, .if_icmp .ne 6, mX), (67, .bipush (-3), mX), (69, .ireturn, mX), (70, .aload_n 0, mX), (71, .getfield 191, (12, 81, 0)), (74, .iconst 4, mX), (75, .iload_n 1, mX), (76, .imul, mX), (77, .aload_n 0, mX), (78, .getfield 194, (12, 82, 0)), (81, .iload_n 1, mX), (82, .iaload, mX), (83, .iadd, mX), (84, .iload_n 2, mX), (85, .iastore, mX), (86, .aload_n 0, mX), (87, .getfield 194, (12, 82, 0)), (90, .iload_n 1, mX), (91, .dup2, mX), (92, .iaload, mX), (93, .iconst 1, mX), (94, .iadd, mX), (95, .iastore, mX), (96, .aload_n 0, mX), (97, .getfield 194, (12, 82, 0)), (100, .iload_n 1, mX), (101, .iaload, mX), (102, .ireturn, mX)])
noncomputable def mt350 : am_M := (⟨"AssizeRideModel", "isOpen", "(I)Z"⟩, prog_14_method_81_code, 2, (Option.some FieldType.boolean), [(0, .aload_n 0, mX), (1, .getfield 143, (12, 65, 0)), (4, .iload_n 1, mX), (5, .iaload, mX), (6, .ifCond .eq 34, mX), (9, .aload_n 0, mX), (10, .getfield 143, (12, 65, 0)), (13, .iload_n 1, mX), (14, .iaload, mX), (15, .iconst 2, mX), (16, .if_icmp .eq 24, mX), (19, .aload_n 0, mX), (20, .getfield 143, (12, 65, 0)), (23, .iload_n 1, mX), (24, .iaload, mX), (25, .iconst 3, mX), (26, .if_icmp .eq 14, mX), (29, .aload_n 0, mX), (30, .getfield 143, (12, 65, 0)), (33, .iload_n 1, mX), (34, .iaload, mX), (35, .bipush 7, mX), (37, .if_icmp .ne 7, mX), (40, .iconst 1, mX), (41, .goto 4, mX), (44, .iconst 0, mX), (45, .ireturn, mX)])
noncomputable def mt351 : am_M := (⟨"AssizeRideModel", "isWitness", "(II)Z"⟩, prog_14_method_82_code, 4, (Option.some FieldType.boolean), [(0, .iconst 0, mX), (1, .istore_n 3, mX), (2, .iload_n 3, mX), (3, .aload_n 0, mX), (4, .getfield 194, (12, 82, 0)), (7, .iload_n 1, mX), (8, .iaload, mX), (9, .if_icmp .ge 25, mX), (12, .aload_n 0, mX), (13, .getfield 191, (12, 81, 0)), (16, .iconst 4, mX), (17, .iload_n 1, mX), (18, .imul, mX), (19, .iload_n 3, mX), (20, .iadd, mX), (21, .iaload, mX), (22, .iload_n 2, mX), (23, .if_icmp .ne 5, mX), (26, .iconst 1, mX), (27, .ireturn, mX), (28, .iinc 3 1, mX), (31, .goto (-29), mX), (34, .iconst 0, mX), (35, .ireturn, mX)])
noncomputable def mt352 : am_M := (⟨"AssizeRideModel", "isJuror", "(II)Z"⟩, prog_14_method_83_code, 4, (Option.some FieldType.boolean), [(0, .iconst 0, mX), (1, .istore_n 3, mX), (2, .iload_n 3, mX), (3, .aload_n 0, mX), (4, .getfield 188, (12, 80, 0)), (7, .iload_n 1, mX), (8, .iaload, mX), (9, .if_icmp .ge 26, mX), (12, .aload_n 0, mX), (13, .getfield 185, (12, 79, 0)), (16, .bipush 12, mX), (18, .iload_n 1, mX), (19, .imul, mX), (20, .iload_n 3, mX), (21, .iadd, mX), (22, .iaload, mX), (23, .iload_n 2, mX), (24, .if_icmp .ne 5, mX), (27, .iconst 1, mX), (28, .ireturn, mX), (29, .iinc 3 1, mX), (32, .goto (-30), mX), (35, .iconst 0, mX), (36, .ireturn, mX)])
noncomputable def mt353 : am_M := (⟨"AssizeRideModel", "may", "(II)I"⟩, prog_14_method_86_code, 3, (Option.some FieldType.int), [(0, .aload_n 0, mX), (1, .iload_n 1, mX), (2, .invokevirtual 556, (339, 2, 0)), (5, .ifCond .eq 36, mX), (8, .aload_n 0, mX), (9, .iload_n 2, mX), (10, .invokevirtual 396, (276, 2, 0)), (13, .ifCond .eq 28, mX), (16, .aload_n 0, mX), (17, .iload_n 1, mX), (18, .iload_n 2, mX), (19, .aload_n 0, mX), (20, .getfield 393, (12, 9, 0)), (23, .aload_n 0, mX), (24, .getfield 393, (12, 9, 0)), (27, .invokevirtual 592, (354, 5, 0)), (30, .ifCond .eq 7, mX), (33, .iconst 1, mX), (34, .goto 9, mX), (37, .iconst 0, mX), (38, .goto 5, mX), (41, .bipush (-2), mX), (43, .ireturn, mX)])
noncomputable def mt354 : am_M := (⟨"AssizeRideModel", "mayBe", "(IIII)Z"⟩, prog_14_method_85_code, 6, (Option.some FieldType.boolean), [(0, .aload_n 0, mX), (1, .getfield 17, (12, 12, 0)), (4, .iload_n 2, mX), (5, .iaload, mX), (6, .aload_n 0, mX), (7, .getfield 128, (12, 60, 0)), (10, .iload_n 1, mX), (11, .iaload, mX), (12, .if_icmp .ne 51, mX), (15, .aload_n 0, mX), (16, .iload_n 1, mX), (17, .iload_n 2, mX), (18, .invokevirtual 409, (281, 3, 0)), (21, .ifCond .ne 42, mX), (24, .aload_n 0, mX), (25, .iload_n 1, mX), (26, .iload_n 2, mX), (27, .invokevirtual 586, (351, 3, 0)), (30, .ifCond .ne 33, mX), (33, .aload_n 0, mX), (34, .iload_n 2, mX), (35, .iload_n 3, mX), (36, .iload 4, mX), (38, .invokevirtual 425, (294, 4, 0)), (41, .ifCond .ne 22, mX), (44, .aload_n 0, mX), (45, .iload_n 2, mX), (46, .iload_n 3, mX), (47, .iload 4, mX), (49, .invokevirtual 421, (292, 4, 0)), (52, .aload_n 0, mX), (53, .bipush 8, mX), (55, .lconst 0, mX), (56, .iload_n 1, mX), (57, .invokevirtual 413, (282, 4, 0)), (60, .if_icmp .ge 5, mX), (63, .iconst 0, mX), (64, .ireturn, mX), (65, .aload_n 0, mX), (66, .bipush 9, mX), (68, .lconst 0, mX), (69, .iload_n 1, mX), (70, .invokevirtual 413, (282, 4, 0)), (73, .istore 5, mX), (75, .aload_n 0, mX), (76, .iload_n 2, mX), (77, .aload_n 0, mX), (78, .getfield 125, (12, 59, 0)), (81, .iload_n 1, mX), (82, .iaload, mX), (83, .iload 4, mX), (85, .invokevirtual 428, (296, 4, 0)), (88, .iconst 1, mX), (89, .iload 5, mX), (91, .invokestatic 318, (273, 3, 0)), (94, .ifCond .ne 39, mX), (97, .aload_n 0, mX), (98, .getfield 122, (12, 58, 0)), (101, .iload_n 1, mX), (102, .iaload, mX), (103, .iconst (-1), mX), (104, .if_icmp .eq 25, mX), (107, .aload_n 0, mX), (108, .iload_n 2, mX), (109, .aload_n 0, mX), (110, .getfield 122, (12, 58, 0)), (113, .iload_n 1, mX), (114, .iaload, mX), (115, .iload 4, mX), (117, .invokevirtual 428, (296, 4, 0)), (120, .iconst 1, mX), (121, .iload 5, mX), (123, .invokestatic 318, (273, 3, 0)), (126, .ifCond .ne 7, mX), (129, .iconst 1, mX), (130, .goto 4, mX), (133, .iconst 0, mX), (134, .ireturn, mX)])
noncomputable def mt355 : am_M := (⟨"AssizeRideModel", "list", "(I)I"⟩, prog_14_method_91_code, 2, (Option.some FieldType.int), [(0, .aload_n 0, mX), (1, .iload_n 1, mX), (2, .invokevirtual 556, (339, 2, 0)), (5, .ifCond .ne 6, mX), (8, .bipush (-2), mX), (10, .ireturn, mX), (11, .aload_n 0, mX), (12, .iload_n 1, mX), (13, .invokevirtual 602, (356, 2, 0)), (16, .ifCond .eq 11, mX), (19, .aload_n 0, mX), (20, .iload_n 1, mX), (21, .invokevirtual 605, (357, 2, 0)), (24, .goto 5, mX), (27, .bipush (-4), mX), (29, .ireturn, mX)])
noncomputable def mt356 : am_M := (⟨"AssizeRideModel", "isWanted", "(I)Z"⟩, prog_14_method_87_code, 2, (Option.some FieldType.boolean), [(0, .aload_n 0, mX), (1, .getfield 143, (12, 65, 0)), (4, .iload_n 1, mX), (5, .iaload, mX), (6, .aload_n 0, mX), (7, .getfield 119, (12, 57, 0)), (10, .iload_n 1, mX), (11, .baload, mX), (12, .ifCond .eq 7, mX), (15, .iconst 0, mX), (16, .goto 4, mX), (19, .iconst 2, mX), (20, .if_icmp .ne 7, mX), (23, .iconst 1, mX), (24, .goto 4, mX), (27, .iconst 0, mX), (28, .ireturn, mX)])
noncomputable def mt357 : am_M := (⟨"AssizeRideModel", "listOf", "(I)I"⟩, prog_14_method_90_code, 4, (Option.some FieldType.int), [(0, .iconst 0, mX), (1, .istore_n 2, mX), (2, .iconst 0, mX), (3, .istore_n 3, mX), (4, .iload_n 3, mX), (5, .aload_n 0, mX), (6, .getfield 387, (12, 10, 0)), (9, .if_icmp .ge 26, mX), (12, .iload_n 2, mX), (13, .aload_n 0, mX), (14, .iload_n 1, mX), (15, .iload_n 3, mX), (16, .invokevirtual 599, (358, 3, 0)), (19, .ifCond .eq 7, mX), (22, .iconst 1, mX), (23, .goto 4, mX), (26, .iconst 0, mX), (27, .iadd, mX), (28, .istore_n 2, mX), (29, .iinc 3 1, mX), (32, .goto (-28), mX), (35, .iload_n 2, mX), (36, .ireturn, mX)])
noncomputable def mt358 : am_M := (⟨"AssizeRideModel", "canDraw", "(II)Z"⟩, prog_14_method_89_code, 3, (Option.some FieldType.boolean), [(0, .aload_n 0, mX), (1, .iload_n 1, mX), (2, .iload_n 2, mX), (3, .aload_n 0, mX), (4, .getfield 393, (12, 9, 0)), (7, .aload_n 0, mX), (8, .getfield 393, (12, 9, 0)), (11, .invokevirtual 592, (354, 5, 0)), (14, .ifCond .eq 25, mX), (17, .aload_n 0, mX), (18, .iload_n 1, mX), (19, .iload_n 2, mX), (20, .invokevirtual 589, (352, 3, 0)), (23, .ifCond .ne 16, mX), (26, .aload_n 0, mX), (27, .iload_n 1, mX), (28, .iload_n 2, mX), (29, .invokevirtual 596, (359, 3, 0)), (32, .ifCond .ne 7, mX), (35, .iconst 1, mX), (36, .goto 4, mX), (39, .iconst 0, mX), (40, .ireturn, mX)])
noncomputable def mt359 : am_M := (⟨"AssizeRideModel", "isOut", "(II)Z"⟩, prog_14_method_88_code, 4, (Option.some FieldType.boolean), [(0, .iconst 0, mX), (1, .istore_n 3, mX), (2, .iload_n 3, mX), (3, .aload_n 0, mX), (4, .getfield 200, (12, 84, 0)), (7, .iload_n 1, mX), (8, .iaload, mX), (9, .if_icmp .ge 26, mX), (12, .aload_n 0, mX), (13, .getfield 197, (12, 83, 0)), (16, .bipush 12, mX), (18, .iload_n 1, mX), (19, .imul, mX), (20, .iload_n 3, mX), (21, .iadd, mX), (22, .iaload, mX), (23, .iload_n 2, mX), (24, .if_icmp .ne 5, mX), (27, .iconst 1, mX), (28, .ireturn, mX), (29, .iinc 3 1, mX), (32, .goto (-30), mX), (35, .iconst 0, mX), (36, .ireturn, mX)])
noncomputable def mt360 : am_M := (⟨"AssizeRideModel", "draw", "(II)I"⟩, prog_14_method_92_code, 5, (Option.some FieldType.int), [(0, .aload_n 0, mX), (1, .iload_n 1, mX), (2, .invokevirtual 556, (339, 2, 0)), (5, .ifCond .ne 6, mX), (8, .bipush (-2), mX), (10, .ireturn, mX), (11, .aload_n 0, mX), (12, .iload_n 1, mX), (13, .invokevirtual 602, (356, 2, 0)), (16, .ifCond .ne 6, mX), (19, .bipush (-4), mX), (21, .ireturn, mX), (22, .aload_n 0, mX), (23, .getfield 188, (12, 80, 0)), (26, .iload_n 1, mX), (27, .iaload, mX), (28, .aload_n 0, mX), (29, .bipush 7, mX), (31, .lconst 0, mX), (32, .iload_n 1, mX), (33, .invokevirtual 413, (282, 4, 0)), (36, .if_icmp .lt 6, mX), (39, .bipush (-3), mX), (41, .ireturn, mX), (42, .iload_n 2, mX), (43, .istore_n 3, mX), (44, .iconst 0, mX), (45, .istore 4, mX), (47, .iload 4, mX), (49, .aload_n 0, mX), (50, .getfield 387, (12, 10, 0)), (53, .if_icmp .ge 64, mX), (56, .iload_n 2, mX), (57, .ifCond .lt 60, mX), (60, .aload_n 0, mX), (61, .iload_n 1, mX), (62, .iload 4, mX), (64, .invokevirtual 599, (358, 3, 0)), (67, .ifCond .ne 6, mX), (70, .goto 41, mX), (73, .iload_n 3, mX), (74, .ifCond .ne 34, mX), (77, .aload_n 0, mX), (78, .getfield 185, (12, 79, 0)), (81, .bipush 12, mX), (83, .iload_n 1, mX), (84, .imul, mX), (85, .aload_n 0, mX), (86, .getfield 188, (12, 80, 0)), (89, .iload_n 1, mX), (90, .iaload, mX), (91, .iadd, mX), (92, .iload 4, mX), (94, .iastore, mX), (95, .aload_n 0, mX), (96, .getfield 188, (12, 80, 0)), (99, .iload_n 1, mX), (100, .dup2, mX), (101, .iaload, mX), (102, .iconst 1, mX), (103, .iadd, mX), (104, .iastore, mX), (105, .iload 4, mX), (107, .ireturn, mX), (108, .iinc 3 (-1), mX), (111, .iinc 4 1, mX), (114, .goto (-67), mX), (117, .bipush (-2), mX), (119, .ireturn, mX)])
noncomputable def mt361 : am_M := (⟨"AssizeRideModel", "challenge", "(II)I"⟩, prog_14_method_93_code, 6, (Option.some FieldType.int), [(0, .aload_n 0, mX), (1, .iload_n 1, mX), (2, .invokevirtual 556, (339, 2, 0)), (5, .ifCond .eq 12, mX), (8, .aload_n 0, mX), (9, .iload_n 1, mX), (10, .iload_n 2, mX), (11, .invokevirtual 589, (352, 3, 0)), (14, .ifCond .ne 6, mX), (17, .bipush (-2), mX), (19, .ireturn, mX), (20, .aload_n 0, mX), (21, .iload_n 1, mX), (22, .invokevirtual 602, (356, 2, 0)), (25, .ifCond .eq 20, mX), (28, .aload_n 0, mX), (29, .getfield 200, (12, 84, 0)), (32, .iload_n 1, mX), (33, .iaload, mX), (34, .aload_n 0, mX), (35, .bipush 10, mX), (37, .lconst 0, mX), (38, .iload_n 1, mX), (39, .invokevirtual 413, (282, 4, 0)), (42, .if_icmp .lt 6, mX), (45, .bipush (-4), mX), (47, .ireturn, mX), (48, .iconst 0, mX), (49, .istore_n 3, mX), (50, .iconst 0, mX), (51, .istore 4, mX), (53, .iload 4, mX), (55, .aload_n 0, mX), (56, .getfield 188, (12, 80, 0)), (59, .iload_n 1, mX), (60, .iaload, mX), (61, .if_icmp .ge 48, mX), (64, .aload_n 0, mX), (65, .getfield 185, (12, 79, 0)), (68, .bipush 12, mX), (70, .iload_n 1, mX), (71, .imul, mX), (72, .iload 4, mX), (74, .iadd, mX), (75, .iaload, mX), (76, .istore 5, mX), (78, .iload 5, mX), (80, .iload_n 2, mX), (81, .if_icmp .ne 6, mX), (84, .goto 19, mX), (87, .aload_n 0, mX), (88, .getfield 185, (12, 79, 0)), (91, .bipush 12, mX), (93, .iload_n 1, mX), (94, .imul, mX), (95, .iload_n 3, mX), (96, .iadd, mX), (97, .iload 5, mX), (99, .iastore, mX), (100, .iinc 3 1, mX), (103, .iinc 4 1, mX), (106, .goto (-53), mX), (109, .aload_n 0, mX), (110, .getfield 188, (12, 80, 0)), (113, .iload_n 1, mX), (114, .iload_n 3, mX), (115, .iastore, mX), (116, .aload_n 0, mX), (117, .getfield 197, (12, 83, 0)), (120, .bipush 12, mX), (122, .iload_n 1, mX), (123, .imul, mX), (124, .aload_n 0, mX), (125, .getfield 200, (12, 84, 0)), (128, .iload_n 1, mX), (129, .iaload, mX), (130, .iadd, mX), (131, .iload_n 2, mX), (132, .iastore, mX), (133, .aload_n 0, mX), (134, .getfield 200, (12, 84, 0)), (137, .iload_n 1, mX), (138, .dup2, mX), (139, .iaload, mX), (140, .iconst 1, mX), (141, .iadd, mX), (142, .iastore, mX), (143, .aload_n 0, mX), (144, .getfield 200, (12, 84, 0)), (147, .iload_n 1, mX), (148, .iaload, mX), (149, .ireturn, mX)])
noncomputable def mt362 : am_M := (⟨"AssizeRideModel", "full", "(I)I"⟩, prog_14_method_96_code, 2, (Option.some FieldType.int), [(0, .aload_n 0, mX), (1, .iload_n 1, mX), (2, .invokevirtual 556, (339, 2, 0)), (5, .ifCond .eq 19, mX), (8, .aload_n 0, mX), (9, .iload_n 1, mX), (10, .invokevirtual 611, (363, 2, 0)), (13, .ifCond .eq 7, mX), (16, .iconst 1, mX), (17, .goto 9, mX), (20, .iconst 0, mX), (21, .goto 5, mX), (24, .bipush (-2), mX), (26, .ireturn, mX)])
noncomputable def mt363 : am_M := (⟨"AssizeRideModel", "isFull", "(I)Z"⟩, prog_14_method_95_code, 2, (Option.some FieldType.boolean), [(0, .aload_n 0, mX), (1, .getfield 188, (12, 80, 0)), (4, .iload_n 1, mX), (5, .iaload, mX), (6, .aload_n 0, mX), (7, .bipush 7, mX), (9, .lconst 0, mX), (10, .iload_n 1, mX), (11, .invokevirtual 413, (282, 4, 0)), (14, .if_icmp .lt 23, mX), (17, .aload_n 0, mX), (18, .iload_n 1, mX), (19, .invokevirtual 608, (364, 2, 0)), (22, .aload_n 0, mX), (23, .bipush 11, mX), (25, .lconst 0, mX), (26, .iload_n 1, mX), (27, .invokevirtual 413, (282, 4, 0)), (30, .if_icmp .lt 7, mX), (33, .iconst 1, mX), (34, .goto 4, mX), (37, .iconst 0, mX), (38, .ireturn, mX)])
noncomputable def mt364 : am_M := (⟨"AssizeRideModel", "ofHundred", "(I)I"⟩, prog_14_method_94_code, 4, (Option.some FieldType.int), [(0, .iconst 0, mX), (1, .istore_n 2, mX), (2, .iconst 0, mX), (3, .istore_n 3, mX), (4, .iload_n 3, mX), (5, .aload_n 0, mX), (6, .getfield 188, (12, 80, 0)), (9, .iload_n 1, mX), (10, .iaload, mX), (11, .if_icmp .ge 42, mX), (14, .iload_n 2, mX), (15, .aload_n 0, mX), (16, .getfield 20, (12, 13, 0)), (19, .aload_n 0, mX), (20, .getfield 185, (12, 79, 0)), (23, .bipush 12, mX), (25, .iload_n 1, mX), (26, .imul, mX), (27, .iload_n 3, mX), (28, .iadd, mX), (29, .iaload, mX), (30, .iaload, mX), (31, .aload_n 0, mX), (32, .getfield 131, (12, 61, 0)), (35, .iload_n 1, mX), (36, .iaload, mX), (37, .if_icmp .ne 7, mX), (40, .iconst 1, mX), (41, .goto 4, mX), (44, .iconst 0, mX), (45, .iadd, mX), (46, .istore_n 2, mX), (47, .iinc 3 1, mX), (50, .goto (-46), mX), (53, .iload_n 2, mX), (54, .ireturn, mX)])
noncomputable def mt365 : am_M := (⟨"AssizeRideModel", "lacks", "(I)I"⟩, prog_14_method_97_code, 3, (Option.some FieldType.int), [(0, .aload_n 0, mX), (1, .iload_n 1, mX), (2, .invokevirtual 556, (339, 2, 0)), (5, .ifCond .ne 6, mX), (8, .bipush (-2), mX), (10, .ireturn, mX), (11, .aload_n 0, mX), (12, .bipush 11, mX), (14, .lconst 0, mX), (15, .iload_n 1, mX), (16, .invokevirtual 413, (282, 4, 0)), (19, .aload_n 0, mX), (20, .iload_n 1, mX), (21, .invokevirtual 608, (364, 2, 0)), (24, .isub, mX), (25, .istore_n 2, mX), (26, .iload_n 2, mX), (27, .ifCond .le 7, mX), (30, .iload_n 2, mX), (31, .goto 4, mX), (34, .iconst 0, mX), (35, .ireturn, mX)])
noncomputable def mt366 : am_M := (⟨"AssizeRideModel", "juror", "(II)I"⟩, prog_14_method_98_code, 3, (Option.some FieldType.int), [(0, .aload_n 0, mX), (1, .iload_n 1, mX), (2, .invokevirtual 556, (339, 2, 0)), (5, .ifCond .eq 33, mX), (8, .iload_n 2, mX), (9, .iconst 0, mX), (10, .aload_n 0, mX), (11, .getfield 188, (12, 80, 0)), (14, .iload_n 1, mX), (15, .iaload, mX), (16, .iconst 1, mX), (17, .isub, mX), (18, .invokestatic 318, (273, 3, 0)), (21, .ifCond .eq 17, mX), (24, .aload_n 0, mX), (25, .getfield 185, (12, 79, 0)), (28, .bipush 12, mX), (30, .iload_n 1, mX), (31, .imul, mX), (32, .iload_n 2, mX), (33, .iadd, mX), (34, .iaload, mX), (35, .goto 4, mX), (38, .iconst (-1), mX), (39, .ireturn, mX)])
noncomputable def mt367 : am_M := (⟨"AssizeRideModel", "hear", "(I)I"⟩, prog_14_method_100_code, 4, (Option.some FieldType.int), [(0, .aload_n 0, mX), (1, .invokevirtual 381, (298, 1, 0)), (4, .aload_n 0, mX), (5, .iload_n 1, mX), (6, .invokevirtual 556, (339, 2, 0)), (9, .ifCond .ne 6, mX), (12, .bipush (-2), mX), (14, .ireturn, mX), (15, .aload_n 0, mX), (16, .iload_n 1, mX), (17, .invokevirtual 602, (356, 2, 0)), (20, .ifCond .eq 11, mX), (23, .aload_n 0, mX), (24, .iload_n 1, mX), (25, .invokevirtual 611, (363, 2, 0)), (28, .ifCond .ne 6, mX), (31, .bipush (-4), mX), (33, .ireturn, mX), (34, .aload_n 0, mX), (35, .invokevirtual 544, (327, 1, 0)), (38, .ifCond .ne 5, mX), (41, .iconst (-1), mX), (42, .ireturn, mX), (43, .aload_n 0, mX), (44, .iconst 2, mX), (45, .iload_n 1, mX), (46, .imul, mX), (47, .iconst 1, mX), (48, .iadd, mX), (49, .invokevirtual 570, (341, 2, 0)), (52, .aload_n 0, mX), (53, .getfield 161, (12, 71, 0)), (56, .iload_n 1, mX), (57, .aload_n 0, mX), (58, .getfield 393, (12, 9, 0)), (61, .iastore, mX), (62, .aload_n 0, mX), (63, .getfield 155, (12, 69, 0)), (66, .iload_n 1, mX), (67, .iconst 1, mX), (68, .bastore, mX), (69, .aload_n 0, mX), (70, .iload_n 1, mX), (71, .invokevirtual 614, (368, 2, 0)), (74, .istore_n 2, mX), (75, .iload_n 2, mX), (76, .ifCond .eq 29, mX), (79, .aload_n 0, mX), (80, .getfield 119, (12, 57, 0)), (83, .iload_n 1, mX), (84, .baload, mX), (85, .ifCond .ne 16, mX), (88, .aload_n 0, mX), (89, .aload_n 0, mX), (90, .getfield 140, (12, 64, 0)), (93, .iload_n 1, mX), (94, .laload, mX), (95, .invokevirtual 617, (369, 2, 0)), (98, .ifCond .eq 7, mX), (101, .iconst 1, mX), (102, .goto 4, mX), (105, .iconst 0, mX), (106, .istore_n 3, mX), (107, .aload_n 0, mX), (108, .getfield 158, (12, 70, 0)), (111, .iload_n 1, mX), (112, .iload_n 3, mX), (113, .bastore, mX), (114, .aload_n 0, mX), (115, .iload_n 1, mX), (116, .iload_n 3, mX), (117, .ifCond .eq 20, mX), (120, .aload_n 0, mX), (121, .getfield 119, (12, 57, 0)), (124, .iload_n 1, mX), (125, .baload, mX), (126, .ifCond .eq 7, mX), (129, .iconst 5, mX), (130, .goto 8, mX), (133, .iconst 3, mX), (134, .goto 4, mX), (137, .iconst 4, mX), (138, .invokevirtual 559, (290, 3, 0)), (141, .aload_n 0, mX), (142, .getfield 143, (12, 65, 0)), (145, .iload_n 1, mX), (146, .iaload, mX), (147, .ireturn, mX)])
noncomputable def mt368 : am_M := (⟨"AssizeRideModel", "isFoundMade", "(I)Z"⟩, prog_14_method_99_code, 3, (Option.some FieldType.boolean), [(0, .aload_n 0, mX), (1, .iconst 0, mX), (2, .aload_n 0, mX), (3, .getfield 140, (12, 64, 0)), (6, .iload_n 1, mX), (7, .laload, mX), (8, .aload_n 0, mX), (9, .getfield 134, (12, 62, 0)), (12, .iload_n 1, mX), (13, .iaload, mX), (14, .aload_n 0, mX), (15, .getfield 128, (12, 60, 0)), (18, .iload_n 1, mX), (19, .iaload, mX), (20, .invokevirtual 515, (284, 5, 0)), (23, .istore_n 2, mX), (24, .iload_n 2, mX), (25, .iconst (-1), mX), (26, .if_icmp .eq 25, mX), (29, .aload_n 0, mX), (30, .iload_n 2, mX), (31, .aload_n 0, mX), (32, .iload_n 2, mX), (33, .iconst 2, mX), (34, .iload_n 1, mX), (35, .imul, mX), (36, .iconst 1, mX), (37, .iadd, mX), (38, .invokevirtual 547, (328, 3, 0)), (41, .invokevirtual 541, (332, 3, 0)), (44, .ifCond .eq 7, mX), (47, .iconst 1, mX), (48, .goto 4, mX), (51, .iconst 0, mX), (52, .ireturn, mX)])
noncomputable def mt369 : am_M := (⟨"AssizeRideModel", "settledAs", "(J)I"⟩, prog_14_method_102_code, 5, (Option.some FieldType.int), [(0, .iconst (-1), mX), (1, .istore_n 3, mX), (2, .iconst 0, mX), (3, .istore 4, mX), (5, .iload 4, mX), (7, .aload_n 0, mX), (8, .getfield 624, (12, 96, 0)), (11, .if_icmp .ge 37, mX), (14, .aload_n 0, mX), (15, .getfield 228, (12, 97, 0)), (18, .iload 4, mX), (20, .laload, mX), (21, .lload_n 1, mX), (22, .lcmp, mX), (23, .ifCond .ne 19, mX), (26, .aload_n 0, mX), (27, .getfield 231, (12, 98, 0)), (30, .iload 4, mX), (32, .baload, mX), (33, .ifCond .eq 7, mX), (36, .iconst 1, mX), (37, .goto 4, mX), (40, .iconst 0, mX), (41, .istore_n 3, mX), (42, .iinc 4 1, mX), (45, .goto (-40), mX), (48, .iload_n 3, mX), (49, .ireturn, mX)])
noncomputable def mt370 : am_M := (⟨"AssizeRideModel", "judge", "(I)I"⟩, prog_14_method_104_code, 2, (Option.some FieldType.int), [(0, .aload_n 0, mX), (1, .iload_n 1, mX), (2, .invokevirtual 567, (338, 2, 0)), (5, .ifCond .ne 6, mX), (8, .bipush (-2), mX), (10, .ireturn, mX), (11, .aload_n 0, mX), (12, .getfield 143, (12, 65, 0)), (15, .iload_n 1, mX), (16, .iaload, mX), (17, .iconst 3, mX), (18, .if_icmp .eq 6, mX), (21, .bipush (-4), mX), (23, .ireturn, mX), (24, .aload_n 0, mX), (25, .iload_n 1, mX), (26, .invokevirtual 627, (371, 2, 0)), (29, .aload_n 0, mX), (30, .getfield 146, (12, 66, 0)), (33, .iload_n 1, mX), (34, .baload, mX), (35, .ifCond .eq 7, mX), (38, .iconst 1, mX), (39, .goto 4, mX), (42, .iconst 0, mX), (43, .ireturn, mX)])
noncomputable def mt371 : am_M := (⟨"AssizeRideModel", "judges", "(I)V"⟩, prog_14_method_103_code, 2, (Option.none : Option FieldType), [(0, .aload_n 0, mX), (1, .getfield 146, (12, 66, 0)), (4, .iload_n 1, mX), (5, .aload_n 0, mX), (6, .iconst 2, mX), (7, .lconst 0, mX), (8, .iload_n 1, mX), (9, .invokevirtual 413, (282, 4, 0)), (12, .iconst 1, mX), (13, .if_icmp .ne 7, mX), (16, .iconst 1, mX), (17, .goto 4, mX), (20, .iconst 0, mX), (21, .bastore, mX), (22, .aload_n 0, mX), (23, .getfield 146, (12, 66, 0)), (26, .iload_n 1, mX), (27, .baload, mX), (28, .ifCond .ne 31, mX), (31, .aload_n 0, mX), (32, .getfield 149, (12, 67, 0)), (35, .iload_n 1, mX), (36, .aload_n 0, mX), (37, .iconst 3, mX), (38, .lconst 0, mX), (39, .iload_n 1, mX), (40, .invokevirtual 413, (282, 4, 0)), (43, .iastore, mX), (44, .aload_n 0, mX), (45, .dup, mX), (46, .getfield 621, (12, 85, 0)), (49, .aload_n 0, mX), (50, .getfield 149, (12, 67, 0)), (53, .iload_n 1, mX), (54, .iaload, mX), (55, .iadd, mX), (56, .putfield 621, (12, 85, 0)), (59, .aload_n 0, mX), (60, .iload_n 1, mX), (61, .iconst 5, mX), (62, .invokevirtual 559, (290, 3, 0)), (65, .return_, mX)])
noncomputable def mt372 : am_M := (⟨"AssizeRideModel", "benefit", "(I)I"⟩, prog_14_method_106_code, 2, (Option.some FieldType.int), [(0, .aload_n 0, mX), (1, .iload_n 1, mX), (2, .invokevirtual 567, (338, 2, 0)), (5, .ifCond .ne 6, mX), (8, .bipush (-2), mX), (10, .ireturn, mX), (11, .aload_n 0, mX), (12, .getfield 143, (12, 65, 0)), (15, .iload_n 1, mX), (16, .iaload, mX), (17, .iconst 5, mX), (18, .if_icmp .ne 35, mX), (21, .aload_n 0, mX), (22, .getfield 146, (12, 66, 0)), (25, .iload_n 1, mX), (26, .baload, mX), (27, .ifCond .eq 26, mX), (30, .aload_n 0, mX), (31, .aload_n 0, mX), (32, .getfield 125, (12, 59, 0)), (35, .iload_n 1, mX), (36, .iaload, mX), (37, .invokevirtual 630, (373, 2, 0)), (40, .ifCond .ne 13, mX), (43, .aload_n 0, mX), (44, .iconst 4, mX), (45, .lconst 0, mX), (46, .iload_n 1, mX), (47, .invokevirtual 413, (282, 4, 0)), (50, .ifCond .ne 6, mX), (53, .bipush (-4), mX), (55, .ireturn, mX), (56, .aload_n 0, mX), (57, .getfield 152, (12, 68, 0)), (60, .iload_n 1, mX), (61, .iconst 1, mX), (62, .bastore, mX), (63, .aload_n 0, mX), (64, .getfield 146, (12, 66, 0)), (67, .iload_n 1, mX), (68, .iconst 0, mX), (69, .bastore, mX), (70, .aload_n 0, mX), (71, .iload_n 1, mX), (72, .bipush 6, mX), (74, .invokevirtual 559, (290, 3, 0)), (77, .iconst 1, mX), (78, .ireturn, mX)])
noncomputable def mt373 : am_M := (⟨"AssizeRideModel", "hadOne", "(I)Z"⟩, prog_14_method_105_code, 3, (Option.some FieldType.boolean), [(0, .iconst 0, mX), (1, .istore_n 2, mX), (2, .iload_n 2, mX), (3, .aload_n 0, mX), (4, .getfield 406, (12, 56, 0)), (7, .if_icmp .ge 30, mX), (10, .aload_n 0, mX), (11, .getfield 152, (12, 68, 0)), (14, .iload_n 2, mX), (15, .baload, mX), (16, .ifCond .eq 15, mX), (19, .aload_n 0, mX), (20, .getfield 125, (12, 59, 0)), (23, .iload_n 2, mX), (24, .iaload, mX), (25, .iload_n 1, mX), (26, .if_icmp .ne 5, mX), (29, .iconst 1, mX), (30, .ireturn, mX), (31, .iinc 2 1, mX), (34, .goto (-32), mX), (37, .iconst 0, mX), (38, .ireturn, mX)])
noncomputable def mt374 : am_M := (⟨"AssizeRideModel", "keep", "(I)I"⟩, prog_14_method_107_code, 2, (Option.some FieldType.int), [(0, .aload_n 0, mX), (1, .iload_n 1, mX), (2, .invokevirtual 567, (338, 2, 0)), (5, .ifCond .ne 6, mX), (8, .bipush (-2), mX), (10, .ireturn, mX), (11, .aload_n 0, mX), (12, .getfield 143, (12, 65, 0)), (15, .iload_n 1, mX), (16, .iaload, mX), (17, .iconst 3, mX), (18, .if_icmp .ne 13, mX), (21, .aload_n 0, mX), (22, .iconst 5, mX), (23, .lconst 0, mX), (24, .iload_n 1, mX), (25, .invokevirtual 413, (282, 4, 0)), (28, .ifCond .ne 6, mX), (31, .bipush (-4), mX), (33, .ireturn, mX), (34, .aload_n 0, mX), (35, .iload_n 1, mX), (36, .bipush 7, mX), (38, .invokevirtual 559, (290, 3, 0)), (41, .iconst 1, mX), (42, .ireturn, mX)])
noncomputable def mt375 : am_M := (⟨"AssizeRideModel", "settle", "(Z)I"⟩, prog_14_method_108_code, 6, (Option.some FieldType.int), [(0, .aload_n 0, mX), (1, .invokevirtual 525, (323, 1, 0)), (4, .lstore_n 2, mX), (5, .lload_n 2, mX), (6, .lconst 0, mX), (7, .lcmp, mX), (8, .ifCond .ne 5, mX), (11, .iconst (-1), mX), (12, .ireturn, mX), (13, .aload_n 0, mX), (14, .getfield 624, (12, 96, 0)), (17, .bipush 40, mX), (19, .if_icmp .ne 6, mX), (22, .bipush (-3), mX), (24, .ireturn, mX), (25, .aload_n 0, mX), (26, .getfield 228, (12, 97, 0)), (29, .aload_n 0, mX), (30, .getfield 624, (12, 96, 0)), (33, .lload_n 2, mX), (34, .lastore, mX), (35, .aload_n 0, mX), (36, .getfield 231, (12, 98, 0)), (39, .aload_n 0, mX), (40, .getfield 624, (12, 96, 0)), (43, .iload_n 1, mX), (44, .bastore, mX), (45, .aload_n 0, mX), (46, .dup, mX), (47, .getfield 624, (12, 96, 0)), (50, .iconst 1, mX), (51, .iadd, mX), (52, .putfield 624, (12, 96, 0)), (55, .iconst 0, mX), (56, .istore 4, mX), (58, .iconst 0, mX), (59, .istore 5, mX), (61, .iload 5, mX), (63, .aload_n 0, mX), (64, .getfield 406, (12, 56, 0)), (67, .if_icmp .ge 67, mX), (70, .aload_n 0, mX), (71, .getfield 143, (12, 65, 0)), (74, .iload 5, mX), (76, .iaload, mX), (77, .bipush 7, mX), (79, .if_icmp .ne 49, mX), (82, .aload_n 0, mX), (83, .getfield 140, (12, 64, 0)), (86, .iload 5, mX), (88, .laload, mX), (89, .lload_n 2, mX), (90, .lcmp, mX), (91, .ifCond .eq 6, mX), (94, .goto 34, mX), (97, .iinc 4 1, mX), (100, .iload_n 1, mX), (101, .ifCond .eq 12, mX), (104, .aload_n 0, mX), (105, .iload 5, mX), (107, .invokevirtual 627, (371, 2, 0)), (110, .goto 18, mX), (113, .aload_n 0, mX), (114, .getfield 155, (12, 69, 0)), (117, .iload 5, mX), (119, .iconst 0, mX), (120, .bastore, mX), (121, .aload_n 0, mX), (122, .iload 5, mX), (124, .iconst 4, mX), (125, .invokevirtual 559, (290, 3, 0)), (128, .iinc 5 1, mX), (131, .goto (-70), mX), (134, .iload 4, mX), (136, .ireturn, mX)])
noncomputable def mt376 : am_M := (⟨"AssizeRideModel", "pardon", "(III)I"⟩, prog_14_method_109_code, 4, (Option.some FieldType.int), [(0, .aload_n 0, mX), (1, .iload_n 1, mX), (2, .invokevirtual 567, (338, 2, 0)), (5, .ifCond .eq 24, mX), (8, .iload_n 2, mX), (9, .invokestatic 384, (272, 1, 0)), (12, .ifCond .eq 17, mX), (15, .iload_n 3, mX), (16, .aload_n 0, mX), (17, .getfield 393, (12, 9, 0)), (20, .sipush 399, mX), (23, .invokestatic 318, (273, 3, 0)), (26, .ifCond .ne 6, mX), (29, .bipush (-2), mX), (31, .ireturn, mX), (32, .aload_n 0, mX), (33, .getfield 143, (12, 65, 0)), (36, .iload_n 1, mX), (37, .iaload, mX), (38, .iconst 5, mX), (39, .if_icmp .ne 12, mX), (42, .aload_n 0, mX), (43, .getfield 146, (12, 66, 0)), (46, .iload_n 1, mX), (47, .baload, mX), (48, .ifCond .ne 6, mX), (51, .bipush (-4), mX), (53, .ireturn, mX), (54, .aload_n 0, mX), (55, .getfield 164, (12, 72, 0)), (58, .iload_n 1, mX), (59, .iload_n 2, mX), (60, .iastore, mX), (61, .aload_n 0, mX), (62, .getfield 167, (12, 73, 0)), (65, .iload_n 1, mX), (66, .iload_n 3, mX), (67, .iastore, mX), (68, .aload_n 0, mX), (69, .getfield 146, (12, 66, 0)), (72, .iload_n 1, mX), (73, .iconst 0, mX), (74, .bastore, mX), (75, .aload_n 0, mX), (76, .iload_n 1, mX), (77, .bipush 8, mX), (79, .invokevirtual 559, (290, 3, 0)), (82, .iconst 1, mX), (83, .ireturn, mX)])
noncomputable def mt377 : am_M := (⟨"AssizeRideModel", "undo", "(I)I"⟩, prog_14_method_110_code, 2, (Option.some FieldType.int), [(0, .aload_n 0, mX), (1, .iload_n 1, mX), (2, .invokevirtual 556, (339, 2, 0)), (5, .ifCond .ne 6, mX), (8, .bipush (-2), mX), (10, .ireturn, mX), (11, .aload_n 0, mX), (12, .getfield 143, (12, 65, 0)), (15, .iload_n 1, mX), (16, .iaload, mX), (17, .iconst 4, mX), (18, .if_icmp .eq 36, mX), (21, .aload_n 0, mX), (22, .getfield 143, (12, 65, 0)), (25, .iload_n 1, mX), (26, .iaload, mX), (27, .iconst 5, mX), (28, .if_icmp .eq 26, mX), (31, .aload_n 0, mX), (32, .getfield 143, (12, 65, 0)), (35, .iload_n 1, mX), (36, .iaload, mX), (37, .bipush 6, mX), (39, .if_icmp .ne 12, mX), (42, .aload_n 0, mX), (43, .getfield 119, (12, 57, 0)), (46, .iload_n 1, mX), (47, .baload, mX), (48, .ifCond .eq 6, mX), (51, .bipush (-4), mX), (53, .ireturn, mX), (54, .aload_n 0, mX), (55, .iload_n 1, mX), (56, .invokevirtual 417, (289, 2, 0)), (59, .aload_n 0, mX), (60, .getfield 143, (12, 65, 0)), (63, .iload_n 1, mX), (64, .iaload, mX), (65, .ireturn, mX)])
noncomputable def mt378 : am_M := (⟨"AssizeRideModel", "commit", "(II)I"⟩, prog_14_method_112_code, 3, (Option.some FieldType.int), [(0, .aload_n 0, mX), (1, .iload_n 1, mX), (2, .invokevirtual 396, (276, 2, 0)), (5, .ifCond .eq 10, mX), (8, .iload_n 2, mX), (9, .invokestatic 384, (272, 1, 0)), (12, .ifCond .ne 6, mX), (15, .bipush (-2), mX), (17, .ireturn, mX), (18, .aload_n 0, mX), (19, .getfield 234, (12, 99, 0)), (22, .iload_n 1, mX), (23, .iaload, mX), (24, .iconst (-1), mX), (25, .if_icmp .eq 6, mX), (28, .bipush (-4), mX), (30, .ireturn, mX), (31, .aload_n 0, mX), (32, .getfield 234, (12, 99, 0)), (35, .iload_n 1, mX), (36, .iload_n 2, mX), (37, .iastore, mX), (38, .aload_n 0, mX), (39, .getfield 237, (12, 100, 0)), (42, .iload_n 1, mX), (43, .aload_n 0, mX), (44, .getfield 393, (12, 9, 0)), (47, .iastore, mX), (48, .aload_n 0, mX), (49, .iload_n 2, mX), (50, .invokevirtual 633, (379, 2, 0)), (53, .ireturn, mX)])
noncomputable def mt379 : am_M := (⟨"AssizeRideModel", "inGaol", "(I)I"⟩, prog_14_method_111_code, 4, (Option.some FieldType.int), [(0, .iconst 0, mX), (1, .istore_n 2, mX), (2, .iconst 0, mX), (3, .istore_n 3, mX), (4, .iload_n 3, mX), (5, .aload_n 0, mX), (6, .getfield 387, (12, 10, 0)), (9, .if_icmp .ge 27, mX), (12, .iload_n 2, mX), (13, .aload_n 0, mX), (14, .getfield 234, (12, 99, 0)), (17, .iload_n 3, mX), (18, .iaload, mX), (19, .iload_n 1, mX), (20, .if_icmp .ne 7, mX), (23, .iconst 1, mX), (24, .goto 4, mX), (27, .iconst 0, mX), (28, .iadd, mX), (29, .istore_n 2, mX), (30, .iinc 3 1, mX), (33, .goto (-29), mX), (36, .iload_n 2, mX), (37, .ireturn, mX)])
noncomputable def mt380 : am_M := (⟨"AssizeRideModel", "bail", "(I)I"⟩, prog_14_method_114_code, 3, (Option.some FieldType.int), [(0, .aload_n 0, mX), (1, .iload_n 1, mX), (2, .invokevirtual 396, (276, 2, 0)), (5, .ifCond .ne 6, mX), (8, .bipush (-2), mX), (10, .ireturn, mX), (11, .aload_n 0, mX), (12, .getfield 234, (12, 99, 0)), (15, .iload_n 1, mX), (16, .iaload, mX), (17, .iconst (-1), mX), (18, .if_icmp .ne 6, mX), (21, .bipush (-4), mX), (23, .ireturn, mX), (24, .aload_n 0, mX), (25, .getfield 234, (12, 99, 0)), (28, .iload_n 1, mX), (29, .iaload, mX), (30, .istore_n 2, mX), (31, .aload_n 0, mX), (32, .iload_n 1, mX), (33, .invokevirtual 636, (381, 2, 0)), (36, .iload_n 2, mX), (37, .ireturn, mX)])
noncomputable def mt381 : am_M := (⟨"AssizeRideModel", "free", "(I)V"⟩, prog_14_method_113_code, 2, (Option.none : Option FieldType), [(0, .aload_n 0, mX), (1, .getfield 240, (12, 101, 0)), (4, .iload_n 1, mX), (5, .dup2, mX), (6, .iaload, mX), (7, .aload_n 0, mX), (8, .getfield 393, (12, 9, 0)), (11, .aload_n 0, mX), (12, .getfield 237, (12, 100, 0)), (15, .iload_n 1, mX), (16, .iaload, mX), (17, .isub, mX), (18, .iadd, mX), (19, .iastore, mX), (20, .aload_n 0, mX), (21, .getfield 234, (12, 99, 0)), (24, .iload_n 1, mX), (25, .iconst (-1), mX), (26, .iastore, mX), (27, .return_, mX)])
noncomputable def mt382 : am_M := (⟨"AssizeRideModel", "deliver", "(I)I"⟩, prog_14_method_116_code, 5, (Option.some FieldType.int), [(0, .iload_n 1, mX), (1, .invokestatic 384, (272, 1, 0)), (4, .ifCond .ne 6, mX), (7, .bipush (-2), mX), (9, .ireturn, mX), (10, .iconst 0, mX), (11, .istore_n 2, mX), (12, .aload_n 0, mX), (13, .iconst 0, mX), (14, .putfield 639, (12, 102, 0)), (17, .iconst 0, mX), (18, .istore_n 3, mX), (19, .iload_n 3, mX), (20, .aload_n 0, mX), (21, .getfield 387, (12, 10, 0)), (24, .if_icmp .ge 77, mX), (27, .aload_n 0, mX), (28, .getfield 234, (12, 99, 0)), (31, .iload_n 3, mX), (32, .iaload, mX), (33, .iload_n 1, mX), (34, .if_icmp .eq 6, mX), (37, .goto 58, mX), (40, .aload_n 0, mX), (41, .iload_n 3, mX), (42, .invokevirtual 642, (383, 2, 0)), (45, .istore 4, mX), (47, .iload 4, mX), (49, .iconst (-1), mX), (50, .if_icmp .ne 14, mX), (53, .aload_n 0, mX), (54, .iload_n 3, mX), (55, .invokevirtual 636, (381, 2, 0)), (58, .iinc 2 1, mX), (61, .goto 34, mX), (64, .aload_n 0, mX), (65, .getfield 243, (12, 103, 0)), (68, .aload_n 0, mX), (69, .getfield 639, (12, 102, 0)), (72, .iload_n 3, mX), (73, .iastore, mX), (74, .aload_n 0, mX), (75, .getfield 246, (12, 104, 0)), (78, .aload_n 0, mX), (79, .getfield 639, (12, 102, 0)), (82, .iload 4, mX), (84, .iastore, mX), (85, .aload_n 0, mX), (86, .dup, mX), (87, .getfield 639, (12, 102, 0)), (90, .iconst 1, mX), (91, .iadd, mX), (92, .putfield 639, (12, 102, 0)), (95, .iinc 3 1, mX), (98, .goto (-79), mX), (101, .iload_n 2, mX), (102, .ireturn, mX)])
noncomputable def mt383 : am_M := (⟨"AssizeRideModel", "staysBy", "(I)I"⟩, prog_14_method_115_code, 3, (Option.some FieldType.int), [(0, .iconst 0, mX), (1, .istore_n 2, mX), (2, .iload_n 2, mX), (3, .aload_n 0, mX), (4, .getfield 406, (12, 56, 0)), (7, .if_icmp .ge 68, mX), (10, .aload_n 0, mX), (11, .getfield 119, (12, 57, 0)), (14, .iload_n 2, mX), (15, .baload, mX), (16, .ifCond .ne 53, mX), (19, .aload_n 0, mX), (20, .getfield 125, (12, 59, 0)), (23, .iload_n 2, mX), (24, .iaload, mX), (25, .iload_n 1, mX), (26, .if_icmp .ne 43, mX), (29, .aload_n 0, mX), (30, .iload_n 2, mX), (31, .invokevirtual 583, (350, 2, 0)), (34, .ifCond .ne 33, mX), (37, .aload_n 0, mX), (38, .getfield 143, (12, 65, 0)), (41, .iload_n 2, mX), (42, .iaload, mX), (43, .iconst 5, mX), (44, .if_icmp .ne 12, mX), (47, .aload_n 0, mX), (48, .getfield 146, (12, 66, 0)), (51, .iload_n 2, mX), (52, .baload, mX), (53, .ifCond .ne 14, mX), (56, .aload_n 0, mX), (57, .getfield 143, (12, 65, 0)), (60, .iload_n 2, mX), (61, .iaload, mX), (62, .bipush 9, mX), (64, .if_icmp .ne 5, mX), (67, .iload_n 2, mX), (68, .ireturn, mX), (69, .iinc 2 1, mX), (72, .goto (-70), mX), (75, .iconst (-1), mX), (76, .ireturn, mX)])
noncomputable def mt384 : am_M := (⟨"AssizeRideModel", "left", "(II)I"⟩, prog_14_method_117_code, 3, (Option.some FieldType.int), [(0, .iload_n 1, mX), (1, .iconst 0, mX), (2, .aload_n 0, mX), (3, .getfield 639, (12, 102, 0)), (6, .iconst 1, mX), (7, .isub, mX), (8, .invokestatic 318, (273, 3, 0)), (11, .ifCond .ne 5, mX), (14, .iconst (-1), mX), (15, .ireturn, mX), (16, .iload_n 2, mX), (17, .ifCond .ne 12, mX), (20, .aload_n 0, mX), (21, .getfield 243, (12, 103, 0)), (24, .iload_n 1, mX), (25, .iaload, mX), (26, .goto 18, mX), (29, .iload_n 2, mX), (30, .iconst 1, mX), (31, .if_icmp .ne 12, mX), (34, .aload_n 0, mX), (35, .getfield 246, (12, 104, 0)), (38, .iload_n 1, mX), (39, .iaload, mX), (40, .goto 4, mX), (43, .iconst (-1), mX), (44, .ireturn, mX)])
noncomputable def mt385 : am_M := (⟨"AssizeRideModel", "prisoner", "(II)I"⟩, prog_14_method_118_code, 3, (Option.some FieldType.int), [(0, .aload_n 0, mX), (1, .iload_n 1, mX), (2, .invokevirtual 396, (276, 2, 0)), (5, .ifCond .ne 6, mX), (8, .bipush (-2), mX), (10, .ireturn, mX), (11, .iload_n 2, mX), (12, .ifCond .ne 12, mX), (15, .aload_n 0, mX), (16, .getfield 234, (12, 99, 0)), (19, .iload_n 1, mX), (20, .iaload, mX), (21, .goto 45, mX), (24, .iload_n 2, mX), (25, .iconst 1, mX), (26, .if_icmp .ne 38, mX), (29, .aload_n 0, mX), (30, .getfield 240, (12, 101, 0)), (33, .iload_n 1, mX), (34, .iaload, mX), (35, .aload_n 0, mX), (36, .getfield 234, (12, 99, 0)), (39, .iload_n 1, mX), (40, .iaload, mX), (41, .iconst (-1), mX), (42, .if_icmp .ne 7, mX), (45, .iconst 0, mX), (46, .goto 14, mX), (49, .aload_n 0, mX), (50, .getfield 393, (12, 9, 0)), (53, .aload_n 0, mX), (54, .getfield 237, (12, 100, 0)), (57, .iload_n 1, mX), (58, .iaload, mX), (59, .isub, mX), (60, .iadd, mX), (61, .goto 5, mX), (64, .bipush (-2), mX), (66, .ireturn, mX)])
noncomputable def mt386 : am_M := (⟨"AssizeRideModel", "bond", "(IIIII)I"⟩, prog_14_method_119_code, 6, (Option.some FieldType.int), [(0, .aload_n 0, mX), (1, .iload_n 1, mX), (2, .invokevirtual 396, (276, 2, 0)), (5, .ifCond .eq 50, mX), (8, .iload_n 2, mX), (9, .invokestatic 384, (272, 1, 0)), (12, .ifCond .eq 43, mX), (15, .iload_n 3, mX), (16, .invokestatic 399, (277, 1, 0)), (19, .ifCond .eq 36, mX), (22, .iload 4, mX), (24, .iload_n 3, mX), (25, .sipush 399, mX), (28, .invokestatic 318, (273, 3, 0)), (31, .ifCond .eq 24, mX), (34, .iload 4, mX), (36, .aload_n 0, mX), (37, .getfield 393, (12, 9, 0)), (40, .if_icmp .lt 15, mX), (43, .iload 5, mX), (45, .iconst 1, mX), (46, .sipush 9999, mX), (49, .invokestatic 318, (273, 3, 0)), (52, .ifCond .ne 6, mX), (55, .bipush (-2), mX), (57, .ireturn, mX), (58, .aload_n 0, mX), (59, .getfield 645, (12, 105, 0)), (62, .bipush 80, mX), (64, .if_icmp .ne 6, mX), (67, .bipush (-3), mX), (69, .ireturn, mX), (70, .aload_n 0, mX), (71, .getfield 249, (12, 106, 0)), (74, .aload_n 0, mX), (75, .getfield 645, (12, 105, 0)), (78, .iload_n 1, mX), (79, .iastore, mX), (80, .aload_n 0, mX), (81, .getfield 252, (12, 107, 0)), (84, .aload_n 0, mX), (85, .getfield 645, (12, 105, 0)), (88, .iload_n 2, mX), (89, .iastore, mX), (90, .aload_n 0, mX), (91, .getfield 255, (12, 108, 0)), (94, .aload_n 0, mX), (95, .getfield 645, (12, 105, 0)), (98, .iload_n 3, mX), (99, .iastore, mX), (100, .aload_n 0, mX), (101, .getfield 258, (12, 109, 0)), (104, .aload_n 0, mX), (105, .getfield 645, (12, 105, 0)), (108, .iload 4, mX), (110, .iastore, mX), (111, .aload_n 0, mX), (112, .getfield 261, (12, 110, 0)), (115, .aload_n 0, mX), (116, .getfield 645, (12, 105, 0)), (119, .iload 5, mX), (121, .iastore, mX), (122, .aload_n 0, mX), (123, .dup, mX), (124, .getfield 645, (12, 105, 0)), (127, .iconst 1, mX), (128, .iadd, mX), (129, .putfield 645, (12, 105, 0)), (132, .aload_n 0, mX), (133, .getfield 645, (12, 105, 0)), (136, .iconst 1, mX), (137, .isub, mX), (138, .ireturn, mX)])
noncomputable def mt387 : am_M := (⟨"AssizeRideModel", "pass", "(I)I"⟩, prog_14_method_120_code, 3, (Option.some FieldType.int), [(0, .iload_n 1, mX), (1, .iconst 1, mX), (2, .bipush 100, mX), (4, .invokestatic 318, (273, 3, 0)), (7, .ifCond .eq 15, mX), (10, .aload_n 0, mX), (11, .getfield 393, (12, 9, 0)), (14, .iload_n 1, mX), (15, .iadd, mX), (16, .sipush 399, mX), (19, .if_icmp .le 6, mX), (22, .bipush (-2), mX), (24, .ireturn, mX), (25, .aload_n 0, mX), (26, .dup, mX), (27, .getfield 393, (12, 9, 0)), (30, .iload_n 1, mX), (31, .iadd, mX), (32, .putfield 393, (12, 9, 0)), (35, .iconst 0, mX), (36, .istore_n 2, mX), (37, .iload_n 2, mX), (38, .aload_n 0, mX), (39, .getfield 645, (12, 105, 0)), (42, .if_icmp .ge 97, mX), (45, .aload_n 0, mX), (46, .getfield 264, (12, 111, 0)), (49, .iload_n 2, mX), (50, .iaload, mX), (51, .ifCond .ne 82, mX), (54, .aload_n 0, mX), (55, .getfield 258, (12, 109, 0)), (58, .iload_n 2, mX), (59, .iaload, mX), (60, .aload_n 0, mX), (61, .getfield 393, (12, 9, 0)), (64, .if_icmp .lt 6, mX), (67, .goto 66, mX), (70, .aload_n 0, mX), (71, .getfield 264, (12, 111, 0)), (74, .iload_n 2, mX), (75, .aload_n 0, mX), (76, .aload_n 0, mX), (77, .getfield 249, (12, 106, 0)), (80, .iload_n 2, mX), (81, .iaload, mX), (82, .aload_n 0, mX), (83, .getfield 258, (12, 109, 0)), (86, .iload_n 2, mX), (87, .iaload, mX), (88, .aload_n 0, mX), (89, .getfield 393, (12, 9, 0)), (92, .invokevirtual 425, (294, 4, 0)), (95, .ifCond .eq 7, mX), (98, .iconst 3, mX), (99, .goto 4, mX), (102, .iconst 2, mX), (103, .iastore, mX), (104, .aload_n 0, mX), (105, .dup, mX), (106, .getfield 621, (12, 85, 0)), (109, .aload_n 0, mX), (110, .getfield 264, (12, 111, 0)), (113, .iload_n 2, mX), (114, .iaload, mX), (115, .iconst 2, mX), (116, .if_icmp .ne 12, mX), (119, .aload_n 0, mX), (120, .getfield 261, (12, 110, 0)), (123, .iload_n 2, mX), (124, .iaload, mX), (125, .goto 4, mX), (128, .iconst 0, mX), (129, .iadd, mX), (130, .putfield 621, (12, 85, 0)), (133, .iinc 2 1, mX), (136, .goto (-99), mX), (139, .aload_n 0, mX), (140, .getfield 393, (12, 9, 0)), (143, .ireturn, mX)])
noncomputable def mt388 : am_M := (⟨"AssizeRideModel", "seen", "(II)I"⟩, prog_14_method_121_code, 5, (Option.some FieldType.int), [(0, .aload_n 0, mX), (1, .iload_n 1, mX), (2, .invokevirtual 396, (276, 2, 0)), (5, .ifCond .eq 10, mX), (8, .iload_n 2, mX), (9, .invokestatic 384, (272, 1, 0)), (12, .ifCond .ne 6, mX), (15, .bipush (-2), mX), (17, .ireturn, mX), (18, .iconst 0, mX), (19, .istore_n 3, mX), (20, .iconst 0, mX), (21, .istore 4, mX), (23, .iload 4, mX), (25, .aload_n 0, mX), (26, .getfield 645, (12, 105, 0)), (29, .if_icmp .ge 79, mX), (32, .aload_n 0, mX), (33, .getfield 264, (12, 111, 0)), (36, .iload 4, mX), (38, .iaload, mX), (39, .ifCond .ne 63, mX), (42, .aload_n 0, mX), (43, .getfield 249, (12, 106, 0)), (46, .iload 4, mX), (48, .iaload, mX), (49, .iload_n 1, mX), (50, .if_icmp .ne 52, mX), (53, .aload_n 0, mX), (54, .getfield 252, (12, 107, 0)), (57, .iload 4, mX), (59, .iaload, mX), (60, .iload_n 2, mX), (61, .if_icmp .ne 41, mX), (64, .aload_n 0, mX), (65, .getfield 393, (12, 9, 0)), (68, .aload_n 0, mX), (69, .getfield 255, (12, 108, 0)), (72, .iload 4, mX), (74, .iaload, mX), (75, .aload_n 0, mX), (76, .getfield 258, (12, 109, 0)), (79, .iload 4, mX), (81, .iaload, mX), (82, .invokestatic 318, (273, 3, 0)), (85, .ifCond .ne 6, mX), (88, .goto 14, mX), (91, .aload_n 0, mX), (92, .getfield 264, (12, 111, 0)), (95, .iload 4, mX), (97, .iconst 1, mX), (98, .iastore, mX), (99, .iinc 3 1, mX), (102, .iinc 4 1, mX), (105, .goto (-82), mX), (108, .iconst 0, mX), (109, .istore 4, mX), (111, .iload 4, mX), (113, .aload_n 0, mX), (114, .getfield 406, (12, 56, 0)), (117, .if_icmp .ge 79, mX), (120, .aload_n 0, mX), (121, .getfield 143, (12, 65, 0)), (124, .iload 4, mX), (126, .iaload, mX), (127, .bipush 8, mX), (129, .if_icmp .ne 61, mX), (132, .aload_n 0, mX), (133, .getfield 125, (12, 59, 0)), (136, .iload 4, mX), (138, .iaload, mX), (139, .iload_n 1, mX), (140, .if_icmp .ne 50, mX), (143, .aload_n 0, mX), (144, .getfield 164, (12, 72, 0)), (147, .iload 4, mX), (149, .iaload, mX), (150, .iload_n 2, mX), (151, .if_icmp .ne 39, mX), (154, .aload_n 0, mX), (155, .getfield 393, (12, 9, 0)), (158, .aload_n 0, mX), (159, .getfield 167, (12, 73, 0)), (162, .iload 4, mX), (164, .iaload, mX), (165, .if_icmp .le 6, mX), (168, .goto 22, mX), (171, .aload_n 0, mX), (172, .getfield 146, (12, 66, 0)), (175, .iload 4, mX), (177, .iconst 1, mX), (178, .bastore, mX), (179, .aload_n 0, mX), (180, .iload 4, mX), (182, .bipush 9, mX), (184, .invokevirtual 559, (290, 3, 0)), (187, .iinc 3 100, mX), (190, .iinc 4 1, mX), (193, .goto (-82), mX), (196, .iload_n 3, mX), (197, .ireturn, mX)])
noncomputable def mt389 : am_M := (⟨"AssizeRideModel", "bonded", "(II)I"⟩, prog_14_method_122_code, 3, (Option.some FieldType.int), [(0, .iload_n 1, mX), (1, .iconst 0, mX), (2, .aload_n 0, mX), (3, .getfield 645, (12, 105, 0)), (6, .iconst 1, mX), (7, .isub, mX), (8, .invokestatic 318, (273, 3, 0)), (11, .ifCond .ne 5, mX), (14, .iconst (-1), mX), (15, .ireturn, mX), (16, .iload_n 2, mX), (17, .tableswitch 81 0 5 #[39, 46, 53, 60, 67, 74], (39, 0, 0)), (56, .aload_n 0, mX), (57, .getfield 249, (12, 106, 0)), (60, .iload_n 1, mX), (61, .iaload, mX), (62, .ireturn, mX), (63, .aload_n 0, mX), (64, .getfield 252, (12, 107, 0)), (67, .iload_n 1, mX), (68, .iaload, mX), (69, .ireturn, mX), (70, .aload_n 0, mX), (71, .getfield 255, (12, 108, 0)), (74, .iload_n 1, mX), (75, .iaload, mX), (76, .ireturn, mX), (77, .aload_n 0, mX), (78, .getfield 258, (12, 109, 0)), (81, .iload_n 1, mX), (82, .iaload, mX), (83, .ireturn, mX), (84, .aload_n 0, mX), (85, .getfield 261, (12, 110, 0)), (88, .iload_n 1, mX), (89, .iaload, mX), (90, .ireturn, mX), (91, .aload_n 0, mX), (92, .getfield 264, (12, 111, 0)), (95, .iload_n 1, mX), (96, .iaload, mX), (97, .ireturn, mX), (98, .iconst (-1), mX), (99, .ireturn, mX)])
noncomputable def mt390 : am_M := (⟨"AssizeRideModel", "hours", "(II)I"⟩, prog_14_method_123_code, 4, (Option.some FieldType.int), [(0, .aload_n 0, mX), (1, .iload_n 1, mX), (2, .invokevirtual 556, (339, 2, 0)), (5, .ifCond .eq 12, mX), (8, .iload_n 2, mX), (9, .iconst 1, mX), (10, .iconst 4, mX), (11, .invokestatic 318, (273, 3, 0)), (14, .ifCond .ne 6, mX), (17, .bipush (-2), mX), (19, .ireturn, mX), (20, .aload_n 0, mX), (21, .getfield 170, (12, 74, 0)), (24, .iload_n 1, mX), (25, .iaload, mX), (26, .istore_n 3, mX), (27, .aload_n 0, mX), (28, .getfield 170, (12, 74, 0)), (31, .iload_n 1, mX), (32, .iload_n 2, mX), (33, .iastore, mX), (34, .iload_n 3, mX), (35, .ireturn, mX)])
noncomputable def mt391 : am_M := (⟨"AssizeRideModel", "order", "()I"⟩, prog_14_method_125_code, 1, (Option.some FieldType.int), [(0, .aload_n 0, mX), (1, .iconst 0, mX), (2, .putfield 648, (12, 112, 0)), (5, .aload_n 0, mX), (6, .invokevirtual 651, (392, 1, 0)), (9, .iconst 1, mX), (10, .ireturn, mX)])
noncomputable def mt392 : am_M := (⟨"AssizeRideModel", "unlay", "()V"⟩, prog_14_method_124_code, 2, (Option.none : Option FieldType), [(0, .iconst 0, mX), (1, .istore_n 1, mX), (2, .iload_n 1, mX), (3, .iconst 5, mX), (4, .if_icmp .ge 16, mX), (7, .aload_n 0, mX), (8, .getfield 270, (12, 114, 0)), (11, .iload_n 1, mX), (12, .iconst (-1), mX), (13, .iastore, mX), (14, .iinc 1 1, mX), (17, .goto (-15), mX), (20, .return_, mX)])
noncomputable def mt393 : am_M := (⟨"AssizeRideModel", "put", "(I)I"⟩, prog_14_method_126_code, 3, (Option.some FieldType.int), [(0, .aload_n 0, mX), (1, .iload_n 1, mX), (2, .invokevirtual 556, (339, 2, 0)), (5, .ifCond .ne 6, mX), (8, .bipush (-2), mX), (10, .ireturn, mX), (11, .iconst 0, mX), (12, .istore_n 2, mX), (13, .iload_n 2, mX), (14, .aload_n 0, mX), (15, .getfield 648, (12, 112, 0)), (18, .if_icmp .ge 22, mX), (21, .aload_n 0, mX), (22, .getfield 267, (12, 113, 0)), (25, .iload_n 2, mX), (26, .iaload, mX), (27, .iload_n 1, mX), (28, .if_icmp .ne 6, mX), (31, .bipush (-4), mX), (33, .ireturn, mX), (34, .iinc 2 1, mX), (37, .goto (-24), mX), (40, .aload_n 0, mX), (41, .getfield 648, (12, 112, 0)), (44, .iconst 5, mX), (45, .if_icmp .ne 6, mX), (48, .bipush (-3), mX), (50, .ireturn, mX), (51, .aload_n 0, mX), (52, .getfield 648, (12, 112, 0)), (55, .istore_n 2, mX), (56, .iload_n 2, mX), (57, .ifCond .le 35, mX), (60, .aload_n 0, mX), (61, .getfield 267, (12, 113, 0)), (64, .iload_n 2, mX), (65, .iconst 1, mX), (66, .isub, mX), (67, .iaload, mX), (68, .iload_n 1, mX), (69, .if_icmp .le 23, mX), (72, .aload_n 0, mX), (73, .getfield 267, (12, 113, 0)), (76, .iload_n 2, mX), (77, .aload_n 0, mX), (78, .getfield 267, (12, 113, 0)), (81, .iload_n 2, mX), (82, .iconst 1, mX), (83, .isub, mX), (84, .iaload, mX), (85, .iastore, mX), (86, .iinc 2 (-1), mX), (89, .goto (-33), mX), (92, .aload_n 0, mX), (93, .getfield 267, (12, 113, 0)), (96, .iload_n 2, mX), (97, .iload_n 1, mX), (98, .iastore, mX), (99, .aload_n 0, mX), (100, .dup, mX), (101, .getfield 648, (12, 112, 0)), (104, .iconst 1, mX), (105, .iadd, mX), (106, .putfield 648, (12, 112, 0)), (109, .aload_n 0, mX), (110, .invokevirtual 651, (392, 1, 0)), (113, .aload_n 0, mX), (114, .getfield 648, (12, 112, 0)), (117, .ireturn, mX)])
noncomputable def mt394 : am_M := (⟨"AssizeRideModel", "best", "(I)I"⟩, prog_14_method_132_code, 3, (Option.some FieldType.int), [(0, .iload_n 1, mX), (1, .iconst 1, mX), (2, .bipush 10, mX), (4, .invokestatic 318, (273, 3, 0)), (7, .ifCond .ne 6, mX), (10, .bipush (-2), mX), (12, .ireturn, mX), (13, .aload_n 0, mX), (14, .iconst (-1), mX), (15, .putfield 660, (12, 117, 0)), (18, .aload_n 0, mX), (19, .invokevirtual 670, (395, 1, 0)), (22, .aload_n 0, mX), (23, .iconst 0, mX), (24, .iload_n 1, mX), (25, .iconst 0, mX), (26, .invokevirtual 666, (398, 4, 0)), (29, .iconst 0, mX), (30, .istore_n 2, mX), (31, .iload_n 2, mX), (32, .aload_n 0, mX), (33, .getfield 648, (12, 112, 0)), (36, .if_icmp .ge 21, mX), (39, .aload_n 0, mX), (40, .getfield 270, (12, 114, 0)), (43, .iload_n 2, mX), (44, .aload_n 0, mX), (45, .getfield 276, (12, 116, 0)), (48, .iload_n 2, mX), (49, .iaload, mX), (50, .iastore, mX), (51, .iinc 2 1, mX), (54, .goto (-23), mX), (57, .aload_n 0, mX), (58, .getfield 660, (12, 117, 0)), (61, .ireturn, mX)])
noncomputable def mt395 : am_M := (⟨"AssizeRideModel", "makeMeets", "()V"⟩, prog_14_method_129_code, 3, (Option.none : Option FieldType), [(0, .iconst 0, mX), (1, .istore_n 1, mX), (2, .iload_n 1, mX), (3, .aload_n 0, mX), (4, .getfield 648, (12, 112, 0)), (7, .if_icmp .ge 51, mX), (10, .iconst 0, mX), (11, .istore_n 2, mX), (12, .iload_n 2, mX), (13, .aload_n 0, mX), (14, .getfield 648, (12, 112, 0)), (17, .if_icmp .ge 35, mX), (20, .aload_n 0, mX), (21, .getfield 279, (12, 118, 0)), (24, .iconst 5, mX), (25, .iload_n 1, mX), (26, .imul, mX), (27, .iload_n 2, mX), (28, .iadd, mX), (29, .aload_n 0, mX), (30, .aload_n 0, mX), (31, .getfield 267, (12, 113, 0)), (34, .iload_n 1, mX), (35, .iaload, mX), (36, .aload_n 0, mX), (37, .getfield 267, (12, 113, 0)), (40, .iload_n 2, mX), (41, .iaload, mX), (42, .invokevirtual 657, (396, 3, 0)), (45, .bastore, mX), (46, .iinc 2 1, mX), (49, .goto (-37), mX), (52, .iinc 1 1, mX), (55, .goto (-53), mX), (58, .return_, mX)])
noncomputable def mt396 : am_M := (⟨"AssizeRideModel", "isMeeting", "(II)Z"⟩, prog_14_method_128_code, 4, (Option.some FieldType.boolean), [(0, .iconst 0, mX), (1, .istore_n 3, mX), (2, .iload_n 3, mX), (3, .aload_n 0, mX), (4, .getfield 387, (12, 10, 0)), (7, .if_icmp .ge 29, mX), (10, .aload_n 0, mX), (11, .iload_n 1, mX), (12, .iload_n 3, mX), (13, .invokevirtual 654, (397, 3, 0)), (16, .ifCond .eq 14, mX), (19, .aload_n 0, mX), (20, .iload_n 2, mX), (21, .iload_n 3, mX), (22, .invokevirtual 654, (397, 3, 0)), (25, .ifCond .eq 5, mX), (28, .iconst 1, mX), (29, .ireturn, mX), (30, .iinc 3 1, mX), (33, .goto (-31), mX), (36, .iconst 0, mX), (37, .ireturn, mX)])
noncomputable def mt397 : am_M := (⟨"AssizeRideModel", "isOf", "(II)Z"⟩, prog_14_method_127_code, 3, (Option.some FieldType.boolean), [(0, .aload_n 0, mX), (1, .iload_n 1, mX), (2, .iload_n 2, mX), (3, .invokevirtual 409, (281, 3, 0)), (6, .ifCond .ne 21, mX), (9, .aload_n 0, mX), (10, .iload_n 1, mX), (11, .iload_n 2, mX), (12, .invokevirtual 586, (351, 3, 0)), (15, .ifCond .ne 12, mX), (18, .aload_n 0, mX), (19, .iload_n 1, mX), (20, .iload_n 2, mX), (21, .invokevirtual 589, (352, 3, 0)), (24, .ifCond .eq 7, mX), (27, .iconst 1, mX), (28, .goto 4, mX), (31, .iconst 0, mX), (32, .ireturn, mX)])
noncomputable def mt398 : am_M := (⟨"AssizeRideModel", "lays", "(III)V"⟩, prog_14_method_131_code, 5, (Option.none : Option FieldType), [(0, .iload_n 3, mX), (1, .aload_n 0, mX), (2, .getfield 648, (12, 112, 0)), (5, .iadd, mX), (6, .iload_n 1, mX), (7, .isub, mX), (8, .aload_n 0, mX), (9, .getfield 660, (12, 117, 0)), (12, .if_icmp .gt 4, mX), (15, .return_, mX), (16, .iload_n 1, mX), (17, .aload_n 0, mX), (18, .getfield 648, (12, 112, 0)), (21, .if_icmp .ne 41, mX), (24, .aload_n 0, mX), (25, .iload_n 3, mX), (26, .putfield 660, (12, 117, 0)), (29, .iconst 0, mX), (30, .istore 4, mX), (32, .iload 4, mX), (34, .aload_n 0, mX), (35, .getfield 648, (12, 112, 0)), (38, .if_icmp .ge 23, mX), (41, .aload_n 0, mX), (42, .getfield 276, (12, 116, 0)), (45, .iload 4, mX), (47, .aload_n 0, mX), (48, .getfield 273, (12, 115, 0)), (51, .iload 4, mX), (53, .iaload, mX), (54, .iastore, mX), (55, .iinc 4 1, mX), (58, .goto (-26), mX), (61, .return_, mX), (62, .iconst 0, mX), (63, .istore 4, mX), (65, .iload 4, mX), (67, .iconst 2, mX), (68, .iload_n 2, mX), (69, .imul, mX), (70, .if_icmp .ge 37, mX), (73, .aload_n 0, mX), (74, .getfield 273, (12, 115, 0)), (77, .iload_n 1, mX), (78, .iload 4, mX), (80, .iastore, mX), (81, .aload_n 0, mX), (82, .iload_n 1, mX), (83, .iload_n 2, mX), (84, .invokevirtual 663, (399, 3, 0)), (87, .ifCond .eq 14, mX), (90, .aload_n 0, mX), (91, .iload_n 1, mX), (92, .iconst 1, mX), (93, .iadd, mX), (94, .iload_n 2, mX), (95, .iload_n 3, mX), (96, .iconst 1, mX), (97, .iadd, mX), (98, .invokevirtual 666, (398, 4, 0)), (101, .iinc 4 1, mX), (104, .goto (-39), mX), (107, .aload_n 0, mX), (108, .getfield 273, (12, 115, 0)), (111, .iload_n 1, mX), (112, .bipush 99, mX), (114, .iastore, mX), (115, .aload_n 0, mX), (116, .iload_n 1, mX), (117, .iconst 1, mX), (118, .iadd, mX), (119, .iload_n 2, mX), (120, .iload_n 3, mX), (121, .invokevirtual 666, (398, 4, 0)), (124, .return_, mX)])
noncomputable def mt399 : am_M := (⟨"AssizeRideModel", "canBe", "(II)Z"⟩, prog_14_method_130_code, 8, (Option.some FieldType.boolean), [(0, .aload_n 0, mX), (1, .getfield 267, (12, 113, 0)), (4, .iload_n 1, mX), (5, .iaload, mX), (6, .istore_n 3, mX), (7, .aload_n 0, mX), (8, .getfield 273, (12, 115, 0)), (11, .iload_n 1, mX), (12, .iaload, mX), (13, .iconst 2, mX), (14, .idiv, mX), (15, .istore 4, mX), (17, .iload 4, mX), (19, .aload_n 0, mX), (20, .getfield 170, (12, 74, 0)), (23, .iload_n 3, mX), (24, .iaload, mX), (25, .iadd, mX), (26, .iload_n 2, mX), (27, .if_icmp .le 5, mX), (30, .iconst 0, mX), (31, .ireturn, mX), (32, .iconst 0, mX), (33, .istore 5, mX), (35, .iload 5, mX), (37, .iload_n 1, mX), (38, .if_icmp .ge 124, mX), (41, .aload_n 0, mX), (42, .getfield 273, (12, 115, 0)), (45, .iload 5, mX), (47, .iaload, mX), (48, .bipush 99, mX), (50, .if_icmp .ne 6, mX), (53, .goto 103, mX), (56, .aload_n 0, mX), (57, .getfield 267, (12, 113, 0)), (60, .iload 5, mX), (62, .iaload, mX), (63, .istore 6, mX), (65, .iload 4, mX), (67, .aload_n 0, mX), (68, .getfield 273, (12, 115, 0)), (71, .iload 5, mX), (73, .iaload, mX), (74, .iconst 2, mX), (75, .idiv, mX), (76, .aload_n 0, mX), (77, .getfield 170, (12, 74, 0)), (80, .iload 6, mX), (82, .iaload, mX), (83, .iadd, mX), (84, .if_icmp .ge 24, mX), (87, .aload_n 0, mX), (88, .getfield 273, (12, 115, 0)), (91, .iload 5, mX), (93, .iaload, mX), (94, .iconst 2, mX), (95, .idiv, mX), (96, .iload 4, mX), (98, .aload_n 0, mX), (99, .getfield 170, (12, 74, 0)), (102, .iload_n 3, mX), (103, .iaload, mX), (104, .iadd, mX), (105, .if_icmp .lt 7, mX), (108, .iconst 1, mX), (109, .goto 4, mX), (112, .iconst 0, mX), (113, .istore 7, mX), (115, .iload 7, mX), (117, .ifCond .ne 39, mX), (120, .aload_n 0, mX), (121, .getfield 273, (12, 115, 0)), (124, .iload 5, mX), (126, .iaload, mX), (127, .iconst 2, mX), (128, .irem, mX), (129, .aload_n 0, mX), (130, .getfield 273, (12, 115, 0)), (133, .iload_n 1, mX), (134, .iaload, mX), (135, .iconst 2, mX), (136, .irem, mX), (137, .if_icmp .eq 17, mX), (140, .aload_n 0, mX), (141, .getfield 279, (12, 118, 0)), (144, .iconst 5, mX), (145, .iload_n 1, mX), (146, .imul, mX), (147, .iload 5, mX), (149, .iadd, mX), (150, .baload, mX), (151, .ifCond .eq 5, mX), (154, .iconst 0, mX), (155, .ireturn, mX), (156, .iinc 5 1, mX), (159, .goto (-124), mX), (162, .iconst 1, mX), (163, .ireturn, mX)])
noncomputable def mt400 : am_M := (⟨"AssizeRideModel", "laid", "(I)I"⟩, prog_14_method_133_code, 2, (Option.some FieldType.int), [(0, .iload_n 1, mX), (1, .iconst 0, mX), (2, .aload_n 0, mX), (3, .getfield 648, (12, 112, 0)), (6, .iconst 1, mX), (7, .isub, mX), (8, .invokestatic 318, (273, 3, 0)), (11, .ifCond .eq 12, mX), (14, .aload_n 0, mX), (15, .getfield 270, (12, 114, 0)), (18, .iload_n 1, mX), (19, .iaload, mX), (20, .goto 4, mX), (23, .iconst (-1), mX), (24, .ireturn, mX)])
noncomputable def mt401 : am_M := (⟨"AssizeRideModel", "bound", "(I)I"⟩, prog_14_method_134_code, 6, (Option.some FieldType.int), [(0, .iload_n 1, mX), (1, .iconst 1, mX), (2, .bipush 10, mX), (4, .invokestatic 318, (273, 3, 0)), (7, .ifCond .ne 6, mX), (10, .bipush (-2), mX), (12, .ireturn, mX), (13, .iconst 0, mX), (14, .istore_n 2, mX), (15, .iconst 0, mX), (16, .istore_n 3, mX), (17, .iconst 1, mX), (18, .istore 4, mX), (20, .iload 4, mX), (22, .iconst 5, mX), (23, .if_icmp .ge 65, mX), (26, .iconst 0, mX), (27, .istore 5, mX), (29, .iload 5, mX), (31, .aload_n 0, mX), (32, .getfield 648, (12, 112, 0)), (35, .if_icmp .ge 47, mX), (38, .aload_n 0, mX), (39, .getfield 170, (12, 74, 0)), (42, .aload_n 0, mX), (43, .getfield 267, (12, 113, 0)), (46, .iload 5, mX), (48, .iaload, mX), (49, .iaload, mX), (50, .iload 4, mX), (52, .if_icmp .ne 24, mX), (55, .iload_n 3, mX), (56, .iload 4, mX), (58, .iadd, mX), (59, .iconst 2, mX), (60, .iload_n 1, mX), (61, .imul, mX), (62, .if_icmp .le 6, mX), (65, .goto 11, mX), (68, .iload_n 3, mX), (69, .iload 4, mX), (71, .iadd, mX), (72, .istore_n 3, mX), (73, .iinc 2 1, mX), (76, .iinc 5 1, mX), (79, .goto (-50), mX), (82, .iinc 4 1, mX), (85, .goto (-65), mX), (88, .iload_n 2, mX), (89, .ireturn, mX)])
noncomputable def mt402 : am_M := (⟨"AssizeRideModel", "prove", "(I)I"⟩, prog_14_method_135_code, 5, (Option.some FieldType.int), [(0, .aload_n 0, mX), (1, .getfield 322, (12, 1, 0)), (4, .istore_n 2, mX), (5, .aload_n 0, mX), (6, .iconst 0, mX), (7, .putfield 322, (12, 1, 0)), (10, .iload_n 1, mX), (11, .iconst 1, mX), (12, .bipush 10, mX), (14, .invokestatic 318, (273, 3, 0)), (17, .ifCond .ne 6, mX), (20, .bipush (-2), mX), (22, .ireturn, mX), (23, .iload_n 2, mX), (24, .aload_n 0, mX), (25, .getfield 648, (12, 112, 0)), (28, .if_icmp .eq 5, mX), (31, .iconst (-1), mX), (32, .ireturn, mX), (33, .aload_n 0, mX), (34, .invokevirtual 670, (395, 1, 0)), (37, .iconst 0, mX), (38, .istore_n 3, mX), (39, .iconst 0, mX), (40, .istore 4, mX), (42, .iload 4, mX), (44, .iload_n 2, mX), (45, .if_icmp .ge 92, mX), (48, .aload_n 0, mX), (49, .getfield 273, (12, 115, 0)), (52, .iload 4, mX), (54, .aload_n 0, mX), (55, .getfield 9, (12, 0, 0)), (58, .iload 4, mX), (60, .baload, mX), (61, .bipush 122, mX), (63, .if_icmp .ne 8, mX), (66, .bipush 99, mX), (68, .goto 13, mX), (71, .aload_n 0, mX), (72, .getfield 9, (12, 0, 0)), (75, .iload 4, mX), (77, .baload, mX), (78, .bipush 48, mX), (80, .isub, mX), (81, .iastore, mX), (82, .aload_n 0, mX), (83, .getfield 273, (12, 115, 0)), (86, .iload 4, mX), (88, .iaload, mX), (89, .bipush 99, mX), (91, .if_icmp .ne 6, mX), (94, .goto 37, mX), (97, .aload_n 0, mX), (98, .getfield 273, (12, 115, 0)), (101, .iload 4, mX), (103, .iaload, mX), (104, .iconst 0, mX), (105, .iconst 2, mX), (106, .iload_n 1, mX), (107, .imul, mX), (108, .iconst 1, mX), (109, .isub, mX), (110, .invokestatic 318, (273, 3, 0)), (113, .ifCond .eq 13, mX), (116, .aload_n 0, mX), (117, .iload 4, mX), (119, .iload_n 1, mX), (120, .invokevirtual 663, (399, 3, 0)), (123, .ifCond .ne 5, mX), (126, .iconst (-1), mX), (127, .ireturn, mX), (128, .iinc 3 1, mX), (131, .iinc 4 1, mX), (134, .goto (-92), mX), (137, .iload_n 3, mX), (138, .ireturn, mX)])
noncomputable def mt403 : am_M := (⟨"AssizeRideModel", "far", "(II)I"⟩, prog_14_method_137_code, 3, (Option.some FieldType.int), [(0, .iload_n 1, mX), (1, .invokestatic 384, (272, 1, 0)), (4, .ifCond .eq 10, mX), (7, .iload_n 2, mX), (8, .invokestatic 384, (272, 1, 0)), (11, .ifCond .ne 6, mX), (14, .bipush (-2), mX), (16, .ireturn, mX), (17, .aload_n 0, mX), (18, .invokevirtual 674, (404, 1, 0)), (21, .aload_n 0, mX), (22, .getfield 282, (12, 119, 0)), (25, .bipush 6, mX), (27, .iload_n 1, mX), (28, .imul, mX), (29, .iload_n 2, mX), (30, .iadd, mX), (31, .iaload, mX), (32, .ldc_w 673, (0, 0, 100000)), (35, .if_icmp .ge 17, mX), (38, .aload_n 0, mX), (39, .getfield 282, (12, 119, 0)), (42, .bipush 6, mX), (44, .iload_n 1, mX), (45, .imul, mX), (46, .iload_n 2, mX), (47, .iadd, mX), (48, .iaload, mX), (49, .goto 4, mX), (52, .iconst (-1), mX), (53, .ireturn, mX)])
noncomputable def mt404 : am_M := (⟨"AssizeRideModel", "makeFars", "()V"⟩, prog_14_method_136_code, 4, (Option.none : Option FieldType), [(0, .iconst 0, mX), (1, .istore_n 1, mX), (2, .iload_n 1, mX), (3, .bipush 36, mX), (5, .if_icmp .ge 48, mX), (8, .aload_n 0, mX), (9, .getfield 282, (12, 119, 0)), (12, .iload_n 1, mX), (13, .iload_n 1, mX), (14, .bipush 7, mX), (16, .irem, mX), (17, .ifCond .ne 7, mX), (20, .iconst 0, mX), (21, .goto 25, mX), (24, .aload_n 0, mX), (25, .getfield 13, (12, 11, 0)), (28, .iload_n 1, mX), (29, .iaload, mX), (30, .iconst (-1), mX), (31, .if_icmp .ne 9, mX), (34, .ldc_w 673, (0, 0, 100000)), (37, .goto 9, mX), (40, .aload_n 0, mX), (41, .getfield 13, (12, 11, 0)), (44, .iload_n 1, mX), (45, .iaload, mX), (46, .iastore, mX), (47, .iinc 1 1, mX), (50, .goto (-48), mX), (53, .iconst 0, mX), (54, .istore_n 1, mX), (55, .iload_n 1, mX), (56, .bipush 6, mX), (58, .if_icmp .ge 108, mX), (61, .iconst 0, mX), (62, .istore_n 2, mX), (63, .iload_n 2, mX), (64, .bipush 6, mX), (66, .if_icmp .ge 94, mX), (69, .iconst 0, mX), (70, .istore_n 3, mX), (71, .iload_n 3, mX), (72, .bipush 6, mX), (74, .if_icmp .ge 80, mX), (77, .aload_n 0, mX), (78, .getfield 282, (12, 119, 0)), (81, .bipush 6, mX), (83, .iload_n 2, mX), (84, .imul, mX), (85, .iload_n 1, mX), (86, .iadd, mX), (87, .iaload, mX), (88, .aload_n 0, mX), (89, .getfield 282, (12, 119, 0)), (92, .bipush 6, mX), (94, .iload_n 1, mX), (95, .imul, mX), (96, .iload_n 3, mX), (97, .iadd, mX), (98, .iaload, mX), (99, .iadd, mX), (100, .aload_n 0, mX), (101, .getfield 282, (12, 119, 0)), (104, .bipush 6, mX), (106, .iload_n 2, mX), (107, .imul, mX), (108, .iload_n 3, mX), (109, .iadd, mX), (110, .iaload, mX), (111, .if_icmp .ge 37, mX), (114, .aload_n 0, mX), (115, .getfield 282, (12, 119, 0)), (118, .bipush 6, mX), (120, .iload_n 2, mX), (121, .imul, mX), (122, .iload_n 3, mX), (123, .iadd, mX), (124, .aload_n 0, mX), (125, .getfield 282, (12, 119, 0)), (128, .bipush 6, mX), (130, .iload_n 2, mX), (131, .imul, mX), (132, .iload_n 1, mX), (133, .iadd, mX), (134, .iaload, mX), (135, .aload_n 0, mX), (136, .getfield 282, (12, 119, 0)), (139, .bipush 6, mX), (141, .iload_n 1, mX), (142, .imul, mX), (143, .iload_n 3, mX), (144, .iadd, mX), (145, .iaload, mX), (146, .iadd, mX), (147, .iastore, mX), (148, .iinc 3 1, mX), (151, .goto (-80), mX), (154, .iinc 2 1, mX), (157, .goto (-94), mX), (160, .iinc 1 1, mX), (163, .goto (-108), mX), (166, .return_, mX)])
noncomputable def mt405 : am_M := (⟨"AssizeRideModel", "ride", "(IIII)I"⟩, prog_14_method_140_code, 7, (Option.some FieldType.int), [(0, .iload_n 1, mX), (1, .invokestatic 384, (272, 1, 0)), (4, .ifCond .eq 30, mX), (7, .iload_n 2, mX), (8, .invokestatic 399, (277, 1, 0)), (11, .ifCond .eq 23, mX), (14, .iload_n 3, mX), (15, .iconst 1, mX), (16, .bipush 63, mX), (18, .invokestatic 318, (273, 3, 0)), (21, .ifCond .eq 13, mX), (24, .iload 4, mX), (26, .iconst 1, mX), (27, .iconst 5, mX), (28, .invokestatic 318, (273, 3, 0)), (31, .ifCond .ne 6, mX), (34, .bipush (-2), mX), (36, .ireturn, mX), (37, .aload_n 0, mX), (38, .invokevirtual 674, (404, 1, 0)), (41, .iconst 0, mX), (42, .istore 5, mX), (44, .iconst 0, mX), (45, .istore 6, mX), (47, .iload 6, mX), (49, .bipush 6, mX), (51, .if_icmp .ge 20, mX), (54, .iload 5, mX), (56, .iload_n 3, mX), (57, .iload 6, mX), (59, .ishr, mX), (60, .iconst 1, mX), (61, .iand, mX), (62, .iadd, mX), (63, .istore 5, mX), (65, .iinc 6 1, mX), (68, .goto (-21), mX), (71, .aload_n 0, mX), (72, .iload 4, mX), (74, .putfield 683, (12, 131, 0)), (77, .aload_n 0, mX), (78, .iload_n 2, mX), (79, .putfield 686, (12, 132, 0)), (82, .aload_n 0, mX), (83, .iconst (-1), mX), (84, .putfield 677, (12, 129, 0)), (87, .aload_n 0, mX), (88, .iconst 0, mX), (89, .iload 5, mX), (91, .iload_n 3, mX), (92, .iload_n 1, mX), (93, .iload_n 2, mX), (94, .iconst 0, mX), (95, .invokevirtual 689, (406, 7, 0)), (98, .aload_n 0, mX), (99, .iload 5, mX), (101, .invokevirtual 702, (407, 2, 0)), (104, .ireturn, mX)])
noncomputable def mt406 : am_M := (⟨"AssizeRideModel", "rides", "(IIIIII)V"⟩, prog_14_method_138_code, 9, (Option.none : Option FieldType), [(0, .aload_n 0, mX), (1, .getfield 677, (12, 129, 0)), (4, .iconst (-1), mX), (5, .if_icmp .eq 13, mX), (8, .iload 6, mX), (10, .aload_n 0, mX), (11, .getfield 677, (12, 129, 0)), (14, .if_icmp .le 4, mX), (17, .return_, mX), (18, .iload_n 1, mX), (19, .iload_n 2, mX), (20, .if_icmp .ne 105, mX), (23, .aload_n 0, mX), (24, .getfield 294, (12, 126, 0)), (27, .iload_n 2, mX), (28, .iconst 1, mX), (29, .isub, mX), (30, .iaload, mX), (31, .istore 7, mX), (33, .aload_n 0, mX), (34, .getfield 677, (12, 129, 0)), (37, .iconst (-1), mX), (38, .if_icmp .eq 31, mX), (41, .iload 6, mX), (43, .aload_n 0, mX), (44, .getfield 677, (12, 129, 0)), (47, .if_icmp .gt 21, mX), (50, .iload 6, mX), (52, .aload_n 0, mX), (53, .getfield 677, (12, 129, 0)), (56, .if_icmp .ne 13, mX), (59, .iload 7, mX), (61, .aload_n 0, mX), (62, .getfield 680, (12, 130, 0)), (65, .if_icmp .lt 4, mX), (68, .return_, mX), (69, .aload_n 0, mX), (70, .iload 6, mX), (72, .putfield 677, (12, 129, 0)), (75, .aload_n 0, mX), (76, .iload 7, mX), (78, .putfield 680, (12, 130, 0)), (81, .iconst 0, mX), (82, .istore 8, mX), (84, .iload 8, mX), (86, .iload_n 2, mX), (87, .if_icmp .ge 37, mX), (90, .aload_n 0, mX), (91, .getfield 297, (12, 127, 0)), (94, .iload 8, mX), (96, .aload_n 0, mX), (97, .getfield 291, (12, 125, 0)), (100, .iload 8, mX), (102, .iaload, mX), (103, .iastore, mX), (104, .aload_n 0, mX), (105, .getfield 300, (12, 128, 0)), (108, .iload 8, mX), (110, .aload_n 0, mX), (111, .getfield 294, (12, 126, 0)), (114, .iload 8, mX), (116, .iaload, mX), (117, .iastore, mX), (118, .iinc 8 1, mX), (121, .goto (-37), mX), (124, .return_, mX), (125, .iconst 0, mX), (126, .istore 7, mX), (128, .iload 7, mX), (130, .bipush 6, mX), (132, .if_icmp .ge 120, mX), (135, .iload_n 3, mX), (136, .iload 7, mX), (138, .ishr, mX), (139, .iconst 1, mX), (140, .iand, mX), (141, .ifCond .eq 105, mX), (144, .aload_n 0, mX), (145, .getfield 282, (12, 119, 0)), (148, .bipush 6, mX), (150, .iload 4, mX), (152, .imul, mX), (153, .iload 7, mX), (155, .iadd, mX), (156, .iaload, mX), (157, .ldc_w 673, (0, 0, 100000)), (160, .if_icmp .lt 6, mX), (163, .goto 83, mX), (166, .aload_n 0, mX), (167, .getfield 291, (12, 125, 0)), (170, .iload_n 1, mX), (171, .iload 7, mX), (173, .iastore, mX), (174, .aload_n 0, mX), (175, .getfield 294, (12, 126, 0)), (178, .iload_n 1, mX), (179, .iload 5, mX), (181, .aload_n 0, mX), (182, .getfield 282, (12, 119, 0)), (185, .bipush 6, mX), (187, .iload 4, mX), (189, .imul, mX), (190, .iload 7, mX), (192, .iadd, mX), (193, .iaload, mX), (194, .iadd, mX), (195, .iastore, mX), (196, .aload_n 0, mX), (197, .iload_n 1, mX), (198, .iconst 1, mX), (199, .iadd, mX), (200, .iload_n 2, mX), (201, .iload_n 3, mX), (202, .iconst 1, mX), (203, .iload 7, mX), (205, .ishl, mX), (206, .iconst (-1), mX), (207, .ixor, mX), (208, .iand, mX), (209, .iload 7, mX), (211, .aload_n 0, mX), (212, .getfield 294, (12, 126, 0)), (215, .iload_n 1, mX), (216, .iaload, mX), (217, .aload_n 0, mX), (218, .getfield 683, (12, 131, 0)), (221, .iadd, mX), (222, .iload 6, mX), (224, .aload_n 0, mX), (225, .iload 7, mX), (227, .invokevirtual 633, (379, 2, 0)), (230, .aload_n 0, mX), (231, .getfield 294, (12, 126, 0)), (234, .iload_n 1, mX), (235, .iaload, mX), (236, .aload_n 0, mX), (237, .getfield 686, (12, 132, 0)), (240, .isub, mX), (241, .imul, mX), (242, .iadd, mX), (243, .invokevirtual 689, (406, 7, 0)), (246, .iinc 7 1, mX), (249, .goto (-121), mX), (252, .return_, mX)])
noncomputable def mt407 : am_M := (⟨"AssizeRideModel", "takeRide", "(I)I"⟩, prog_14_method_139_code, 3, (Option.some FieldType.int), [(0, .aload_n 0, mX), (1, .getfield 677, (12, 129, 0)), (4, .iconst (-1), mX), (5, .if_icmp .ne 5, mX), (8, .iconst (-1), mX), (9, .ireturn, mX), (10, .aload_n 0, mX), (11, .aload_n 0, mX), (12, .getfield 686, (12, 132, 0)), (15, .putfield 693, (12, 120, 0)), (18, .aload_n 0, mX), (19, .aload_n 0, mX), (20, .getfield 683, (12, 131, 0)), (23, .putfield 696, (12, 121, 0)), (26, .aload_n 0, mX), (27, .iload_n 1, mX), (28, .putfield 699, (12, 122, 0)), (31, .iconst 0, mX), (32, .istore_n 2, mX), (33, .iload_n 2, mX), (34, .iload_n 1, mX), (35, .if_icmp .ge 33, mX), (38, .aload_n 0, mX), (39, .getfield 285, (12, 123, 0)), (42, .iload_n 2, mX), (43, .aload_n 0, mX), (44, .getfield 297, (12, 127, 0)), (47, .iload_n 2, mX), (48, .iaload, mX), (49, .iastore, mX), (50, .aload_n 0, mX), (51, .getfield 288, (12, 124, 0)), (54, .iload_n 2, mX), (55, .aload_n 0, mX), (56, .getfield 300, (12, 128, 0)), (59, .iload_n 2, mX), (60, .iaload, mX), (61, .iastore, mX), (62, .iinc 2 1, mX), (65, .goto (-32), mX), (68, .aload_n 0, mX), (69, .getfield 677, (12, 129, 0)), (72, .ireturn, mX)])
noncomputable def mt408 : am_M := (⟨"AssizeRideModel", "late", "(II)I"⟩, prog_14_method_141_code, 6, (Option.some FieldType.int), [(0, .aload_n 0, mX), (1, .getfield 699, (12, 122, 0)), (4, .ifCond .ne 6, mX), (7, .bipush (-4), mX), (9, .ireturn, mX), (10, .iload_n 1, mX), (11, .iconst 1, mX), (12, .aload_n 0, mX), (13, .getfield 699, (12, 122, 0)), (16, .invokestatic 318, (273, 3, 0)), (19, .ifCond .eq 13, mX), (22, .iload_n 2, mX), (23, .iconst 1, mX), (24, .bipush 50, mX), (26, .invokestatic 318, (273, 3, 0)), (29, .ifCond .ne 6, mX), (32, .bipush (-2), mX), (34, .ireturn, mX), (35, .aload_n 0, mX), (36, .invokevirtual 674, (404, 1, 0)), (39, .aload_n 0, mX), (40, .aload_n 0, mX), (41, .getfield 696, (12, 121, 0)), (44, .putfield 683, (12, 131, 0)), (47, .aload_n 0, mX), (48, .aload_n 0, mX), (49, .getfield 693, (12, 120, 0)), (52, .putfield 686, (12, 132, 0)), (55, .aload_n 0, mX), (56, .iconst (-1), mX), (57, .putfield 677, (12, 129, 0)), (60, .iconst 0, mX), (61, .istore_n 3, mX), (62, .iconst 0, mX), (63, .istore 4, mX), (65, .iconst 0, mX), (66, .istore 5, mX), (68, .iload 5, mX), (70, .aload_n 0, mX), (71, .getfield 699, (12, 122, 0)), (74, .if_icmp .ge 87, mX), (77, .iload 5, mX), (79, .iload_n 1, mX), (80, .if_icmp .ge 63, mX), (83, .aload_n 0, mX), (84, .getfield 291, (12, 125, 0)), (87, .iload 5, mX), (89, .aload_n 0, mX), (90, .getfield 285, (12, 123, 0)), (93, .iload 5, mX), (95, .iaload, mX), (96, .iastore, mX), (97, .aload_n 0, mX), (98, .getfield 294, (12, 126, 0)), (101, .iload 5, mX), (103, .aload_n 0, mX), (104, .getfield 288, (12, 124, 0)), (107, .iload 5, mX), (109, .iaload, mX), (110, .iastore, mX), (111, .iload 4, mX), (113, .aload_n 0, mX), (114, .aload_n 0, mX), (115, .getfield 285, (12, 123, 0)), (118, .iload 5, mX), (120, .iaload, mX), (121, .invokevirtual 633, (379, 2, 0)), (124, .aload_n 0, mX), (125, .getfield 288, (12, 124, 0)), (128, .iload 5, mX), (130, .iaload, mX), (131, .aload_n 0, mX), (132, .getfield 693, (12, 120, 0)), (135, .isub, mX), (136, .imul, mX), (137, .iadd, mX), (138, .istore 4, mX), (140, .goto 15, mX), (143, .iload_n 3, mX), (144, .iconst 1, mX), (145, .aload_n 0, mX), (146, .getfield 285, (12, 123, 0)), (149, .iload 5, mX), (151, .iaload, mX), (152, .ishl, mX), (153, .ior, mX), (154, .istore_n 3, mX), (155, .iinc 5 1, mX), (158, .goto (-90), mX), (161, .aload_n 0, mX), (162, .iload_n 1, mX), (163, .aload_n 0, mX), (164, .getfield 699, (12, 122, 0)), (167, .iload_n 3, mX), (168, .aload_n 0, mX), (169, .getfield 285, (12, 123, 0)), (172, .iload_n 1, mX), (173, .iconst 1, mX), (174, .isub, mX), (175, .iaload, mX), (176, .aload_n 0, mX), (177, .getfield 288, (12, 124, 0)), (180, .iload_n 1, mX), (181, .iconst 1, mX), (182, .isub, mX), (183, .iaload, mX), (184, .aload_n 0, mX), (185, .getfield 696, (12, 121, 0)), (188, .iadd, mX), (189, .iload_n 2, mX), (190, .iadd, mX), (191, .iload 4, mX), (193, .invokevirtual 689, (406, 7, 0)), (196, .aload_n 0, mX), (197, .aload_n 0, mX), (198, .getfield 699, (12, 122, 0)), (201, .invokevirtual 702, (407, 2, 0)), (204, .ireturn, mX)])
noncomputable def mt409 : am_M := (⟨"AssizeRideModel", "rode", "(II)I"⟩, prog_14_method_142_code, 3, (Option.some FieldType.int), [(0, .iload_n 1, mX), (1, .iconst 0, mX), (2, .aload_n 0, mX), (3, .getfield 699, (12, 122, 0)), (6, .iconst 1, mX), (7, .isub, mX), (8, .invokestatic 318, (273, 3, 0)), (11, .ifCond .ne 5, mX), (14, .iconst (-1), mX), (15, .ireturn, mX), (16, .iload_n 2, mX), (17, .ifCond .ne 12, mX), (20, .aload_n 0, mX), (21, .getfield 285, (12, 123, 0)), (24, .iload_n 1, mX), (25, .iaload, mX), (26, .goto 18, mX), (29, .iload_n 2, mX), (30, .iconst 1, mX), (31, .if_icmp .ne 12, mX), (34, .aload_n 0, mX), (35, .getfield 288, (12, 124, 0)), (38, .iload_n 1, mX), (39, .iaload, mX), (40, .goto 4, mX), (43, .iconst (-1), mX), (44, .ireturn, mX)])
noncomputable def mt410 : am_M := (⟨"AssizeRideModel", "roll", "(I)I"⟩, prog_14_method_143_code, 4, (Option.some FieldType.int), [(0, .aload_n 0, mX), (1, .getfield 322, (12, 1, 0)), (4, .istore_n 2, mX), (5, .aload_n 0, mX), (6, .iconst 0, mX), (7, .putfield 322, (12, 1, 0)), (10, .iload_n 1, mX), (11, .iconst 0, mX), (12, .iconst 2, mX), (13, .invokestatic 318, (273, 3, 0)), (16, .ifCond .ne 6, mX), (19, .bipush (-2), mX), (21, .ireturn, mX), (22, .iload_n 2, mX), (23, .iconst 3, mX), (24, .irem, mX), (25, .ifCond .ne 9, mX), (28, .iload_n 2, mX), (29, .bipush 30, mX), (31, .if_icmp .le 5, mX), (34, .iconst (-1), mX), (35, .ireturn, mX), (36, .iconst 0, mX), (37, .istore_n 3, mX), (38, .iload_n 3, mX), (39, .iload_n 2, mX), (40, .if_icmp .ge 23, mX), (43, .aload_n 0, mX), (44, .getfield 9, (12, 0, 0)), (47, .iload_n 3, mX), (48, .baload, mX), (49, .invokestatic 375, (303, 1, 0)), (52, .ifCond .ne 5, mX), (55, .iconst (-1), mX), (56, .ireturn, mX), (57, .iinc 3 1, mX), (60, .goto (-22), mX), (63, .iconst 0, mX), (64, .istore_n 3, mX), (65, .iload_n 3, mX), (66, .iload_n 2, mX), (67, .if_icmp .ge 61, mX), (70, .aload_n 0, mX), (71, .getfield 303, (12, 133, 0)), (74, .bipush 10, mX), (76, .iload_n 1, mX), (77, .imul, mX), (78, .iload_n 3, mX), (79, .iconst 3, mX), (80, .idiv, mX), (81, .iadd, mX), (82, .bipush 100, mX), (84, .aload_n 0, mX), (85, .getfield 9, (12, 0, 0)), (88, .iload_n 3, mX), (89, .baload, mX), (90, .bipush 48, mX), (92, .isub, mX), (93, .imul, mX), (94, .bipush 10, mX), (96, .aload_n 0, mX), (97, .getfield 9, (12, 0, 0)), (100, .iload_n 3, mX), (101, .iconst 1, mX), (102, .iadd, mX), (103, .baload, mX), (104, .bipush 48, mX), (106, .isub, mX), (107, .imul, mX), (108, .iadd, mX), (109, .aload_n 0, mX), (110, .getfield 9, (12, 0, 0)), (113, .iload_n 3, mX), (114, .iconst 2, mX), (115, .iadd, mX), (116, .baload, mX), (117, .iadd, mX), (118, .bipush 48, mX), (120, .isub, mX), (121, .iastore, mX), (122, .iinc 3 3, mX), (125, .goto (-60), mX), (128, .aload_n 0, mX), (129, .getfield 306, (12, 134, 0)), (132, .iload_n 1, mX), (133, .iload_n 2, mX), (134, .iconst 3, mX), (135, .idiv, mX), (136, .iastore, mX), (137, .aload_n 0, mX), (138, .iconst 0, mX), (139, .putfield 705, (12, 135, 0)), (142, .iload_n 2, mX), (143, .iconst 3, mX), (144, .idiv, mX), (145, .ireturn, mX)])
noncomputable def mt411 : am_M := (⟨"AssizeRideModel", "join", "()I"⟩, prog_14_method_146_code, 8, (Option.some FieldType.int), [(0, .aload_n 0, mX), (1, .getfield 306, (12, 134, 0)), (4, .iconst 0, mX), (5, .iaload, mX), (6, .istore_n 1, mX), (7, .iload_n 1, mX), (8, .ifCond .lt 197, mX), (11, .aload_n 0, mX), (12, .getfield 306, (12, 134, 0)), (15, .iconst 1, mX), (16, .iaload, mX), (17, .istore_n 2, mX), (18, .iload_n 2, mX), (19, .ifCond .lt 180, mX), (22, .aload_n 0, mX), (23, .getfield 306, (12, 134, 0)), (26, .iconst 2, mX), (27, .iaload, mX), (28, .istore_n 3, mX), (29, .iload_n 3, mX), (30, .ifCond .lt 163, mX), (33, .iload_n 1, mX), (34, .aload_n 0, mX), (35, .getfield 306, (12, 134, 0)), (38, .iconst 0, mX), (39, .iaload, mX), (40, .if_icmp .ne 27, mX), (43, .iload_n 2, mX), (44, .aload_n 0, mX), (45, .getfield 306, (12, 134, 0)), (48, .iconst 1, mX), (49, .iaload, mX), (50, .if_icmp .ne 17, mX), (53, .iload_n 3, mX), (54, .aload_n 0, mX), (55, .getfield 306, (12, 134, 0)), (58, .iconst 2, mX), (59, .iaload, mX), (60, .if_icmp .ne 7, mX), (63, .iconst 0, mX), (64, .goto 4, mX), (67, .iconst (-1), mX), (68, .istore 4, mX), (70, .iconst 0, mX), (71, .istore 5, mX), (73, .iload 5, mX), (75, .bipush 7, mX), (77, .if_icmp .ge 97, mX), (80, .ldc_w 709, (1, 11, 0)), (83, .iload 5, mX), (85, .invokevirtual 342, (9, 2, 0)), (88, .bipush 48, mX), (90, .isub, mX), (91, .istore 6, mX), (93, .aload_n 0, mX), (94, .iload 6, mX), (96, .iload_n 1, mX), (97, .iload_n 2, mX), (98, .iload_n 3, mX), (99, .invokevirtual 711, (412, 5, 0)), (102, .istore 7, mX), (104, .iload 7, mX), (106, .iconst (-1), mX), (107, .if_icmp .ne 6, mX), (110, .goto 58, mX), (113, .iload 7, mX), (115, .aload_n 0, mX), (116, .getfield 315, (12, 139, 0)), (119, .iload_n 1, mX), (120, .iload 6, mX), (122, .iconst 1, mX), (123, .iand, mX), (124, .iadd, mX), (125, .iload_n 2, mX), (126, .iload 6, mX), (128, .iconst 1, mX), (129, .ishr, mX), (130, .iconst 1, mX), (131, .iand, mX), (132, .iadd, mX), (133, .iload_n 3, mX), (134, .iload 6, mX), (136, .iconst 2, mX), (137, .ishr, mX), (138, .iadd, mX), (139, .invokestatic 715, (413, 3, 0)), (142, .iaload, mX), (143, .iadd, mX), (144, .istore 7, mX), (146, .iload 4, mX), (148, .iconst (-1), mX), (149, .if_icmp .eq 10, mX), (152, .iload 7, mX), (154, .iload 4, mX), (156, .if_icmp .ge 8, mX), (159, .iload 7, mX), (161, .goto 5, mX), (164, .iload 4, mX), (166, .istore 4, mX), (168, .iinc 5 1, mX), (171, .goto (-98), mX), (174, .aload_n 0, mX), (175, .getfield 315, (12, 139, 0)), (178, .iload_n 1, mX), (179, .iload_n 2, mX), (180, .iload_n 3, mX), (181, .invokestatic 715, (413, 3, 0)), (184, .iload 4, mX), (186, .iastore, mX), (187, .iinc 3 (-1), mX), (190, .goto (-161), mX), (193, .iinc 2 (-1), mX), (196, .goto (-178), mX), (199, .iinc 1 (-1), mX), (202, .goto (-195), mX), (205, .iconst 0, mX), (206, .istore_n 1, mX), (207, .iconst 0, mX), (208, .istore_n 2, mX), (209, .iconst 0, mX), (210, .istore_n 3, mX), (211, .aload_n 0, mX), (212, .iconst 0, mX), (213, .putfield 718, (12, 136, 0)), (216, .iload_n 1, mX), (217, .aload_n 0, mX), (218, .getfield 306, (12, 134, 0)), (221, .iconst 0, mX), (222, .iaload, mX), (223, .if_icmp .lt 23, mX), (226, .iload_n 2, mX), (227, .aload_n 0, mX), (228, .getfield 306, (12, 134, 0)), (231, .iconst 1, mX), (232, .iaload, mX), (233, .if_icmp .lt 13, mX), (236, .iload_n 3, mX), (237, .aload_n 0, mX), (238, .getfield 306, (12, 134, 0)), (241, .iconst 2, mX), (242, .iaload, mX), (243, .if_icmp .ge 333, mX), (246, .iconst 0, mX), (247, .istore 4, mX), (249, .iconst 0, mX), (250, .istore 5, mX), (252, .iload 5, mX), (254, .bipush 7, mX), (256, .if_icmp .ge 93, mX), (259, .iload 4, mX), (261, .ifCond .ne 88, mX), (264, .ldc_w 709, (1, 11, 0)), (267, .iload 5, mX), (269, .invokevirtual 342, (9, 2, 0)), (272, .bipush 48, mX), (274, .isub, mX), (275, .istore 6, mX), (277, .aload_n 0, mX), (278, .iload 6, mX), (280, .iload_n 1, mX), (281, .iload_n 2, mX), (282, .iload_n 3, mX), (283, .invokevirtual 711, (412, 5, 0)), (286, .istore 7, mX), (288, .iload 7, mX), (290, .iconst (-1), mX), (291, .if_icmp .eq 52, mX), (294, .iload 7, mX), (296, .aload_n 0, mX), (297, .getfield 315, (12, 139, 0)), (300, .iload_n 1, mX), (301, .iload 6, mX), (303, .iconst 1, mX), (304, .iand, mX), (305, .iadd, mX), (306, .iload_n 2, mX), (307, .iload 6, mX), (309, .iconst 1, mX), (310, .ishr, mX), (311, .iconst 1, mX), (312, .iand, mX), (313, .iadd, mX), (314, .iload_n 3, mX), (315, .iload 6, mX), (317, .iconst 2, mX), (318, .ishr, mX), (319, .iadd, mX), (320, .invokestatic 715, (413, 3, 0)), (323, .iaload, mX), (324, .iadd, mX), (325, .aload_n 0, mX), (326, .getfield 315, (12, 139, 0)), (329, .iload_n 1, mX), (330, .iload_n 2, mX), (331, .iload_n 3, mX), (332, .invokestatic 715, (413, 3, 0)), (335, .iaload, mX), (336, .if_icmp .ne 7, mX), (339, .iload 6, mX), (341, .istore 4, mX), (343, .iinc 5 1, mX), (346, .goto (-94), mX), (349, .iload 4, mX), (351, .iconst 1, mX), (352, .iand, mX), (353, .ifCond .ne 7, mX), (356, .iconst (-1), mX), (357, .goto 9, mX), (360, .aload_n 0, mX), (361, .getfield 303, (12, 133, 0)), (364, .iload_n 1, mX), (365, .iaload, mX), (366, .istore 5, mX), (368, .iload 4, mX), (370, .iconst 1, mX), (371, .ishr, mX), (372, .iconst 1, mX), (373, .iand, mX), (374, .ifCond .ne 7, mX), (377, .iconst (-1), mX), (378, .goto 12, mX), (381, .aload_n 0, mX), (382, .getfield 303, (12, 133, 0)), (385, .bipush 10, mX), (387, .iload_n 2, mX), (388, .iadd, mX), (389, .iaload, mX), (390, .istore 6, mX), (392, .iload 4, mX), (394, .iconst 2, mX), (395, .ishr, mX), (396, .iconst 1, mX), (397, .iand, mX), (398, .ifCond .ne 7, mX), (401, .iconst (-1), mX), (402, .goto 12, mX), (405, .aload_n 0, mX), (406, .getfield 303, (12, 133, 0)), (409, .bipush 20, mX), (411, .iload_n 3, mX), (412, .iadd, mX), (413, .iaload, mX), (414, .istore 7, mX), (416, .aload_n 0, mX), (417, .getfield 309, (12, 137, 0)), (420, .iconst 3, mX), (421, .aload_n 0, mX), (422, .getfield 718, (12, 136, 0)), (425, .imul, mX), (426, .iload 4, mX), (428, .iconst 1, mX), (429, .iand, mX), (430, .ifCond .ne 7, mX), (433, .iconst (-1), mX), (434, .goto 4, mX), (437, .iload_n 1, mX), (438, .iastore, mX), (439, .aload_n 0, mX), (440, .getfield 309, (12, 137, 0)), (443, .iconst 3, mX), (444, .aload_n 0, mX), (445, .getfield 718, (12, 136, 0)), (448, .imul, mX), (449, .iconst 1, mX), (450, .iadd, mX), (451, .iload 4, mX), (453, .iconst 1, mX), (454, .ishr, mX), (455, .iconst 1, mX), (456, .iand, mX), (457, .ifCond .ne 7, mX), (460, .iconst (-1), mX), (461, .goto 4, mX), (464, .iload_n 2, mX), (465, .iastore, mX), (466, .aload_n 0, mX), (467, .getfield 309, (12, 137, 0)), (470, .iconst 3, mX), (471, .aload_n 0, mX), (472, .getfield 718, (12, 136, 0)), (475, .imul, mX), (476, .iconst 2, mX), (477, .iadd, mX), (478, .iload 4, mX), (480, .iconst 2, mX), (481, .ishr, mX), (482, .iconst 1, mX), (483, .iand, mX), (484, .ifCond .ne 7, mX), (487, .iconst (-1), mX), (488, .goto 4, mX), (491, .iload_n 3, mX), (492, .iastore, mX), (493, .aload_n 0, mX), (494, .getfield 312, (12, 138, 0)), (497, .aload_n 0, mX), (498, .getfield 718, (12, 136, 0)), (501, .iload 5, mX), (503, .iconst (-1), mX), (504, .if_icmp .eq 17, mX), (507, .iload 5, mX), (509, .iload 6, mX), (511, .if_icmp .eq 23, mX), (514, .iload 5, mX), (516, .iload 7, mX), (518, .if_icmp .eq 16, mX), (521, .iload 6, mX), (523, .iconst (-1), mX), (524, .if_icmp .eq 14, mX), (527, .iload 6, mX), (529, .iload 7, mX), (531, .if_icmp .ne 7, mX), (534, .iconst 1, mX), (535, .goto 4, mX), (538, .iconst 0, mX), (539, .bastore, mX), (540, .aload_n 0, mX), (541, .dup, mX), (542, .getfield 718, (12, 136, 0)), (545, .iconst 1, mX), (546, .iadd, mX), (547, .putfield 718, (12, 136, 0)), (550, .iload_n 1, mX), (551, .iload 4, mX), (553, .iconst 1, mX), (554, .iand, mX), (555, .iadd, mX), (556, .istore_n 1, mX), (557, .iload_n 2, mX), (558, .iload 4, mX), (560, .iconst 1, mX), (561, .ishr, mX), (562, .iconst 1, mX), (563, .iand, mX), (564, .iadd, mX), (565, .istore_n 2, mX), (566, .iload_n 3, mX), (567, .iload 4, mX), (569, .iconst 2, mX), (570, .ishr, mX), (571, .iadd, mX), (572, .istore_n 3, mX), (573, .goto (-357), mX), (576, .aload_n 0, mX), (577, .iconst 1, mX), (578, .putfield 705, (12, 135, 0)), (581, .aload_n 0, mX), (582, .getfield 315, (12, 139, 0)), (585, .iconst 0, mX), (586, .iaload, mX), (587, .ireturn, mX)])
noncomputable def mt412 : am_M := (⟨"AssizeRideModel", "rowCost", "(IIII)I"⟩, prog_14_method_144_code, 11, (Option.some FieldType.int), [(0, .iconst 0, mX), (1, .istore 5, mX), (3, .iconst 0, mX), (4, .istore 6, mX), (6, .iload 6, mX), (8, .iconst 3, mX), (9, .if_icmp .ge 161, mX), (12, .iload 6, mX), (14, .ifCond .ne 7, mX), (17, .iload_n 2, mX), (18, .goto 15, mX), (21, .iload 6, mX), (23, .iconst 1, mX), (24, .if_icmp .ne 7, mX), (27, .iload_n 3, mX), (28, .goto 5, mX), (31, .iload 4, mX), (33, .istore 7, mX), (35, .iload_n 1, mX), (36, .iload 6, mX), (38, .ishr, mX), (39, .iconst 1, mX), (40, .iand, mX), (41, .ifCond .ne 9, mX), (44, .iinc 5 1, mX), (47, .goto 117, mX), (50, .iload 7, mX), (52, .aload_n 0, mX), (53, .getfield 306, (12, 134, 0)), (56, .iload 6, mX), (58, .iaload, mX), (59, .if_icmp .lt 5, mX), (62, .iconst (-1), mX), (63, .ireturn, mX), (64, .iconst 0, mX), (65, .istore 8, mX), (67, .iload 8, mX), (69, .iload 6, mX), (71, .if_icmp .ge 93, mX), (74, .iload_n 1, mX), (75, .iload 8, mX), (77, .ishr, mX), (78, .iconst 1, mX), (79, .iand, mX), (80, .ifCond .ne 6, mX), (83, .goto 75, mX), (86, .aload_n 0, mX), (87, .getfield 303, (12, 133, 0)), (90, .bipush 10, mX), (92, .iload 6, mX), (94, .imul, mX), (95, .iload 7, mX), (97, .iadd, mX), (98, .iaload, mX), (99, .istore 9, mX), (101, .aload_n 0, mX), (102, .getfield 303, (12, 133, 0)), (105, .bipush 10, mX), (107, .iload 8, mX), (109, .imul, mX), (110, .iload 8, mX), (112, .ifCond .ne 7, mX), (115, .iload_n 2, mX), (116, .goto 4, mX), (119, .iload_n 3, mX), (120, .iadd, mX), (121, .iaload, mX), (122, .istore 10, mX), (124, .iload 5, mX), (126, .iload 9, mX), (128, .iload 10, mX), (130, .if_icmp .ne 7, mX), (133, .iconst 0, mX), (134, .goto 21, mX), (137, .iload 9, mX), (139, .bipush 10, mX), (141, .idiv, mX), (142, .iload 10, mX), (144, .bipush 10, mX), (146, .idiv, mX), (147, .if_icmp .ne 7, mX), (150, .iconst 1, mX), (151, .goto 4, mX), (154, .iconst 4, mX), (155, .iadd, mX), (156, .istore 5, mX), (158, .iinc 8 1, mX), (161, .goto (-94), mX), (164, .iinc 6 1, mX), (167, .goto (-161), mX), (170, .iload 5, mX), (172, .ireturn, mX)])
noncomputable def mt413 : am_M := (⟨"AssizeRideModel", "cell", "(III)I"⟩, prog_14_method_145_code, 3, (Option.some FieldType.int), [(0, .bipush 121, mX), (2, .iload_n 0, mX), (3, .imul, mX), (4, .bipush 11, mX), (6, .iload_n 1, mX), (7, .imul, mX), (8, .iadd, mX), (9, .iload_n 2, mX), (10, .iadd, mX), (11, .ireturn, mX)])
noncomputable def mt414 : am_M := (⟨"AssizeRideModel", "joined", "(II)I"⟩, prog_14_method_147_code, 3, (Option.some FieldType.int), [(0, .aload_n 0, mX), (1, .getfield 705, (12, 135, 0)), (4, .ifCond .eq 17, mX), (7, .iload_n 1, mX), (8, .iconst 0, mX), (9, .aload_n 0, mX), (10, .getfield 718, (12, 136, 0)), (13, .iconst 1, mX), (14, .isub, mX), (15, .invokestatic 318, (273, 3, 0)), (18, .ifCond .ne 6, mX), (21, .bipush (-9), mX), (23, .ireturn, mX), (24, .iload_n 2, mX), (25, .iconst 0, mX), (26, .iconst 2, mX), (27, .invokestatic 318, (273, 3, 0)), (30, .ifCond .eq 16, mX), (33, .aload_n 0, mX), (34, .getfield 309, (12, 137, 0)), (37, .iconst 3, mX), (38, .iload_n 1, mX), (39, .imul, mX), (40, .iload_n 2, mX), (41, .iadd, mX), (42, .iaload, mX), (43, .goto 27, mX), (46, .iload_n 2, mX), (47, .iconst 3, mX), (48, .if_icmp .ne 20, mX), (51, .aload_n 0, mX), (52, .getfield 312, (12, 138, 0)), (55, .iload_n 1, mX), (56, .baload, mX), (57, .ifCond .eq 7, mX), (60, .iconst 1, mX), (61, .goto 9, mX), (64, .iconst 0, mX), (65, .goto 5, mX), (68, .bipush (-9), mX), (70, .ireturn, mX)])
noncomputable def mt415 : am_M := (⟨"AssizeRideModel", "putRight", "(III)I"⟩, prog_14_method_148_code, 6, (Option.some FieldType.int), [(0, .aload_n 0, mX), (1, .iload_n 1, mX), (2, .invokevirtual 556, (339, 2, 0)), (5, .ifCond .eq 25, mX), (8, .iload_n 2, mX), (9, .iconst 0, mX), (10, .bipush 9, mX), (12, .invokestatic 318, (273, 3, 0)), (15, .ifCond .eq 15, mX), (18, .iload_n 3, mX), (19, .iconst 0, mX), (20, .aload_n 0, mX), (21, .getfield 393, (12, 9, 0)), (24, .invokestatic 318, (273, 3, 0)), (27, .ifCond .ne 6, mX), (30, .bipush (-2), mX), (32, .ireturn, mX), (33, .iconst 0, mX), (34, .istore 4, mX), (36, .iconst 0, mX), (37, .istore 5, mX), (39, .iload 5, mX), (41, .aload_n 0, mX), (42, .getfield 721, (12, 87, 0)), (45, .if_icmp .ge 30, mX), (48, .iload 4, mX), (50, .aload_n 0, mX), (51, .getfield 210, (12, 90, 0)), (54, .iload 5, mX), (56, .iaload, mX), (57, .iload_n 1, mX), (58, .if_icmp .ne 7, mX), (61, .iconst 1, mX), (62, .goto 4, mX), (65, .iconst 0, mX), (66, .iadd, mX), (67, .istore 4, mX), (69, .iinc 5 1, mX), (72, .goto (-33), mX), (75, .iload 4, mX), (77, .bipush 40, mX), (79, .if_icmp .ne 6, mX), (82, .bipush (-3), mX), (84, .ireturn, mX), (85, .aload_n 0, mX), (86, .dup, mX), (87, .getfield 553, (12, 86, 0)), (90, .iconst 1, mX), (91, .iadd, mX), (92, .putfield 553, (12, 86, 0)), (95, .aload_n 0, mX), (96, .getfield 210, (12, 90, 0)), (99, .aload_n 0, mX), (100, .getfield 721, (12, 87, 0)), (103, .iload_n 1, mX), (104, .iastore, mX), (105, .aload_n 0, mX), (106, .getfield 213, (12, 91, 0)), (109, .aload_n 0, mX), (110, .getfield 721, (12, 87, 0)), (113, .iload_n 2, mX), (114, .iastore, mX), (115, .aload_n 0, mX), (116, .getfield 216, (12, 92, 0)), (119, .aload_n 0, mX), (120, .getfield 721, (12, 87, 0)), (123, .iload_n 3, mX), (124, .iastore, mX), (125, .aload_n 0, mX), (126, .getfield 219, (12, 93, 0)), (129, .aload_n 0, mX), (130, .getfield 721, (12, 87, 0)), (133, .aload_n 0, mX), (134, .getfield 393, (12, 9, 0)), (137, .iastore, mX), (138, .aload_n 0, mX), (139, .getfield 222, (12, 94, 0)), (142, .aload_n 0, mX), (143, .getfield 721, (12, 87, 0)), (146, .aload_n 0, mX), (147, .getfield 553, (12, 86, 0)), (150, .iastore, mX), (151, .aload_n 0, mX), (152, .dup, mX), (153, .getfield 721, (12, 87, 0)), (156, .iconst 1, mX), (157, .iadd, mX), (158, .putfield 721, (12, 87, 0)), (161, .iload 4, mX), (163, .iconst 1, mX), (164, .iadd, mX), (165, .ireturn, mX)])
noncomputable def mt416 : am_M := (⟨"AssizeRideModel", "stateOn", "(III)I"⟩, prog_14_method_149_code, 8, (Option.some FieldType.int), [(0, .aload_n 0, mX), (1, .iload_n 1, mX), (2, .invokevirtual 556, (339, 2, 0)), (5, .ifCond .eq 17, mX), (8, .iload_n 2, mX), (9, .invokestatic 399, (277, 1, 0)), (12, .ifCond .eq 10, mX), (15, .iload_n 3, mX), (16, .invokestatic 399, (277, 1, 0)), (19, .ifCond .ne 6, mX), (22, .bipush (-2), mX), (24, .ireturn, mX), (25, .iconst (-1), mX), (26, .istore 4, mX), (28, .iconst (-1), mX), (29, .istore 5, mX), (31, .iconst 0, mX), (32, .istore 6, mX), (34, .iconst 0, mX), (35, .istore 7, mX), (37, .iload 7, mX), (39, .iload_n 2, mX), (40, .if_icmp .gt 68, mX), (43, .iload 7, mX), (45, .iload_n 3, mX), (46, .if_icmp .gt 62, mX), (49, .aload_n 0, mX), (50, .getfield 207, (12, 89, 0)), (53, .sipush 400, mX), (56, .iload_n 1, mX), (57, .imul, mX), (58, .iload 7, mX), (60, .iadd, mX), (61, .iaload, mX), (62, .ifCond .ne 6, mX), (65, .goto 37, mX), (68, .aload_n 0, mX), (69, .getfield 204, (12, 88, 0)), (72, .sipush 400, mX), (75, .iload_n 1, mX), (76, .imul, mX), (77, .iload 7, mX), (79, .iadd, mX), (80, .iaload, mX), (81, .istore 4, mX), (83, .iload 7, mX), (85, .istore 5, mX), (87, .aload_n 0, mX), (88, .getfield 207, (12, 89, 0)), (91, .sipush 400, mX), (94, .iload_n 1, mX), (95, .imul, mX), (96, .iload 7, mX), (98, .iadd, mX), (99, .iaload, mX), (100, .istore 6, mX), (102, .iinc 7 1, mX), (105, .goto (-68), mX), (108, .iconst 0, mX), (109, .istore 7, mX), (111, .iload 7, mX), (113, .aload_n 0, mX), (114, .getfield 721, (12, 87, 0)), (117, .if_icmp .ge 108, mX), (120, .aload_n 0, mX), (121, .getfield 210, (12, 90, 0)), (124, .iload 7, mX), (126, .iaload, mX), (127, .iload_n 1, mX), (128, .if_icmp .ne 91, mX), (131, .aload_n 0, mX), (132, .getfield 219, (12, 93, 0)), (135, .iload 7, mX), (137, .iaload, mX), (138, .iload_n 3, mX), (139, .if_icmp .gt 80, mX), (142, .aload_n 0, mX), (143, .getfield 216, (12, 92, 0)), (146, .iload 7, mX), (148, .iaload, mX), (149, .iload_n 2, mX), (150, .if_icmp .gt 69, mX), (153, .aload_n 0, mX), (154, .getfield 216, (12, 92, 0)), (157, .iload 7, mX), (159, .iaload, mX), (160, .iload 5, mX), (162, .if_icmp .lt 57, mX), (165, .aload_n 0, mX), (166, .getfield 216, (12, 92, 0)), (169, .iload 7, mX), (171, .iaload, mX), (172, .iload 5, mX), (174, .if_icmp .ne 18, mX), (177, .aload_n 0, mX), (178, .getfield 222, (12, 94, 0)), (181, .iload 7, mX), (183, .iaload, mX), (184, .iload 6, mX), (186, .if_icmp .ge 6, mX), (189, .goto 30, mX), (192, .aload_n 0, mX), (193, .getfield 213, (12, 91, 0)), (196, .iload 7, mX), (198, .iaload, mX), (199, .istore 4, mX), (201, .aload_n 0, mX), (202, .getfield 216, (12, 92, 0)), (205, .iload 7, mX), (207, .iaload, mX), (208, .istore 5, mX), (210, .aload_n 0, mX), (211, .getfield 222, (12, 94, 0)), (214, .iload 7, mX), (216, .iaload, mX), (217, .istore 6, mX), (219, .iinc 7 1, mX), (222, .goto (-111), mX), (225, .iload 4, mX), (227, .ireturn, mX)])
noncomputable def mt417 : am_M := (⟨"AssizeRideModel", "check", "(I)I"⟩, prog_14_method_150_code, 4, (Option.some FieldType.int), [(0, .aload_n 0, mX), (1, .iload_n 1, mX), (2, .invokevirtual 556, (339, 2, 0)), (5, .ifCond .ne 6, mX), (8, .bipush (-2), mX), (10, .ireturn, mX), (11, .aload_n 0, mX), (12, .getfield 143, (12, 65, 0)), (15, .iload_n 1, mX), (16, .iaload, mX), (17, .istore_n 2, mX), (18, .iload_n 2, mX), (19, .iconst 3, mX), (20, .if_icmp .lt 17, mX), (23, .iload_n 2, mX), (24, .iconst 4, mX), (25, .if_icmp .ne 15, mX), (28, .aload_n 0, mX), (29, .getfield 155, (12, 69, 0)), (32, .iload_n 1, mX), (33, .baload, mX), (34, .ifCond .ne 6, mX), (37, .bipush (-4), mX), (39, .ireturn, mX), (40, .aload_n 0, mX), (41, .getfield 119, (12, 57, 0)), (44, .iload_n 1, mX), (45, .baload, mX), (46, .ifCond .ne 13, mX), (49, .aload_n 0, mX), (50, .iload_n 1, mX), (51, .invokevirtual 577, (343, 2, 0)), (54, .ifCond .eq 5, mX), (57, .iconst 1, mX), (58, .ireturn, mX), (59, .iconst 0, mX), (60, .istore_n 3, mX), (61, .iload_n 3, mX), (62, .aload_n 0, mX), (63, .getfield 188, (12, 80, 0)), (66, .iload_n 1, mX), (67, .iaload, mX), (68, .if_icmp .ge 40, mX), (71, .aload_n 0, mX), (72, .iload_n 1, mX), (73, .aload_n 0, mX), (74, .getfield 185, (12, 79, 0)), (77, .bipush 12, mX), (79, .iload_n 1, mX), (80, .imul, mX), (81, .iload_n 3, mX), (82, .iadd, mX), (83, .iaload, mX), (84, .aload_n 0, mX), (85, .getfield 161, (12, 71, 0)), (88, .iload_n 1, mX), (89, .iaload, mX), (90, .aload_n 0, mX), (91, .getfield 393, (12, 9, 0)), (94, .invokevirtual 592, (354, 5, 0)), (97, .ifCond .ne 5, mX), (100, .iconst 2, mX), (101, .ireturn, mX), (102, .iinc 3 1, mX), (105, .goto (-44), mX), (108, .aload_n 0, mX), (109, .iload_n 1, mX), (110, .invokevirtual 614, (368, 2, 0)), (113, .aload_n 0, mX), (114, .getfield 158, (12, 70, 0)), (117, .iload_n 1, mX), (118, .baload, mX), (119, .if_icmp .ne 7, mX), (122, .iconst 0, mX), (123, .goto 4, mX), (126, .iconst 3, mX), (127, .ireturn, mX)])
noncomputable def mt418 : am_M := (⟨"AssizeRideModel", "count", "(I)I"⟩, prog_14_method_151_code, 4, (Option.some FieldType.int), [(0, .iconst 0, mX), (1, .istore_n 2, mX), (2, .iload_n 1, mX), (3, .tableswitch 94 0 8 #[49, 54, 59, 64, 69, 74, 79, 84, 89], (49, 0, 0)), (52, .aload_n 0, mX), (53, .getfield 393, (12, 9, 0)), (56, .ireturn, mX), (57, .aload_n 0, mX), (58, .getfield 387, (12, 10, 0)), (61, .ireturn, mX), (62, .aload_n 0, mX), (63, .getfield 390, (12, 14, 0)), (66, .ireturn, mX), (67, .aload_n 0, mX), (68, .getfield 499, (12, 21, 0)), (71, .ireturn, mX), (72, .aload_n 0, mX), (73, .getfield 406, (12, 56, 0)), (76, .ireturn, mX), (77, .aload_n 0, mX), (78, .getfield 645, (12, 105, 0)), (81, .ireturn, mX), (82, .aload_n 0, mX), (83, .getfield 621, (12, 85, 0)), (86, .ireturn, mX), (87, .aload_n 0, mX), (88, .getfield 322, (12, 1, 0)), (91, .ireturn, mX), (92, .aload_n 0, mX), (93, .getfield 648, (12, 112, 0)), (96, .ireturn, mX), (97, .iload_n 1, mX), (98, .bipush 10, mX), (100, .bipush 15, mX), (102, .invokestatic 318, (273, 3, 0)), (105, .ifCond .eq 12, mX), (108, .aload_n 0, mX), (109, .iload_n 1, mX), (110, .bipush 10, mX), (112, .isub, mX), (113, .invokevirtual 633, (379, 2, 0)), (116, .ireturn, mX), (117, .iload_n 1, mX), (118, .bipush 20, mX), (120, .bipush 29, mX), (122, .invokestatic 318, (273, 3, 0)), (125, .ifCond .ne 5, mX), (128, .iconst (-1), mX), (129, .ireturn, mX), (130, .iconst 0, mX), (131, .istore_n 3, mX), (132, .iload_n 3, mX), (133, .aload_n 0, mX), (134, .getfield 406, (12, 56, 0)), (137, .if_icmp .ge 30, mX), (140, .iload_n 2, mX), (141, .aload_n 0, mX), (142, .getfield 143, (12, 65, 0)), (145, .iload_n 3, mX), (146, .iaload, mX), (147, .iload_n 1, mX), (148, .bipush 20, mX), (150, .isub, mX), (151, .if_icmp .ne 7, mX), (154, .iconst 1, mX), (155, .goto 4, mX), (158, .iconst 0, mX), (159, .iadd, mX), (160, .istore_n 2, mX), (161, .iinc 3 1, mX), (164, .goto (-32), mX), (167, .iload_n 2, mX), (168, .ireturn, mX)])
end
section
/-! PRINTED by wip/whole/gen.py: the instructions -/
noncomputable def mtL : am_M := (⟨"AssizeRideLaw", "law", "([I)Z"⟩, code, 4, ret, [(0, .new 7, mX), (3, .dup, mX), (4, .invokespecial 9, (0, 1, 0)), (7, .astore_n 1, mX), (8, .new 10, (12, 0, 0)), (11, .dup, mX), (12, .invokespecial 12, (268, 1, 0)), (15, .astore_n 2, mX), (16, .iconst 0, mX), (17, .istore_n 3, mX), (18, .iload_n 3, mX), (19, .aload_n 0, mX), (20, .arraylength, mX), (21, .bipush 7, mX), (23, .isub, mX), (24, .if_icmp .gt 2514, mX), (27, .aload_n 0, mX), (28, .iload_n 3, mX), (29, .iaload, mX), (30, .bipush 127, mX), (32, .iand, mX), (33, .tableswitch 2499 0 67 #[287, 350, 373, 416, 439, 472, 515, 548, 591, 634, 677, 720, 753, 776, 809, 852, 895, 938, 971, 994, 1047, 1122, 1145, 1168, 1191, 1214, 1247, 1280, 1313, 1346, 1369, 1402, 1435, 1458, 1481, 1514, 1537, 1560, 1583, 1606, 1645, 1688, 1711, 1744, 1767, 1790, 1823, 1856, 1919, 1952, 1985, 2018, 2031, 2054, 2077, 2100, 2123, 2146, 2179, 2232, 2265, 2298, 2321, 2334, 2367, 2410, 2453, 2476], (287, 0, 0)), (320, .aload_n 1, mX), (321, .aload_n 0, mX), (322, .iload_n 3, mX), (323, .iconst 1, mX), (324, .iadd, mX), (325, .iaload, mX), (326, .aload_n 0, mX), (327, .iload_n 3, mX), (328, .iconst 2, mX), (329, .iadd, mX), (330, .iaload, mX), (331, .aload_n 0, mX), (332, .iload_n 3, mX), (333, .iconst 3, mX), (334, .iadd, mX), (335, .iaload, mX), (336, .aload_n 0, mX), (337, .iload_n 3, mX), (338, .iconst 4, mX), (339, .iadd, mX), (340, .iaload, mX), (341, .aload_n 0, mX), (342, .iload_n 3, mX), (343, .iconst 5, mX), (344, .iadd, mX), (345, .iaload, mX), (346, .invokevirtual 13, (21, 6, 0)), (349, .aload_n 2, mX), (350, .aload_n 0, mX), (351, .iload_n 3, mX), (352, .iconst 1, mX), (353, .iadd, mX), (354, .iaload, mX), (355, .aload_n 0, mX), (356, .iload_n 3, mX), (357, .iconst 2, mX), (358, .iadd, mX), (359, .iaload, mX), (360, .aload_n 0, mX), (361, .iload_n 3, mX), (362, .iconst 3, mX), (363, .iadd, mX), (364, .iaload, mX), (365, .aload_n 0, mX), (366, .iload_n 3, mX), (367, .iconst 4, mX), (368, .iadd, mX), (369, .iaload, mX), (370, .aload_n 0, mX), (371, .iload_n 3, mX), (372, .iconst 5, mX), (373, .iadd, mX), (374, .iaload, mX), (375, .invokevirtual 17, (269, 6, 0)), (378, .if_icmp .eq 2154, mX), (381, .iconst 0, mX), (382, .ireturn, mX), (383, .aload_n 1, mX), (384, .aload_n 0, mX), (385, .iload_n 3, mX), (386, .iconst 1, mX), (387, .iadd, mX), (388, .iaload, mX), (389, .invokevirtual 18, (24, 2, 0)), (392, .aload_n 2, mX), (393, .aload_n 0, mX), (394, .iload_n 3, mX), (395, .iconst 1, mX), (396, .iadd, mX), (397, .iaload, mX), (398, .invokevirtual 22, (270, 2, 0)), (401, .if_icmp .eq 2131, mX), (404, .iconst 0, mX), (405, .ireturn, mX), (406, .aload_n 1, mX), (407, .aload_n 0, mX), (408, .iload_n 3, mX), (409, .iconst 1, mX), (410, .iadd, mX), (411, .iaload, mX), (412, .aload_n 0, mX), (413, .iload_n 3, mX), (414, .iconst 2, mX), (415, .iadd, mX), (416, .iaload, mX), (417, .aload_n 0, mX), (418, .iload_n 3, mX), (419, .iconst 3, mX), (420, .iadd, mX), (421, .iaload, mX), (422, .invokevirtual 23, (26, 4, 0)), (425, .aload_n 2, mX), (426, .aload_n 0, mX), (427, .iload_n 3, mX), (428, .iconst 1, mX), (429, .iadd, mX), (430, .iaload, mX), (431, .aload_n 0, mX), (432, .iload_n 3, mX), (433, .iconst 2, mX), (434, .iadd, mX), (435, .iaload, mX), (436, .aload_n 0, mX), (437, .iload_n 3, mX), (438, .iconst 3, mX), (439, .iadd, mX), (440, .iaload, mX), (441, .invokevirtual 27, (271, 4, 0)), (444, .if_icmp .eq 2088, mX), (447, .iconst 0, mX), (448, .ireturn, mX), (449, .aload_n 1, mX), (450, .aload_n 0, mX), (451, .iload_n 3, mX), (452, .iconst 1, mX), (453, .iadd, mX), (454, .iaload, mX), (455, .invokevirtual 28, (31, 2, 0)), (458, .aload_n 2, mX), (459, .aload_n 0, mX), (460, .iload_n 3, mX), (461, .iconst 1, mX), (462, .iadd, mX), (463, .iaload, mX), (464, .invokevirtual 31, (387, 2, 0)), (467, .if_icmp .eq 2065, mX), (470, .iconst 0, mX), (471, .ireturn, mX), (472, .aload_n 1, mX), (473, .aload_n 0, mX), (474, .iload_n 3, mX), (475, .iconst 1, mX), (476, .iadd, mX), (477, .iaload, mX), (478, .aload_n 0, mX), (479, .iload_n 3, mX), (480, .iconst 2, mX), (481, .iadd, mX), (482, .iaload, mX), (483, .invokevirtual 32, (35, 3, 0)), (486, .aload_n 2, mX), (487, .aload_n 0, mX), (488, .iload_n 3, mX), (489, .iconst 1, mX), (490, .iadd, mX), (491, .iaload, mX), (492, .aload_n 0, mX), (493, .iload_n 3, mX), (494, .iconst 2, mX), (495, .iadd, mX), (496, .iaload, mX), (497, .invokevirtual 36, (274, 3, 0)), (500, .if_icmp .eq 2032, mX), (503, .iconst 0, mX), (504, .ireturn, mX), (505, .aload_n 1, mX), (506, .aload_n 0, mX), (507, .iload_n 3, mX), (508, .iconst 1, mX), (509, .iadd, mX), (510, .iaload, mX), (511, .aload_n 0, mX), (512, .iload_n 3, mX), (513, .iconst 2, mX), (514, .iadd, mX), (515, .iaload, mX), (516, .aload_n 0, mX), (517, .iload_n 3, mX), (518, .iconst 3, mX), (519, .iadd, mX), (520, .iaload, mX), (521, .invokevirtual 37, (37, 4, 0)), (524, .aload_n 2, mX), (525, .aload_n 0, mX), (526, .iload_n 3, mX), (527, .iconst 1, mX), (528, .iadd, mX), (529, .iaload, mX), (530, .aload_n 0, mX), (531, .iload_n 3, mX), (532, .iconst 2, mX), (533, .iadd, mX), (534, .iaload, mX), (535, .aload_n 0, mX), (536, .iload_n 3, mX), (537, .iconst 3, mX), (538, .iadd, mX), (539, .iaload, mX), (540, .invokevirtual 40, (275, 4, 0)), (543, .if_icmp .eq 1989, mX), (546, .iconst 0, mX), (547, .ireturn, mX), (548, .aload_n 1, mX), (549, .aload_n 0, mX), (550, .iload_n 3, mX), (551, .iconst 1, mX), (552, .iadd, mX), (553, .iaload, mX), (554, .aload_n 0, mX), (555, .iload_n 3, mX), (556, .iconst 2, mX), (557, .iadd, mX), (558, .iaload, mX), (559, .invokevirtual 41, (41, 3, 0)), (562, .aload_n 2, mX), (563, .aload_n 0, mX), (564, .iload_n 3, mX), (565, .iconst 1, mX), (566, .iadd, mX), (567, .iaload, mX), (568, .aload_n 0, mX), (569, .iload_n 3, mX), (570, .iconst 2, mX), (571, .iadd, mX), (572, .iaload, mX), (573, .invokevirtual 44, (279, 3, 0)), (576, .if_icmp .eq 1956, mX), (579, .iconst 0, mX), (580, .ireturn, mX), (581, .aload_n 1, mX), (582, .aload_n 0, mX), (583, .iload_n 3, mX), (584, .iconst 1, mX), (585, .iadd, mX), (586, .iaload, mX), (587, .aload_n 0, mX), (588, .iload_n 3, mX), (589, .iconst 2, mX), (590, .iadd, mX), (591, .iaload, mX), (592, .aload_n 0, mX), (593, .iload_n 3, mX), (594, .iconst 3, mX), (595, .iadd, mX), (596, .iaload, mX), (597, .invokevirtual 45, (42, 4, 0)), (600, .aload_n 2, mX), (601, .aload_n 0, mX), (602, .iload_n 3, mX), (603, .iconst 1, mX), (604, .iadd, mX), (605, .iaload, mX), (606, .aload_n 0, mX), (607, .iload_n 3, mX), (608, .iconst 2, mX), (609, .iadd, mX), (610, .iaload, mX), (611, .aload_n 0, mX), (612, .iload_n 3, mX), (613, .iconst 3, mX), (614, .iadd, mX), (615, .iaload, mX), (616, .invokevirtual 48, (280, 4, 0)), (619, .if_icmp .eq 1913, mX), (622, .iconst 0, mX), (623, .ireturn, mX), (624, .aload_n 1, mX), (625, .aload_n 0, mX), (626, .iload_n 3, mX), (627, .iconst 1, mX), (628, .iadd, mX), (629, .iaload, mX), (630, .aload_n 0, mX), (631, .iload_n 3, mX), (632, .iconst 2, mX), (633, .iadd, mX), (634, .iaload, mX), (635, .aload_n 0, mX), (636, .iload_n 3, mX), (637, .iconst 3, mX), (638, .iadd, mX), (639, .iaload, mX), (640, .invokevirtual 49, (65, 4, 0)), (643, .aload_n 2, mX), (644, .aload_n 0, mX), (645, .iload_n 3, mX), (646, .iconst 1, mX), (647, .iadd, mX), (648, .iaload, mX), (649, .aload_n 0, mX), (650, .iload_n 3, mX), (651, .iconst 2, mX), (652, .iadd, mX), (653, .iaload, mX), (654, .aload_n 0, mX), (655, .iload_n 3, mX), (656, .iconst 3, mX), (657, .iadd, mX), (658, .iaload, mX), (659, .invokevirtual 52, (291, 4, 0)), (662, .if_icmp .eq 1870, mX), (665, .iconst 0, mX), (666, .ireturn, mX), (667, .aload_n 1, mX), (668, .aload_n 0, mX), (669, .iload_n 3, mX), (670, .iconst 1, mX), (671, .iadd, mX), (672, .iaload, mX), (673, .aload_n 0, mX), (674, .iload_n 3, mX), (675, .iconst 2, mX), (676, .iadd, mX), (677, .iaload, mX), (678, .aload_n 0, mX), (679, .iload_n 3, mX), (680, .iconst 3, mX), (681, .iadd, mX), (682, .iaload, mX), (683, .invokevirtual 53, (67, 4, 0)), (686, .aload_n 2, mX), (687, .aload_n 0, mX), (688, .iload_n 3, mX), (689, .iconst 1, mX), (690, .iadd, mX), (691, .iaload, mX), (692, .aload_n 0, mX), (693, .iload_n 3, mX), (694, .iconst 2, mX), (695, .iadd, mX), (696, .iaload, mX), (697, .aload_n 0, mX), (698, .iload_n 3, mX), (699, .iconst 3, mX), (700, .iadd, mX), (701, .iaload, mX), (702, .invokevirtual 56, (293, 4, 0)), (705, .if_icmp .eq 1827, mX), (708, .iconst 0, mX), (709, .ireturn, mX), (710, .aload_n 1, mX), (711, .aload_n 0, mX), (712, .iload_n 3, mX), (713, .iconst 1, mX), (714, .iadd, mX), (715, .iaload, mX), (716, .aload_n 0, mX), (717, .iload_n 3, mX), (718, .iconst 2, mX), (719, .iadd, mX), (720, .iaload, mX), (721, .aload_n 0, mX), (722, .iload_n 3, mX), (723, .iconst 3, mX), (724, .iadd, mX), (725, .iaload, mX), (726, .invokevirtual 57, (68, 4, 0)), (729, .aload_n 2, mX), (730, .aload_n 0, mX), (731, .iload_n 3, mX), (732, .iconst 1, mX), (733, .iadd, mX), (734, .iaload, mX), (735, .aload_n 0, mX), (736, .iload_n 3, mX), (737, .iconst 2, mX), (738, .iadd, mX), (739, .iaload, mX), (740, .aload_n 0, mX), (741, .iload_n 3, mX), (742, .iconst 3, mX), (743, .iadd, mX), (744, .iaload, mX), (745, .invokevirtual 60, (295, 4, 0)), (748, .if_icmp .eq 1784, mX), (751, .iconst 0, mX), (752, .ireturn, mX), (753, .aload_n 1, mX), (754, .aload_n 0, mX), (755, .iload_n 3, mX), (756, .iconst 1, mX), (757, .iadd, mX), (758, .iaload, mX), (759, .aload_n 0, mX), (760, .iload_n 3, mX), (761, .iconst 2, mX), (762, .iadd, mX), (763, .iaload, mX), (764, .invokevirtual 61, (70, 3, 0)), (767, .aload_n 2, mX), (768, .aload_n 0, mX), (769, .iload_n 3, mX), (770, .iconst 1, mX), (771, .iadd, mX), (772, .iaload, mX), (773, .aload_n 0, mX), (774, .iload_n 3, mX), (775, .iconst 2, mX), (776, .iadd, mX), (777, .iaload, mX), (778, .invokevirtual 64, (297, 3, 0)), (781, .if_icmp .eq 1751, mX), (784, .iconst 0, mX), (785, .ireturn, mX), (786, .aload_n 1, mX), (787, .aload_n 0, mX), (788, .iload_n 3, mX), (789, .iconst 1, mX), (790, .iadd, mX), (791, .iaload, mX), (792, .invokevirtual 65, (108, 2, 0)), (795, .aload_n 2, mX), (796, .aload_n 0, mX), (797, .iload_n 3, mX), (798, .iconst 1, mX), (799, .iadd, mX), (800, .iaload, mX), (801, .invokevirtual 68, (319, 2, 0)), (804, .if_icmp .eq 1728, mX), (807, .iconst 0, mX), (808, .ireturn, mX), (809, .aload_n 1, mX), (810, .aload_n 0, mX), (811, .iload_n 3, mX), (812, .iconst 1, mX), (813, .iadd, mX), (814, .iaload, mX), (815, .aload_n 0, mX), (816, .iload_n 3, mX), (817, .iconst 2, mX), (818, .iadd, mX), (819, .iaload, mX), (820, .invokevirtual 69, (109, 3, 0)), (823, .aload_n 2, mX), (824, .aload_n 0, mX), (825, .iload_n 3, mX), (826, .iconst 1, mX), (827, .iadd, mX), (828, .iaload, mX), (829, .aload_n 0, mX), (830, .iload_n 3, mX), (831, .iconst 2, mX), (832, .iadd, mX), (833, .iaload, mX), (834, .invokevirtual 72, (320, 3, 0)), (837, .if_icmp .eq 1695, mX), (840, .iconst 0, mX), (841, .ireturn, mX), (842, .aload_n 1, mX), (843, .aload_n 0, mX), (844, .iload_n 3, mX), (845, .iconst 1, mX), (846, .iadd, mX), (847, .iaload, mX), (848, .aload_n 0, mX), (849, .iload_n 3, mX), (850, .iconst 2, mX), (851, .iadd, mX), (852, .iaload, mX), (853, .aload_n 0, mX), (854, .iload_n 3, mX), (855, .iconst 3, mX), (856, .iadd, mX), (857, .iaload, mX), (858, .invokevirtual 73, (111, 4, 0)), (861, .aload_n 2, mX), (862, .aload_n 0, mX), (863, .iload_n 3, mX), (864, .iconst 1, mX), (865, .iadd, mX), (866, .iaload, mX), (867, .aload_n 0, mX), (868, .iload_n 3, mX), (869, .iconst 2, mX), (870, .iadd, mX), (871, .iaload, mX), (872, .aload_n 0, mX), (873, .iload_n 3, mX), (874, .iconst 3, mX), (875, .iadd, mX), (876, .iaload, mX), (877, .invokevirtual 76, (321, 4, 0)), (880, .if_icmp .eq 1652, mX), (883, .iconst 0, mX), (884, .ireturn, mX), (885, .aload_n 1, mX), (886, .aload_n 0, mX), (887, .iload_n 3, mX), (888, .iconst 1, mX), (889, .iadd, mX), (890, .iaload, mX), (891, .aload_n 0, mX), (892, .iload_n 3, mX), (893, .iconst 2, mX), (894, .iadd, mX), (895, .iaload, mX), (896, .aload_n 0, mX), (897, .iload_n 3, mX), (898, .iconst 3, mX), (899, .iadd, mX), (900, .iaload, mX), (901, .invokevirtual 77, (116, 4, 0)), (904, .aload_n 2, mX), (905, .aload_n 0, mX), (906, .iload_n 3, mX), (907, .iconst 1, mX), (908, .iadd, mX), (909, .iaload, mX), (910, .aload_n 0, mX), (911, .iload_n 3, mX), (912, .iconst 2, mX), (913, .iadd, mX), (914, .iaload, mX), (915, .aload_n 0, mX), (916, .iload_n 3, mX), (917, .iconst 3, mX), (918, .iadd, mX), (919, .iaload, mX), (920, .invokevirtual 80, (324, 4, 0)), (923, .if_icmp .eq 1609, mX), (926, .iconst 0, mX), (927, .ireturn, mX), (928, .aload_n 1, mX), (929, .aload_n 0, mX), (930, .iload_n 3, mX), (931, .iconst 1, mX), (932, .iadd, mX), (933, .iaload, mX), (934, .aload_n 0, mX), (935, .iload_n 3, mX), (936, .iconst 2, mX), (937, .iadd, mX), (938, .iaload, mX), (939, .aload_n 0, mX), (940, .iload_n 3, mX), (941, .iconst 3, mX), (942, .iadd, mX), (943, .iaload, mX), (944, .invokevirtual 81, (117, 4, 0)), (947, .aload_n 2, mX), (948, .aload_n 0, mX), (949, .iload_n 3, mX), (950, .iconst 1, mX), (951, .iadd, mX), (952, .iaload, mX), (953, .aload_n 0, mX), (954, .iload_n 3, mX), (955, .iconst 2, mX), (956, .iadd, mX), (957, .iaload, mX), (958, .aload_n 0, mX), (959, .iload_n 3, mX), (960, .iconst 3, mX), (961, .iadd, mX), (962, .iaload, mX), (963, .invokevirtual 84, (325, 4, 0)), (966, .if_icmp .eq 1566, mX), (969, .iconst 0, mX), (970, .ireturn, mX), (971, .aload_n 1, mX), (972, .aload_n 0, mX), (973, .iload_n 3, mX), (974, .iconst 1, mX), (975, .iadd, mX), (976, .iaload, mX), (977, .aload_n 0, mX), (978, .iload_n 3, mX), (979, .iconst 2, mX), (980, .iadd, mX), (981, .iaload, mX), (982, .invokevirtual 85, (120, 3, 0)), (985, .aload_n 2, mX), (986, .aload_n 0, mX), (987, .iload_n 3, mX), (988, .iconst 1, mX), (989, .iadd, mX), (990, .iaload, mX), (991, .aload_n 0, mX), (992, .iload_n 3, mX), (993, .iconst 2, mX), (994, .iadd, mX), (995, .iaload, mX), (996, .invokevirtual 88, (326, 3, 0)), (999, .if_icmp .eq 1533, mX), (1002, .iconst 0, mX), (1003, .ireturn, mX), (1004, .aload_n 1, mX), (1005, .aload_n 0, mX), (1006, .iload_n 3, mX), (1007, .iconst 1, mX), (1008, .iadd, mX), (1009, .iaload, mX), (1010, .invokevirtual 89, (130, 2, 0)), (1013, .aload_n 2, mX), (1014, .aload_n 0, mX), (1015, .iload_n 3, mX), (1016, .iconst 1, mX), (1017, .iadd, mX), (1018, .iaload, mX), (1019, .invokevirtual 92, (333, 2, 0)), (1022, .if_icmp .eq 1510, mX), (1025, .iconst 0, mX), (1026, .ireturn, mX), (1027, .aload_n 1, mX), (1028, .aload_n 0, mX), (1029, .iload_n 3, mX), (1030, .iconst 1, mX), (1031, .iadd, mX), (1032, .iaload, mX), (1033, .aload_n 0, mX), (1034, .iload_n 3, mX), (1035, .iconst 2, mX), (1036, .iadd, mX), (1037, .iaload, mX), (1038, .aload_n 0, mX), (1039, .iload_n 3, mX), (1040, .iconst 3, mX), (1041, .iadd, mX), (1042, .iaload, mX), (1043, .aload_n 0, mX), (1044, .iload_n 3, mX), (1045, .iconst 4, mX), (1046, .iadd, mX), (1047, .iaload, mX), (1048, .invokevirtual 93, (131, 5, 0)), (1051, .aload_n 2, mX), (1052, .aload_n 0, mX), (1053, .iload_n 3, mX), (1054, .iconst 1, mX), (1055, .iadd, mX), (1056, .iaload, mX), (1057, .aload_n 0, mX), (1058, .iload_n 3, mX), (1059, .iconst 2, mX), (1060, .iadd, mX), (1061, .iaload, mX), (1062, .aload_n 0, mX), (1063, .iload_n 3, mX), (1064, .iconst 3, mX), (1065, .iadd, mX), (1066, .iaload, mX), (1067, .aload_n 0, mX), (1068, .iload_n 3, mX), (1069, .iconst 4, mX), (1070, .iadd, mX), (1071, .iaload, mX), (1072, .invokevirtual 97, (334, 5, 0)), (1075, .if_icmp .eq 1457, mX), (1078, .iconst 0, mX), (1079, .ireturn, mX), (1080, .aload_n 1, mX), (1081, .aload_n 0, mX), (1082, .iload_n 3, mX), (1083, .iconst 1, mX), (1084, .iadd, mX), (1085, .iaload, mX), (1086, .aload_n 0, mX), (1087, .iload_n 3, mX), (1088, .iconst 2, mX), (1089, .iadd, mX), (1090, .iaload, mX), (1091, .aload_n 0, mX), (1092, .iload_n 3, mX), (1093, .iconst 3, mX), (1094, .iadd, mX), (1095, .iaload, mX), (1096, .aload_n 0, mX), (1097, .iload_n 3, mX), (1098, .iconst 4, mX), (1099, .iadd, mX), (1100, .iaload, mX), (1101, .aload_n 0, mX), (1102, .iload_n 3, mX), (1103, .iconst 5, mX), (1104, .iadd, mX), (1105, .iaload, mX), (1106, .aload_n 0, mX), (1107, .iload_n 3, mX), (1108, .bipush 6, mX), (1110, .iadd, mX), (1111, .iaload, mX), (1112, .invokevirtual 98, (137, 7, 0)), (1115, .aload_n 2, mX), (1116, .aload_n 0, mX), (1117, .iload_n 3, mX), (1118, .iconst 1, mX), (1119, .iadd, mX), (1120, .iaload, mX), (1121, .aload_n 0, mX), (1122, .iload_n 3, mX), (1123, .iconst 2, mX), (1124, .iadd, mX), (1125, .iaload, mX), (1126, .aload_n 0, mX), (1127, .iload_n 3, mX), (1128, .iconst 3, mX), (1129, .iadd, mX), (1130, .iaload, mX), (1131, .aload_n 0, mX), (1132, .iload_n 3, mX), (1133, .iconst 4, mX), (1134, .iadd, mX), (1135, .iaload, mX), (1136, .aload_n 0, mX), (1137, .iload_n 3, mX), (1138, .iconst 5, mX), (1139, .iadd, mX), (1140, .iaload, mX), (1141, .aload_n 0, mX), (1142, .iload_n 3, mX), (1143, .bipush 6, mX), (1145, .iadd, mX), (1146, .iaload, mX), (1147, .invokevirtual 102, (336, 7, 0)), (1150, .if_icmp .eq 1382, mX), (1153, .iconst 0, mX), (1154, .ireturn, mX), (1155, .aload_n 1, mX), (1156, .aload_n 0, mX), (1157, .iload_n 3, mX), (1158, .iconst 1, mX), (1159, .iadd, mX), (1160, .iaload, mX), (1161, .invokevirtual 103, (138, 2, 0)), (1164, .aload_n 2, mX), (1165, .aload_n 0, mX), (1166, .iload_n 3, mX), (1167, .iconst 1, mX), (1168, .iadd, mX), (1169, .iaload, mX), (1170, .invokevirtual 106, (337, 2, 0)), (1173, .if_icmp .eq 1359, mX), (1176, .iconst 0, mX), (1177, .ireturn, mX), (1178, .aload_n 1, mX), (1179, .aload_n 0, mX), (1180, .iload_n 3, mX), (1181, .iconst 1, mX), (1182, .iadd, mX), (1183, .iaload, mX), (1184, .invokevirtual 107, (141, 2, 0)), (1187, .aload_n 2, mX), (1188, .aload_n 0, mX), (1189, .iload_n 3, mX), (1190, .iconst 1, mX), (1191, .iadd, mX), (1192, .iaload, mX), (1193, .invokevirtual 110, (340, 2, 0)), (1196, .if_icmp .eq 1336, mX), (1199, .iconst 0, mX), (1200, .ireturn, mX), (1201, .aload_n 1, mX), (1202, .aload_n 0, mX), (1203, .iload_n 3, mX), (1204, .iconst 1, mX), (1205, .iadd, mX), (1206, .iaload, mX), (1207, .invokevirtual 111, (143, 2, 0)), (1210, .aload_n 2, mX), (1211, .aload_n 0, mX), (1212, .iload_n 3, mX), (1213, .iconst 1, mX), (1214, .iadd, mX), (1215, .iaload, mX), (1216, .invokevirtual 114, (342, 2, 0)), (1219, .if_icmp .eq 1313, mX), (1222, .iconst 0, mX), (1223, .ireturn, mX), (1224, .aload_n 1, mX), (1225, .aload_n 0, mX), (1226, .iload_n 3, mX), (1227, .iconst 1, mX), (1228, .iadd, mX), (1229, .iaload, mX), (1230, .invokevirtual 115, (147, 2, 0)), (1233, .aload_n 2, mX), (1234, .aload_n 0, mX), (1235, .iload_n 3, mX), (1236, .iconst 1, mX), (1237, .iadd, mX), (1238, .iaload, mX), (1239, .invokevirtual 118, (345, 2, 0)), (1242, .if_icmp .eq 1290, mX), (1245, .iconst 0, mX), (1246, .ireturn, mX), (1247, .aload_n 1, mX), (1248, .aload_n 0, mX), (1249, .iload_n 3, mX), (1250, .iconst 1, mX), (1251, .iadd, mX), (1252, .iaload, mX), (1253, .aload_n 0, mX), (1254, .iload_n 3, mX), (1255, .iconst 2, mX), (1256, .iadd, mX), (1257, .iaload, mX), (1258, .invokevirtual 119, (152, 3, 0)), (1261, .aload_n 2, mX), (1262, .aload_n 0, mX), (1263, .iload_n 3, mX), (1264, .iconst 1, mX), (1265, .iadd, mX), (1266, .iaload, mX), (1267, .aload_n 0, mX), (1268, .iload_n 3, mX), (1269, .iconst 2, mX), (1270, .iadd, mX), (1271, .iaload, mX), (1272, .invokevirtual 122, (347, 3, 0)), (1275, .if_icmp .eq 1257, mX), (1278, .iconst 0, mX), (1279, .ireturn, mX), (1280, .aload_n 1, mX), (1281, .aload_n 0, mX), (1282, .iload_n 3, mX), (1283, .iconst 1, mX), (1284, .iadd, mX), (1285, .iaload, mX), (1286, .aload_n 0, mX), (1287, .iload_n 3, mX), (1288, .iconst 2, mX), (1289, .iadd, mX), (1290, .iaload, mX), (1291, .invokevirtual 123, (153, 3, 0)), (1294, .aload_n 2, mX), (1295, .aload_n 0, mX), (1296, .iload_n 3, mX), (1297, .iconst 1, mX), (1298, .iadd, mX), (1299, .iaload, mX), (1300, .aload_n 0, mX), (1301, .iload_n 3, mX), (1302, .iconst 2, mX), (1303, .iadd, mX), (1304, .iaload, mX), (1305, .invokevirtual 126, (348, 3, 0)), (1308, .if_icmp .eq 1224, mX), (1311, .iconst 0, mX), (1312, .ireturn, mX), (1313, .aload_n 1, mX), (1314, .aload_n 0, mX), (1315, .iload_n 3, mX), (1316, .iconst 1, mX), (1317, .iadd, mX), (1318, .iaload, mX), (1319, .aload_n 0, mX), (1320, .iload_n 3, mX), (1321, .iconst 2, mX), (1322, .iadd, mX), (1323, .iaload, mX), (1324, .invokevirtual 127, (155, 3, 0)), (1327, .aload_n 2, mX), (1328, .aload_n 0, mX), (1329, .iload_n 3, mX), (1330, .iconst 1, mX), (1331, .iadd, mX), (1332, .iaload, mX), (1333, .aload_n 0, mX), (1334, .iload_n 3, mX), (1335, .iconst 2, mX), (1336, .iadd, mX), (1337, .iaload, mX), (1338, .invokevirtual 130, (349, 3, 0)), (1341, .if_icmp .eq 1191, mX), (1344, .iconst 0, mX), (1345, .ireturn, mX), (1346, .aload_n 1, mX), (1347, .aload_n 0, mX), (1348, .iload_n 3, mX), (1349, .iconst 1, mX), (1350, .iadd, mX), (1351, .iaload, mX), (1352, .aload_n 0, mX), (1353, .iload_n 3, mX), (1354, .iconst 2, mX), (1355, .iadd, mX), (1356, .iaload, mX), (1357, .invokevirtual 131, (158, 3, 0)), (1360, .aload_n 2, mX), (1361, .aload_n 0, mX), (1362, .iload_n 3, mX), (1363, .iconst 1, mX), (1364, .iadd, mX), (1365, .iaload, mX), (1366, .aload_n 0, mX), (1367, .iload_n 3, mX), (1368, .iconst 2, mX), (1369, .iadd, mX), (1370, .iaload, mX), (1371, .invokevirtual 134, (353, 3, 0)), (1374, .if_icmp .eq 1158, mX), (1377, .iconst 0, mX), (1378, .ireturn, mX), (1379, .aload_n 1, mX), (1380, .aload_n 0, mX), (1381, .iload_n 3, mX), (1382, .iconst 1, mX), (1383, .iadd, mX), (1384, .iaload, mX), (1385, .invokevirtual 135, (163, 2, 0)), (1388, .aload_n 2, mX), (1389, .aload_n 0, mX), (1390, .iload_n 3, mX), (1391, .iconst 1, mX), (1392, .iadd, mX), (1393, .iaload, mX), (1394, .invokevirtual 138, (355, 2, 0)), (1397, .if_icmp .eq 1135, mX), (1400, .iconst 0, mX), (1401, .ireturn, mX), (1402, .aload_n 1, mX), (1403, .aload_n 0, mX), (1404, .iload_n 3, mX), (1405, .iconst 1, mX), (1406, .iadd, mX), (1407, .iaload, mX), (1408, .aload_n 0, mX), (1409, .iload_n 3, mX), (1410, .iconst 2, mX), (1411, .iadd, mX), (1412, .iaload, mX), (1413, .invokevirtual 139, (166, 3, 0)), (1416, .aload_n 2, mX), (1417, .aload_n 0, mX), (1418, .iload_n 3, mX), (1419, .iconst 1, mX), (1420, .iadd, mX), (1421, .iaload, mX), (1422, .aload_n 0, mX), (1423, .iload_n 3, mX), (1424, .iconst 2, mX), (1425, .iadd, mX), (1426, .iaload, mX), (1427, .invokevirtual 142, (360, 3, 0)), (1430, .if_icmp .eq 1102, mX), (1433, .iconst 0, mX), (1434, .ireturn, mX), (1435, .aload_n 1, mX), (1436, .aload_n 0, mX), (1437, .iload_n 3, mX), (1438, .iconst 1, mX), (1439, .iadd, mX), (1440, .iaload, mX), (1441, .aload_n 0, mX), (1442, .iload_n 3, mX), (1443, .iconst 2, mX), (1444, .iadd, mX), (1445, .iaload, mX), (1446, .invokevirtual 143, (168, 3, 0)), (1449, .aload_n 2, mX), (1450, .aload_n 0, mX), (1451, .iload_n 3, mX), (1452, .iconst 1, mX), (1453, .iadd, mX), (1454, .iaload, mX), (1455, .aload_n 0, mX), (1456, .iload_n 3, mX), (1457, .iconst 2, mX), (1458, .iadd, mX), (1459, .iaload, mX), (1460, .invokevirtual 146, (361, 3, 0)), (1463, .if_icmp .eq 1069, mX), (1466, .iconst 0, mX), (1467, .ireturn, mX), (1468, .aload_n 1, mX), (1469, .aload_n 0, mX), (1470, .iload_n 3, mX), (1471, .iconst 1, mX), (1472, .iadd, mX), (1473, .iaload, mX), (1474, .invokevirtual 147, (170, 2, 0)), (1477, .aload_n 2, mX), (1478, .aload_n 0, mX), (1479, .iload_n 3, mX), (1480, .iconst 1, mX), (1481, .iadd, mX), (1482, .iaload, mX), (1483, .invokevirtual 150, (362, 2, 0)), (1486, .if_icmp .eq 1046, mX), (1489, .iconst 0, mX), (1490, .ireturn, mX), (1491, .aload_n 1, mX), (1492, .aload_n 0, mX), (1493, .iload_n 3, mX), (1494, .iconst 1, mX), (1495, .iadd, mX), (1496, .iaload, mX), (1497, .invokevirtual 151, (175, 2, 0)), (1500, .aload_n 2, mX), (1501, .aload_n 0, mX), (1502, .iload_n 3, mX), (1503, .iconst 1, mX), (1504, .iadd, mX), (1505, .iaload, mX), (1506, .invokevirtual 154, (365, 2, 0)), (1509, .if_icmp .eq 1023, mX), (1512, .iconst 0, mX), (1513, .ireturn, mX), (1514, .aload_n 1, mX), (1515, .aload_n 0, mX), (1516, .iload_n 3, mX), (1517, .iconst 1, mX), (1518, .iadd, mX), (1519, .iaload, mX), (1520, .aload_n 0, mX), (1521, .iload_n 3, mX), (1522, .iconst 2, mX), (1523, .iadd, mX), (1524, .iaload, mX), (1525, .invokevirtual 155, (176, 3, 0)), (1528, .aload_n 2, mX), (1529, .aload_n 0, mX), (1530, .iload_n 3, mX), (1531, .iconst 1, mX), (1532, .iadd, mX), (1533, .iaload, mX), (1534, .aload_n 0, mX), (1535, .iload_n 3, mX), (1536, .iconst 2, mX), (1537, .iadd, mX), (1538, .iaload, mX), (1539, .invokevirtual 158, (366, 3, 0)), (1542, .if_icmp .eq 990, mX), (1545, .iconst 0, mX), (1546, .ireturn, mX), (1547, .aload_n 1, mX), (1548, .aload_n 0, mX), (1549, .iload_n 3, mX), (1550, .iconst 1, mX), (1551, .iadd, mX), (1552, .iaload, mX), (1553, .invokevirtual 159, (177, 2, 0)), (1556, .aload_n 2, mX), (1557, .aload_n 0, mX), (1558, .iload_n 3, mX), (1559, .iconst 1, mX), (1560, .iadd, mX), (1561, .iaload, mX), (1562, .invokevirtual 162, (367, 2, 0)), (1565, .if_icmp .eq 967, mX), (1568, .iconst 0, mX), (1569, .ireturn, mX), (1570, .aload_n 1, mX), (1571, .aload_n 0, mX), (1572, .iload_n 3, mX), (1573, .iconst 1, mX), (1574, .iadd, mX), (1575, .iaload, mX), (1576, .invokevirtual 163, (181, 2, 0)), (1579, .aload_n 2, mX), (1580, .aload_n 0, mX), (1581, .iload_n 3, mX), (1582, .iconst 1, mX), (1583, .iadd, mX), (1584, .iaload, mX), (1585, .invokevirtual 166, (370, 2, 0)), (1588, .if_icmp .eq 944, mX), (1591, .iconst 0, mX), (1592, .ireturn, mX), (1593, .aload_n 1, mX), (1594, .aload_n 0, mX), (1595, .iload_n 3, mX), (1596, .iconst 1, mX), (1597, .iadd, mX), (1598, .iaload, mX), (1599, .invokevirtual 167, (183, 2, 0)), (1602, .aload_n 2, mX), (1603, .aload_n 0, mX), (1604, .iload_n 3, mX), (1605, .iconst 1, mX), (1606, .iadd, mX), (1607, .iaload, mX), (1608, .invokevirtual 170, (372, 2, 0)), (1611, .if_icmp .eq 921, mX), (1614, .iconst 0, mX), (1615, .ireturn, mX), (1616, .aload_n 1, mX), (1617, .aload_n 0, mX), (1618, .iload_n 3, mX), (1619, .iconst 1, mX), (1620, .iadd, mX), (1621, .iaload, mX), (1622, .invokevirtual 171, (187, 2, 0)), (1625, .aload_n 2, mX), (1626, .aload_n 0, mX), (1627, .iload_n 3, mX), (1628, .iconst 1, mX), (1629, .iadd, mX), (1630, .iaload, mX), (1631, .invokevirtual 174, (374, 2, 0)), (1634, .if_icmp .eq 898, mX), (1637, .iconst 0, mX), (1638, .ireturn, mX), (1639, .aload_n 1, mX), (1640, .aload_n 0, mX), (1641, .iload_n 3, mX), (1642, .iconst 1, mX), (1643, .iadd, mX), (1644, .iaload, mX), (1645, .ifCond .eq 7, mX), (1648, .iconst 1, mX), (1649, .goto 4, mX), (1652, .iconst 0, mX), (1653, .invokevirtual 175, (188, 2, 0)), (1656, .aload_n 2, mX), (1657, .aload_n 0, mX), (1658, .iload_n 3, mX), (1659, .iconst 1, mX), (1660, .iadd, mX), (1661, .iaload, mX), (1662, .ifCond .eq 7, mX), (1665, .iconst 1, mX), (1666, .goto 4, mX), (1669, .iconst 0, mX), (1670, .invokevirtual 179, (375, 2, 0)), (1673, .if_icmp .eq 859, mX), (1676, .iconst 0, mX), (1677, .ireturn, mX), (1678, .aload_n 1, mX), (1679, .aload_n 0, mX), (1680, .iload_n 3, mX), (1681, .iconst 1, mX), (1682, .iadd, mX), (1683, .iaload, mX), (1684, .aload_n 0, mX), (1685, .iload_n 3, mX), (1686, .iconst 2, mX), (1687, .iadd, mX), (1688, .iaload, mX), (1689, .aload_n 0, mX), (1690, .iload_n 3, mX), (1691, .iconst 3, mX), (1692, .iadd, mX), (1693, .iaload, mX), (1694, .invokevirtual 180, (190, 4, 0)), (1697, .aload_n 2, mX), (1698, .aload_n 0, mX), (1699, .iload_n 3, mX), (1700, .iconst 1, mX), (1701, .iadd, mX), (1702, .iaload, mX), (1703, .aload_n 0, mX), (1704, .iload_n 3, mX), (1705, .iconst 2, mX), (1706, .iadd, mX), (1707, .iaload, mX), (1708, .aload_n 0, mX), (1709, .iload_n 3, mX), (1710, .iconst 3, mX), (1711, .iadd, mX), (1712, .iaload, mX), (1713, .invokevirtual 183, (376, 4, 0)), (1716, .if_icmp .eq 816, mX), (1719, .iconst 0, mX), (1720, .ireturn, mX), (1721, .aload_n 1, mX), (1722, .aload_n 0, mX), (1723, .iload_n 3, mX), (1724, .iconst 1, mX), (1725, .iadd, mX), (1726, .iaload, mX), (1727, .invokevirtual 184, (191, 2, 0)), (1730, .aload_n 2, mX), (1731, .aload_n 0, mX), (1732, .iload_n 3, mX), (1733, .iconst 1, mX), (1734, .iadd, mX), (1735, .iaload, mX), (1736, .invokevirtual 187, (377, 2, 0)), (1739, .if_icmp .eq 793, mX), (1742, .iconst 0, mX), (1743, .ireturn, mX), (1744, .aload_n 1, mX), (1745, .aload_n 0, mX), (1746, .iload_n 3, mX), (1747, .iconst 1, mX), (1748, .iadd, mX), (1749, .iaload, mX), (1750, .aload_n 0, mX), (1751, .iload_n 3, mX), (1752, .iconst 2, mX), (1753, .iadd, mX), (1754, .iaload, mX), (1755, .invokevirtual 188, (192, 3, 0)), (1758, .aload_n 2, mX), (1759, .aload_n 0, mX), (1760, .iload_n 3, mX), (1761, .iconst 1, mX), (1762, .iadd, mX), (1763, .iaload, mX), (1764, .aload_n 0, mX), (1765, .iload_n 3, mX), (1766, .iconst 2, mX), (1767, .iadd, mX), (1768, .iaload, mX), (1769, .invokevirtual 191, (378, 3, 0)), (1772, .if_icmp .eq 760, mX), (1775, .iconst 0, mX), (1776, .ireturn, mX), (1777, .aload_n 1, mX), (1778, .aload_n 0, mX), (1779, .iload_n 3, mX), (1780, .iconst 1, mX), (1781, .iadd, mX), (1782, .iaload, mX), (1783, .invokevirtual 192, (196, 2, 0)), (1786, .aload_n 2, mX), (1787, .aload_n 0, mX), (1788, .iload_n 3, mX), (1789, .iconst 1, mX), (1790, .iadd, mX), (1791, .iaload, mX), (1792, .invokevirtual 195, (380, 2, 0)), (1795, .if_icmp .eq 737, mX), (1798, .iconst 0, mX), (1799, .ireturn, mX), (1800, .aload_n 1, mX), (1801, .aload_n 0, mX), (1802, .iload_n 3, mX), (1803, .iconst 1, mX), (1804, .iadd, mX), (1805, .iaload, mX), (1806, .invokevirtual 196, (198, 2, 0)), (1809, .aload_n 2, mX), (1810, .aload_n 0, mX), (1811, .iload_n 3, mX), (1812, .iconst 1, mX), (1813, .iadd, mX), (1814, .iaload, mX), (1815, .invokevirtual 199, (382, 2, 0)), (1818, .if_icmp .eq 714, mX), (1821, .iconst 0, mX), (1822, .ireturn, mX), (1823, .aload_n 1, mX), (1824, .aload_n 0, mX), (1825, .iload_n 3, mX), (1826, .iconst 1, mX), (1827, .iadd, mX), (1828, .iaload, mX), (1829, .aload_n 0, mX), (1830, .iload_n 3, mX), (1831, .iconst 2, mX), (1832, .iadd, mX), (1833, .iaload, mX), (1834, .invokevirtual 200, (202, 3, 0)), (1837, .aload_n 2, mX), (1838, .aload_n 0, mX), (1839, .iload_n 3, mX), (1840, .iconst 1, mX), (1841, .iadd, mX), (1842, .iaload, mX), (1843, .aload_n 0, mX), (1844, .iload_n 3, mX), (1845, .iconst 2, mX), (1846, .iadd, mX), (1847, .iaload, mX), (1848, .invokevirtual 203, (384, 3, 0)), (1851, .if_icmp .eq 681, mX), (1854, .iconst 0, mX), (1855, .ireturn, mX), (1856, .aload_n 1, mX), (1857, .aload_n 0, mX), (1858, .iload_n 3, mX), (1859, .iconst 1, mX), (1860, .iadd, mX), (1861, .iaload, mX), (1862, .aload_n 0, mX), (1863, .iload_n 3, mX), (1864, .iconst 2, mX), (1865, .iadd, mX), (1866, .iaload, mX), (1867, .invokevirtual 204, (204, 3, 0)), (1870, .aload_n 2, mX), (1871, .aload_n 0, mX), (1872, .iload_n 3, mX), (1873, .iconst 1, mX), (1874, .iadd, mX), (1875, .iaload, mX), (1876, .aload_n 0, mX), (1877, .iload_n 3, mX), (1878, .iconst 2, mX), (1879, .iadd, mX), (1880, .iaload, mX), (1881, .invokevirtual 207, (385, 3, 0)), (1884, .if_icmp .eq 648, mX), (1887, .iconst 0, mX), (1888, .ireturn, mX), (1889, .aload_n 1, mX), (1890, .aload_n 0, mX), (1891, .iload_n 3, mX), (1892, .iconst 1, mX), (1893, .iadd, mX), (1894, .iaload, mX), (1895, .aload_n 0, mX), (1896, .iload_n 3, mX), (1897, .iconst 2, mX), (1898, .iadd, mX), (1899, .iaload, mX), (1900, .aload_n 0, mX), (1901, .iload_n 3, mX), (1902, .iconst 3, mX), (1903, .iadd, mX), (1904, .iaload, mX), (1905, .aload_n 0, mX), (1906, .iload_n 3, mX), (1907, .iconst 4, mX), (1908, .iadd, mX), (1909, .iaload, mX), (1910, .aload_n 0, mX), (1911, .iload_n 3, mX), (1912, .iconst 5, mX), (1913, .iadd, mX), (1914, .iaload, mX), (1915, .invokevirtual 208, (206, 6, 0)), (1918, .aload_n 2, mX), (1919, .aload_n 0, mX), (1920, .iload_n 3, mX), (1921, .iconst 1, mX), (1922, .iadd, mX), (1923, .iaload, mX), (1924, .aload_n 0, mX), (1925, .iload_n 3, mX), (1926, .iconst 2, mX), (1927, .iadd, mX), (1928, .iaload, mX), (1929, .aload_n 0, mX), (1930, .iload_n 3, mX), (1931, .iconst 3, mX), (1932, .iadd, mX), (1933, .iaload, mX), (1934, .aload_n 0, mX), (1935, .iload_n 3, mX), (1936, .iconst 4, mX), (1937, .iadd, mX), (1938, .iaload, mX), (1939, .aload_n 0, mX), (1940, .iload_n 3, mX), (1941, .iconst 5, mX), (1942, .iadd, mX), (1943, .iaload, mX), (1944, .invokevirtual 211, (386, 6, 0)), (1947, .if_icmp .eq 585, mX), (1950, .iconst 0, mX), (1951, .ireturn, mX), (1952, .aload_n 1, mX), (1953, .aload_n 0, mX), (1954, .iload_n 3, mX), (1955, .iconst 1, mX), (1956, .iadd, mX), (1957, .iaload, mX), (1958, .aload_n 0, mX), (1959, .iload_n 3, mX), (1960, .iconst 2, mX), (1961, .iadd, mX), (1962, .iaload, mX), (1963, .invokevirtual 212, (208, 3, 0)), (1966, .aload_n 2, mX), (1967, .aload_n 0, mX), (1968, .iload_n 3, mX), (1969, .iconst 1, mX), (1970, .iadd, mX), (1971, .iaload, mX), (1972, .aload_n 0, mX), (1973, .iload_n 3, mX), (1974, .iconst 2, mX), (1975, .iadd, mX), (1976, .iaload, mX), (1977, .invokevirtual 215, (388, 3, 0)), (1980, .if_icmp .eq 552, mX), (1983, .iconst 0, mX), (1984, .ireturn, mX), (1985, .aload_n 1, mX), (1986, .aload_n 0, mX), (1987, .iload_n 3, mX), (1988, .iconst 1, mX), (1989, .iadd, mX), (1990, .iaload, mX), (1991, .aload_n 0, mX), (1992, .iload_n 3, mX), (1993, .iconst 2, mX), (1994, .iadd, mX), (1995, .iaload, mX), (1996, .invokevirtual 216, (211, 3, 0)), (1999, .aload_n 2, mX), (2000, .aload_n 0, mX), (2001, .iload_n 3, mX), (2002, .iconst 1, mX), (2003, .iadd, mX), (2004, .iaload, mX), (2005, .aload_n 0, mX), (2006, .iload_n 3, mX), (2007, .iconst 2, mX), (2008, .iadd, mX), (2009, .iaload, mX), (2010, .invokevirtual 219, (389, 3, 0)), (2013, .if_icmp .eq 519, mX), (2016, .iconst 0, mX), (2017, .ireturn, mX), (2018, .aload_n 1, mX), (2019, .aload_n 0, mX), (2020, .iload_n 3, mX), (2021, .iconst 1, mX), (2022, .iadd, mX), (2023, .iaload, mX), (2024, .aload_n 0, mX), (2025, .iload_n 3, mX), (2026, .iconst 2, mX), (2027, .iadd, mX), (2028, .iaload, mX), (2029, .invokevirtual 220, (213, 3, 0)), (2032, .aload_n 2, mX), (2033, .aload_n 0, mX), (2034, .iload_n 3, mX), (2035, .iconst 1, mX), (2036, .iadd, mX), (2037, .iaload, mX), (2038, .aload_n 0, mX), (2039, .iload_n 3, mX), (2040, .iconst 2, mX), (2041, .iadd, mX), (2042, .iaload, mX), (2043, .invokevirtual 223, (390, 3, 0)), (2046, .if_icmp .eq 486, mX), (2049, .iconst 0, mX), (2050, .ireturn, mX), (2051, .aload_n 1, mX), (2052, .invokevirtual 224, (214, 1, 0)), (2055, .aload_n 2, mX), (2056, .invokevirtual 228, (391, 1, 0)), (2059, .if_icmp .eq 473, mX), (2062, .iconst 0, mX), (2063, .ireturn, mX), (2064, .aload_n 1, mX), (2065, .aload_n 0, mX), (2066, .iload_n 3, mX), (2067, .iconst 1, mX), (2068, .iadd, mX), (2069, .iaload, mX), (2070, .invokevirtual 229, (216, 2, 0)), (2073, .aload_n 2, mX), (2074, .aload_n 0, mX), (2075, .iload_n 3, mX), (2076, .iconst 1, mX), (2077, .iadd, mX), (2078, .iaload, mX), (2079, .invokevirtual 232, (393, 2, 0)), (2082, .if_icmp .eq 450, mX), (2085, .iconst 0, mX), (2086, .ireturn, mX), (2087, .aload_n 1, mX), (2088, .aload_n 0, mX), (2089, .iload_n 3, mX), (2090, .iconst 1, mX), (2091, .iadd, mX), (2092, .iaload, mX), (2093, .invokevirtual 233, (219, 2, 0)), (2096, .aload_n 2, mX), (2097, .aload_n 0, mX), (2098, .iload_n 3, mX), (2099, .iconst 1, mX), (2100, .iadd, mX), (2101, .iaload, mX), (2102, .invokevirtual 236, (394, 2, 0)), (2105, .if_icmp .eq 427, mX), (2108, .iconst 0, mX), (2109, .ireturn, mX), (2110, .aload_n 1, mX), (2111, .aload_n 0, mX), (2112, .iload_n 3, mX), (2113, .iconst 1, mX), (2114, .iadd, mX), (2115, .iaload, mX), (2116, .invokevirtual 237, (228, 2, 0)), (2119, .aload_n 2, mX), (2120, .aload_n 0, mX), (2121, .iload_n 3, mX), (2122, .iconst 1, mX), (2123, .iadd, mX), (2124, .iaload, mX), (2125, .invokevirtual 240, (400, 2, 0)), (2128, .if_icmp .eq 404, mX), (2131, .iconst 0, mX), (2132, .ireturn, mX), (2133, .aload_n 1, mX), (2134, .aload_n 0, mX), (2135, .iload_n 3, mX), (2136, .iconst 1, mX), (2137, .iadd, mX), (2138, .iaload, mX), (2139, .invokevirtual 241, (230, 2, 0)), (2142, .aload_n 2, mX), (2143, .aload_n 0, mX), (2144, .iload_n 3, mX), (2145, .iconst 1, mX), (2146, .iadd, mX), (2147, .iaload, mX), (2148, .invokevirtual 244, (401, 2, 0)), (2151, .if_icmp .eq 381, mX), (2154, .iconst 0, mX), (2155, .ireturn, mX), (2156, .aload_n 1, mX), (2157, .aload_n 0, mX), (2158, .iload_n 3, mX), (2159, .iconst 1, mX), (2160, .iadd, mX), (2161, .iaload, mX), (2162, .invokevirtual 245, (231, 2, 0)), (2165, .aload_n 2, mX), (2166, .aload_n 0, mX), (2167, .iload_n 3, mX), (2168, .iconst 1, mX), (2169, .iadd, mX), (2170, .iaload, mX), (2171, .invokevirtual 248, (402, 2, 0)), (2174, .if_icmp .eq 358, mX), (2177, .iconst 0, mX), (2178, .ireturn, mX), (2179, .aload_n 1, mX), (2180, .aload_n 0, mX), (2181, .iload_n 3, mX), (2182, .iconst 1, mX), (2183, .iadd, mX), (2184, .iaload, mX), (2185, .aload_n 0, mX), (2186, .iload_n 3, mX), (2187, .iconst 2, mX), (2188, .iadd, mX), (2189, .iaload, mX), (2190, .invokevirtual 249, (233, 3, 0)), (2193, .aload_n 2, mX), (2194, .aload_n 0, mX), (2195, .iload_n 3, mX), (2196, .iconst 1, mX), (2197, .iadd, mX), (2198, .iaload, mX), (2199, .aload_n 0, mX), (2200, .iload_n 3, mX), (2201, .iconst 2, mX), (2202, .iadd, mX), (2203, .iaload, mX), (2204, .invokevirtual 252, (403, 3, 0)), (2207, .if_icmp .eq 325, mX), (2210, .iconst 0, mX), (2211, .ireturn, mX), (2212, .aload_n 1, mX), (2213, .aload_n 0, mX), (2214, .iload_n 3, mX), (2215, .iconst 1, mX), (2216, .iadd, mX), (2217, .iaload, mX), (2218, .aload_n 0, mX), (2219, .iload_n 3, mX), (2220, .iconst 2, mX), (2221, .iadd, mX), (2222, .iaload, mX), (2223, .aload_n 0, mX), (2224, .iload_n 3, mX), (2225, .iconst 3, mX), (2226, .iadd, mX), (2227, .iaload, mX), (2228, .aload_n 0, mX), (2229, .iload_n 3, mX), (2230, .iconst 4, mX), (2231, .iadd, mX), (2232, .iaload, mX), (2233, .invokevirtual 253, (235, 5, 0)), (2236, .aload_n 2, mX), (2237, .aload_n 0, mX), (2238, .iload_n 3, mX), (2239, .iconst 1, mX), (2240, .iadd, mX), (2241, .iaload, mX), (2242, .aload_n 0, mX), (2243, .iload_n 3, mX), (2244, .iconst 2, mX), (2245, .iadd, mX), (2246, .iaload, mX), (2247, .aload_n 0, mX), (2248, .iload_n 3, mX), (2249, .iconst 3, mX), (2250, .iadd, mX), (2251, .iaload, mX), (2252, .aload_n 0, mX), (2253, .iload_n 3, mX), (2254, .iconst 4, mX), (2255, .iadd, mX), (2256, .iaload, mX), (2257, .invokevirtual 256, (405, 5, 0)), (2260, .if_icmp .eq 272, mX), (2263, .iconst 0, mX), (2264, .ireturn, mX), (2265, .aload_n 1, mX), (2266, .aload_n 0, mX), (2267, .iload_n 3, mX), (2268, .iconst 1, mX), (2269, .iadd, mX), (2270, .iaload, mX), (2271, .aload_n 0, mX), (2272, .iload_n 3, mX), (2273, .iconst 2, mX), (2274, .iadd, mX), (2275, .iaload, mX), (2276, .invokevirtual 257, (240, 3, 0)), (2279, .aload_n 2, mX), (2280, .aload_n 0, mX), (2281, .iload_n 3, mX), (2282, .iconst 1, mX), (2283, .iadd, mX), (2284, .iaload, mX), (2285, .aload_n 0, mX), (2286, .iload_n 3, mX), (2287, .iconst 2, mX), (2288, .iadd, mX), (2289, .iaload, mX), (2290, .invokevirtual 260, (408, 3, 0)), (2293, .if_icmp .eq 239, mX), (2296, .iconst 0, mX), (2297, .ireturn, mX), (2298, .aload_n 1, mX), (2299, .aload_n 0, mX), (2300, .iload_n 3, mX), (2301, .iconst 1, mX), (2302, .iadd, mX), (2303, .iaload, mX), (2304, .aload_n 0, mX), (2305, .iload_n 3, mX), (2306, .iconst 2, mX), (2307, .iadd, mX), (2308, .iaload, mX), (2309, .invokevirtual 261, (242, 3, 0)), (2312, .aload_n 2, mX), (2313, .aload_n 0, mX), (2314, .iload_n 3, mX), (2315, .iconst 1, mX), (2316, .iadd, mX), (2317, .iaload, mX), (2318, .aload_n 0, mX), (2319, .iload_n 3, mX), (2320, .iconst 2, mX), (2321, .iadd, mX), (2322, .iaload, mX), (2323, .invokevirtual 264, (409, 3, 0)), (2326, .if_icmp .eq 206, mX), (2329, .iconst 0, mX), (2330, .ireturn, mX), (2331, .aload_n 1, mX), (2332, .aload_n 0, mX), (2333, .iload_n 3, mX), (2334, .iconst 1, mX), (2335, .iadd, mX), (2336, .iaload, mX), (2337, .invokevirtual 265, (244, 2, 0)), (2340, .aload_n 2, mX), (2341, .aload_n 0, mX), (2342, .iload_n 3, mX), (2343, .iconst 1, mX), (2344, .iadd, mX), (2345, .iaload, mX), (2346, .invokevirtual 268, (410, 2, 0)), (2349, .if_icmp .eq 183, mX), (2352, .iconst 0, mX), (2353, .ireturn, mX), (2354, .aload_n 1, mX), (2355, .invokevirtual 269, (246, 1, 0)), (2358, .aload_n 2, mX), (2359, .invokevirtual 272, (411, 1, 0)), (2362, .if_icmp .eq 170, mX), (2365, .iconst 0, mX), (2366, .ireturn, mX), (2367, .aload_n 1, mX), (2368, .aload_n 0, mX), (2369, .iload_n 3, mX), (2370, .iconst 1, mX), (2371, .iadd, mX), (2372, .iaload, mX), (2373, .aload_n 0, mX), (2374, .iload_n 3, mX), (2375, .iconst 2, mX), (2376, .iadd, mX), (2377, .iaload, mX), (2378, .invokevirtual 273, (256, 3, 0)), (2381, .aload_n 2, mX), (2382, .aload_n 0, mX), (2383, .iload_n 3, mX), (2384, .iconst 1, mX), (2385, .iadd, mX), (2386, .iaload, mX), (2387, .aload_n 0, mX), (2388, .iload_n 3, mX), (2389, .iconst 2, mX), (2390, .iadd, mX), (2391, .iaload, mX), (2392, .invokevirtual 276, (414, 3, 0)), (2395, .if_icmp .eq 137, mX), (2398, .iconst 0, mX), (2399, .ireturn, mX), (2400, .aload_n 1, mX), (2401, .aload_n 0, mX), (2402, .iload_n 3, mX), (2403, .iconst 1, mX), (2404, .iadd, mX), (2405, .iaload, mX), (2406, .aload_n 0, mX), (2407, .iload_n 3, mX), (2408, .iconst 2, mX), (2409, .iadd, mX), (2410, .iaload, mX), (2411, .aload_n 0, mX), (2412, .iload_n 3, mX), (2413, .iconst 3, mX), (2414, .iadd, mX), (2415, .iaload, mX), (2416, .invokevirtual 277, (259, 4, 0)), (2419, .aload_n 2, mX), (2420, .aload_n 0, mX), (2421, .iload_n 3, mX), (2422, .iconst 1, mX), (2423, .iadd, mX), (2424, .iaload, mX), (2425, .aload_n 0, mX), (2426, .iload_n 3, mX), (2427, .iconst 2, mX), (2428, .iadd, mX), (2429, .iaload, mX), (2430, .aload_n 0, mX), (2431, .iload_n 3, mX), (2432, .iconst 3, mX), (2433, .iadd, mX), (2434, .iaload, mX), (2435, .invokevirtual 280, (415, 4, 0)), (2438, .if_icmp .eq 94, mX), (2441, .iconst 0, mX), (2442, .ireturn, mX), (2443, .aload_n 1, mX), (2444, .aload_n 0, mX), (2445, .iload_n 3, mX), (2446, .iconst 1, mX), (2447, .iadd, mX), (2448, .iaload, mX), (2449, .aload_n 0, mX), (2450, .iload_n 3, mX), (2451, .iconst 2, mX), (2452, .iadd, mX), (2453, .iaload, mX), (2454, .aload_n 0, mX), (2455, .iload_n 3, mX), (2456, .iconst 3, mX), (2457, .iadd, mX), (2458, .iaload, mX), (2459, .invokevirtual 281, (261, 4, 0)), (2462, .aload_n 2, mX), (2463, .aload_n 0, mX), (2464, .iload_n 3, mX), (2465, .iconst 1, mX), (2466, .iadd, mX), (2467, .iaload, mX), (2468, .aload_n 0, mX), (2469, .iload_n 3, mX), (2470, .iconst 2, mX), (2471, .iadd, mX), (2472, .iaload, mX), (2473, .aload_n 0, mX), (2474, .iload_n 3, mX), (2475, .iconst 3, mX), (2476, .iadd, mX), (2477, .iaload, mX), (2478, .invokevirtual 284, (416, 4, 0)), (2481, .if_icmp .eq 51, mX), (2484, .iconst 0, mX), (2485, .ireturn, mX), (2486, .aload_n 1, mX), (2487, .aload_n 0, mX), (2488, .iload_n 3, mX), (2489, .iconst 1, mX), (2490, .iadd, mX), (2491, .iaload, mX), (2492, .invokevirtual 285, (263, 2, 0)), (2495, .aload_n 2, mX), (2496, .aload_n 0, mX), (2497, .iload_n 3, mX), (2498, .iconst 1, mX), (2499, .iadd, mX), (2500, .iaload, mX), (2501, .invokevirtual 288, (417, 2, 0)), (2504, .if_icmp .eq 28, mX), (2507, .iconst 0, mX), (2508, .ireturn, mX), (2509, .aload_n 1, mX), (2510, .aload_n 0, mX), (2511, .iload_n 3, mX), (2512, .iconst 1, mX), (2513, .iadd, mX), (2514, .iaload, mX), (2515, .invokevirtual 289, (266, 2, 0)), (2518, .aload_n 2, mX), (2519, .aload_n 0, mX), (2520, .iload_n 3, mX), (2521, .iconst 1, mX), (2522, .iadd, mX), (2523, .iaload, mX), (2524, .invokevirtual 292, (418, 2, 0)), (2527, .if_icmp .eq 5, mX), (2530, .iconst 0, mX), (2531, .ireturn, mX), (2532, .iinc 3 7, mX), (2535, .goto (-2517), mX), (2538, .iconst 1, mX), (2539, .ireturn, mX)])
end
section
/-! PRINTED by wip/whole/gen.py: the program, the link lists of the classes, their check -/
noncomputable def m_P : List am_M := [mt0, mt1, mt2, mt3, mt4, mt5, mt6, mt7, mt8, mt9, mt10, mt11, mt12, mt13, mt14, mt15, mt16, mt17, mt18, mt19, mt20, mt21, mt22, mt23, mt24, mt25, mt26, mt27, mt28, mt29, mt30, mt31, mt32, mt33, mt34, mt35, mt36, mt37, mt38, mt39, mt40, mt41, mt42, mt43, mt44, mt45, mt46, mt47, mt48, mt49, mt50, mt51, mt52, mt53, mt54, mt55, mt56, mt57, mt58, mt59, mt60, mt61, mt62, mt63, mt64, mt65, mt66, mt67, mt68, mt69, mt70, mt71, mt72, mt73, mt74, mt75, mt76, mt77, mt78, mt79, mt80, mt81, mt82, mt83, mt84, mt85, mt86, mt87, mt88, mt89, mt90, mt91, mt92, mt93, mt94, mt95, mt96, mt97, mt98, mt99, mt100, mt101, mt102, mt103, mt104, mt105, mt106, mt107, mt108, mt109, mt110, mt111, mt112, mt113, mt114, mt115, mt116, mt117, mt118, mt119, mt120, mt121, mt122, mt123, mt124, mt125, mt126, mt127, mt128, mt129, mt130, mt131, mt132, mt133, mt134, mt135, mt136, mt137, mt138, mt139, mt140, mt141, mt142, mt143, mt144, mt145, mt146, mt147, mt148, mt149, mt150, mt151, mt152, mt153, mt154, mt155, mt156, mt157, mt158, mt159, mt160, mt161, mt162, mt163, mt164, mt165, mt166, mt167, mt168, mt169, mt170, mt171, mt172, mt173, mt174, mt175, mt176, mt177, mt178, mt179, mt180, mt181, mt182, mt183, mt184, mt185, mt186, mt187, mt188, mt189, mt190, mt191, mt192, mt193, mt194, mt195, mt196, mt197, mt198, mt199, mt200, mt201, mt202, mt203, mt204, mt205, mt206, mt207, mt208, mt209, mt210, mt211, mt212, mt213, mt214, mt215, mt216, mt217, mt218, mt219, mt220, mt221, mt222, mt223, mt224, mt225, mt226, mt227, mt228, mt229, mt230, mt231, mt232, mt233, mt234, mt235, mt236, mt237, mt238, mt239, mt240, mt241, mt242, mt243, mt244, mt245, mt246, mt247, mt248, mt249, mt250, mt251, mt252, mt253, mt254, mt255, mt256, mt257, mt258, mt259, mt260, mt261, mt262, mt263, mt264, mt265, mt266, mt267, mt268, mt269, mt270, mt271, mt272, mt273, mt274, mt275, mt276, mt277, mt278, mt279, mt280, mt281, mt282, mt283, mt284, mt285, mt286, mt287, mt288, mt289, mt290, mt291, mt292, mt293, mt294, mt295, mt296, mt297, mt298, mt299, mt300, mt301, mt302, mt303, mt304, mt305, mt306, mt307, mt308, mt309, mt310, mt311, mt312, mt313, mt314, mt315, mt316, mt317, mt318, mt319, mt320, mt321, mt322, mt323, mt324, mt325, mt326, mt327, mt328, mt329, mt330, mt331, mt332, mt333, mt334, mt335, mt336, mt337, mt338, mt339, mt340, mt341, mt342, mt343, mt344, mt345, mt346, mt347, mt348, mt349, mt350, mt351, mt352, mt353, mt354, mt355, mt356, mt357, mt358, mt359, mt360, mt361, mt362, mt363, mt364, mt365, mt366, mt367, mt368, mt369, mt370, mt371, mt372, mt373, mt374, mt375, mt376, mt377, mt378, mt379, mt380, mt381, mt382, mt383, mt384, mt385, mt386, mt387, mt388, mt389, mt390, mt391, mt392, mt393, mt394, mt395, mt396, mt397, mt398, mt399, mt400, mt401, mt402, mt403, mt404, mt405, mt406, mt407, mt408, mt409, mt410, mt411, mt412, mt413, mt414, mt415, mt416, mt417, mt418]
noncomputable def mK0 : am_LT := ([(10, 0, 0, 3037), (106, 1, 1, 1040), (134, 2, 1, 1072), (170, 4, 0, 1211), (173, 4, 1, 1213), (19, 0, 1, 3038), (244, 11, 7, 5110), (247, 11, 15, 5132), (254, 6, 2, 2045), (257, 11, 16, 5135), (26, 0, 2, 3039), (268, 6, 3, 2048), (293, 11, 18, 5141), (310, 11, 19, 5144), (319, 11, 20, 5147), (335, 11, 17, 5138), (348, 11, 8, 5113), (35, 0, 3, 3040), (354, 11, 2, 5100), (414, 11, 10, 5118), (44, 0, 4, 3041), (448, 9, 2, 2215), (488, 2, 0, 1070), (489, 3, 0, 1107), (492, 5, 2, 2062), (493, 7, 6, 2132), (496, 5, 3, 2064), (499, 7, 7, 2134), (502, 8, 0, 2177), (51, 0, 5, 3042), (58, 0, 6, 3043), (65, 0, 7, 3044), (72, 0, 8, 3045), (81, 0, 9, 3046), (85, 0, 10, 3047), (89, 0, 11, 3048), (92, 0, 12, 3049)], [(10, 0, 0, 3037, 1), (106, 1, 1, 1040, 0), (19, 0, 1, 3038, 1), (26, 0, 2, 3039, 1), (338, 11, 11, 5121, 0), (348, 11, 8, 5113, 0), (35, 0, 3, 3040, 1), (367, 11, 13, 5126, 0), (370, 11, 14, 5129, 0), (414, 11, 10, 5118, 0), (44, 0, 4, 3041, 1), (51, 0, 5, 3042, 1), (58, 0, 6, 3043, 1), (65, 0, 7, 3044, 1), (72, 0, 8, 3045, 1), (81, 0, 9, 3046, 1), (85, 0, 10, 3047, 0), (89, 0, 11, 3048, 0), (92, 0, 12, 3049, 0)], [], [], [], [], [(16, 2, 1063, 1064, 1003), (23, 3, 1099, 1100, 1004), (231, 11, 5086, 5087, 1021), (30, 4, 1147, 1148, 1005), (39, 5, 2025, 2026, 1011), (48, 7, 2116, 2117, 1013), (55, 8, 2170, 2171, 1015), (62, 9, 2205, 2206, 1016), (69, 10, 3010, 3011, 1017), (7, 1, 1030, 1031, 1002), (76, 6, 3035, 2034, 1012)], [], [], [(103, 23, 2, 3085, 3086, 3087, 1002), (112, 28, 4, 3103, 3104, 3105, 1016), (116, 32, 3, 3122, 3123, 3124, 1013), (120, 36, 3, 3138, 3139, 3140, 1003), (124, 38, 2, 3146, 3147, 3148, 1003), (130, 40, 6, 3154, 3155, 3156, 1003), (140, 45, 5, 3173, 3174, 3175, 1011), (144, 66, 4, 4018, 4019, 4020, 1003), (147, 33, 4, 4026, 3127, 3128, 1003), (150, 69, 4, 4031, 4032, 4033, 1003), (153, 71, 1, 4040, 4041, 4042, 1002), (156, 76, 1, 4059, 4060, 4061, 1004), (160, 77, 1, 4063, 4064, 4065, 1005), (164, 106, 1, 4190, 4191, 4192, 1004), (167, 107, 3, 4194, 4195, 4196, 1004), (176, 110, 3, 4207, 4208, 4209, 1004), (179, 112, 2, 4216, 4218, 30, 1001), (187, 115, 5, 4227, 4228, 4229, 1004), (190, 52, 5, 4235, 3201, 3202, 1004), (193, 118, 5, 5000, 5001, 5002, 1004), (196, 113, 1, 4220, 4221, 4222, 1002), (200, 79, 2, 5015, 4072, 4073, 1002), (204, 121, 3, 5016, 5017, 5018, 1012), (208, 80, 2, 5028, 4076, 4077, 1002), (211, 53, 5, 5029, 3205, 3206, 1004), (214, 123, 3, 5030, 5031, 5032, 1004), (218, 128, 3, 5055, 5056, 5057, 1004), (221, 132, 4, 5074, 5076, 32, 1001), (224, 133, 7, 5078, 5080, 33, 1001), (228, 134, 1, 5082, 5083, 5084, 1011), (236, 136, 3, 5191, 5192, 5193, 1011), (240, 139, 2, 5204, 5205, 5206, 1011), (250, 140, 2, 5209, 5210, 5211, 1012), (260, 142, 2, 5218, 5219, 5220, 1012), (264, 144, 2, 5226, 5227, 5228, 1011), (272, 51, 3, 6008, 3197, 3198, 1011), (275, 148, 2, 6009, 6010, 6011, 1011), (278, 63, 4, 6031, 4007, 4008, 1011), (281, 46, 2, 6036, 3178, 3179, 1011), (284, 154, 2, 6037, 6038, 6039, 1021), (287, 156, 1, 6045, 6046, 6047, 1021), (290, 157, 2, 6049, 6050, 6051, 1021), (296, 122, 3, 6055, 5025, 5026, 1012), (300, 159, 5, 6060, 6061, 6062, 1011), (304, 164, 1, 6085, 6086, 6087, 1021), (307, 165, 3, 6090, 6091, 6092, 1011), (313, 167, 2, 6098, 6099, 6100, 1011), (316, 49, 2, 6106, 3189, 3190, 1012), (322, 169, 2, 6107, 6108, 6109, 1012), (325, 171, 2, 6115, 6116, 6117, 1011), (329, 172, 2, 6136, 6120, 6121, 1011), (332, 146, 2, 6141, 5237, 5238, 1012), (341, 178, 2, 6146, 6147, 6148, 1011), (344, 182, 4, 6162, 6163, 6164, 1011), (351, 184, 1, 6170, 6171, 6172, 1021), (357, 185, 2, 6174, 6175, 6176, 1011), (360, 186, 4, 6178, 6179, 6180, 1011), (363, 189, 4, 6190, 6191, 6192, 1011), (373, 58, 4, 6203, 3227, 3228, 1011), (377, 193, 2, 6208, 6209, 6210, 1013), (380, 194, 4, 6212, 6213, 6214, 1013), (384, 195, 2, 6216, 6217, 6218, 1013), (387, 197, 3, 6224, 6225, 6226, 1013), (391, 199, 4, 6233, 6234, 6235, 1013), (395, 203, 3, 7012, 7013, 7014, 1013), (398, 205, 3, 7021, 7022, 7023, 1013), (401, 207, 6, 7029, 7030, 7031, 1013), (405, 209, 4, 7037, 7038, 7039, 1013), (408, 210, 4, 7041, 7042, 7043, 1011), (411, 212, 3, 7049, 7050, 7051, 1013), (417, 215, 1, 7061, 7062, 7063, 1015), (420, 217, 2, 7069, 7070, 7071, 1015), (421, 218, 2, 7073, 7074, 7075, 1015), (424, 220, 3, 7081, 7082, 7083, 1015), (428, 229, 2, 7123, 7124, 7125, 1015), (431, 221, 3, 7131, 7086, 7087, 1015), (434, 72, 1, 7136, 4045, 4046, 1002), (437, 232, 5, 7137, 7138, 7139, 1015), (441, 234, 3, 7145, 7146, 7147, 1016), (444, 236, 6, 7153, 7154, 7155, 1016), (449, 241, 4, 7177, 7178, 7179, 1016), (453, 243, 3, 7185, 7186, 7187, 1016), (456, 245, 4, 7194, 7195, 7196, 1017), (460, 247, 1, 7203, 7204, 7205, 1017), (463, 257, 3, 8005, 8006, 8007, 1017), (466, 260, 5, 8017, 8018, 8019, 1011), (469, 262, 4, 8025, 8026, 8027, 1011), (472, 264, 1, 8033, 8034, 8035, 1021), (475, 62, 1, 8037, 4003, 4004, 1021), (478, 265, 3, 8038, 8039, 8040, 1011), (482, 179, 2, 8042, 6151, 6152, 1011), (485, 267, 2, 8047, 8048, 8049, 1011), (99, 22, 2, 3081, 3082, 3083, 1002)], [(109, 27, 1, 3100, 3101, 1001), (127, 39, 1, 3151, 3152, 1001), (137, 43, 2, 3166, 3167, 1003), (183, 114, 4, 4224, 4225, 1001), (95, 25, 3, 3093, 3094, 1001)], [(18, 2, 1, 1065, 1066, 1003), (233, 135, 8, 5088, 5089, 1021), (25, 3, 1, 1101, 1102, 1004), (32, 4, 3, 1149, 1150, 1005), (41, 14, 3, 2027, 2028, 1011), (50, 16, 1, 2118, 2119, 1013), (57, 18, 1, 2172, 2173, 1015), (64, 19, 1, 2207, 2208, 1016), (71, 20, 1, 3012, 3013, 1017), (78, 15, 2, 3036, 2036, 1012), (9, 1, 1, 1032, 1033, 1002)], [(1, 1027, 1028, 1029)], [])
noncomputable def mK1 : am_LT := ([(13, 1, 1, 1039), (17, 1, 2, 1041), (20, 1, 3, 1042), (23, 1, 4, 1043), (27, 1, 5, 1044), (30, 1, 6, 1045), (9, 1, 0, 1036)], [(13, 1, 1, 1039, 0), (17, 1, 2, 1041, 1), (20, 1, 3, 1042, 1), (23, 1, 4, 1043, 1), (27, 1, 5, 1044, 0), (30, 1, 6, 1045, 0), (9, 1, 0, 1036, 1)], [], [], [], [], [], [], [(.int, 1061), (.long, 1062)], [(33, 72, 1, 4044, 4045, 4046, 1002), (41, 74, 2, 4052, 4054, 9, 1002)], [(37, 73, 1, 4048, 4049, 1002), (45, 75, 1, 4056, 4057, 1002), (48, 25, 3, 4051, 3094, 1001)], [], [(1, 1035, 1028, 1029)], [])
noncomputable def mK2 : am_LT := ([(15, 2, 1, 1071), (18, 2, 2, 1073), (22, 2, 3, 1074), (25, 2, 4, 1075), (28, 2, 5, 1076), (31, 2, 6, 1077), (34, 2, 7, 1078), (37, 2, 8, 1079), (9, 2, 0, 1069)], [(15, 2, 1, 1071, 0), (18, 2, 2, 1073, 1), (22, 2, 3, 1074, 1), (25, 2, 4, 1075, 1), (28, 2, 5, 1076, 1), (31, 2, 6, 1077, 1), (34, 2, 7, 1078, 1), (37, 2, 8, 1079, 1), (9, 2, 0, 1069, 0)], [], [], [], [], [], [], [(.int, 1061)], [(44, 38, 2, 6072, 3147, 3148, 1003), (57, 34, 5, 3130, 3132, 2, 1003)], [(40, 25, 3, 3150, 3094, 1001), (48, 44, 2, 3169, 3170, 1006), (54, 6, 2, 3172, 1158, 1006), (61, 43, 2, 4035, 3167, 1003)], [], [(3, 1068, 1028, 1029)], [])
noncomputable def mK3 : am_LT := ([(13, 3, 0, 1105), (17, 3, 1, 1108), (21, 3, 2, 1109), (24, 3, 3, 1110), (27, 3, 4, 1111), (30, 3, 5, 1112), (33, 3, 6, 1113), (37, 3, 7, 1114), (40, 3, 8, 1115), (43, 3, 9, 1116), (46, 3, 10, 1117), (49, 3, 11, 1118), (52, 3, 12, 1119)], [(13, 3, 0, 1105, 0), (17, 3, 1, 1108, 1), (21, 3, 2, 1109, 1), (24, 3, 3, 1110, 1), (27, 3, 4, 1111, 0), (30, 3, 5, 1112, 1), (33, 3, 6, 1113, 1), (37, 3, 7, 1114, 1), (40, 3, 8, 1115, 1), (43, 3, 9, 1116, 1), (46, 3, 10, 1117, 0), (49, 3, 11, 1118, 1), (52, 3, 12, 1119, 0)], [], [(110, (-20000), 5047), (112, (-1), 5048), (114, (-20003), 5049), (120, (-20001), 5053), (122, (-20002), 5054), (124, (-20005), 5063), (126, (-20006), 5064), (128, (-20007), 5065), (98, (-20004), 5034)], [], [(83, 0, 3224)], [], [], [(.int, 1061), (.long, 1062)], [(100, 125, 3, 5039, 5040, 5041, 1004), (104, 126, 2, 5043, 5044, 5045, 1012), (130, 129, 3, 5059, 5061, 31, 1004), (56, 56, 5, 3216, 3218, 5, 1004), (60, 106, 1, 4198, 4191, 4192, 1004), (67, 57, 4, 3220, 3222, 6, 1004), (71, 54, 3, 3208, 3210, 3, 1004), (75, 55, 5, 3212, 3214, 4, 1004), (79, 53, 5, 3204, 3205, 3206, 1004), (86, 115, 5, 5004, 4228, 4229, 1004), (95, 124, 2, 5035, 5036, 5037, 1004)], [(116, 127, 3, 5050, 5051, 1004), (63, 25, 3, 4211, 3094, 1001), (89, 119, 1, 5005, 5006, 1020)], [], [(7, 1104, 1028, 1029)], [])
noncomputable def mK4 : am_LT := ([(160, 3, 0, 1106), (18, 4, 6, 1218), (22, 4, 7, 1219), (25, 4, 8, 1220), (28, 4, 9, 1221), (31, 4, 10, 1222), (36, 4, 11, 1223), (39, 4, 12, 1224), (43, 4, 13, 1225), (46, 4, 14, 1226), (49, 4, 15, 1227), (52, 4, 16, 1228), (55, 4, 2, 1214), (59, 4, 3, 1215), (69, 4, 4, 1216), (75, 4, 5, 1217)], [(15, 4, 1, 1212, 0), (18, 4, 6, 1218, 1), (22, 4, 7, 1219, 0), (25, 4, 8, 1220, 0), (28, 4, 9, 1221, 0), (31, 4, 10, 1222, 0), (36, 4, 11, 1223, 0), (39, 4, 12, 1224, 0), (43, 4, 13, 1225, 0), (46, 4, 14, 1226, 0), (49, 4, 15, 1227, 0), (52, 4, 16, 1228, 0), (55, 4, 2, 1214, 1), (59, 4, 3, 1215, 1), (69, 4, 4, 1216, 1), (75, 4, 5, 1217, 1), (9, 4, 0, 1210, 0)], [], [(186, (-20005), 4155), (188, (-20006), 4164), (202, (-20001), 4147), (204, (-20002), 4148), (206, (-20003), 4149), (208, (-20004), 4150), (210, (-1), 4142), (215, (-20007), 4165), (94, 32, 1208)], [(63, 8), (73, 9)], [(154, 1, 4186), (157, 2, 4188)], [], [], [(.int, 1061), (.long, 1062)], [(100, 80, 2, 4075, 4076, 4077, 1002), (108, 84, 2, 4090, 4091, 4092, 1002), (111, 78, 2, 4067, 4069, 10, 1005), (115, 82, 1, 4082, 4084, 11, 1005), (119, 88, 1, 4106, 4108, 14, 1005), (122, 83, 2, 4086, 4088, 12, 1005), (128, 85, 3, 4094, 4095, 4096, 1004), (132, 86, 1, 4098, 4099, 4100, 1004), (135, 87, 1, 4102, 4104, 13, 1005), (138, 89, 1, 4110, 4112, 15, 1005), (141, 103, 1, 4174, 4176, 27, 1005), (144, 104, 1, 4178, 4180, 28, 1005), (147, 102, 4, 4170, 4171, 4172, 1004), (151, 105, 1, 4182, 4184, 29, 1005), (163, 97, 2, 4143, 4144, 4145, 1004), (167, 90, 1, 4114, 4116, 16, 1005), (170, 94, 1, 4130, 4132, 20, 1005), (173, 99, 1, 4156, 4158, 24, 1005), (176, 100, 2, 4160, 4162, 25, 1005), (179, 93, 2, 4126, 4128, 19, 1005), (182, 101, 2, 4166, 4168, 26, 1005), (190, 91, 1, 4118, 4120, 17, 1005), (193, 98, 1, 4151, 4153, 23, 1005), (196, 95, 1, 4134, 4136, 21, 1005), (199, 96, 1, 4138, 4140, 22, 1005), (212, 92, 2, 4122, 4124, 18, 1005), (84, 7, 1, 1160, 1161, 1162, 1007), (90, 9, 2, 1170, 1171, 1172, 1007), (96, 79, 2, 4071, 4072, 4073, 1002)], [(104, 81, 2, 4079, 4080, 1005), (65, 5, 2, 1154, 1155, 1005), (78, 6, 2, 1157, 1158, 1006)], [], [(3, 1152, 1028, 1029)], [])
noncomputable def mK5 : am_LT := ([], [], [], [], [], [], [], [], [], [], [], [], [], [])
noncomputable def mK6 : am_LT := ([(15, 1002, 0, 12119), (9, 1001, 0, 12118)], [], [], [], [], [(1053, 9, 1184), (38, 8, 1168)], [], [], [], [(335, 8, 1, 1164, 1165, 1166, 1007), (492, 10, 1, 1174, 1175, 1176, 1007)], [(1059, 13, 3, 1186, 1187, 1009), (495, 11, 2, 1178, 1179, 1008)], [], [], [])
noncomputable def mK7 : am_LT := ([], [], [], [], [], [], [], [], [], [], [(9, 12, 2, 1181, 1182, 1007)], [], [], [])
noncomputable def mK8 : am_LT := ([], [], [], [], [], [], [], [], [], [], [], [], [], [])
noncomputable def mK9 : am_LT := ([(104, 11, 0, 5095), (110, 11, 5, 5106), (113, 11, 3, 5102), (124, 11, 15, 5131), (127, 6, 3, 2047), (131, 11, 16, 5134), (149, 6, 2, 2044), (15, 5, 3, 2063), (20, 5, 4, 2065), (203, 11, 18, 5140), (217, 11, 2, 5099), (224, 11, 1, 5097), (230, 11, 19, 5143), (233, 11, 20, 5146), (236, 11, 11, 5120), (242, 11, 4, 5104), (26, 5, 5, 2066), (262, 11, 17, 5137), (272, 11, 8, 5112), (275, 11, 9, 5115), (292, 11, 13, 5125), (295, 11, 14, 5128), (30, 5, 6, 2067), (34, 5, 7, 2068), (37, 5, 8, 2069), (40, 5, 9, 2070), (44, 5, 10, 2071), (47, 5, 11, 2072), (50, 5, 12, 2073), (53, 5, 13, 2074), (56, 5, 14, 2075), (59, 5, 15, 2076), (64, 5, 16, 2077), (72, 5, 17, 2078), (76, 5, 0, 2059), (80, 5, 1, 2060), (9, 5, 2, 2061), (99, 11, 7, 5109)], [(127, 6, 3, 2047, 0), (15, 5, 3, 2063, 0), (20, 5, 4, 2065, 1), (236, 11, 11, 5120, 0), (26, 5, 5, 2066, 1), (272, 11, 8, 5112, 0), (275, 11, 9, 5115, 0), (285, 11, 12, 5123, 0), (30, 5, 6, 2067, 1), (34, 5, 7, 2068, 1), (37, 5, 8, 2069, 0), (40, 5, 9, 2070, 1), (44, 5, 10, 2071, 1), (47, 5, 11, 2072, 1), (50, 5, 12, 2073, 1), (53, 5, 13, 2074, 1), (56, 5, 14, 2075, 0), (59, 5, 15, 2076, 1), (64, 5, 16, 2077, 1), (72, 5, 17, 2078, 1), (76, 5, 0, 2059, 1), (80, 5, 1, 2060, 1), (9, 5, 2, 2061, 0), (99, 11, 7, 5109, 0)], [], [], [], [], [(67, 6, 2033, 2034, 1012)], [(18, 11, 2031, 2032)], [(.boolean, 2058), (.int, 1061), (.long, 1062)], [(116, 52, 5, 3200, 3201, 3202, 1004), (134, 53, 5, 5230, 3205, 3206, 1004), (137, 145, 2, 5231, 5233, 34, 1011), (141, 123, 3, 6002, 5031, 5032, 1004), (145, 128, 3, 6003, 5056, 5057, 1004), (150, 124, 2, 5235, 5036, 5037, 1004), (154, 146, 2, 5236, 5237, 5238, 1012), (158, 125, 3, 6001, 5040, 5041, 1004), (167, 149, 4, 6014, 6016, 35, 1011), (171, 151, 4, 6021, 6023, 36, 1011), (174, 142, 2, 6026, 5219, 5220, 1012), (181, 60, 1, 3234, 3235, 3236, 1012), (184, 122, 3, 6025, 5025, 5026, 1012), (188, 51, 3, 3196, 3197, 3198, 1011), (192, 160, 7, 6064, 6066, 37, 1011), (196, 161, 2, 6068, 6069, 6070, 1003), (199, 50, 2, 3192, 3193, 3194, 1021), (206, 48, 2, 3184, 3185, 3186, 1012), (210, 33, 4, 6073, 3127, 3128, 1003), (213, 66, 4, 6074, 4019, 4020, 1003), (220, 162, 5, 6075, 6077, 38, 1011), (227, 69, 4, 6079, 4032, 4033, 1003), (239, 174, 2, 6127, 6128, 6129, 1003), (245, 173, 2, 6123, 6125, 39, 1011), (251, 172, 2, 6119, 6120, 6121, 1011), (258, 58, 4, 3226, 3227, 3228, 1011), (265, 179, 2, 6150, 6151, 6152, 1011), (269, 180, 2, 6154, 6156, 40, 1011), (278, 63, 4, 4006, 4007, 4008, 1011), (281, 182, 4, 6194, 6163, 6164, 1011), (288, 59, 3, 3230, 3232, 7, 1011), (298, 61, 1, 3238, 3239, 4000, 1021), (302, 201, 1, 7001, 7002, 7003, 1021), (84, 46, 2, 3177, 3178, 3179, 1011), (88, 62, 1, 5208, 4003, 4004, 1021), (92, 134, 1, 5195, 5083, 5084, 1011), (95, 64, 5, 4010, 4012, 8, 1011)], [(120, 25, 3, 6080, 3094, 1001), (162, 44, 2, 6013, 3170, 1006), (178, 150, 2, 6018, 6019, 1011), (248, 6, 2, 6131, 1158, 1006), (254, 47, 3, 3181, 3182, 1011)], [(69, 15, 2, 2035, 2036, 1012)], [(3, 2030, 1028, 1029)], [])
noncomputable def mK10 : am_LT := ([(15, 6, 3, 2046), (25, 6, 0, 2040), (29, 6, 1, 2041), (9, 6, 2, 2042)], [(15, 6, 3, 2046, 0), (25, 6, 0, 2040, 1), (29, 6, 1, 2041, 1), (9, 6, 2, 2042, 0)], [], [(37, (-1), 6000)], [], [], [], [], [(.int, 1061), (.long, 1062)], [(39, 49, 2, 3188, 3189, 3190, 1012), (43, 60, 1, 5020, 3235, 3236, 1012), (46, 122, 3, 5024, 5025, 5026, 1012), (50, 79, 2, 5021, 4072, 4073, 1002), (56, 80, 2, 5022, 4076, 4077, 1002), (60, 48, 2, 5023, 3185, 3186, 1012)], [(19, 6, 2, 2039, 1158, 1006), (33, 25, 3, 5213, 3094, 1001)], [], [(3, 2038, 1028, 1029)], [])
noncomputable def mK11 : am_LT := ([(11, 7, 0, 2125), (17, 7, 1, 2126), (20, 7, 2, 2127), (23, 7, 3, 2128), (26, 7, 4, 2129), (29, 7, 5, 2130), (33, 7, 6, 2131), (36, 7, 7, 2133), (39, 7, 8, 2135), (42, 7, 9, 2136), (45, 7, 10, 2137), (48, 7, 11, 2138), (51, 7, 12, 2139), (54, 7, 13, 2140)], [(11, 7, 0, 2125, 1), (17, 7, 1, 2126, 1), (20, 7, 2, 2127, 1), (23, 7, 3, 2128, 1), (26, 7, 4, 2129, 1), (29, 7, 5, 2130, 0), (33, 7, 6, 2131, 0), (36, 7, 7, 2133, 0), (39, 7, 8, 2135, 1), (42, 7, 9, 2136, 1), (45, 7, 10, 2137, 1), (48, 7, 11, 2138, 1), (51, 7, 12, 2139, 1), (54, 7, 13, 2140, 1)], [], [], [], [], [], [], [(.int, 1061)], [(63, 193, 2, 6228, 6209, 6210, 1013), (67, 200, 2, 6237, 6238, 6239, 1011), (72, 197, 3, 7007, 6225, 6226, 1013), (80, 33, 4, 3126, 3127, 3128, 1003)], [(57, 17, 2, 2122, 2123, 1014), (76, 25, 3, 7016, 3094, 1001)], [], [(3, 2121, 1028, 1029)], [])
noncomputable def mK12 : am_LT := ([], [], [], [], [], [], [], [], [], [], [], [], [], [])
noncomputable def mK13 : am_LT := ([(15, 8, 1, 2178), (19, 8, 2, 2179), (22, 8, 3, 2180), (26, 8, 4, 2181), (29, 8, 5, 2182), (33, 8, 6, 2183), (36, 8, 7, 2184), (39, 8, 8, 2185), (54, 11, 10, 5117), (9, 8, 0, 2176), (97, 1, 0, 1038)], [(15, 8, 1, 2178, 1), (19, 8, 2, 2179, 1), (22, 8, 3, 2180, 0), (26, 8, 4, 2181, 1), (29, 8, 5, 2182, 1), (33, 8, 6, 2183, 1), (36, 8, 7, 2184, 0), (39, 8, 8, 2185, 0), (9, 8, 0, 2176, 0)], [], [], [], [], [], [], [(.boolean, 2058), (.int, 1061)], [(48, 46, 2, 7094, 3178, 3179, 1011), (59, 223, 2, 7095, 7096, 7097, 1021), (63, 221, 3, 7085, 7086, 7087, 1015), (67, 224, 2, 7101, 7103, 42, 1015), (71, 227, 3, 7114, 7116, 45, 1015), (81, 225, 3, 7105, 7107, 43, 1015), (90, 226, 3, 7109, 7111, 44, 1015), (93, 222, 3, 7089, 7091, 41, 1015)], [(42, 17, 2, 7093, 2123, 1014), (85, 6, 2, 7113, 1158, 1006)], [], [(3, 2175, 1028, 1029)], [(75, 7118, 3113, 3112, 1019)])
noncomputable def mK14 : am_LT := ([(15, 9, 1, 2213), (18, 9, 2, 2214), (22, 9, 3, 2216), (25, 9, 4, 2217), (28, 9, 5, 2218), (31, 9, 6, 2219), (34, 9, 7, 2220), (37, 9, 8, 2221), (40, 9, 9, 2222), (43, 9, 10, 2223), (46, 9, 11, 2224), (9, 9, 0, 2212)], [(15, 9, 1, 2213, 1), (18, 9, 2, 2214, 0), (22, 9, 3, 2216, 1), (25, 9, 4, 2217, 1), (28, 9, 5, 2218, 0), (31, 9, 6, 2219, 0), (34, 9, 7, 2220, 1), (37, 9, 8, 2221, 1), (40, 9, 9, 2222, 1), (43, 9, 10, 2223, 0), (46, 9, 11, 2224, 0), (9, 9, 0, 2212, 1)], [], [], [], [], [], [], [(.int, 1061)], [(55, 29, 1, 3107, 3109, 0, 1016), (64, 30, 4, 3114, 3116, 1, 1016), (68, 234, 3, 7161, 7146, 7147, 1016), (72, 237, 3, 7157, 7159, 46, 1016), (76, 238, 6, 7162, 7164, 47, 1016), (80, 195, 2, 7166, 6217, 6218, 1013), (86, 239, 6, 7167, 7169, 48, 1016)], [(100, 25, 3, 7189, 3094, 1001), (49, 17, 2, 2211, 2123, 1014), (90, 119, 1, 7171, 5006, 1020), (95, 44, 2, 7172, 3170, 1006)], [], [(3, 2210, 1028, 1029)], [(58, 3111, 3113, 3112, 1019)])
noncomputable def mK15 : am_LT := ([(11, 10, 0, 3016), (15, 10, 1, 3017), (18, 10, 2, 3018), (21, 10, 3, 3019), (24, 10, 4, 3020), (27, 10, 5, 3021), (31, 1, 0, 1037)], [(11, 10, 0, 3016, 1), (15, 10, 1, 3017, 1), (18, 10, 2, 3018, 1), (21, 10, 3, 3019, 1), (24, 10, 4, 3020, 1), (27, 10, 5, 3021, 0)], [], [], [], [(70, 3, 7211)], [], [], [(.int, 1061)], [(46, 253, 2, 7229, 7231, 53, 1017), (57, 252, 2, 7224, 7226, 52, 1017), (60, 248, 1, 7207, 7209, 49, 1017), (64, 250, 2, 7217, 7219, 51, 1017), (67, 255, 1, 7236, 7238, 54, 1017), (73, 249, 2, 7213, 7215, 50, 1017), (83, 258, 2, 8009, 8011, 55, 1017)], [(36, 25, 3, 7198, 3094, 1001), (40, 119, 1, 7228, 5006, 1020), (49, 254, 2, 7233, 7234, 1017), (53, 251, 3, 7221, 7222, 1017), (77, 17, 2, 8000, 2123, 1014)], [], [(5, 3015, 1028, 1029)], [])
noncomputable def mK16 : am_LT := ([(108, 6, 2, 2043), (11, 11, 7, 5108), (15, 11, 8, 5111), (19, 11, 9, 5114), (22, 11, 10, 5116), (25, 11, 11, 5119), (28, 11, 12, 5122), (52, 11, 18, 5139), (55, 11, 19, 5142), (58, 11, 20, 5145), (65, 11, 1, 5096), (68, 11, 2, 5098), (71, 11, 3, 5101), (74, 11, 4, 5103), (77, 11, 5, 5105), (80, 11, 6, 5107)], [(11, 11, 7, 5108, 0), (15, 11, 8, 5111, 0), (19, 11, 9, 5114, 0), (22, 11, 10, 5116, 0), (25, 11, 11, 5119, 0), (28, 11, 12, 5122, 0), (31, 11, 13, 5124, 0), (34, 11, 14, 5127, 0), (42, 11, 15, 5130, 1), (46, 11, 16, 5133, 1), (49, 11, 17, 5136, 1), (52, 11, 18, 5139, 1), (55, 11, 19, 5142, 1), (58, 11, 20, 5145, 1), (61, 11, 0, 5094, 1), (65, 11, 1, 5096, 1), (68, 11, 2, 5098, 1), (71, 11, 3, 5101, 1), (74, 11, 4, 5103, 1), (77, 11, 5, 5105, 1), (80, 11, 6, 5107, 1)], [], [], [], [], [(37, 6, 5092, 2034, 1012)], [], [], [(101, 48, 2, 6054, 3185, 3186, 1012), (105, 157, 2, 7099, 6050, 6051, 1021), (111, 146, 2, 7100, 5237, 5238, 1012), (83, 62, 1, 4002, 4003, 4004, 1021), (87, 61, 1, 6089, 3239, 4000, 1021), (91, 156, 1, 7005, 6046, 6047, 1021), (94, 184, 1, 7006, 6171, 6172, 1021), (97, 50, 2, 6053, 3193, 3194, 1021)], [], [(39, 15, 2, 5093, 2036, 1012)], [(3, 5091, 1028, 1029)], [])
noncomputable def mK17 : am_LT := ([], [], [(265, 1431655765, 5008), (266, 858993459, 5009), (267, 252645135, 5010)], [], [], [], [], [], [], [], [], [], [], [])
noncomputable def mK18 : am_LT := ([(100, 12, 50, 8108), (103, 12, 51, 8109), (106, 12, 52, 8110), (109, 12, 53, 8111), (113, 12, 54, 8112), (116, 12, 55, 8113), (119, 12, 57, 8115), (122, 12, 58, 8116), (125, 12, 59, 8117), (128, 12, 60, 8118), (13, 12, 11, 8069), (131, 12, 61, 8119), (134, 12, 62, 8120), (137, 12, 63, 8121), (140, 12, 64, 8122), (143, 12, 65, 8123), (146, 12, 66, 8124), (149, 12, 67, 8125), (152, 12, 68, 8126), (155, 12, 69, 8127), (158, 12, 70, 8128), (161, 12, 71, 8129), (164, 12, 72, 8130), (167, 12, 73, 8131), (17, 12, 12, 8070), (170, 12, 74, 8132), (173, 12, 75, 8133), (176, 12, 76, 8134), (179, 12, 77, 8135), (182, 12, 78, 8136), (185, 12, 79, 8137), (188, 12, 80, 8138), (191, 12, 81, 8139), (194, 12, 82, 8140), (197, 12, 83, 8141), (20, 12, 13, 8071), (200, 12, 84, 8142), (204, 12, 88, 8146), (207, 12, 89, 8147), (210, 12, 90, 8148), (213, 12, 91, 8149), (216, 12, 92, 8150), (219, 12, 93, 8151), (222, 12, 94, 8152), (225, 12, 95, 8153), (228, 12, 97, 8155), (23, 12, 15, 8073), (231, 12, 98, 8156), (234, 12, 99, 8157), (237, 12, 100, 8158), (240, 12, 101, 8159), (243, 12, 103, 8161), (246, 12, 104, 8162), (249, 12, 106, 8164), (252, 12, 107, 8165), (255, 12, 108, 8166), (258, 12, 109, 8167), (26, 12, 16, 8074), (261, 12, 110, 8168), (264, 12, 111, 8169), (267, 12, 113, 8171), (270, 12, 114, 8172), (273, 12, 115, 8173), (276, 12, 116, 8174), (279, 12, 118, 8176), (282, 12, 119, 8177), (285, 12, 123, 8181), (288, 12, 124, 8182), (29, 12, 17, 8075), (291, 12, 125, 8183), (294, 12, 126, 8184), (297, 12, 127, 8185), (300, 12, 128, 8186), (303, 12, 133, 8191), (306, 12, 134, 8192), (309, 12, 137, 8195), (312, 12, 138, 8196), (315, 12, 139, 8197), (32, 12, 18, 8076), (322, 12, 1, 8059), (325, 12, 2, 8060), (328, 12, 6, 8064), (35, 12, 19, 8077), (350, 12, 5, 8063), (353, 12, 4, 8062), (356, 12, 3, 8061), (363, 12, 8, 8066), (378, 12, 7, 8065), (38, 12, 20, 8078), (387, 12, 10, 8068), (390, 12, 14, 8072), (393, 12, 9, 8067), (406, 12, 56, 8114), (41, 12, 23, 8081), (431, 12, 22, 8080), (434, 12, 44, 8102), (440, 12, 43, 8101), (443, 12, 48, 8106), (449, 12, 46, 8104), (45, 12, 24, 8082), (452, 12, 42, 8100), (462, 12, 47, 8105), (477, 12, 45, 8103), (48, 12, 25, 8083), (499, 12, 21, 8079), (51, 12, 26, 8084), (529, 12, 49, 8107), (54, 12, 27, 8085), (553, 12, 86, 8144), (57, 12, 28, 8086), (61, 12, 29, 8087), (621, 12, 85, 8143), (624, 12, 96, 8154), (639, 12, 102, 8160), (64, 12, 30, 8088), (645, 12, 105, 8163), (648, 12, 112, 8170), (660, 12, 117, 8175), (67, 12, 31, 8089), (677, 12, 129, 8187), (680, 12, 130, 8188), (683, 12, 131, 8189), (686, 12, 132, 8190), (693, 12, 120, 8178), (696, 12, 121, 8179), (699, 12, 122, 8180), (70, 12, 32, 8090), (705, 12, 135, 8193), (718, 12, 136, 8194), (721, 12, 87, 8145), (73, 12, 33, 8091), (76, 12, 34, 8092), (79, 12, 35, 8093), (82, 12, 36, 8094), (85, 12, 37, 8095), (88, 12, 38, 8096), (9, 12, 0, 8058), (91, 12, 39, 8097), (94, 12, 40, 8098), (97, 12, 41, 8099)], [(100, 12, 50, 8108, 1), (103, 12, 51, 8109, 1), (106, 12, 52, 8110, 1), (109, 12, 53, 8111, 1), (113, 12, 54, 8112, 0), (116, 12, 55, 8113, 0), (119, 12, 57, 8115, 1), (122, 12, 58, 8116, 1), (125, 12, 59, 8117, 1), (128, 12, 60, 8118, 1), (13, 12, 11, 8069, 1), (131, 12, 61, 8119, 1), (134, 12, 62, 8120, 1), (137, 12, 63, 8121, 1), (140, 12, 64, 8122, 1), (143, 12, 65, 8123, 1), (146, 12, 66, 8124, 1), (149, 12, 67, 8125, 1), (152, 12, 68, 8126, 1), (155, 12, 69, 8127, 1), (158, 12, 70, 8128, 1), (161, 12, 71, 8129, 1), (164, 12, 72, 8130, 1), (167, 12, 73, 8131, 1), (17, 12, 12, 8070, 1), (170, 12, 74, 8132, 1), (173, 12, 75, 8133, 1), (176, 12, 76, 8134, 1), (179, 12, 77, 8135, 1), (182, 12, 78, 8136, 1), (185, 12, 79, 8137, 1), (188, 12, 80, 8138, 1), (191, 12, 81, 8139, 1), (194, 12, 82, 8140, 1), (197, 12, 83, 8141, 1), (20, 12, 13, 8071, 1), (200, 12, 84, 8142, 1), (204, 12, 88, 8146, 1), (207, 12, 89, 8147, 1), (210, 12, 90, 8148, 1), (213, 12, 91, 8149, 1), (216, 12, 92, 8150, 1), (219, 12, 93, 8151, 1), (222, 12, 94, 8152, 1), (225, 12, 95, 8153, 1), (228, 12, 97, 8155, 1), (23, 12, 15, 8073, 1), (231, 12, 98, 8156, 1), (234, 12, 99, 8157, 1), (237, 12, 100, 8158, 1), (240, 12, 101, 8159, 1), (243, 12, 103, 8161, 1), (246, 12, 104, 8162, 1), (249, 12, 106, 8164, 1), (252, 12, 107, 8165, 1), (255, 12, 108, 8166, 1), (258, 12, 109, 8167, 1), (26, 12, 16, 8074, 1), (261, 12, 110, 8168, 1), (264, 12, 111, 8169, 1), (267, 12, 113, 8171, 1), (270, 12, 114, 8172, 1), (273, 12, 115, 8173, 1), (276, 12, 116, 8174, 1), (279, 12, 118, 8176, 1), (282, 12, 119, 8177, 1), (285, 12, 123, 8181, 1), (288, 12, 124, 8182, 1), (29, 12, 17, 8075, 1), (291, 12, 125, 8183, 1), (294, 12, 126, 8184, 1), (297, 12, 127, 8185, 1), (300, 12, 128, 8186, 1), (303, 12, 133, 8191, 1), (306, 12, 134, 8192, 1), (309, 12, 137, 8195, 1), (312, 12, 138, 8196, 1), (315, 12, 139, 8197, 1), (32, 12, 18, 8076, 1), (322, 12, 1, 8059, 0), (325, 12, 2, 8060, 0), (328, 12, 6, 8064, 0), (35, 12, 19, 8077, 1), (350, 12, 5, 8063, 0), (353, 12, 4, 8062, 0), (356, 12, 3, 8061, 0), (363, 12, 8, 8066, 0), (378, 12, 7, 8065, 0), (38, 12, 20, 8078, 1), (387, 12, 10, 8068, 0), (390, 12, 14, 8072, 0), (393, 12, 9, 8067, 0), (406, 12, 56, 8114, 0), (41, 12, 23, 8081, 0), (431, 12, 22, 8080, 0), (434, 12, 44, 8102, 0), (440, 12, 43, 8101, 0), (443, 12, 48, 8106, 0), (449, 12, 46, 8104, 0), (45, 12, 24, 8082, 1), (452, 12, 42, 8100, 0), (462, 12, 47, 8105, 0), (477, 12, 45, 8103, 0), (48, 12, 25, 8083, 1), (499, 12, 21, 8079, 0), (51, 12, 26, 8084, 1), (529, 12, 49, 8107, 0), (54, 12, 27, 8085, 1), (553, 12, 86, 8144, 0), (57, 12, 28, 8086, 1), (61, 12, 29, 8087, 1), (621, 12, 85, 8143, 0), (624, 12, 96, 8154, 0), (639, 12, 102, 8160, 0), (64, 12, 30, 8088, 1), (645, 12, 105, 8163, 0), (648, 12, 112, 8170, 0), (660, 12, 117, 8175, 0), (67, 12, 31, 8089, 1), (677, 12, 129, 8187, 0), (680, 12, 130, 8188, 0), (683, 12, 131, 8189, 0), (686, 12, 132, 8190, 0), (693, 12, 120, 8178, 0), (696, 12, 121, 8179, 0), (699, 12, 122, 8180, 0), (70, 12, 32, 8090, 1), (705, 12, 135, 8193, 0), (718, 12, 136, 8194, 0), (721, 12, 87, 8145, 0), (73, 12, 33, 8091, 1), (76, 12, 34, 8092, 1), (79, 12, 35, 8093, 1), (82, 12, 36, 8094, 1), (85, 12, 37, 8095, 1), (88, 12, 38, 8096, 1), (9, 12, 0, 8058, 1), (91, 12, 39, 8097, 1), (94, 12, 40, 8098, 1), (97, 12, 41, 8099, 1)], [(203, 40000, 8057), (673, 100000, 12061)], [(367, 32, 10126), (369, 97, 10127)], [(334, 10), (709, 11)], [], [], [], [(.boolean, 2058), (.byte, 2024), (.int, 1061), (.long, 1062)], [(331, 299, 1, 10115, 10117, 71, 1018), (336, 7, 1, 10133, 1161, 1162, 1007), (342, 9, 2, 10134, 1171, 1172, 1007), (346, 300, 2, 10119, 10121, 72, 1018), (371, 302, 3, 10128, 10130, 73, 1018), (381, 298, 1, 10111, 10113, 70, 1018), (396, 276, 2, 10025, 10027, 56, 1018), (402, 278, 6, 10032, 10034, 57, 1018), (409, 281, 3, 10044, 10046, 58, 1018), (413, 282, 4, 10048, 10050, 59, 1018), (417, 289, 2, 10075, 10077, 65, 1018), (421, 292, 4, 10087, 10089, 67, 1018), (425, 294, 4, 10095, 10097, 68, 1018), (428, 296, 4, 10103, 10105, 69, 1018), (437, 305, 2, 10142, 10144, 75, 1018), (446, 315, 2, 10181, 10183, 84, 1018), (455, 313, 2, 10173, 10175, 82, 1018), (458, 314, 1, 10177, 10179, 83, 1018), (465, 309, 1, 10157, 10159, 78, 1018), (468, 312, 1, 10169, 10171, 81, 1018), (471, 311, 1, 10165, 10167, 80, 1018), (474, 310, 1, 10161, 10163, 79, 1018), (483, 307, 4, 10149, 10151, 76, 1018), (487, 308, 2, 10153, 10155, 77, 1018), (490, 316, 2, 10185, 10187, 85, 1018), (493, 317, 4, 10189, 10191, 86, 1018), (496, 318, 2, 10193, 10195, 87, 1018), (502, 304, 1, 10138, 10140, 74, 1018), (505, 286, 4, 10064, 10066, 63, 1018), (508, 287, 4, 10068, 10070, 64, 1018), (511, 285, 6, 10060, 10062, 62, 1018), (515, 284, 5, 10056, 10058, 61, 1018), (522, 283, 5, 10052, 10054, 60, 1018), (525, 323, 1, 10213, 10215, 89, 1018), (532, 322, 4, 10209, 10211, 88, 1018), (535, 330, 4, 11001, 11003, 93, 1018), (538, 329, 4, 10237, 10239, 92, 1018), (541, 332, 3, 11009, 11011, 95, 1018), (544, 327, 1, 10229, 10231, 90, 1018), (547, 328, 3, 10233, 10235, 91, 1018), (550, 331, 3, 11005, 11007, 94, 1018), (556, 339, 2, 11037, 11039, 98, 1018), (559, 290, 3, 10079, 10081, 66, 1018), (563, 335, 8, 11021, 11023, 96, 1018), (567, 338, 2, 11033, 11035, 97, 1018), (570, 341, 2, 11045, 11047, 99, 1018), (573, 344, 3, 11057, 11059, 101, 1018), (577, 343, 2, 11053, 11055, 100, 1018), (580, 346, 3, 11065, 11067, 102, 1018), (583, 350, 2, 11081, 11083, 103, 1018), (586, 351, 3, 11085, 11087, 104, 1018), (589, 352, 3, 11089, 11091, 105, 1018), (592, 354, 5, 11097, 11099, 106, 1018), (596, 359, 3, 11117, 11119, 110, 1018), (599, 358, 3, 11113, 11115, 109, 1018), (602, 356, 2, 11105, 11107, 107, 1018), (605, 357, 2, 11109, 11111, 108, 1018), (608, 364, 2, 11137, 11139, 112, 1018), (611, 363, 2, 11133, 11135, 111, 1018), (614, 368, 2, 11153, 11155, 113, 1018), (617, 369, 2, 11157, 11159, 114, 1018), (627, 371, 2, 11165, 11167, 115, 1018), (630, 373, 2, 11173, 11175, 116, 1018), (633, 379, 2, 11197, 11199, 117, 1018), (636, 381, 2, 11205, 11207, 118, 1018), (642, 383, 2, 11213, 11215, 119, 1018), (651, 392, 1, 12009, 12011, 120, 1018), (654, 397, 3, 12029, 12031, 123, 1018), (657, 396, 3, 12025, 12027, 122, 1018), (663, 399, 3, 12037, 12039, 125, 1018), (666, 398, 4, 12033, 12035, 124, 1018), (670, 395, 1, 12021, 12023, 121, 1018), (674, 404, 1, 12057, 12059, 126, 1018), (689, 406, 7, 12066, 12068, 127, 1018), (702, 407, 2, 12070, 12072, 128, 1018), (711, 412, 5, 12091, 12093, 129, 1018)], [(318, 273, 3, 10014, 10015, 1018), (359, 301, 1, 10123, 10124, 1018), (375, 303, 1, 10135, 10136, 1018), (384, 272, 1, 10011, 10012, 1018), (399, 277, 1, 10029, 10030, 1018), (480, 306, 1, 10146, 10147, 1018), (519, 288, 1, 10072, 10073, 1018), (715, 413, 3, 12095, 12096, 1018)], [], [(1, 8056, 1028, 1029)], [])
noncomputable def mK19 : am_LT := ([], [], [], [], [], [], [(10, 12, 8051, 8052, 1018), (7, 0, 1022, 1023, 1001)], [], [], [(102, 336, 7, 11025, 11026, 11027, 1018), (103, 138, 2, 5200, 5201, 5202, 1001), (106, 337, 2, 11029, 11030, 11031, 1018), (107, 141, 2, 5214, 5215, 5216, 1001), (110, 340, 2, 11041, 11042, 11043, 1018), (111, 143, 2, 5222, 5223, 5224, 1001), (114, 342, 2, 11049, 11050, 11051, 1018), (115, 147, 2, 6004, 6005, 6006, 1001), (118, 345, 2, 11061, 11062, 11063, 1018), (119, 152, 3, 6027, 6028, 6029, 1001), (122, 347, 3, 11069, 11070, 11071, 1018), (123, 153, 3, 6032, 6033, 6034, 1001), (126, 348, 3, 11073, 11074, 11075, 1018), (127, 155, 3, 6041, 6042, 6043, 1001), (13, 21, 6, 3077, 3078, 3079, 1001), (130, 349, 3, 11077, 11078, 11079, 1018), (131, 158, 3, 6056, 6057, 6058, 1001), (134, 353, 3, 11093, 11094, 11095, 1018), (135, 163, 2, 6081, 6082, 6083, 1001), (138, 355, 2, 11101, 11102, 11103, 1018), (139, 166, 3, 6094, 6095, 6096, 1001), (142, 360, 3, 11121, 11122, 11123, 1018), (143, 168, 3, 6102, 6103, 6104, 1001), (146, 361, 3, 11125, 11126, 11127, 1018), (147, 170, 2, 6111, 6112, 6113, 1001), (150, 362, 2, 11129, 11130, 11131, 1018), (151, 175, 2, 6132, 6133, 6134, 1001), (154, 365, 2, 11141, 11142, 11143, 1018), (155, 176, 3, 6137, 6138, 6139, 1001), (158, 366, 3, 11145, 11146, 11147, 1018), (159, 177, 2, 6142, 6143, 6144, 1001), (162, 367, 2, 11149, 11150, 11151, 1018), (163, 181, 2, 6158, 6159, 6160, 1001), (166, 370, 2, 11161, 11162, 11163, 1018), (167, 183, 2, 6166, 6167, 6168, 1001), (17, 269, 6, 9239, 10000, 10001, 1018), (170, 372, 2, 11169, 11170, 11171, 1018), (171, 187, 2, 6182, 6183, 6184, 1001), (174, 374, 2, 11177, 11178, 11179, 1018), (175, 188, 2, 6186, 6187, 6188, 1001), (179, 375, 2, 11181, 11182, 11183, 1018), (18, 24, 2, 3089, 3090, 3091, 1001), (180, 190, 4, 6195, 6196, 6197, 1001), (183, 376, 4, 11185, 11186, 11187, 1018), (184, 191, 2, 6199, 6200, 6201, 1001), (187, 377, 2, 11189, 11190, 11191, 1018), (188, 192, 3, 6204, 6205, 6206, 1001), (191, 378, 3, 11193, 11194, 11195, 1018), (192, 196, 2, 6220, 6221, 6222, 1001), (195, 380, 2, 11201, 11202, 11203, 1018), (196, 198, 2, 6229, 6230, 6231, 1001), (199, 382, 2, 11209, 11210, 11211, 1018), (200, 202, 3, 7008, 7009, 7010, 1001), (203, 384, 3, 11217, 11218, 11219, 1018), (204, 204, 3, 7017, 7018, 7019, 1001), (207, 385, 3, 11221, 11222, 11223, 1018), (208, 206, 6, 7025, 7026, 7027, 1001), (211, 386, 6, 11225, 11226, 11227, 1018), (212, 208, 3, 7033, 7034, 7035, 1001), (215, 388, 3, 11233, 11234, 11235, 1018), (216, 211, 3, 7045, 7046, 7047, 1001), (219, 389, 3, 11237, 11238, 11239, 1018), (22, 270, 2, 10003, 10004, 10005, 1018), (220, 213, 3, 7053, 7054, 7055, 1001), (223, 390, 3, 12001, 12002, 12003, 1018), (224, 214, 1, 7057, 7058, 7059, 1001), (228, 391, 1, 12005, 12006, 12007, 1018), (229, 216, 2, 7065, 7066, 7067, 1001), (23, 26, 4, 3096, 3097, 3098, 1001), (232, 393, 2, 12013, 12014, 12015, 1018), (233, 219, 2, 7077, 7078, 7079, 1001), (236, 394, 2, 12017, 12018, 12019, 1018), (237, 228, 2, 7119, 7120, 7121, 1001), (240, 400, 2, 12041, 12042, 12043, 1018), (241, 230, 2, 7127, 7128, 7129, 1001), (244, 401, 2, 12045, 12046, 12047, 1018), (245, 231, 2, 7132, 7133, 7134, 1001), (248, 402, 2, 12049, 12050, 12051, 1018), (249, 233, 3, 7141, 7142, 7143, 1001), (252, 403, 3, 12053, 12054, 12055, 1018), (253, 235, 5, 7149, 7150, 7151, 1001), (256, 405, 5, 12062, 12063, 12064, 1018), (257, 240, 3, 7173, 7174, 7175, 1001), (260, 408, 3, 12074, 12075, 12076, 1018), (261, 242, 3, 7181, 7182, 7183, 1001), (264, 409, 3, 12078, 12079, 12080, 1018), (265, 244, 2, 7190, 7191, 7192, 1001), (268, 410, 2, 12082, 12083, 12084, 1018), (269, 246, 1, 7199, 7200, 7201, 1001), (27, 271, 4, 10007, 10008, 10009, 1018), (272, 411, 1, 12086, 12087, 12088, 1018), (273, 256, 3, 8001, 8002, 8003, 1001), (276, 414, 3, 12098, 12099, 12100, 1018), (277, 259, 4, 8013, 8014, 8015, 1001), (28, 31, 2, 3118, 3119, 3120, 1001), (280, 415, 4, 12102, 12103, 12104, 1018), (281, 261, 4, 8021, 8022, 8023, 1001), (284, 416, 4, 12106, 12107, 12108, 1018), (285, 263, 2, 8029, 8030, 8031, 1001), (288, 417, 2, 12110, 12111, 12112, 1018), (289, 266, 2, 8043, 8044, 8045, 1001), (292, 418, 2, 12114, 12115, 12116, 1018), (31, 387, 2, 11229, 11230, 11231, 1018), (32, 35, 3, 3134, 3135, 3136, 1001), (36, 274, 3, 10017, 10018, 10019, 1018), (37, 37, 4, 3142, 3143, 3144, 1001), (40, 275, 4, 10021, 10022, 10023, 1018), (41, 41, 3, 3158, 3159, 3160, 1001), (44, 279, 3, 10036, 10037, 10038, 1018), (45, 42, 4, 3162, 3163, 3164, 1001), (48, 280, 4, 10040, 10041, 10042, 1018), (49, 65, 4, 4014, 4015, 4016, 1001), (52, 291, 4, 10083, 10084, 10085, 1018), (53, 67, 4, 4022, 4023, 4024, 1001), (56, 293, 4, 10091, 10092, 10093, 1018), (57, 68, 4, 4027, 4028, 4029, 1001), (60, 295, 4, 10099, 10100, 10101, 1018), (61, 70, 3, 4036, 4037, 4038, 1001), (64, 297, 3, 10107, 10108, 10109, 1018), (65, 108, 2, 4199, 4200, 4201, 1001), (68, 319, 2, 10197, 10198, 10199, 1018), (69, 109, 3, 4203, 4204, 4205, 1001), (72, 320, 3, 10201, 10202, 10203, 1018), (73, 111, 4, 4212, 4213, 4214, 1001), (76, 321, 4, 10205, 10206, 10207, 1018), (77, 116, 4, 4231, 4232, 4233, 1001), (80, 324, 4, 10217, 10218, 10219, 1018), (81, 117, 4, 4236, 4237, 4238, 1001), (84, 325, 4, 10221, 10222, 10223, 1018), (85, 120, 3, 5011, 5012, 5013, 1001), (88, 326, 3, 10225, 10226, 10227, 1018), (89, 130, 2, 5066, 5067, 5068, 1001), (92, 333, 2, 11013, 11014, 11015, 1018), (93, 131, 5, 5070, 5071, 5072, 1001), (97, 334, 5, 11017, 11018, 11019, 1018), (98, 137, 7, 5196, 5197, 5198, 1001)], [], [(12, 268, 1, 8053, 8054, 1018), (9, 0, 1, 1024, 1025, 1001)], [], [])
def m_Tc : List (List Cond) := [k2_sels lw_privs, tables_1_1, tables_1_2, tables_1_3, tables_1_4, tables_1_5, tables_1_6, tables_1_7, tables_1_8, tables_1_9, tables_1_10, tables_1_11, tables_1_12]
theorem m_Tc_in0 : ∀ c ∈ m_Tc, ∀ w ∈ c, w ∈ lw_tbl := by
  intro c hc w hw
  simp only [m_Tc, List.mem_cons, List.not_mem_nil, or_false] at hc
  unfold lw_tbl tables_1
  simp only [List.mem_append]
  rcases hc with rfl | rfl | rfl | rfl | rfl | rfl | rfl | rfl | rfl | rfl | rfl | rfl | rfl <;> simp only [hw, true_or, or_true]
/-- the words that a method may ask of its caller -/
def m_Ts : List Cond := lw_tbl.filter goodWord
theorem m_Ts_in : ∀ w ∈ m_Ts, w ∈ lw_tbl := fun w h => (List.mem_filter.mp h).1
theorem m_Tc_in : ∀ c ∈ m_Tc, ∀ w ∈ c, goodWord w = true → w ∈ m_Ts := fun c hc w hw hg => List.mem_filter.mpr ⟨m_Tc_in0 c hc w hw, hg⟩
end
section
/-! PRINTED by wip/whole/gen.py: the checks -/
set_option maxRecDepth 100000 in
theorem mK1_ok : am_lkb m_cl m_tys m_P m_Tc m_sn m_sr "AssizeRide$Tape" mK1 = true := by decide +kernel
set_option maxRecDepth 100000 in
theorem mK2_ok : am_lkb m_cl m_tys m_P m_Tc m_sn m_sr "AssizeRide$People" mK2 = true := by decide +kernel
set_option maxRecDepth 100000 in
theorem mK3_ok : am_lkb m_cl m_tys m_P m_Tc m_sn m_sr "AssizeRide$Law" mK3 = true := by decide +kernel
set_option maxRecDepth 100000 in
theorem mK4_ok : am_lkb m_cl m_tys m_P m_Tc m_sn m_sr "AssizeRide$ActReader" mK4 = true := by decide +kernel
set_option maxRecDepth 100000 in
theorem mK5_ok : am_lkb m_cl m_tys m_P m_Tc m_sn m_sr "java/lang/Math" mK5 = true := by decide +kernel
set_option maxRecDepth 100000 in
theorem mK6_ok : am_lkb m_cl m_tys m_P m_Tc m_sn m_sr "java/lang/String" mK6 = true := by decide +kernel
set_option maxRecDepth 100000 in
theorem mK7_ok : am_lkb m_cl m_tys m_P m_Tc m_sn m_sr "java/lang/StringLatin1" mK7 = true := by decide +kernel
set_option maxRecDepth 100000 in
theorem mK8_ok : am_lkb m_cl m_tys m_P m_Tc m_sn m_sr "jdk/internal/util/Preconditions" mK8 = true := by decide +kernel
set_option maxRecDepth 100000 in
theorem mK9_ok : am_lkb m_cl m_tys m_P m_Tc m_sn m_sr "AssizeRide$Docket" mK9 = true := by decide +kernel
set_option maxRecDepth 100000 in
theorem mK10_ok : am_lkb m_cl m_tys m_P m_Tc m_sn m_sr "AssizeRide$Row" mK10 = true := by decide +kernel
set_option maxRecDepth 100000 in
theorem mK11_ok : am_lkb m_cl m_tys m_P m_Tc m_sn m_sr "AssizeRide$Gaols" mK11 = true := by decide +kernel
set_option maxRecDepth 100000 in
theorem mK12_ok : am_lkb m_cl m_tys m_P m_Tc m_sn m_sr "java/util/Arrays" mK12 = true := by decide +kernel
set_option maxRecDepth 100000 in
theorem mK13_ok : am_lkb m_cl m_tys m_P m_Tc m_sn m_sr "AssizeRide$DayOrder" mK13 = true := by decide +kernel
set_option maxRecDepth 100000 in
theorem mK14_ok : am_lkb m_cl m_tys m_P m_Tc m_sn m_sr "AssizeRide$Circuit" mK14 = true := by decide +kernel
set_option maxRecDepth 100000 in
theorem mK15_ok : am_lkb m_cl m_tys m_P m_Tc m_sn m_sr "AssizeRide$Rolls" mK15 = true := by decide +kernel
set_option maxRecDepth 100000 in
theorem mK16_ok : am_lkb m_cl m_tys m_P m_Tc m_sn m_sr "AssizeRide$Matter" mK16 = true := by decide +kernel
set_option maxRecDepth 100000 in
theorem mK17_ok : am_lkb m_cl m_tys m_P m_Tc m_sn m_sr "java/lang/Integer" mK17 = true := by decide +kernel
end
section
/-! PRINTED by wip/whole/gen.py: the checks -/
set_option maxRecDepth 100000 in
theorem mK0_ok : am_lkb m_cl m_tys m_P m_Tc m_sn m_sr "AssizeRide" mK0 = true := by decide +kernel
end
section
/-! PRINTED by wip/whole/gen.py: the checks -/
set_option maxRecDepth 100000 in
theorem mK18_ok : am_lkb m_cl m_tys m_P m_Tc m_sn m_sr "AssizeRideModel" mK18 = true := by decide +kernel
end
section
/-! PRINTED by wip/whole/gen.py: the checks -/
set_option maxRecDepth 100000 in
theorem mK19_ok : am_lkb m_cl m_tys m_P m_Tc m_sn m_sr "AssizeRideLaw" mK19 = true := by decide +kernel
end
section
/-! PRINTED by wip/whole/gen.py: the checks of the instructions -/
set_option maxRecDepth 100000 in
theorem mt0_ck : am_all mK0 (mt0.1.name == "<init>") mt0 = true := by decide +kernel
set_option maxRecDepth 100000 in
theorem mt1_ck : am_all mK1 (mt1.1.name == "<init>") mt1 = true := by decide +kernel
set_option maxRecDepth 100000 in
theorem mt2_ck : am_all mK2 (mt2.1.name == "<init>") mt2 = true := by decide +kernel
set_option maxRecDepth 100000 in
theorem mt3_ck : am_all mK3 (mt3.1.name == "<init>") mt3 = true := by decide +kernel
set_option maxRecDepth 100000 in
theorem mt4_ck : am_all mK4 (mt4.1.name == "<init>") mt4 = true := by decide +kernel
set_option maxRecDepth 100000 in
theorem mt5_ck : am_all mK4 (mt5.1.name == "<init>") mt5 = true := by decide +kernel
set_option maxRecDepth 100000 in
theorem mt6_ck : am_all mK5 (mt6.1.name == "<init>") mt6 = true := by decide +kernel
set_option maxRecDepth 100000 in
theorem mt7_ck : am_all mK6 (mt7.1.name == "<init>") mt7 = true := by decide +kernel
set_option maxRecDepth 100000 in
theorem mt8_ck : am_all mK6 (mt8.1.name == "<init>") mt8 = true := by decide +kernel
set_option maxRecDepth 100000 in
theorem mt9_ck : am_all mK6 (mt9.1.name == "<init>") mt9 = true := by decide +kernel
set_option maxRecDepth 100000 in
theorem mt10_ck : am_all mK6 (mt10.1.name == "<init>") mt10 = true := by decide +kernel
set_option maxRecDepth 100000 in
theorem mt11_ck : am_all mK7 (mt11.1.name == "<init>") mt11 = true := by decide +kernel
set_option maxRecDepth 100000 in
theorem mt12_ck : am_all mK6 (mt12.1.name == "<init>") mt12 = true := by decide +kernel
set_option maxRecDepth 100000 in
theorem mt13_ck : am_all mK8 (mt13.1.name == "<init>") mt13 = true := by decide +kernel
set_option maxRecDepth 100000 in
theorem mt14_ck : am_all mK9 (mt14.1.name == "<init>") mt14 = true := by decide +kernel
set_option maxRecDepth 100000 in
theorem mt15_ck : am_all mK10 (mt15.1.name == "<init>") mt15 = true := by decide +kernel
set_option maxRecDepth 100000 in
theorem mt16_ck : am_all mK11 (mt16.1.name == "<init>") mt16 = true := by decide +kernel
set_option maxRecDepth 100000 in
theorem mt17_ck : am_all mK12 (mt17.1.name == "<init>") mt17 = true := by decide +kernel
set_option maxRecDepth 100000 in
theorem mt18_ck : am_all mK13 (mt18.1.name == "<init>") mt18 = true := by decide +kernel
set_option maxRecDepth 100000 in
theorem mt19_ck : am_all mK14 (mt19.1.name == "<init>") mt19 = true := by decide +kernel
set_option maxRecDepth 100000 in
theorem mt20_ck : am_all mK15 (mt20.1.name == "<init>") mt20 = true := by decide +kernel
set_option maxRecDepth 100000 in
theorem mt21_ck : am_all mK0 (mt21.1.name == "<init>") mt21 = true := by decide +kernel
set_option maxRecDepth 100000 in
theorem mt22_ck : am_all mK1 (mt22.1.name == "<init>") mt22 = true := by decide +kernel
set_option maxRecDepth 100000 in
theorem mt23_ck : am_all mK1 (mt23.1.name == "<init>") mt23 = true := by decide +kernel
set_option maxRecDepth 100000 in
theorem mt24_ck : am_all mK0 (mt24.1.name == "<init>") mt24 = true := by decide +kernel
set_option maxRecDepth 100000 in
theorem mt25_ck : am_all mK0 (mt25.1.name == "<init>") mt25 = true := by decide +kernel
set_option maxRecDepth 100000 in
theorem mt26_ck : am_all mK0 (mt26.1.name == "<init>") mt26 = true := by decide +kernel
set_option maxRecDepth 100000 in
theorem mt27_ck : am_all mK0 (mt27.1.name == "<init>") mt27 = true := by decide +kernel
set_option maxRecDepth 100000 in
theorem mt28_ck : am_all mK14 (mt28.1.name == "<init>") mt28 = true := by decide +kernel
set_option maxRecDepth 100000 in
theorem mt29_ck : am_all mK14 (mt29.1.name == "<init>") mt29 = true := by decide +kernel
set_option maxRecDepth 100000 in
theorem mt30_ck : am_all mK14 (mt30.1.name == "<init>") mt30 = true := by decide +kernel
set_option maxRecDepth 100000 in
theorem mt31_ck : am_all mK0 (mt31.1.name == "<init>") mt31 = true := by decide +kernel
set_option maxRecDepth 100000 in
theorem mt32_ck : am_all mK11 (mt32.1.name == "<init>") mt32 = true := by decide +kernel
set_option maxRecDepth 100000 in
theorem mt33_ck : am_all mK2 (mt33.1.name == "<init>") mt33 = true := by decide +kernel
set_option maxRecDepth 100000 in
theorem mt34_ck : am_all mK2 (mt34.1.name == "<init>") mt34 = true := by decide +kernel
set_option maxRecDepth 100000 in
theorem mt35_ck : am_all mK0 (mt35.1.name == "<init>") mt35 = true := by decide +kernel
set_option maxRecDepth 100000 in
theorem mt36_ck : am_all mK2 (mt36.1.name == "<init>") mt36 = true := by decide +kernel
set_option maxRecDepth 100000 in
theorem mt37_ck : am_all mK0 (mt37.1.name == "<init>") mt37 = true := by decide +kernel
set_option maxRecDepth 100000 in
theorem mt38_ck : am_all mK2 (mt38.1.name == "<init>") mt38 = true := by decide +kernel
set_option maxRecDepth 100000 in
theorem mt39_ck : am_all mK0 (mt39.1.name == "<init>") mt39 = true := by decide +kernel
set_option maxRecDepth 100000 in
theorem mt40_ck : am_all mK2 (mt40.1.name == "<init>") mt40 = true := by decide +kernel
set_option maxRecDepth 100000 in
theorem mt41_ck : am_all mK0 (mt41.1.name == "<init>") mt41 = true := by decide +kernel
set_option maxRecDepth 100000 in
theorem mt42_ck : am_all mK0 (mt42.1.name == "<init>") mt42 = true := by decide +kernel
set_option maxRecDepth 100000 in
theorem mt43_ck : am_all mK2 (mt43.1.name == "<init>") mt43 = true := by decide +kernel
set_option maxRecDepth 100000 in
theorem mt44_ck : am_all mK5 (mt44.1.name == "<init>") mt44 = true := by decide +kernel
set_option maxRecDepth 100000 in
theorem mt45_ck : am_all mK9 (mt45.1.name == "<init>") mt45 = true := by decide +kernel
set_option maxRecDepth 100000 in
theorem mt46_ck : am_all mK9 (mt46.1.name == "<init>") mt46 = true := by decide +kernel
set_option maxRecDepth 100000 in
theorem mt47_ck : am_all mK9 (mt47.1.name == "<init>") mt47 = true := by decide +kernel
set_option maxRecDepth 100000 in
theorem mt48_ck : am_all mK10 (mt48.1.name == "<init>") mt48 = true := by decide +kernel
set_option maxRecDepth 100000 in
theorem mt49_ck : am_all mK10 (mt49.1.name == "<init>") mt49 = true := by decide +kernel
set_option maxRecDepth 100000 in
theorem mt50_ck : am_all mK16 (mt50.1.name == "<init>") mt50 = true := by decide +kernel
set_option maxRecDepth 100000 in
theorem mt51_ck : am_all mK9 (mt51.1.name == "<init>") mt51 = true := by decide +kernel
set_option maxRecDepth 100000 in
theorem mt52_ck : am_all mK3 (mt52.1.name == "<init>") mt52 = true := by decide +kernel
set_option maxRecDepth 100000 in
theorem mt53_ck : am_all mK3 (mt53.1.name == "<init>") mt53 = true := by decide +kernel
set_option maxRecDepth 100000 in
theorem mt54_ck : am_all mK3 (mt54.1.name == "<init>") mt54 = true := by decide +kernel
set_option maxRecDepth 100000 in
theorem mt55_ck : am_all mK3 (mt55.1.name == "<init>") mt55 = true := by decide +kernel
set_option maxRecDepth 100000 in
theorem mt56_ck : am_all mK3 (mt56.1.name == "<init>") mt56 = true := by decide +kernel
set_option maxRecDepth 100000 in
theorem mt57_ck : am_all mK3 (mt57.1.name == "<init>") mt57 = true := by decide +kernel
set_option maxRecDepth 100000 in
theorem mt58_ck : am_all mK9 (mt58.1.name == "<init>") mt58 = true := by decide +kernel
set_option maxRecDepth 100000 in
theorem mt59_ck : am_all mK9 (mt59.1.name == "<init>") mt59 = true := by decide +kernel
set_option maxRecDepth 100000 in
theorem mt60_ck : am_all mK10 (mt60.1.name == "<init>") mt60 = true := by decide +kernel
set_option maxRecDepth 100000 in
theorem mt61_ck : am_all mK16 (mt61.1.name == "<init>") mt61 = true := by decide +kernel
set_option maxRecDepth 100000 in
theorem mt62_ck : am_all mK16 (mt62.1.name == "<init>") mt62 = true := by decide +kernel
set_option maxRecDepth 100000 in
theorem mt63_ck : am_all mK9 (mt63.1.name == "<init>") mt63 = true := by decide +kernel
set_option maxRecDepth 100000 in
theorem mt64_ck : am_all mK9 (mt64.1.name == "<init>") mt64 = true := by decide +kernel
set_option maxRecDepth 100000 in
theorem mt65_ck : am_all mK0 (mt65.1.name == "<init>") mt65 = true := by decide +kernel
set_option maxRecDepth 100000 in
theorem mt66_ck : am_all mK2 (mt66.1.name == "<init>") mt66 = true := by decide +kernel
set_option maxRecDepth 100000 in
theorem mt67_ck : am_all mK0 (mt67.1.name == "<init>") mt67 = true := by decide +kernel
set_option maxRecDepth 100000 in
theorem mt68_ck : am_all mK0 (mt68.1.name == "<init>") mt68 = true := by decide +kernel
set_option maxRecDepth 100000 in
theorem mt69_ck : am_all mK2 (mt69.1.name == "<init>") mt69 = true := by decide +kernel
set_option maxRecDepth 100000 in
theorem mt70_ck : am_all mK0 (mt70.1.name == "<init>") mt70 = true := by decide +kernel
set_option maxRecDepth 100000 in
theorem mt71_ck : am_all mK1 (mt71.1.name == "<init>") mt71 = true := by decide +kernel
set_option maxRecDepth 100000 in
theorem mt72_ck : am_all mK1 (mt72.1.name == "<init>") mt72 = true := by decide +kernel
set_option maxRecDepth 100000 in
theorem mt73_ck : am_all mK1 (mt73.1.name == "<init>") mt73 = true := by decide +kernel
set_option maxRecDepth 100000 in
theorem mt74_ck : am_all mK1 (mt74.1.name == "<init>") mt74 = true := by decide +kernel
set_option maxRecDepth 100000 in
theorem mt75_ck : am_all mK1 (mt75.1.name == "<init>") mt75 = true := by decide +kernel
set_option maxRecDepth 100000 in
theorem mt76_ck : am_all mK3 (mt76.1.name == "<init>") mt76 = true := by decide +kernel
set_option maxRecDepth 100000 in
theorem mt77_ck : am_all mK4 (mt77.1.name == "<init>") mt77 = true := by decide +kernel
set_option maxRecDepth 100000 in
theorem mt78_ck : am_all mK4 (mt78.1.name == "<init>") mt78 = true := by decide +kernel
set_option maxRecDepth 100000 in
theorem mt79_ck : am_all mK1 (mt79.1.name == "<init>") mt79 = true := by decide +kernel
set_option maxRecDepth 100000 in
theorem mt80_ck : am_all mK1 (mt80.1.name == "<init>") mt80 = true := by decide +kernel
set_option maxRecDepth 100000 in
theorem mt81_ck : am_all mK4 (mt81.1.name == "<init>") mt81 = true := by decide +kernel
set_option maxRecDepth 100000 in
theorem mt82_ck : am_all mK4 (mt82.1.name == "<init>") mt82 = true := by decide +kernel
set_option maxRecDepth 100000 in
theorem mt83_ck : am_all mK4 (mt83.1.name == "<init>") mt83 = true := by decide +kernel
set_option maxRecDepth 100000 in
theorem mt84_ck : am_all mK1 (mt84.1.name == "<init>") mt84 = true := by decide +kernel
set_option maxRecDepth 100000 in
theorem mt85_ck : am_all mK3 (mt85.1.name == "<init>") mt85 = true := by decide +kernel
set_option maxRecDepth 100000 in
theorem mt86_ck : am_all mK3 (mt86.1.name == "<init>") mt86 = true := by decide +kernel
set_option maxRecDepth 100000 in
theorem mt87_ck : am_all mK4 (mt87.1.name == "<init>") mt87 = true := by decide +kernel
set_option maxRecDepth 100000 in
theorem mt88_ck : am_all mK4 (mt88.1.name == "<init>") mt88 = true := by decide +kernel
set_option maxRecDepth 100000 in
theorem mt89_ck : am_all mK4 (mt89.1.name == "<init>") mt89 = true := by decide +kernel
set_option maxRecDepth 100000 in
theorem mt90_ck : am_all mK4 (mt90.1.name == "<init>") mt90 = true := by decide +kernel
set_option maxRecDepth 100000 in
theorem mt91_ck : am_all mK4 (mt91.1.name == "<init>") mt91 = true := by decide +kernel
set_option maxRecDepth 100000 in
theorem mt92_ck : am_all mK4 (mt92.1.name == "<init>") mt92 = true := by decide +kernel
set_option maxRecDepth 100000 in
theorem mt93_ck : am_all mK4 (mt93.1.name == "<init>") mt93 = true := by decide +kernel
set_option maxRecDepth 100000 in
theorem mt94_ck : am_all mK4 (mt94.1.name == "<init>") mt94 = true := by decide +kernel
set_option maxRecDepth 100000 in
theorem mt95_ck : am_all mK4 (mt95.1.name == "<init>") mt95 = true := by decide +kernel
set_option maxRecDepth 100000 in
theorem mt96_ck : am_all mK4 (mt96.1.name == "<init>") mt96 = true := by decide +kernel
set_option maxRecDepth 100000 in
theorem mt97_ck : am_all mK3 (mt97.1.name == "<init>") mt97 = true := by decide +kernel
set_option maxRecDepth 100000 in
theorem mt98_ck : am_all mK4 (mt98.1.name == "<init>") mt98 = true := by decide +kernel
set_option maxRecDepth 100000 in
theorem mt99_ck : am_all mK4 (mt99.1.name == "<init>") mt99 = true := by decide +kernel
set_option maxRecDepth 100000 in
theorem mt100_ck : am_all mK4 (mt100.1.name == "<init>") mt100 = true := by decide +kernel
set_option maxRecDepth 100000 in
theorem mt101_ck : am_all mK4 (mt101.1.name == "<init>") mt101 = true := by decide +kernel
set_option maxRecDepth 100000 in
theorem mt102_ck : am_all mK3 (mt102.1.name == "<init>") mt102 = true := by decide +kernel
set_option maxRecDepth 100000 in
theorem mt103_ck : am_all mK4 (mt103.1.name == "<init>") mt103 = true := by decide +kernel
end
section
/-! PRINTED by wip/whole/gen.py: the checks of the instructions -/
set_option maxRecDepth 100000 in
theorem mt104_ck : am_all mK4 (mt104.1.name == "<init>") mt104 = true := by decide +kernel
set_option maxRecDepth 100000 in
theorem mt105_ck : am_all mK4 (mt105.1.name == "<init>") mt105 = true := by decide +kernel
set_option maxRecDepth 100000 in
theorem mt106_ck : am_all mK3 (mt106.1.name == "<init>") mt106 = true := by decide +kernel
set_option maxRecDepth 100000 in
theorem mt107_ck : am_all mK3 (mt107.1.name == "<init>") mt107 = true := by decide +kernel
set_option maxRecDepth 100000 in
theorem mt108_ck : am_all mK0 (mt108.1.name == "<init>") mt108 = true := by decide +kernel
set_option maxRecDepth 100000 in
theorem mt109_ck : am_all mK0 (mt109.1.name == "<init>") mt109 = true := by decide +kernel
set_option maxRecDepth 100000 in
theorem mt110_ck : am_all mK3 (mt110.1.name == "<init>") mt110 = true := by decide +kernel
set_option maxRecDepth 100000 in
theorem mt111_ck : am_all mK0 (mt111.1.name == "<init>") mt111 = true := by decide +kernel
set_option maxRecDepth 100000 in
theorem mt112_ck : am_all mK0 (mt112.1.name == "<init>") mt112 = true := by decide +kernel
set_option maxRecDepth 100000 in
theorem mt113_ck : am_all mK1 (mt113.1.name == "<init>") mt113 = true := by decide +kernel
set_option maxRecDepth 100000 in
theorem mt114_ck : am_all mK0 (mt114.1.name == "<init>") mt114 = true := by decide +kernel
set_option maxRecDepth 100000 in
theorem mt115_ck : am_all mK3 (mt115.1.name == "<init>") mt115 = true := by decide +kernel
set_option maxRecDepth 100000 in
theorem mt116_ck : am_all mK0 (mt116.1.name == "<init>") mt116 = true := by decide +kernel
set_option maxRecDepth 100000 in
theorem mt117_ck : am_all mK0 (mt117.1.name == "<init>") mt117 = true := by decide +kernel
set_option maxRecDepth 100000 in
theorem mt118_ck : am_all mK3 (mt118.1.name == "<init>") mt118 = true := by decide +kernel
set_option maxRecDepth 100000 in
theorem mt119_ck : am_all mK17 (mt119.1.name == "<init>") mt119 = true := by decide +kernel
set_option maxRecDepth 100000 in
theorem mt120_ck : am_all mK0 (mt120.1.name == "<init>") mt120 = true := by decide +kernel
set_option maxRecDepth 100000 in
theorem mt121_ck : am_all mK10 (mt121.1.name == "<init>") mt121 = true := by decide +kernel
set_option maxRecDepth 100000 in
theorem mt122_ck : am_all mK10 (mt122.1.name == "<init>") mt122 = true := by decide +kernel
set_option maxRecDepth 100000 in
theorem mt123_ck : am_all mK3 (mt123.1.name == "<init>") mt123 = true := by decide +kernel
set_option maxRecDepth 100000 in
theorem mt124_ck : am_all mK3 (mt124.1.name == "<init>") mt124 = true := by decide +kernel
set_option maxRecDepth 100000 in
theorem mt125_ck : am_all mK3 (mt125.1.name == "<init>") mt125 = true := by decide +kernel
set_option maxRecDepth 100000 in
theorem mt126_ck : am_all mK10 (mt126.1.name == "<init>") mt126 = true := by decide +kernel
set_option maxRecDepth 100000 in
theorem mt127_ck : am_all mK3 (mt127.1.name == "<init>") mt127 = true := by decide +kernel
set_option maxRecDepth 100000 in
theorem mt128_ck : am_all mK3 (mt128.1.name == "<init>") mt128 = true := by decide +kernel
set_option maxRecDepth 100000 in
theorem mt129_ck : am_all mK3 (mt129.1.name == "<init>") mt129 = true := by decide +kernel
set_option maxRecDepth 100000 in
theorem mt130_ck : am_all mK0 (mt130.1.name == "<init>") mt130 = true := by decide +kernel
set_option maxRecDepth 100000 in
theorem mt131_ck : am_all mK0 (mt131.1.name == "<init>") mt131 = true := by decide +kernel
set_option maxRecDepth 100000 in
theorem mt132_ck : am_all mK0 (mt132.1.name == "<init>") mt132 = true := by decide +kernel
set_option maxRecDepth 100000 in
theorem mt133_ck : am_all mK0 (mt133.1.name == "<init>") mt133 = true := by decide +kernel
set_option maxRecDepth 100000 in
theorem mt134_ck : am_all mK9 (mt134.1.name == "<init>") mt134 = true := by decide +kernel
set_option maxRecDepth 100000 in
theorem mt135_ck : am_all mK16 (mt135.1.name == "<init>") mt135 = true := by decide +kernel
set_option maxRecDepth 100000 in
theorem mt136_ck : am_all mK9 (mt136.1.name == "<init>") mt136 = true := by decide +kernel
set_option maxRecDepth 100000 in
theorem mt137_ck : am_all mK0 (mt137.1.name == "<init>") mt137 = true := by decide +kernel
set_option maxRecDepth 100000 in
theorem mt138_ck : am_all mK0 (mt138.1.name == "<init>") mt138 = true := by decide +kernel
set_option maxRecDepth 100000 in
theorem mt139_ck : am_all mK9 (mt139.1.name == "<init>") mt139 = true := by decide +kernel
set_option maxRecDepth 100000 in
theorem mt140_ck : am_all mK10 (mt140.1.name == "<init>") mt140 = true := by decide +kernel
set_option maxRecDepth 100000 in
theorem mt141_ck : am_all mK0 (mt141.1.name == "<init>") mt141 = true := by decide +kernel
set_option maxRecDepth 100000 in
theorem mt142_ck : am_all mK10 (mt142.1.name == "<init>") mt142 = true := by decide +kernel
set_option maxRecDepth 100000 in
theorem mt143_ck : am_all mK0 (mt143.1.name == "<init>") mt143 = true := by decide +kernel
set_option maxRecDepth 100000 in
theorem mt144_ck : am_all mK9 (mt144.1.name == "<init>") mt144 = true := by decide +kernel
set_option maxRecDepth 100000 in
theorem mt145_ck : am_all mK9 (mt145.1.name == "<init>") mt145 = true := by decide +kernel
set_option maxRecDepth 100000 in
theorem mt146_ck : am_all mK10 (mt146.1.name == "<init>") mt146 = true := by decide +kernel
set_option maxRecDepth 100000 in
theorem mt147_ck : am_all mK0 (mt147.1.name == "<init>") mt147 = true := by decide +kernel
set_option maxRecDepth 100000 in
theorem mt148_ck : am_all mK9 (mt148.1.name == "<init>") mt148 = true := by decide +kernel
set_option maxRecDepth 100000 in
theorem mt149_ck : am_all mK9 (mt149.1.name == "<init>") mt149 = true := by decide +kernel
set_option maxRecDepth 100000 in
theorem mt150_ck : am_all mK9 (mt150.1.name == "<init>") mt150 = true := by decide +kernel
set_option maxRecDepth 100000 in
theorem mt151_ck : am_all mK9 (mt151.1.name == "<init>") mt151 = true := by decide +kernel
set_option maxRecDepth 100000 in
theorem mt152_ck : am_all mK0 (mt152.1.name == "<init>") mt152 = true := by decide +kernel
set_option maxRecDepth 100000 in
theorem mt153_ck : am_all mK0 (mt153.1.name == "<init>") mt153 = true := by decide +kernel
set_option maxRecDepth 100000 in
theorem mt154_ck : am_all mK16 (mt154.1.name == "<init>") mt154 = true := by decide +kernel
set_option maxRecDepth 100000 in
theorem mt155_ck : am_all mK0 (mt155.1.name == "<init>") mt155 = true := by decide +kernel
set_option maxRecDepth 100000 in
theorem mt156_ck : am_all mK16 (mt156.1.name == "<init>") mt156 = true := by decide +kernel
set_option maxRecDepth 100000 in
theorem mt157_ck : am_all mK16 (mt157.1.name == "<init>") mt157 = true := by decide +kernel
set_option maxRecDepth 100000 in
theorem mt158_ck : am_all mK0 (mt158.1.name == "<init>") mt158 = true := by decide +kernel
set_option maxRecDepth 100000 in
theorem mt159_ck : am_all mK9 (mt159.1.name == "<init>") mt159 = true := by decide +kernel
set_option maxRecDepth 100000 in
theorem mt160_ck : am_all mK9 (mt160.1.name == "<init>") mt160 = true := by decide +kernel
set_option maxRecDepth 100000 in
theorem mt161_ck : am_all mK2 (mt161.1.name == "<init>") mt161 = true := by decide +kernel
set_option maxRecDepth 100000 in
theorem mt162_ck : am_all mK9 (mt162.1.name == "<init>") mt162 = true := by decide +kernel
set_option maxRecDepth 100000 in
theorem mt163_ck : am_all mK0 (mt163.1.name == "<init>") mt163 = true := by decide +kernel
set_option maxRecDepth 100000 in
theorem mt164_ck : am_all mK16 (mt164.1.name == "<init>") mt164 = true := by decide +kernel
set_option maxRecDepth 100000 in
theorem mt165_ck : am_all mK9 (mt165.1.name == "<init>") mt165 = true := by decide +kernel
set_option maxRecDepth 100000 in
theorem mt166_ck : am_all mK0 (mt166.1.name == "<init>") mt166 = true := by decide +kernel
set_option maxRecDepth 100000 in
theorem mt167_ck : am_all mK9 (mt167.1.name == "<init>") mt167 = true := by decide +kernel
set_option maxRecDepth 100000 in
theorem mt168_ck : am_all mK0 (mt168.1.name == "<init>") mt168 = true := by decide +kernel
set_option maxRecDepth 100000 in
theorem mt169_ck : am_all mK10 (mt169.1.name == "<init>") mt169 = true := by decide +kernel
set_option maxRecDepth 100000 in
theorem mt170_ck : am_all mK0 (mt170.1.name == "<init>") mt170 = true := by decide +kernel
set_option maxRecDepth 100000 in
theorem mt171_ck : am_all mK9 (mt171.1.name == "<init>") mt171 = true := by decide +kernel
set_option maxRecDepth 100000 in
theorem mt172_ck : am_all mK9 (mt172.1.name == "<init>") mt172 = true := by decide +kernel
set_option maxRecDepth 100000 in
theorem mt173_ck : am_all mK9 (mt173.1.name == "<init>") mt173 = true := by decide +kernel
set_option maxRecDepth 100000 in
theorem mt174_ck : am_all mK2 (mt174.1.name == "<init>") mt174 = true := by decide +kernel
set_option maxRecDepth 100000 in
theorem mt175_ck : am_all mK0 (mt175.1.name == "<init>") mt175 = true := by decide +kernel
set_option maxRecDepth 100000 in
theorem mt176_ck : am_all mK0 (mt176.1.name == "<init>") mt176 = true := by decide +kernel
set_option maxRecDepth 100000 in
theorem mt177_ck : am_all mK0 (mt177.1.name == "<init>") mt177 = true := by decide +kernel
set_option maxRecDepth 100000 in
theorem mt178_ck : am_all mK9 (mt178.1.name == "<init>") mt178 = true := by decide +kernel
set_option maxRecDepth 100000 in
theorem mt179_ck : am_all mK9 (mt179.1.name == "<init>") mt179 = true := by decide +kernel
set_option maxRecDepth 100000 in
theorem mt180_ck : am_all mK9 (mt180.1.name == "<init>") mt180 = true := by decide +kernel
set_option maxRecDepth 100000 in
theorem mt181_ck : am_all mK0 (mt181.1.name == "<init>") mt181 = true := by decide +kernel
set_option maxRecDepth 100000 in
theorem mt182_ck : am_all mK9 (mt182.1.name == "<init>") mt182 = true := by decide +kernel
set_option maxRecDepth 100000 in
theorem mt183_ck : am_all mK0 (mt183.1.name == "<init>") mt183 = true := by decide +kernel
set_option maxRecDepth 100000 in
theorem mt184_ck : am_all mK16 (mt184.1.name == "<init>") mt184 = true := by decide +kernel
set_option maxRecDepth 100000 in
theorem mt185_ck : am_all mK9 (mt185.1.name == "<init>") mt185 = true := by decide +kernel
set_option maxRecDepth 100000 in
theorem mt186_ck : am_all mK9 (mt186.1.name == "<init>") mt186 = true := by decide +kernel
set_option maxRecDepth 100000 in
theorem mt187_ck : am_all mK0 (mt187.1.name == "<init>") mt187 = true := by decide +kernel
set_option maxRecDepth 100000 in
theorem mt188_ck : am_all mK0 (mt188.1.name == "<init>") mt188 = true := by decide +kernel
set_option maxRecDepth 100000 in
theorem mt189_ck : am_all mK9 (mt189.1.name == "<init>") mt189 = true := by decide +kernel
set_option maxRecDepth 100000 in
theorem mt190_ck : am_all mK0 (mt190.1.name == "<init>") mt190 = true := by decide +kernel
set_option maxRecDepth 100000 in
theorem mt191_ck : am_all mK0 (mt191.1.name == "<init>") mt191 = true := by decide +kernel
set_option maxRecDepth 100000 in
theorem mt192_ck : am_all mK0 (mt192.1.name == "<init>") mt192 = true := by decide +kernel
set_option maxRecDepth 100000 in
theorem mt193_ck : am_all mK11 (mt193.1.name == "<init>") mt193 = true := by decide +kernel
set_option maxRecDepth 100000 in
theorem mt194_ck : am_all mK11 (mt194.1.name == "<init>") mt194 = true := by decide +kernel
set_option maxRecDepth 100000 in
theorem mt195_ck : am_all mK11 (mt195.1.name == "<init>") mt195 = true := by decide +kernel
set_option maxRecDepth 100000 in
theorem mt196_ck : am_all mK0 (mt196.1.name == "<init>") mt196 = true := by decide +kernel
set_option maxRecDepth 100000 in
theorem mt197_ck : am_all mK11 (mt197.1.name == "<init>") mt197 = true := by decide +kernel
end
section
/-! PRINTED by wip/whole/gen.py: the checks of the instructions -/
set_option maxRecDepth 100000 in
theorem mt198_ck : am_all mK0 (mt198.1.name == "<init>") mt198 = true := by decide +kernel
set_option maxRecDepth 100000 in
theorem mt199_ck : am_all mK11 (mt199.1.name == "<init>") mt199 = true := by decide +kernel
set_option maxRecDepth 100000 in
theorem mt200_ck : am_all mK9 (mt200.1.name == "<init>") mt200 = true := by decide +kernel
set_option maxRecDepth 100000 in
theorem mt201_ck : am_all mK16 (mt201.1.name == "<init>") mt201 = true := by decide +kernel
set_option maxRecDepth 100000 in
theorem mt202_ck : am_all mK0 (mt202.1.name == "<init>") mt202 = true := by decide +kernel
set_option maxRecDepth 100000 in
theorem mt203_ck : am_all mK11 (mt203.1.name == "<init>") mt203 = true := by decide +kernel
set_option maxRecDepth 100000 in
theorem mt204_ck : am_all mK0 (mt204.1.name == "<init>") mt204 = true := by decide +kernel
set_option maxRecDepth 100000 in
theorem mt205_ck : am_all mK11 (mt205.1.name == "<init>") mt205 = true := by decide +kernel
set_option maxRecDepth 100000 in
theorem mt206_ck : am_all mK0 (mt206.1.name == "<init>") mt206 = true := by decide +kernel
set_option maxRecDepth 100000 in
theorem mt207_ck : am_all mK11 (mt207.1.name == "<init>") mt207 = true := by decide +kernel
set_option maxRecDepth 100000 in
theorem mt208_ck : am_all mK0 (mt208.1.name == "<init>") mt208 = true := by decide +kernel
set_option maxRecDepth 100000 in
theorem mt209_ck : am_all mK11 (mt209.1.name == "<init>") mt209 = true := by decide +kernel
set_option maxRecDepth 100000 in
theorem mt210_ck : am_all mK9 (mt210.1.name == "<init>") mt210 = true := by decide +kernel
set_option maxRecDepth 100000 in
theorem mt211_ck : am_all mK0 (mt211.1.name == "<init>") mt211 = true := by decide +kernel
set_option maxRecDepth 100000 in
theorem mt212_ck : am_all mK11 (mt212.1.name == "<init>") mt212 = true := by decide +kernel
set_option maxRecDepth 100000 in
theorem mt213_ck : am_all mK0 (mt213.1.name == "<init>") mt213 = true := by decide +kernel
set_option maxRecDepth 100000 in
theorem mt214_ck : am_all mK0 (mt214.1.name == "<init>") mt214 = true := by decide +kernel
set_option maxRecDepth 100000 in
theorem mt215_ck : am_all mK13 (mt215.1.name == "<init>") mt215 = true := by decide +kernel
set_option maxRecDepth 100000 in
theorem mt216_ck : am_all mK0 (mt216.1.name == "<init>") mt216 = true := by decide +kernel
set_option maxRecDepth 100000 in
theorem mt217_ck : am_all mK13 (mt217.1.name == "<init>") mt217 = true := by decide +kernel
set_option maxRecDepth 100000 in
theorem mt218_ck : am_all mK13 (mt218.1.name == "<init>") mt218 = true := by decide +kernel
set_option maxRecDepth 100000 in
theorem mt219_ck : am_all mK0 (mt219.1.name == "<init>") mt219 = true := by decide +kernel
set_option maxRecDepth 100000 in
theorem mt220_ck : am_all mK13 (mt220.1.name == "<init>") mt220 = true := by decide +kernel
set_option maxRecDepth 100000 in
theorem mt221_ck : am_all mK13 (mt221.1.name == "<init>") mt221 = true := by decide +kernel
set_option maxRecDepth 100000 in
theorem mt222_ck : am_all mK13 (mt222.1.name == "<init>") mt222 = true := by decide +kernel
set_option maxRecDepth 100000 in
theorem mt223_ck : am_all mK16 (mt223.1.name == "<init>") mt223 = true := by decide +kernel
set_option maxRecDepth 100000 in
theorem mt224_ck : am_all mK13 (mt224.1.name == "<init>") mt224 = true := by decide +kernel
set_option maxRecDepth 100000 in
theorem mt225_ck : am_all mK13 (mt225.1.name == "<init>") mt225 = true := by decide +kernel
set_option maxRecDepth 100000 in
theorem mt226_ck : am_all mK13 (mt226.1.name == "<init>") mt226 = true := by decide +kernel
set_option maxRecDepth 100000 in
theorem mt227_ck : am_all mK13 (mt227.1.name == "<init>") mt227 = true := by decide +kernel
set_option maxRecDepth 100000 in
theorem mt228_ck : am_all mK0 (mt228.1.name == "<init>") mt228 = true := by decide +kernel
set_option maxRecDepth 100000 in
theorem mt229_ck : am_all mK13 (mt229.1.name == "<init>") mt229 = true := by decide +kernel
set_option maxRecDepth 100000 in
theorem mt230_ck : am_all mK0 (mt230.1.name == "<init>") mt230 = true := by decide +kernel
set_option maxRecDepth 100000 in
theorem mt231_ck : am_all mK0 (mt231.1.name == "<init>") mt231 = true := by decide +kernel
set_option maxRecDepth 100000 in
theorem mt232_ck : am_all mK13 (mt232.1.name == "<init>") mt232 = true := by decide +kernel
set_option maxRecDepth 100000 in
theorem mt233_ck : am_all mK0 (mt233.1.name == "<init>") mt233 = true := by decide +kernel
set_option maxRecDepth 100000 in
theorem mt234_ck : am_all mK14 (mt234.1.name == "<init>") mt234 = true := by decide +kernel
set_option maxRecDepth 100000 in
theorem mt235_ck : am_all mK0 (mt235.1.name == "<init>") mt235 = true := by decide +kernel
set_option maxRecDepth 100000 in
theorem mt236_ck : am_all mK14 (mt236.1.name == "<init>") mt236 = true := by decide +kernel
set_option maxRecDepth 100000 in
theorem mt237_ck : am_all mK14 (mt237.1.name == "<init>") mt237 = true := by decide +kernel
set_option maxRecDepth 100000 in
theorem mt238_ck : am_all mK14 (mt238.1.name == "<init>") mt238 = true := by decide +kernel
set_option maxRecDepth 100000 in
theorem mt239_ck : am_all mK14 (mt239.1.name == "<init>") mt239 = true := by decide +kernel
set_option maxRecDepth 100000 in
theorem mt240_ck : am_all mK0 (mt240.1.name == "<init>") mt240 = true := by decide +kernel
set_option maxRecDepth 100000 in
theorem mt241_ck : am_all mK14 (mt241.1.name == "<init>") mt241 = true := by decide +kernel
set_option maxRecDepth 100000 in
theorem mt242_ck : am_all mK0 (mt242.1.name == "<init>") mt242 = true := by decide +kernel
set_option maxRecDepth 100000 in
theorem mt243_ck : am_all mK14 (mt243.1.name == "<init>") mt243 = true := by decide +kernel
set_option maxRecDepth 100000 in
theorem mt244_ck : am_all mK0 (mt244.1.name == "<init>") mt244 = true := by decide +kernel
set_option maxRecDepth 100000 in
theorem mt245_ck : am_all mK15 (mt245.1.name == "<init>") mt245 = true := by decide +kernel
set_option maxRecDepth 100000 in
theorem mt246_ck : am_all mK0 (mt246.1.name == "<init>") mt246 = true := by decide +kernel
set_option maxRecDepth 100000 in
theorem mt247_ck : am_all mK15 (mt247.1.name == "<init>") mt247 = true := by decide +kernel
set_option maxRecDepth 100000 in
theorem mt248_ck : am_all mK15 (mt248.1.name == "<init>") mt248 = true := by decide +kernel
set_option maxRecDepth 100000 in
theorem mt249_ck : am_all mK15 (mt249.1.name == "<init>") mt249 = true := by decide +kernel
set_option maxRecDepth 100000 in
theorem mt250_ck : am_all mK15 (mt250.1.name == "<init>") mt250 = true := by decide +kernel
set_option maxRecDepth 100000 in
theorem mt251_ck : am_all mK15 (mt251.1.name == "<init>") mt251 = true := by decide +kernel
set_option maxRecDepth 100000 in
theorem mt252_ck : am_all mK15 (mt252.1.name == "<init>") mt252 = true := by decide +kernel
set_option maxRecDepth 100000 in
theorem mt253_ck : am_all mK15 (mt253.1.name == "<init>") mt253 = true := by decide +kernel
set_option maxRecDepth 100000 in
theorem mt254_ck : am_all mK15 (mt254.1.name == "<init>") mt254 = true := by decide +kernel
set_option maxRecDepth 100000 in
theorem mt255_ck : am_all mK15 (mt255.1.name == "<init>") mt255 = true := by decide +kernel
set_option maxRecDepth 100000 in
theorem mt256_ck : am_all mK0 (mt256.1.name == "<init>") mt256 = true := by decide +kernel
set_option maxRecDepth 100000 in
theorem mt257_ck : am_all mK15 (mt257.1.name == "<init>") mt257 = true := by decide +kernel
set_option maxRecDepth 100000 in
theorem mt258_ck : am_all mK15 (mt258.1.name == "<init>") mt258 = true := by decide +kernel
set_option maxRecDepth 100000 in
theorem mt259_ck : am_all mK0 (mt259.1.name == "<init>") mt259 = true := by decide +kernel
set_option maxRecDepth 100000 in
theorem mt260_ck : am_all mK9 (mt260.1.name == "<init>") mt260 = true := by decide +kernel
set_option maxRecDepth 100000 in
theorem mt261_ck : am_all mK0 (mt261.1.name == "<init>") mt261 = true := by decide +kernel
set_option maxRecDepth 100000 in
theorem mt262_ck : am_all mK9 (mt262.1.name == "<init>") mt262 = true := by decide +kernel
set_option maxRecDepth 100000 in
theorem mt263_ck : am_all mK0 (mt263.1.name == "<init>") mt263 = true := by decide +kernel
set_option maxRecDepth 100000 in
theorem mt264_ck : am_all mK16 (mt264.1.name == "<init>") mt264 = true := by decide +kernel
set_option maxRecDepth 100000 in
theorem mt265_ck : am_all mK9 (mt265.1.name == "<init>") mt265 = true := by decide +kernel
set_option maxRecDepth 100000 in
theorem mt266_ck : am_all mK0 (mt266.1.name == "<init>") mt266 = true := by decide +kernel
set_option maxRecDepth 100000 in
theorem mt267_ck : am_all mK9 (mt267.1.name == "<init>") mt267 = true := by decide +kernel
set_option maxRecDepth 100000 in
theorem mt268_ck : am_all mK18 (mt268.1.name == "<init>") mt268 = true := by decide +kernel
set_option maxRecDepth 100000 in
theorem mt269_ck : am_all mK18 (mt269.1.name == "<init>") mt269 = true := by decide +kernel
set_option maxRecDepth 100000 in
theorem mt270_ck : am_all mK18 (mt270.1.name == "<init>") mt270 = true := by decide +kernel
set_option maxRecDepth 100000 in
theorem mt271_ck : am_all mK18 (mt271.1.name == "<init>") mt271 = true := by decide +kernel
set_option maxRecDepth 100000 in
theorem mt272_ck : am_all mK18 (mt272.1.name == "<init>") mt272 = true := by decide +kernel
set_option maxRecDepth 100000 in
theorem mt273_ck : am_all mK18 (mt273.1.name == "<init>") mt273 = true := by decide +kernel
set_option maxRecDepth 100000 in
theorem mt274_ck : am_all mK18 (mt274.1.name == "<init>") mt274 = true := by decide +kernel
end
section
/-! PRINTED by wip/whole/gen.py: the checks of the instructions -/
set_option maxRecDepth 100000 in
theorem mt275_ck : am_all mK18 (mt275.1.name == "<init>") mt275 = true := by decide +kernel
set_option maxRecDepth 100000 in
theorem mt276_ck : am_all mK18 (mt276.1.name == "<init>") mt276 = true := by decide +kernel
set_option maxRecDepth 100000 in
theorem mt277_ck : am_all mK18 (mt277.1.name == "<init>") mt277 = true := by decide +kernel
set_option maxRecDepth 100000 in
theorem mt278_ck : am_all mK18 (mt278.1.name == "<init>") mt278 = true := by decide +kernel
set_option maxRecDepth 100000 in
theorem mt279_ck : am_all mK18 (mt279.1.name == "<init>") mt279 = true := by decide +kernel
set_option maxRecDepth 100000 in
theorem mt280_ck : am_all mK18 (mt280.1.name == "<init>") mt280 = true := by decide +kernel
set_option maxRecDepth 100000 in
theorem mt281_ck : am_all mK18 (mt281.1.name == "<init>") mt281 = true := by decide +kernel
set_option maxRecDepth 100000 in
theorem mt282_ck : am_all mK18 (mt282.1.name == "<init>") mt282 = true := by decide +kernel
set_option maxRecDepth 100000 in
theorem mt283_ck : am_all mK18 (mt283.1.name == "<init>") mt283 = true := by decide +kernel
set_option maxRecDepth 100000 in
theorem mt284_ck : am_all mK18 (mt284.1.name == "<init>") mt284 = true := by decide +kernel
set_option maxRecDepth 100000 in
theorem mt285_ck : am_all mK18 (mt285.1.name == "<init>") mt285 = true := by decide +kernel
set_option maxRecDepth 100000 in
theorem mt286_ck : am_all mK18 (mt286.1.name == "<init>") mt286 = true := by decide +kernel
set_option maxRecDepth 100000 in
theorem mt287_ck : am_all mK18 (mt287.1.name == "<init>") mt287 = true := by decide +kernel
set_option maxRecDepth 100000 in
theorem mt288_ck : am_all mK18 (mt288.1.name == "<init>") mt288 = true := by decide +kernel
set_option maxRecDepth 100000 in
theorem mt289_ck : am_all mK18 (mt289.1.name == "<init>") mt289 = true := by decide +kernel
set_option maxRecDepth 100000 in
theorem mt290_ck : am_all mK18 (mt290.1.name == "<init>") mt290 = true := by decide +kernel
set_option maxRecDepth 100000 in
theorem mt291_ck : am_all mK18 (mt291.1.name == "<init>") mt291 = true := by decide +kernel
set_option maxRecDepth 100000 in
theorem mt292_ck : am_all mK18 (mt292.1.name == "<init>") mt292 = true := by decide +kernel
set_option maxRecDepth 100000 in
theorem mt293_ck : am_all mK18 (mt293.1.name == "<init>") mt293 = true := by decide +kernel
set_option maxRecDepth 100000 in
theorem mt294_ck : am_all mK18 (mt294.1.name == "<init>") mt294 = true := by decide +kernel
set_option maxRecDepth 100000 in
theorem mt295_ck : am_all mK18 (mt295.1.name == "<init>") mt295 = true := by decide +kernel
set_option maxRecDepth 100000 in
theorem mt296_ck : am_all mK18 (mt296.1.name == "<init>") mt296 = true := by decide +kernel
set_option maxRecDepth 100000 in
theorem mt297_ck : am_all mK18 (mt297.1.name == "<init>") mt297 = true := by decide +kernel
set_option maxRecDepth 100000 in
theorem mt298_ck : am_all mK18 (mt298.1.name == "<init>") mt298 = true := by decide +kernel
set_option maxRecDepth 100000 in
theorem mt299_ck : am_all mK18 (mt299.1.name == "<init>") mt299 = true := by decide +kernel
set_option maxRecDepth 100000 in
theorem mt300_ck : am_all mK18 (mt300.1.name == "<init>") mt300 = true := by decide +kernel
set_option maxRecDepth 100000 in
theorem mt301_ck : am_all mK18 (mt301.1.name == "<init>") mt301 = true := by decide +kernel
set_option maxRecDepth 100000 in
theorem mt302_ck : am_all mK18 (mt302.1.name == "<init>") mt302 = true := by decide +kernel
set_option maxRecDepth 100000 in
theorem mt303_ck : am_all mK18 (mt303.1.name == "<init>") mt303 = true := by decide +kernel
set_option maxRecDepth 100000 in
theorem mt304_ck : am_all mK18 (mt304.1.name == "<init>") mt304 = true := by decide +kernel
set_option maxRecDepth 100000 in
theorem mt305_ck : am_all mK18 (mt305.1.name == "<init>") mt305 = true := by decide +kernel
set_option maxRecDepth 100000 in
theorem mt306_ck : am_all mK18 (mt306.1.name == "<init>") mt306 = true := by decide +kernel
set_option maxRecDepth 100000 in
theorem mt307_ck : am_all mK18 (mt307.1.name == "<init>") mt307 = true := by decide +kernel
set_option maxRecDepth 100000 in
theorem mt308_ck : am_all mK18 (mt308.1.name == "<init>") mt308 = true := by decide +kernel
set_option maxRecDepth 100000 in
theorem mt309_ck : am_all mK18 (mt309.1.name == "<init>") mt309 = true := by decide +kernel
set_option maxRecDepth 100000 in
theorem mt310_ck : am_all mK18 (mt310.1.name == "<init>") mt310 = true := by decide +kernel
set_option maxRecDepth 100000 in
theorem mt311_ck : am_all mK18 (mt311.1.name == "<init>") mt311 = true := by decide +kernel
set_option maxRecDepth 100000 in
theorem mt312_ck : am_all mK18 (mt312.1.name == "<init>") mt312 = true := by decide +kernel
set_option maxRecDepth 100000 in
theorem mt313_ck : am_all mK18 (mt313.1.name == "<init>") mt313 = true := by decide +kernel
set_option maxRecDepth 100000 in
theorem mt314_ck : am_all mK18 (mt314.1.name == "<init>") mt314 = true := by decide +kernel
set_option maxRecDepth 100000 in
theorem mt315_ck : am_all mK18 (mt315.1.name == "<init>") mt315 = true := by decide +kernel
set_option maxRecDepth 100000 in
theorem mt316_ck : am_all mK18 (mt316.1.name == "<init>") mt316 = true := by decide +kernel
set_option maxRecDepth 100000 in
theorem mt317_ck : am_all mK18 (mt317.1.name == "<init>") mt317 = true := by decide +kernel
set_option maxRecDepth 100000 in
theorem mt318_ck : am_all mK18 (mt318.1.name == "<init>") mt318 = true := by decide +kernel
set_option maxRecDepth 100000 in
theorem mt319_ck : am_all mK18 (mt319.1.name == "<init>") mt319 = true := by decide +kernel
set_option maxRecDepth 100000 in
theorem mt320_ck : am_all mK18 (mt320.1.name == "<init>") mt320 = true := by decide +kernel
set_option maxRecDepth 100000 in
theorem mt321_ck : am_all mK18 (mt321.1.name == "<init>") mt321 = true := by decide +kernel
set_option maxRecDepth 100000 in
theorem mt322_ck : am_all mK18 (mt322.1.name == "<init>") mt322 = true := by decide +kernel
set_option maxRecDepth 100000 in
theorem mt323_ck : am_all mK18 (mt323.1.name == "<init>") mt323 = true := by decide +kernel
set_option maxRecDepth 100000 in
theorem mt324_ck : am_all mK18 (mt324.1.name == "<init>") mt324 = true := by decide +kernel
set_option maxRecDepth 100000 in
theorem mt325_ck : am_all mK18 (mt325.1.name == "<init>") mt325 = true := by decide +kernel
set_option maxRecDepth 100000 in
theorem mt326_ck : am_all mK18 (mt326.1.name == "<init>") mt326 = true := by decide +kernel
set_option maxRecDepth 100000 in
theorem mt327_ck : am_all mK18 (mt327.1.name == "<init>") mt327 = true := by decide +kernel
set_option maxRecDepth 100000 in
theorem mt328_ck : am_all mK18 (mt328.1.name == "<init>") mt328 = true := by decide +kernel
set_option maxRecDepth 100000 in
theorem mt329_ck : am_all mK18 (mt329.1.name == "<init>") mt329 = true := by decide +kernel
set_option maxRecDepth 100000 in
theorem mt330_ck : am_all mK18 (mt330.1.name == "<init>") mt330 = true := by decide +kernel
set_option maxRecDepth 100000 in
theorem mt331_ck : am_all mK18 (mt331.1.name == "<init>") mt331 = true := by decide +kernel
set_option maxRecDepth 100000 in
theorem mt332_ck : am_all mK18 (mt332.1.name == "<init>") mt332 = true := by decide +kernel
set_option maxRecDepth 100000 in
theorem mt333_ck : am_all mK18 (mt333.1.name == "<init>") mt333 = true := by decide +kernel
set_option maxRecDepth 100000 in
theorem mt334_ck : am_all mK18 (mt334.1.name == "<init>") mt334 = true := by decide +kernel
set_option maxRecDepth 100000 in
theorem mt335_ck : am_all mK18 (mt335.1.name == "<init>") mt335 = true := by decide +kernel
end
section
/-! PRINTED by wip/whole/gen.py: the checks of the instructions -/
set_option maxRecDepth 100000 in
theorem mt336_ck : am_all mK18 (mt336.1.name == "<init>") mt336 = true := by decide +kernel
set_option maxRecDepth 100000 in
theorem mt337_ck : am_all mK18 (mt337.1.name == "<init>") mt337 = true := by decide +kernel
set_option maxRecDepth 100000 in
theorem mt338_ck : am_all mK18 (mt338.1.name == "<init>") mt338 = true := by decide +kernel
set_option maxRecDepth 100000 in
theorem mt339_ck : am_all mK18 (mt339.1.name == "<init>") mt339 = true := by decide +kernel
set_option maxRecDepth 100000 in
theorem mt340_ck : am_all mK18 (mt340.1.name == "<init>") mt340 = true := by decide +kernel
set_option maxRecDepth 100000 in
theorem mt341_ck : am_all mK18 (mt341.1.name == "<init>") mt341 = true := by decide +kernel
set_option maxRecDepth 100000 in
theorem mt342_ck : am_all mK18 (mt342.1.name == "<init>") mt342 = true := by decide +kernel
set_option maxRecDepth 100000 in
theorem mt343_ck : am_all mK18 (mt343.1.name == "<init>") mt343 = true := by decide +kernel
set_option maxRecDepth 100000 in
theorem mt344_ck : am_all mK18 (mt344.1.name == "<init>") mt344 = true := by decide +kernel
set_option maxRecDepth 100000 in
theorem mt345_ck : am_all mK18 (mt345.1.name == "<init>") mt345 = true := by decide +kernel
set_option maxRecDepth 100000 in
theorem mt346_ck : am_all mK18 (mt346.1.name == "<init>") mt346 = true := by decide +kernel
set_option maxRecDepth 100000 in
theorem mt347_ck : am_all mK18 (mt347.1.name == "<init>") mt347 = true := by decide +kernel
set_option maxRecDepth 100000 in
theorem mt348_ck : am_all mK18 (mt348.1.name == "<init>") mt348 = true := by decide +kernel
set_option maxRecDepth 100000 in
theorem mt349_ck : am_all mK18 (mt349.1.name == "<init>") mt349 = true := by decide +kernel
set_option maxRecDepth 100000 in
theorem mt350_ck : am_all mK18 (mt350.1.name == "<init>") mt350 = true := by decide +kernel
set_option maxRecDepth 100000 in
theorem mt351_ck : am_all mK18 (mt351.1.name == "<init>") mt351 = true := by decide +kernel
set_option maxRecDepth 100000 in
theorem mt352_ck : am_all mK18 (mt352.1.name == "<init>") mt352 = true := by decide +kernel
set_option maxRecDepth 100000 in
theorem mt353_ck : am_all mK18 (mt353.1.name == "<init>") mt353 = true := by decide +kernel
set_option maxRecDepth 100000 in
theorem mt354_ck : am_all mK18 (mt354.1.name == "<init>") mt354 = true := by decide +kernel
set_option maxRecDepth 100000 in
theorem mt355_ck : am_all mK18 (mt355.1.name == "<init>") mt355 = true := by decide +kernel
set_option maxRecDepth 100000 in
theorem mt356_ck : am_all mK18 (mt356.1.name == "<init>") mt356 = true := by decide +kernel
set_option maxRecDepth 100000 in
theorem mt357_ck : am_all mK18 (mt357.1.name == "<init>") mt357 = true := by decide +kernel
set_option maxRecDepth 100000 in
theorem mt358_ck : am_all mK18 (mt358.1.name == "<init>") mt358 = true := by decide +kernel
set_option maxRecDepth 100000 in
theorem mt359_ck : am_all mK18 (mt359.1.name == "<init>") mt359 = true := by decide +kernel
set_option maxRecDepth 100000 in
theorem mt360_ck : am_all mK18 (mt360.1.name == "<init>") mt360 = true := by decide +kernel
set_option maxRecDepth 100000 in
theorem mt361_ck : am_all mK18 (mt361.1.name == "<init>") mt361 = true := by decide +kernel
set_option maxRecDepth 100000 in
theorem mt362_ck : am_all mK18 (mt362.1.name == "<init>") mt362 = true := by decide +kernel
set_option maxRecDepth 100000 in
theorem mt363_ck : am_all mK18 (mt363.1.name == "<init>") mt363 = true := by decide +kernel
set_option maxRecDepth 100000 in
theorem mt364_ck : am_all mK18 (mt364.1.name == "<init>") mt364 = true := by decide +kernel
set_option maxRecDepth 100000 in
theorem mt365_ck : am_all mK18 (mt365.1.name == "<init>") mt365 = true := by decide +kernel
set_option maxRecDepth 100000 in
theorem mt366_ck : am_all mK18 (mt366.1.name == "<init>") mt366 = true := by decide +kernel
set_option maxRecDepth 100000 in
theorem mt367_ck : am_all mK18 (mt367.1.name == "<init>") mt367 = true := by decide +kernel
set_option maxRecDepth 100000 in
theorem mt368_ck : am_all mK18 (mt368.1.name == "<init>") mt368 = true := by decide +kernel
set_option maxRecDepth 100000 in
theorem mt369_ck : am_all mK18 (mt369.1.name == "<init>") mt369 = true := by decide +kernel
set_option maxRecDepth 100000 in
theorem mt370_ck : am_all mK18 (mt370.1.name == "<init>") mt370 = true := by decide +kernel
set_option maxRecDepth 100000 in
theorem mt371_ck : am_all mK18 (mt371.1.name == "<init>") mt371 = true := by decide +kernel
set_option maxRecDepth 100000 in
theorem mt372_ck : am_all mK18 (mt372.1.name == "<init>") mt372 = true := by decide +kernel
set_option maxRecDepth 100000 in
theorem mt373_ck : am_all mK18 (mt373.1.name == "<init>") mt373 = true := by decide +kernel
set_option maxRecDepth 100000 in
theorem mt374_ck : am_all mK18 (mt374.1.name == "<init>") mt374 = true := by decide +kernel
set_option maxRecDepth 100000 in
theorem mt375_ck : am_all mK18 (mt375.1.name == "<init>") mt375 = true := by decide +kernel
set_option maxRecDepth 100000 in
theorem mt376_ck : am_all mK18 (mt376.1.name == "<init>") mt376 = true := by decide +kernel
set_option maxRecDepth 100000 in
theorem mt377_ck : am_all mK18 (mt377.1.name == "<init>") mt377 = true := by decide +kernel
set_option maxRecDepth 100000 in
theorem mt378_ck : am_all mK18 (mt378.1.name == "<init>") mt378 = true := by decide +kernel
set_option maxRecDepth 100000 in
theorem mt379_ck : am_all mK18 (mt379.1.name == "<init>") mt379 = true := by decide +kernel
set_option maxRecDepth 100000 in
theorem mt380_ck : am_all mK18 (mt380.1.name == "<init>") mt380 = true := by decide +kernel
set_option maxRecDepth 100000 in
theorem mt381_ck : am_all mK18 (mt381.1.name == "<init>") mt381 = true := by decide +kernel
set_option maxRecDepth 100000 in
theorem mt382_ck : am_all mK18 (mt382.1.name == "<init>") mt382 = true := by decide +kernel
set_option maxRecDepth 100000 in
theorem mt383_ck : am_all mK18 (mt383.1.name == "<init>") mt383 = true := by decide +kernel
set_option maxRecDepth 100000 in
theorem mt384_ck : am_all mK18 (mt384.1.name == "<init>") mt384 = true := by decide +kernel
set_option maxRecDepth 100000 in
theorem mt385_ck : am_all mK18 (mt385.1.name == "<init>") mt385 = true := by decide +kernel
set_option maxRecDepth 100000 in
theorem mt386_ck : am_all mK18 (mt386.1.name == "<init>") mt386 = true := by decide +kernel
set_option maxRecDepth 100000 in
theorem mt387_ck : am_all mK18 (mt387.1.name == "<init>") mt387 = true := by decide +kernel
set_option maxRecDepth 100000 in
theorem mt388_ck : am_all mK18 (mt388.1.name == "<init>") mt388 = true := by decide +kernel
set_option maxRecDepth 100000 in
theorem mt389_ck : am_all mK18 (mt389.1.name == "<init>") mt389 = true := by decide +kernel
set_option maxRecDepth 100000 in
theorem mt390_ck : am_all mK18 (mt390.1.name == "<init>") mt390 = true := by decide +kernel
set_option maxRecDepth 100000 in
theorem mt391_ck : am_all mK18 (mt391.1.name == "<init>") mt391 = true := by decide +kernel
set_option maxRecDepth 100000 in
theorem mt392_ck : am_all mK18 (mt392.1.name == "<init>") mt392 = true := by decide +kernel
set_option maxRecDepth 100000 in
theorem mt393_ck : am_all mK18 (mt393.1.name == "<init>") mt393 = true := by decide +kernel
set_option maxRecDepth 100000 in
theorem mt394_ck : am_all mK18 (mt394.1.name == "<init>") mt394 = true := by decide +kernel
set_option maxRecDepth 100000 in
theorem mt395_ck : am_all mK18 (mt395.1.name == "<init>") mt395 = true := by decide +kernel
set_option maxRecDepth 100000 in
theorem mt396_ck : am_all mK18 (mt396.1.name == "<init>") mt396 = true := by decide +kernel
set_option maxRecDepth 100000 in
theorem mt397_ck : am_all mK18 (mt397.1.name == "<init>") mt397 = true := by decide +kernel
set_option maxRecDepth 100000 in
theorem mt398_ck : am_all mK18 (mt398.1.name == "<init>") mt398 = true := by decide +kernel
set_option maxRecDepth 100000 in
theorem mt399_ck : am_all mK18 (mt399.1.name == "<init>") mt399 = true := by decide +kernel
set_option maxRecDepth 100000 in
theorem mt400_ck : am_all mK18 (mt400.1.name == "<init>") mt400 = true := by decide +kernel
set_option maxRecDepth 100000 in
theorem mt401_ck : am_all mK18 (mt401.1.name == "<init>") mt401 = true := by decide +kernel
set_option maxRecDepth 100000 in
theorem mt402_ck : am_all mK18 (mt402.1.name == "<init>") mt402 = true := by decide +kernel
end
section
/-! PRINTED by wip/whole/gen.py: the checks of the instructions -/
set_option maxRecDepth 100000 in
theorem mt403_ck : am_all mK18 (mt403.1.name == "<init>") mt403 = true := by decide +kernel
set_option maxRecDepth 100000 in
theorem mt404_ck : am_all mK18 (mt404.1.name == "<init>") mt404 = true := by decide +kernel
set_option maxRecDepth 100000 in
theorem mt405_ck : am_all mK18 (mt405.1.name == "<init>") mt405 = true := by decide +kernel
set_option maxRecDepth 100000 in
theorem mt406_ck : am_all mK18 (mt406.1.name == "<init>") mt406 = true := by decide +kernel
set_option maxRecDepth 100000 in
theorem mt407_ck : am_all mK18 (mt407.1.name == "<init>") mt407 = true := by decide +kernel
set_option maxRecDepth 100000 in
theorem mt408_ck : am_all mK18 (mt408.1.name == "<init>") mt408 = true := by decide +kernel
set_option maxRecDepth 100000 in
theorem mt409_ck : am_all mK18 (mt409.1.name == "<init>") mt409 = true := by decide +kernel
set_option maxRecDepth 100000 in
theorem mt410_ck : am_all mK18 (mt410.1.name == "<init>") mt410 = true := by decide +kernel
set_option maxRecDepth 100000 in
theorem mt411_ck : am_all mK18 (mt411.1.name == "<init>") mt411 = true := by decide +kernel
set_option maxRecDepth 100000 in
theorem mt412_ck : am_all mK18 (mt412.1.name == "<init>") mt412 = true := by decide +kernel
set_option maxRecDepth 100000 in
theorem mt413_ck : am_all mK18 (mt413.1.name == "<init>") mt413 = true := by decide +kernel
set_option maxRecDepth 100000 in
theorem mt414_ck : am_all mK18 (mt414.1.name == "<init>") mt414 = true := by decide +kernel
set_option maxRecDepth 100000 in
theorem mt415_ck : am_all mK18 (mt415.1.name == "<init>") mt415 = true := by decide +kernel
set_option maxRecDepth 100000 in
theorem mt416_ck : am_all mK18 (mt416.1.name == "<init>") mt416 = true := by decide +kernel
set_option maxRecDepth 100000 in
theorem mt417_ck : am_all mK18 (mt417.1.name == "<init>") mt417 = true := by decide +kernel
set_option maxRecDepth 100000 in
theorem mt418_ck : am_all mK18 (mt418.1.name == "<init>") mt418 = true := by decide +kernel
end
section
/-! PRINTED by wip/whole/gen.py: the checks of the instructions -/
set_option maxRecDepth 100000 in
theorem mtL_ck : am_all mK19 (mtL.1.name == "<init>") mtL = true := by decide +kernel
end
section
/-! PRINTED by wip/whole/gen.py: the program as am_met wants it -/
set_option maxRecDepth 100000 in
theorem m_cw0 : am_cwb m_Tc "AssizeRide" mT0 [3050, 3052, 3054, 3056, 3058, 3060, 3062, 3064, 3066, 3068, 3070, 3072, 3074] 13 = true := by decide +kernel
set_option maxRecDepth 100000 in
theorem m_ct0 : ∀ k, k < 13 → parseFieldDescriptor (mT0 k).2.2.1 = some ((m_tt.getD 0 []).getD k .char) := by decide +kernel
set_option maxRecDepth 100000 in
theorem m_cn0 : ∀ a, a < 13 → ∀ b, b < 13 → a ≠ b → (mT0 a).2.1 ≠ (mT0 b).2.1 := by decide +kernel
set_option maxRecDepth 100000 in
theorem m_cw1 : am_cwb m_Tc "AssizeRide$Tape" mT1 [1046, 1048, 1050, 1052, 1054, 1056, 1058] 7 = true := by decide +kernel
set_option maxRecDepth 100000 in
theorem m_ct1 : ∀ k, k < 7 → parseFieldDescriptor (mT1 k).2.2.1 = some ((m_tt.getD 1 []).getD k .char) := by decide +kernel
set_option maxRecDepth 100000 in
theorem m_cn1 : ∀ a, a < 7 → ∀ b, b < 7 → a ≠ b → (mT1 a).2.1 ≠ (mT1 b).2.1 := by decide +kernel
set_option maxRecDepth 100000 in
theorem m_cw2 : am_cwb m_Tc "AssizeRide$People" mT2 [1080, 1082, 1084, 1086, 1088, 1090, 1092, 1094, 1096] 9 = true := by decide +kernel
set_option maxRecDepth 100000 in
theorem m_ct2 : ∀ k, k < 9 → parseFieldDescriptor (mT2 k).2.2.1 = some ((m_tt.getD 2 []).getD k .char) := by decide +kernel
set_option maxRecDepth 100000 in
theorem m_cn2 : ∀ a, a < 9 → ∀ b, b < 9 → a ≠ b → (mT2 a).2.1 ≠ (mT2 b).2.1 := by decide +kernel
set_option maxRecDepth 100000 in
theorem m_cw3 : am_cwb m_Tc "AssizeRide$Law" mT3 [1120, 1122, 1124, 1126, 1128, 1130, 1132, 1134, 1136, 1138, 1140, 1142, 1144] 13 = true := by decide +kernel
set_option maxRecDepth 100000 in
theorem m_ct3 : ∀ k, k < 13 → parseFieldDescriptor (mT3 k).2.2.1 = some ((m_tt.getD 3 []).getD k .char) := by decide +kernel
set_option maxRecDepth 100000 in
theorem m_cn3 : ∀ a, a < 13 → ∀ b, b < 13 → a ≠ b → (mT3 a).2.1 ≠ (mT3 b).2.1 := by decide +kernel
set_option maxRecDepth 100000 in
theorem m_cw4 : am_cwb m_Tc "AssizeRide$ActReader" mT4 [1229, 1231, 1233, 1235, 1237, 1239, 2001, 2003, 2005, 2007, 2009, 2011, 2013, 2015, 2017, 2019, 2021] 17 = true := by decide +kernel
set_option maxRecDepth 100000 in
theorem m_ct4 : ∀ k, k < 17 → parseFieldDescriptor (mT4 k).2.2.1 = some ((m_tt.getD 4 []).getD k .char) := by decide +kernel
set_option maxRecDepth 100000 in
theorem m_cn4 : ∀ a, a < 17 → ∀ b, b < 17 → a ≠ b → (mT4 a).2.1 ≠ (mT4 b).2.1 := by decide +kernel
set_option maxRecDepth 100000 in
theorem m_cw5 : am_cwb m_Tc "AssizeRide$Docket" mT5 [2079, 2081, 2083, 2085, 2087, 2089, 2091, 2093, 2095, 2097, 2099, 2101, 2103, 2105, 2107, 2109, 2111, 2113] 18 = true := by decide +kernel
set_option maxRecDepth 100000 in
theorem m_ct5 : ∀ k, k < 18 → parseFieldDescriptor (mT5 k).2.2.1 = some ((m_tt.getD 5 []).getD k .char) := by decide +kernel
set_option maxRecDepth 100000 in
theorem m_cn5 : ∀ a, a < 18 → ∀ b, b < 18 → a ≠ b → (mT5 a).2.1 ≠ (mT5 b).2.1 := by decide +kernel
set_option maxRecDepth 100000 in
theorem m_cw6 : am_cwb m_Tc "AssizeRide$Row" mT6 [2049, 2051, 2053, 2055] 4 = true := by decide +kernel
set_option maxRecDepth 100000 in
theorem m_ct6 : ∀ k, k < 4 → parseFieldDescriptor (mT6 k).2.2.1 = some ((m_tt.getD 6 []).getD k .char) := by decide +kernel
set_option maxRecDepth 100000 in
theorem m_cn6 : ∀ a, a < 4 → ∀ b, b < 4 → a ≠ b → (mT6 a).2.1 ≠ (mT6 b).2.1 := by decide +kernel
set_option maxRecDepth 100000 in
theorem m_cw7 : am_cwb m_Tc "AssizeRide$Gaols" mT7 [2141, 2143, 2145, 2147, 2149, 2151, 2153, 2155, 2157, 2159, 2161, 2163, 2165, 2167] 14 = true := by decide +kernel
set_option maxRecDepth 100000 in
theorem m_ct7 : ∀ k, k < 14 → parseFieldDescriptor (mT7 k).2.2.1 = some ((m_tt.getD 7 []).getD k .char) := by decide +kernel
set_option maxRecDepth 100000 in
theorem m_cn7 : ∀ a, a < 14 → ∀ b, b < 14 → a ≠ b → (mT7 a).2.1 ≠ (mT7 b).2.1 := by decide +kernel
set_option maxRecDepth 100000 in
theorem m_cw8 : am_cwb m_Tc "AssizeRide$DayOrder" mT8 [2186, 2188, 2190, 2192, 2194, 2196, 2198, 2200, 2202] 9 = true := by decide +kernel
set_option maxRecDepth 100000 in
theorem m_ct8 : ∀ k, k < 9 → parseFieldDescriptor (mT8 k).2.2.1 = some ((m_tt.getD 8 []).getD k .char) := by decide +kernel
set_option maxRecDepth 100000 in
theorem m_cn8 : ∀ a, a < 9 → ∀ b, b < 9 → a ≠ b → (mT8 a).2.1 ≠ (mT8 b).2.1 := by decide +kernel
set_option maxRecDepth 100000 in
theorem m_cw9 : am_cwb m_Tc "AssizeRide$Circuit" mT9 [2225, 2227, 2229, 2231, 2233, 2235, 2237, 2239, 3001, 3003, 3005, 3007] 12 = true := by decide +kernel
set_option maxRecDepth 100000 in
theorem m_ct9 : ∀ k, k < 12 → parseFieldDescriptor (mT9 k).2.2.1 = some ((m_tt.getD 9 []).getD k .char) := by decide +kernel
set_option maxRecDepth 100000 in
theorem m_cn9 : ∀ a, a < 12 → ∀ b, b < 12 → a ≠ b → (mT9 a).2.1 ≠ (mT9 b).2.1 := by decide +kernel
set_option maxRecDepth 100000 in
theorem m_cw10 : am_cwb m_Tc "AssizeRide$Rolls" mT10 [3022, 3024, 3026, 3028, 3030, 3032] 6 = true := by decide +kernel
set_option maxRecDepth 100000 in
theorem m_ct10 : ∀ k, k < 6 → parseFieldDescriptor (mT10 k).2.2.1 = some ((m_tt.getD 10 []).getD k .char) := by decide +kernel
set_option maxRecDepth 100000 in
theorem m_cn10 : ∀ a, a < 6 → ∀ b, b < 6 → a ≠ b → (mT10 a).2.1 ≠ (mT10 b).2.1 := by decide +kernel
set_option maxRecDepth 100000 in
theorem m_cw11 : am_cwb m_Tc "AssizeRide$Matter" mT11 [5148, 5150, 5152, 5154, 5156, 5158, 5160, 5162, 5164, 5166, 5168, 5170, 5172, 5174, 5176, 5178, 5180, 5182, 5184, 5186, 5188] 21 = true := by decide +kernel
set_option maxRecDepth 100000 in
theorem m_ct11 : ∀ k, k < 21 → parseFieldDescriptor (mT11 k).2.2.1 = some ((m_tt.getD 11 []).getD k .char) := by decide +kernel
set_option maxRecDepth 100000 in
theorem m_cn11 : ∀ a, a < 21 → ∀ b, b < 21 → a ≠ b → (mT11 a).2.1 ≠ (mT11 b).2.1 := by decide +kernel
set_option maxRecDepth 100000 in
theorem m_cw12 : am_cwb m_Tc "AssizeRideModel" mT12 [8198, 8200, 8202, 8204, 8206, 8208, 8210, 8212, 8214, 8216, 8218, 8220, 8222, 8224, 8226, 8228, 8230, 8232, 8234, 8236, 8238, 9000, 9002, 9004, 9006, 9008, 9010, 9012, 9014, 9016, 9018, 9020, 9022, 9024, 9026, 9028, 9030, 9032, 9034, 9036, 9038, 9040, 9042, 9044, 9046, 9048, 9050, 9052, 9054, 9056, 9058, 9060, 9062, 9064, 9066, 9068, 9070, 9072, 9074, 9076, 9078, 9080, 9082, 9084, 9086, 9088, 9090, 9092, 9094, 9096, 9098, 9100, 9102, 9104, 9106, 9108, 9110, 9112, 9114, 9116, 9118, 9120, 9122, 9124, 9126, 9128, 9130, 9132, 9134, 9136, 9138, 9140, 9142, 9144, 9146, 9148, 9150, 9152, 9154, 9156, 9158, 9160, 9162, 9164, 9166, 9168, 9170, 9172, 9174, 9176, 9178, 9180, 9182, 9184, 9186, 9188, 9190, 9192, 9194, 9196, 9198, 9200, 9202, 9204, 9206, 9208, 9210, 9212, 9214, 9216, 9218, 9220, 9222, 9224, 9226, 9228, 9230, 9232, 9234, 9236] 140 = true := by decide +kernel
set_option maxRecDepth 100000 in
theorem m_ct12 : ∀ k, k < 140 → parseFieldDescriptor (mT12 k).2.2.1 = some ((m_tt.getD 12 []).getD k .char) := by decide +kernel
set_option maxRecDepth 100000 in
theorem m_cn12 : ∀ a, a < 140 → ∀ b, b < 140 → a ≠ b → (mT12 a).2.1 ≠ (mT12 b).2.1 := by decide +kernel
theorem m_clok : am_clok m_cl m_tt m_Ts := by
  intro ci r h
  match ci, h with
  | 0, h => cases h; exact ⟨am_cwb_ok m_Tc_in m_cw0, m_ct0, m_cn0⟩
  | 1, h => cases h; exact ⟨am_cwb_ok m_Tc_in m_cw1, m_ct1, m_cn1⟩
  | 2, h => cases h; exact ⟨am_cwb_ok m_Tc_in m_cw2, m_ct2, m_cn2⟩
  | 3, h => cases h; exact ⟨am_cwb_ok m_Tc_in m_cw3, m_ct3, m_cn3⟩
  | 4, h => cases h; exact ⟨am_cwb_ok m_Tc_in m_cw4, m_ct4, m_cn4⟩
  | 5, h => cases h; exact ⟨am_cwb_ok m_Tc_in m_cw5, m_ct5, m_cn5⟩
  | 6, h => cases h; exact ⟨am_cwb_ok m_Tc_in m_cw6, m_ct6, m_cn6⟩
  | 7, h => cases h; exact ⟨am_cwb_ok m_Tc_in m_cw7, m_ct7, m_cn7⟩
  | 8, h => cases h; exact ⟨am_cwb_ok m_Tc_in m_cw8, m_ct8, m_cn8⟩
  | 9, h => cases h; exact ⟨am_cwb_ok m_Tc_in m_cw9, m_ct9, m_cn9⟩
  | 10, h => cases h; exact ⟨am_cwb_ok m_Tc_in m_cw10, m_ct10, m_cn10⟩
  | 11, h => cases h; exact ⟨am_cwb_ok m_Tc_in m_cw11, m_ct11, m_cn11⟩
  | 12, h => cases h; exact ⟨am_cwb_ok m_Tc_in m_cw12, m_ct12, m_cn12⟩
  | n + 13, h => cases h
end
section
/-! PRINTED by wip/whole/gen.py: the program as am_met wants it -/
theorem m_cd {k i : Nat} {c : List Cond} (hk : m_Tc[k]? = some c) {w : Cond} (hi : c[i]? = some w) (hg : goodWord w = true) : w ∈ m_Ts := m_Tc_in c (List.mem_of_getElem? hk) w (List.mem_of_getElem? hi) hg
def m_C (M : am_M) : Prop := plainFor M.1 = true ∧ Cond.code M.1 M.2.1 M.2.2.1 M.2.2.2.1 ∈ m_Ts ∧ M.2.2.1 ≤ 100
theorem mc0 : m_C mt0 := ⟨by decide +kernel, m_cd (k := 1) (i := 26) rfl rfl rfl, by decide⟩
theorem mc1 : m_C mt1 := ⟨by decide +kernel, m_cd (k := 1) (i := 34) rfl rfl rfl, by decide⟩
theorem mc2 : m_C mt2 := ⟨by decide +kernel, m_cd (k := 1) (i := 67) rfl rfl rfl, by decide⟩
theorem mc3 : m_C mt3 := ⟨by decide +kernel, m_cd (k := 1) (i := 103) rfl rfl rfl, by decide⟩
theorem mc4 : m_C mt4 := ⟨by decide +kernel, m_cd (k := 1) (i := 151) rfl rfl rfl, by decide⟩
theorem mc5 : m_C mt5 := ⟨by decide +kernel, m_cd (k := 1) (i := 156) rfl rfl rfl, by decide⟩
theorem mc6 : m_C mt6 := ⟨by decide +kernel, m_cd (k := 1) (i := 159) rfl rfl rfl, by decide⟩
theorem mc7 : m_C mt7 := ⟨by decide +kernel, m_cd (k := 1) (i := 163) rfl rfl rfl, by decide⟩
theorem mc8 : m_C mt8 := ⟨by decide +kernel, m_cd (k := 1) (i := 167) rfl rfl rfl, by decide⟩
theorem mc9 : m_C mt9 := ⟨by decide +kernel, m_cd (k := 1) (i := 173) rfl rfl rfl, by decide⟩
theorem mc10 : m_C mt10 := ⟨by decide +kernel, m_cd (k := 1) (i := 177) rfl rfl rfl, by decide⟩
theorem mc11 : m_C mt11 := ⟨by decide +kernel, m_cd (k := 1) (i := 180) rfl rfl rfl, by decide⟩
theorem mc12 : m_C mt12 := ⟨by decide +kernel, m_cd (k := 1) (i := 183) rfl rfl rfl, by decide⟩
theorem mc13 : m_C mt13 := ⟨by decide +kernel, m_cd (k := 1) (i := 188) rfl rfl rfl, by decide⟩
theorem mc14 : m_C mt14 := ⟨by decide +kernel, m_cd (k := 2) (i := 29) rfl rfl rfl, by decide⟩
theorem mc15 : m_C mt15 := ⟨by decide +kernel, m_cd (k := 2) (i := 37) rfl rfl rfl, by decide⟩
theorem mc16 : m_C mt16 := ⟨by decide +kernel, m_cd (k := 2) (i := 120) rfl rfl rfl, by decide⟩
theorem mc17 : m_C mt17 := ⟨by decide +kernel, m_cd (k := 2) (i := 124) rfl rfl rfl, by decide⟩
theorem mc18 : m_C mt18 := ⟨by decide +kernel, m_cd (k := 2) (i := 174) rfl rfl rfl, by decide⟩
theorem mc19 : m_C mt19 := ⟨by decide +kernel, m_cd (k := 2) (i := 209) rfl rfl rfl, by decide⟩
theorem mc20 : m_C mt20 := ⟨by decide +kernel, m_cd (k := 3) (i := 14) rfl rfl rfl, by decide⟩
theorem mc21 : m_C mt21 := ⟨by decide +kernel, m_cd (k := 3) (i := 80) rfl rfl rfl, by decide⟩
theorem mc22 : m_C mt22 := ⟨by decide +kernel, m_cd (k := 3) (i := 84) rfl rfl rfl, by decide⟩
theorem mc23 : m_C mt23 := ⟨by decide +kernel, m_cd (k := 3) (i := 88) rfl rfl rfl, by decide⟩
theorem mc24 : m_C mt24 := ⟨by decide +kernel, m_cd (k := 3) (i := 92) rfl rfl rfl, by decide⟩
theorem mc25 : m_C mt25 := ⟨by decide +kernel, m_cd (k := 3) (i := 95) rfl rfl rfl, by decide⟩
theorem mc26 : m_C mt26 := ⟨by decide +kernel, m_cd (k := 3) (i := 99) rfl rfl rfl, by decide⟩
theorem mc27 : m_C mt27 := ⟨by decide +kernel, m_cd (k := 3) (i := 102) rfl rfl rfl, by decide⟩
theorem mc28 : m_C mt28 := ⟨by decide +kernel, m_cd (k := 3) (i := 106) rfl rfl rfl, by decide⟩
theorem mc29 : m_C mt29 := ⟨by decide +kernel, m_cd (k := 3) (i := 110) rfl rfl rfl, by decide⟩
theorem mc30 : m_C mt30 := ⟨by decide +kernel, m_cd (k := 3) (i := 117) rfl rfl rfl, by decide⟩
theorem mc31 : m_C mt31 := ⟨by decide +kernel, m_cd (k := 3) (i := 121) rfl rfl rfl, by decide⟩
theorem mc32 : m_C mt32 := ⟨by decide +kernel, m_cd (k := 3) (i := 125) rfl rfl rfl, by decide⟩
theorem mc33 : m_C mt33 := ⟨by decide +kernel, m_cd (k := 3) (i := 129) rfl rfl rfl, by decide⟩
theorem mc34 : m_C mt34 := ⟨by decide +kernel, m_cd (k := 3) (i := 133) rfl rfl rfl, by decide⟩
theorem mc35 : m_C mt35 := ⟨by decide +kernel, m_cd (k := 3) (i := 137) rfl rfl rfl, by decide⟩
theorem mc36 : m_C mt36 := ⟨by decide +kernel, m_cd (k := 3) (i := 141) rfl rfl rfl, by decide⟩
theorem mc37 : m_C mt37 := ⟨by decide +kernel, m_cd (k := 3) (i := 145) rfl rfl rfl, by decide⟩
theorem mc38 : m_C mt38 := ⟨by decide +kernel, m_cd (k := 3) (i := 149) rfl rfl rfl, by decide⟩
theorem mc39 : m_C mt39 := ⟨by decide +kernel, m_cd (k := 3) (i := 153) rfl rfl rfl, by decide⟩
theorem mc40 : m_C mt40 := ⟨by decide +kernel, m_cd (k := 3) (i := 157) rfl rfl rfl, by decide⟩
theorem mc41 : m_C mt41 := ⟨by decide +kernel, m_cd (k := 3) (i := 161) rfl rfl rfl, by decide⟩
theorem mc42 : m_C mt42 := ⟨by decide +kernel, m_cd (k := 3) (i := 165) rfl rfl rfl, by decide⟩
theorem mc43 : m_C mt43 := ⟨by decide +kernel, m_cd (k := 3) (i := 168) rfl rfl rfl, by decide⟩
theorem mc44 : m_C mt44 := ⟨by decide +kernel, m_cd (k := 3) (i := 171) rfl rfl rfl, by decide⟩
theorem mc45 : m_C mt45 := ⟨by decide +kernel, m_cd (k := 3) (i := 176) rfl rfl rfl, by decide⟩
theorem mc46 : m_C mt46 := ⟨by decide +kernel, m_cd (k := 3) (i := 180) rfl rfl rfl, by decide⟩
theorem mc47 : m_C mt47 := ⟨by decide +kernel, m_cd (k := 3) (i := 183) rfl rfl rfl, by decide⟩
theorem mc48 : m_C mt48 := ⟨by decide +kernel, m_cd (k := 3) (i := 187) rfl rfl rfl, by decide⟩
theorem mc49 : m_C mt49 := ⟨by decide +kernel, m_cd (k := 3) (i := 191) rfl rfl rfl, by decide⟩
theorem mc50 : m_C mt50 := ⟨by decide +kernel, m_cd (k := 3) (i := 195) rfl rfl rfl, by decide⟩
theorem mc51 : m_C mt51 := ⟨by decide +kernel, m_cd (k := 3) (i := 199) rfl rfl rfl, by decide⟩
theorem mc52 : m_C mt52 := ⟨by decide +kernel, m_cd (k := 3) (i := 203) rfl rfl rfl, by decide⟩
theorem mc53 : m_C mt53 := ⟨by decide +kernel, m_cd (k := 3) (i := 207) rfl rfl rfl, by decide⟩
theorem mc54 : m_C mt54 := ⟨by decide +kernel, m_cd (k := 3) (i := 211) rfl rfl rfl, by decide⟩
theorem mc55 : m_C mt55 := ⟨by decide +kernel, m_cd (k := 3) (i := 215) rfl rfl rfl, by decide⟩
theorem mc56 : m_C mt56 := ⟨by decide +kernel, m_cd (k := 3) (i := 219) rfl rfl rfl, by decide⟩
theorem mc57 : m_C mt57 := ⟨by decide +kernel, m_cd (k := 3) (i := 223) rfl rfl rfl, by decide⟩
theorem mc58 : m_C mt58 := ⟨by decide +kernel, m_cd (k := 3) (i := 229) rfl rfl rfl, by decide⟩
theorem mc59 : m_C mt59 := ⟨by decide +kernel, m_cd (k := 3) (i := 233) rfl rfl rfl, by decide⟩
theorem mc60 : m_C mt60 := ⟨by decide +kernel, m_cd (k := 3) (i := 237) rfl rfl rfl, by decide⟩
theorem mc61 : m_C mt61 := ⟨by decide +kernel, m_cd (k := 4) (i := 1) rfl rfl rfl, by decide⟩
theorem mc62 : m_C mt62 := ⟨by decide +kernel, m_cd (k := 4) (i := 5) rfl rfl rfl, by decide⟩
theorem mc63 : m_C mt63 := ⟨by decide +kernel, m_cd (k := 4) (i := 9) rfl rfl rfl, by decide⟩
theorem mc64 : m_C mt64 := ⟨by decide +kernel, m_cd (k := 4) (i := 13) rfl rfl rfl, by decide⟩
theorem mc65 : m_C mt65 := ⟨by decide +kernel, m_cd (k := 4) (i := 17) rfl rfl rfl, by decide⟩
theorem mc66 : m_C mt66 := ⟨by decide +kernel, m_cd (k := 4) (i := 21) rfl rfl rfl, by decide⟩
theorem mc67 : m_C mt67 := ⟨by decide +kernel, m_cd (k := 4) (i := 25) rfl rfl rfl, by decide⟩
theorem mc68 : m_C mt68 := ⟨by decide +kernel, m_cd (k := 4) (i := 30) rfl rfl rfl, by decide⟩
theorem mc69 : m_C mt69 := ⟨by decide +kernel, m_cd (k := 4) (i := 34) rfl rfl rfl, by decide⟩
theorem mc70 : m_C mt70 := ⟨by decide +kernel, m_cd (k := 4) (i := 39) rfl rfl rfl, by decide⟩
theorem mc71 : m_C mt71 := ⟨by decide +kernel, m_cd (k := 4) (i := 43) rfl rfl rfl, by decide⟩
theorem mc72 : m_C mt72 := ⟨by decide +kernel, m_cd (k := 4) (i := 47) rfl rfl rfl, by decide⟩
theorem mc73 : m_C mt73 := ⟨by decide +kernel, m_cd (k := 4) (i := 50) rfl rfl rfl, by decide⟩
theorem mc74 : m_C mt74 := ⟨by decide +kernel, m_cd (k := 4) (i := 55) rfl rfl rfl, by decide⟩
theorem mc75 : m_C mt75 := ⟨by decide +kernel, m_cd (k := 4) (i := 58) rfl rfl rfl, by decide⟩
theorem mc76 : m_C mt76 := ⟨by decide +kernel, m_cd (k := 4) (i := 62) rfl rfl rfl, by decide⟩
theorem mc77 : m_C mt77 := ⟨by decide +kernel, m_cd (k := 4) (i := 66) rfl rfl rfl, by decide⟩
theorem mc78 : m_C mt78 := ⟨by decide +kernel, m_cd (k := 4) (i := 70) rfl rfl rfl, by decide⟩
theorem mc79 : m_C mt79 := ⟨by decide +kernel, m_cd (k := 4) (i := 74) rfl rfl rfl, by decide⟩
theorem mc80 : m_C mt80 := ⟨by decide +kernel, m_cd (k := 4) (i := 78) rfl rfl rfl, by decide⟩
theorem mc81 : m_C mt81 := ⟨by decide +kernel, m_cd (k := 4) (i := 81) rfl rfl rfl, by decide⟩
theorem mc82 : m_C mt82 := ⟨by decide +kernel, m_cd (k := 4) (i := 85) rfl rfl rfl, by decide⟩
theorem mc83 : m_C mt83 := ⟨by decide +kernel, m_cd (k := 4) (i := 89) rfl rfl rfl, by decide⟩
theorem mc84 : m_C mt84 := ⟨by decide +kernel, m_cd (k := 4) (i := 93) rfl rfl rfl, by decide⟩
theorem mc85 : m_C mt85 := ⟨by decide +kernel, m_cd (k := 4) (i := 97) rfl rfl rfl, by decide⟩
theorem mc86 : m_C mt86 := ⟨by decide +kernel, m_cd (k := 4) (i := 101) rfl rfl rfl, by decide⟩
theorem mc87 : m_C mt87 := ⟨by decide +kernel, m_cd (k := 4) (i := 105) rfl rfl rfl, by decide⟩
theorem mc88 : m_C mt88 := ⟨by decide +kernel, m_cd (k := 4) (i := 109) rfl rfl rfl, by decide⟩
theorem mc89 : m_C mt89 := ⟨by decide +kernel, m_cd (k := 4) (i := 113) rfl rfl rfl, by decide⟩
theorem mc90 : m_C mt90 := ⟨by decide +kernel, m_cd (k := 4) (i := 117) rfl rfl rfl, by decide⟩
theorem mc91 : m_C mt91 := ⟨by decide +kernel, m_cd (k := 4) (i := 121) rfl rfl rfl, by decide⟩
theorem mc92 : m_C mt92 := ⟨by decide +kernel, m_cd (k := 4) (i := 125) rfl rfl rfl, by decide⟩
theorem mc93 : m_C mt93 := ⟨by decide +kernel, m_cd (k := 4) (i := 129) rfl rfl rfl, by decide⟩
theorem mc94 : m_C mt94 := ⟨by decide +kernel, m_cd (k := 4) (i := 133) rfl rfl rfl, by decide⟩
theorem mc95 : m_C mt95 := ⟨by decide +kernel, m_cd (k := 4) (i := 137) rfl rfl rfl, by decide⟩
theorem mc96 : m_C mt96 := ⟨by decide +kernel, m_cd (k := 4) (i := 141) rfl rfl rfl, by decide⟩
theorem mc97 : m_C mt97 := ⟨by decide +kernel, m_cd (k := 4) (i := 146) rfl rfl rfl, by decide⟩
theorem mc98 : m_C mt98 := ⟨by decide +kernel, m_cd (k := 4) (i := 154) rfl rfl rfl, by decide⟩
theorem mc99 : m_C mt99 := ⟨by decide +kernel, m_cd (k := 4) (i := 159) rfl rfl rfl, by decide⟩
theorem mc100 : m_C mt100 := ⟨by decide +kernel, m_cd (k := 4) (i := 163) rfl rfl rfl, by decide⟩
theorem mc101 : m_C mt101 := ⟨by decide +kernel, m_cd (k := 4) (i := 169) rfl rfl rfl, by decide⟩
theorem mc102 : m_C mt102 := ⟨by decide +kernel, m_cd (k := 4) (i := 173) rfl rfl rfl, by decide⟩
theorem mc103 : m_C mt103 := ⟨by decide +kernel, m_cd (k := 4) (i := 177) rfl rfl rfl, by decide⟩
theorem mc104 : m_C mt104 := ⟨by decide +kernel, m_cd (k := 4) (i := 181) rfl rfl rfl, by decide⟩
theorem mc105 : m_C mt105 := ⟨by decide +kernel, m_cd (k := 4) (i := 185) rfl rfl rfl, by decide⟩
theorem mc106 : m_C mt106 := ⟨by decide +kernel, m_cd (k := 4) (i := 193) rfl rfl rfl, by decide⟩
theorem mc107 : m_C mt107 := ⟨by decide +kernel, m_cd (k := 4) (i := 197) rfl rfl rfl, by decide⟩
theorem mc108 : m_C mt108 := ⟨by decide +kernel, m_cd (k := 4) (i := 202) rfl rfl rfl, by decide⟩
theorem mc109 : m_C mt109 := ⟨by decide +kernel, m_cd (k := 4) (i := 206) rfl rfl rfl, by decide⟩
theorem mc110 : m_C mt110 := ⟨by decide +kernel, m_cd (k := 4) (i := 210) rfl rfl rfl, by decide⟩
theorem mc111 : m_C mt111 := ⟨by decide +kernel, m_cd (k := 4) (i := 215) rfl rfl rfl, by decide⟩
theorem mc112 : m_C mt112 := ⟨by decide +kernel, m_cd (k := 4) (i := 219) rfl rfl rfl, by decide⟩
theorem mc113 : m_C mt113 := ⟨by decide +kernel, m_cd (k := 4) (i := 223) rfl rfl rfl, by decide⟩
theorem mc114 : m_C mt114 := ⟨by decide +kernel, m_cd (k := 4) (i := 226) rfl rfl rfl, by decide⟩
theorem mc115 : m_C mt115 := ⟨by decide +kernel, m_cd (k := 4) (i := 230) rfl rfl rfl, by decide⟩
theorem mc116 : m_C mt116 := ⟨by decide +kernel, m_cd (k := 4) (i := 234) rfl rfl rfl, by decide⟩
theorem mc117 : m_C mt117 := ⟨by decide +kernel, m_cd (k := 4) (i := 239) rfl rfl rfl, by decide⟩
theorem mc118 : m_C mt118 := ⟨by decide +kernel, m_cd (k := 5) (i := 3) rfl rfl rfl, by decide⟩
theorem mc119 : m_C mt119 := ⟨by decide +kernel, m_cd (k := 5) (i := 7) rfl rfl rfl, by decide⟩
theorem mc120 : m_C mt120 := ⟨by decide +kernel, m_cd (k := 5) (i := 14) rfl rfl rfl, by decide⟩
theorem mc121 : m_C mt121 := ⟨by decide +kernel, m_cd (k := 5) (i := 19) rfl rfl rfl, by decide⟩
theorem mc122 : m_C mt122 := ⟨by decide +kernel, m_cd (k := 5) (i := 27) rfl rfl rfl, by decide⟩
theorem mc123 : m_C mt123 := ⟨by decide +kernel, m_cd (k := 5) (i := 33) rfl rfl rfl, by decide⟩
theorem mc124 : m_C mt124 := ⟨by decide +kernel, m_cd (k := 5) (i := 38) rfl rfl rfl, by decide⟩
theorem mc125 : m_C mt125 := ⟨by decide +kernel, m_cd (k := 5) (i := 42) rfl rfl rfl, by decide⟩
theorem mc126 : m_C mt126 := ⟨by decide +kernel, m_cd (k := 5) (i := 46) rfl rfl rfl, by decide⟩
theorem mc127 : m_C mt127 := ⟨by decide +kernel, m_cd (k := 5) (i := 52) rfl rfl rfl, by decide⟩
theorem mc128 : m_C mt128 := ⟨by decide +kernel, m_cd (k := 5) (i := 58) rfl rfl rfl, by decide⟩
theorem mc129 : m_C mt129 := ⟨by decide +kernel, m_cd (k := 5) (i := 62) rfl rfl rfl, by decide⟩
theorem mc130 : m_C mt130 := ⟨by decide +kernel, m_cd (k := 5) (i := 69) rfl rfl rfl, by decide⟩
theorem mc131 : m_C mt131 := ⟨by decide +kernel, m_cd (k := 5) (i := 73) rfl rfl rfl, by decide⟩
theorem mc132 : m_C mt132 := ⟨by decide +kernel, m_cd (k := 5) (i := 77) rfl rfl rfl, by decide⟩
theorem mc133 : m_C mt133 := ⟨by decide +kernel, m_cd (k := 5) (i := 81) rfl rfl rfl, by decide⟩
theorem mc134 : m_C mt134 := ⟨by decide +kernel, m_cd (k := 5) (i := 85) rfl rfl rfl, by decide⟩
theorem mc135 : m_C mt135 := ⟨by decide +kernel, m_cd (k := 5) (i := 90) rfl rfl rfl, by decide⟩
theorem mc136 : m_C mt136 := ⟨by decide +kernel, m_cd (k := 5) (i := 194) rfl rfl rfl, by decide⟩
theorem mc137 : m_C mt137 := ⟨by decide +kernel, m_cd (k := 5) (i := 199) rfl rfl rfl, by decide⟩
theorem mc138 : m_C mt138 := ⟨by decide +kernel, m_cd (k := 5) (i := 203) rfl rfl rfl, by decide⟩
theorem mc139 : m_C mt139 := ⟨by decide +kernel, m_cd (k := 5) (i := 207) rfl rfl rfl, by decide⟩
theorem mc140 : m_C mt140 := ⟨by decide +kernel, m_cd (k := 5) (i := 212) rfl rfl rfl, by decide⟩
theorem mc141 : m_C mt141 := ⟨by decide +kernel, m_cd (k := 5) (i := 217) rfl rfl rfl, by decide⟩
theorem mc142 : m_C mt142 := ⟨by decide +kernel, m_cd (k := 5) (i := 221) rfl rfl rfl, by decide⟩
theorem mc143 : m_C mt143 := ⟨by decide +kernel, m_cd (k := 5) (i := 225) rfl rfl rfl, by decide⟩
theorem mc144 : m_C mt144 := ⟨by decide +kernel, m_cd (k := 5) (i := 229) rfl rfl rfl, by decide⟩
theorem mc145 : m_C mt145 := ⟨by decide +kernel, m_cd (k := 5) (i := 234) rfl rfl rfl, by decide⟩
theorem mc146 : m_C mt146 := ⟨by decide +kernel, m_cd (k := 5) (i := 239) rfl rfl rfl, by decide⟩
theorem mc147 : m_C mt147 := ⟨by decide +kernel, m_cd (k := 6) (i := 7) rfl rfl rfl, by decide⟩
theorem mc148 : m_C mt148 := ⟨by decide +kernel, m_cd (k := 6) (i := 12) rfl rfl rfl, by decide⟩
theorem mc149 : m_C mt149 := ⟨by decide +kernel, m_cd (k := 6) (i := 17) rfl rfl rfl, by decide⟩
theorem mc150 : m_C mt150 := ⟨by decide +kernel, m_cd (k := 6) (i := 20) rfl rfl rfl, by decide⟩
theorem mc151 : m_C mt151 := ⟨by decide +kernel, m_cd (k := 6) (i := 24) rfl rfl rfl, by decide⟩
theorem mc152 : m_C mt152 := ⟨by decide +kernel, m_cd (k := 6) (i := 30) rfl rfl rfl, by decide⟩
theorem mc153 : m_C mt153 := ⟨by decide +kernel, m_cd (k := 6) (i := 35) rfl rfl rfl, by decide⟩
theorem mc154 : m_C mt154 := ⟨by decide +kernel, m_cd (k := 6) (i := 40) rfl rfl rfl, by decide⟩
theorem mc155 : m_C mt155 := ⟨by decide +kernel, m_cd (k := 6) (i := 44) rfl rfl rfl, by decide⟩
theorem mc156 : m_C mt156 := ⟨by decide +kernel, m_cd (k := 6) (i := 48) rfl rfl rfl, by decide⟩
theorem mc157 : m_C mt157 := ⟨by decide +kernel, m_cd (k := 6) (i := 52) rfl rfl rfl, by decide⟩
theorem mc158 : m_C mt158 := ⟨by decide +kernel, m_cd (k := 6) (i := 59) rfl rfl rfl, by decide⟩
theorem mc159 : m_C mt159 := ⟨by decide +kernel, m_cd (k := 6) (i := 63) rfl rfl rfl, by decide⟩
theorem mc160 : m_C mt160 := ⟨by decide +kernel, m_cd (k := 6) (i := 67) rfl rfl rfl, by decide⟩
theorem mc161 : m_C mt161 := ⟨by decide +kernel, m_cd (k := 6) (i := 71) rfl rfl rfl, by decide⟩
theorem mc162 : m_C mt162 := ⟨by decide +kernel, m_cd (k := 6) (i := 78) rfl rfl rfl, by decide⟩
theorem mc163 : m_C mt163 := ⟨by decide +kernel, m_cd (k := 6) (i := 84) rfl rfl rfl, by decide⟩
theorem mc164 : m_C mt164 := ⟨by decide +kernel, m_cd (k := 6) (i := 88) rfl rfl rfl, by decide⟩
theorem mc165 : m_C mt165 := ⟨by decide +kernel, m_cd (k := 6) (i := 93) rfl rfl rfl, by decide⟩
theorem mc166 : m_C mt166 := ⟨by decide +kernel, m_cd (k := 6) (i := 97) rfl rfl rfl, by decide⟩
theorem mc167 : m_C mt167 := ⟨by decide +kernel, m_cd (k := 6) (i := 101) rfl rfl rfl, by decide⟩
theorem mc168 : m_C mt168 := ⟨by decide +kernel, m_cd (k := 6) (i := 105) rfl rfl rfl, by decide⟩
theorem mc169 : m_C mt169 := ⟨by decide +kernel, m_cd (k := 6) (i := 110) rfl rfl rfl, by decide⟩
theorem mc170 : m_C mt170 := ⟨by decide +kernel, m_cd (k := 6) (i := 114) rfl rfl rfl, by decide⟩
theorem mc171 : m_C mt171 := ⟨by decide +kernel, m_cd (k := 6) (i := 118) rfl rfl rfl, by decide⟩
theorem mc172 : m_C mt172 := ⟨by decide +kernel, m_cd (k := 6) (i := 122) rfl rfl rfl, by decide⟩
theorem mc173 : m_C mt173 := ⟨by decide +kernel, m_cd (k := 6) (i := 126) rfl rfl rfl, by decide⟩
theorem mc174 : m_C mt174 := ⟨by decide +kernel, m_cd (k := 6) (i := 130) rfl rfl rfl, by decide⟩
theorem mc175 : m_C mt175 := ⟨by decide +kernel, m_cd (k := 6) (i := 135) rfl rfl rfl, by decide⟩
theorem mc176 : m_C mt176 := ⟨by decide +kernel, m_cd (k := 6) (i := 140) rfl rfl rfl, by decide⟩
theorem mc177 : m_C mt177 := ⟨by decide +kernel, m_cd (k := 6) (i := 145) rfl rfl rfl, by decide⟩
theorem mc178 : m_C mt178 := ⟨by decide +kernel, m_cd (k := 6) (i := 149) rfl rfl rfl, by decide⟩
theorem mc179 : m_C mt179 := ⟨by decide +kernel, m_cd (k := 6) (i := 153) rfl rfl rfl, by decide⟩
theorem mc180 : m_C mt180 := ⟨by decide +kernel, m_cd (k := 6) (i := 157) rfl rfl rfl, by decide⟩
theorem mc181 : m_C mt181 := ⟨by decide +kernel, m_cd (k := 6) (i := 161) rfl rfl rfl, by decide⟩
theorem mc182 : m_C mt182 := ⟨by decide +kernel, m_cd (k := 6) (i := 165) rfl rfl rfl, by decide⟩
theorem mc183 : m_C mt183 := ⟨by decide +kernel, m_cd (k := 6) (i := 169) rfl rfl rfl, by decide⟩
theorem mc184 : m_C mt184 := ⟨by decide +kernel, m_cd (k := 6) (i := 173) rfl rfl rfl, by decide⟩
theorem mc185 : m_C mt185 := ⟨by decide +kernel, m_cd (k := 6) (i := 177) rfl rfl rfl, by decide⟩
theorem mc186 : m_C mt186 := ⟨by decide +kernel, m_cd (k := 6) (i := 181) rfl rfl rfl, by decide⟩
theorem mc187 : m_C mt187 := ⟨by decide +kernel, m_cd (k := 6) (i := 185) rfl rfl rfl, by decide⟩
theorem mc188 : m_C mt188 := ⟨by decide +kernel, m_cd (k := 6) (i := 189) rfl rfl rfl, by decide⟩
theorem mc189 : m_C mt189 := ⟨by decide +kernel, m_cd (k := 6) (i := 193) rfl rfl rfl, by decide⟩
theorem mc190 : m_C mt190 := ⟨by decide +kernel, m_cd (k := 6) (i := 198) rfl rfl rfl, by decide⟩
theorem mc191 : m_C mt191 := ⟨by decide +kernel, m_cd (k := 6) (i := 202) rfl rfl rfl, by decide⟩
theorem mc192 : m_C mt192 := ⟨by decide +kernel, m_cd (k := 6) (i := 207) rfl rfl rfl, by decide⟩
theorem mc193 : m_C mt193 := ⟨by decide +kernel, m_cd (k := 6) (i := 211) rfl rfl rfl, by decide⟩
theorem mc194 : m_C mt194 := ⟨by decide +kernel, m_cd (k := 6) (i := 215) rfl rfl rfl, by decide⟩
theorem mc195 : m_C mt195 := ⟨by decide +kernel, m_cd (k := 6) (i := 219) rfl rfl rfl, by decide⟩
theorem mc196 : m_C mt196 := ⟨by decide +kernel, m_cd (k := 6) (i := 223) rfl rfl rfl, by decide⟩
theorem mc197 : m_C mt197 := ⟨by decide +kernel, m_cd (k := 6) (i := 227) rfl rfl rfl, by decide⟩
theorem mc198 : m_C mt198 := ⟨by decide +kernel, m_cd (k := 6) (i := 232) rfl rfl rfl, by decide⟩
theorem mc199 : m_C mt199 := ⟨by decide +kernel, m_cd (k := 6) (i := 236) rfl rfl rfl, by decide⟩
theorem mc200 : m_C mt200 := ⟨by decide +kernel, m_cd (k := 7) (i := 0) rfl rfl rfl, by decide⟩
theorem mc201 : m_C mt201 := ⟨by decide +kernel, m_cd (k := 7) (i := 4) rfl rfl rfl, by decide⟩
theorem mc202 : m_C mt202 := ⟨by decide +kernel, m_cd (k := 7) (i := 11) rfl rfl rfl, by decide⟩
theorem mc203 : m_C mt203 := ⟨by decide +kernel, m_cd (k := 7) (i := 15) rfl rfl rfl, by decide⟩
theorem mc204 : m_C mt204 := ⟨by decide +kernel, m_cd (k := 7) (i := 20) rfl rfl rfl, by decide⟩
theorem mc205 : m_C mt205 := ⟨by decide +kernel, m_cd (k := 7) (i := 24) rfl rfl rfl, by decide⟩
theorem mc206 : m_C mt206 := ⟨by decide +kernel, m_cd (k := 7) (i := 28) rfl rfl rfl, by decide⟩
theorem mc207 : m_C mt207 := ⟨by decide +kernel, m_cd (k := 7) (i := 32) rfl rfl rfl, by decide⟩
theorem mc208 : m_C mt208 := ⟨by decide +kernel, m_cd (k := 7) (i := 36) rfl rfl rfl, by decide⟩
theorem mc209 : m_C mt209 := ⟨by decide +kernel, m_cd (k := 7) (i := 40) rfl rfl rfl, by decide⟩
theorem mc210 : m_C mt210 := ⟨by decide +kernel, m_cd (k := 7) (i := 44) rfl rfl rfl, by decide⟩
theorem mc211 : m_C mt211 := ⟨by decide +kernel, m_cd (k := 7) (i := 48) rfl rfl rfl, by decide⟩
theorem mc212 : m_C mt212 := ⟨by decide +kernel, m_cd (k := 7) (i := 52) rfl rfl rfl, by decide⟩
theorem mc213 : m_C mt213 := ⟨by decide +kernel, m_cd (k := 7) (i := 56) rfl rfl rfl, by decide⟩
theorem mc214 : m_C mt214 := ⟨by decide +kernel, m_cd (k := 7) (i := 60) rfl rfl rfl, by decide⟩
theorem mc215 : m_C mt215 := ⟨by decide +kernel, m_cd (k := 7) (i := 64) rfl rfl rfl, by decide⟩
theorem mc216 : m_C mt216 := ⟨by decide +kernel, m_cd (k := 7) (i := 68) rfl rfl rfl, by decide⟩
theorem mc217 : m_C mt217 := ⟨by decide +kernel, m_cd (k := 7) (i := 72) rfl rfl rfl, by decide⟩
theorem mc218 : m_C mt218 := ⟨by decide +kernel, m_cd (k := 7) (i := 76) rfl rfl rfl, by decide⟩
theorem mc219 : m_C mt219 := ⟨by decide +kernel, m_cd (k := 7) (i := 80) rfl rfl rfl, by decide⟩
theorem mc220 : m_C mt220 := ⟨by decide +kernel, m_cd (k := 7) (i := 84) rfl rfl rfl, by decide⟩
theorem mc221 : m_C mt221 := ⟨by decide +kernel, m_cd (k := 7) (i := 88) rfl rfl rfl, by decide⟩
theorem mc222 : m_C mt222 := ⟨by decide +kernel, m_cd (k := 7) (i := 92) rfl rfl rfl, by decide⟩
theorem mc223 : m_C mt223 := ⟨by decide +kernel, m_cd (k := 7) (i := 98) rfl rfl rfl, by decide⟩
theorem mc224 : m_C mt224 := ⟨by decide +kernel, m_cd (k := 7) (i := 104) rfl rfl rfl, by decide⟩
theorem mc225 : m_C mt225 := ⟨by decide +kernel, m_cd (k := 7) (i := 108) rfl rfl rfl, by decide⟩
theorem mc226 : m_C mt226 := ⟨by decide +kernel, m_cd (k := 7) (i := 112) rfl rfl rfl, by decide⟩
theorem mc227 : m_C mt227 := ⟨by decide +kernel, m_cd (k := 7) (i := 117) rfl rfl rfl, by decide⟩
theorem mc228 : m_C mt228 := ⟨by decide +kernel, m_cd (k := 7) (i := 122) rfl rfl rfl, by decide⟩
theorem mc229 : m_C mt229 := ⟨by decide +kernel, m_cd (k := 7) (i := 126) rfl rfl rfl, by decide⟩
theorem mc230 : m_C mt230 := ⟨by decide +kernel, m_cd (k := 7) (i := 130) rfl rfl rfl, by decide⟩
theorem mc231 : m_C mt231 := ⟨by decide +kernel, m_cd (k := 7) (i := 135) rfl rfl rfl, by decide⟩
theorem mc232 : m_C mt232 := ⟨by decide +kernel, m_cd (k := 7) (i := 140) rfl rfl rfl, by decide⟩
theorem mc233 : m_C mt233 := ⟨by decide +kernel, m_cd (k := 7) (i := 144) rfl rfl rfl, by decide⟩
theorem mc234 : m_C mt234 := ⟨by decide +kernel, m_cd (k := 7) (i := 148) rfl rfl rfl, by decide⟩
theorem mc235 : m_C mt235 := ⟨by decide +kernel, m_cd (k := 7) (i := 152) rfl rfl rfl, by decide⟩
theorem mc236 : m_C mt236 := ⟨by decide +kernel, m_cd (k := 7) (i := 156) rfl rfl rfl, by decide⟩
theorem mc237 : m_C mt237 := ⟨by decide +kernel, m_cd (k := 7) (i := 160) rfl rfl rfl, by decide⟩
theorem mc238 : m_C mt238 := ⟨by decide +kernel, m_cd (k := 7) (i := 165) rfl rfl rfl, by decide⟩
theorem mc239 : m_C mt239 := ⟨by decide +kernel, m_cd (k := 7) (i := 170) rfl rfl rfl, by decide⟩
theorem mc240 : m_C mt240 := ⟨by decide +kernel, m_cd (k := 7) (i := 176) rfl rfl rfl, by decide⟩
theorem mc241 : m_C mt241 := ⟨by decide +kernel, m_cd (k := 7) (i := 180) rfl rfl rfl, by decide⟩
theorem mc242 : m_C mt242 := ⟨by decide +kernel, m_cd (k := 7) (i := 184) rfl rfl rfl, by decide⟩
theorem mc243 : m_C mt243 := ⟨by decide +kernel, m_cd (k := 7) (i := 188) rfl rfl rfl, by decide⟩
theorem mc244 : m_C mt244 := ⟨by decide +kernel, m_cd (k := 7) (i := 193) rfl rfl rfl, by decide⟩
theorem mc245 : m_C mt245 := ⟨by decide +kernel, m_cd (k := 7) (i := 197) rfl rfl rfl, by decide⟩
theorem mc246 : m_C mt246 := ⟨by decide +kernel, m_cd (k := 7) (i := 202) rfl rfl rfl, by decide⟩
theorem mc247 : m_C mt247 := ⟨by decide +kernel, m_cd (k := 7) (i := 206) rfl rfl rfl, by decide⟩
theorem mc248 : m_C mt248 := ⟨by decide +kernel, m_cd (k := 7) (i := 210) rfl rfl rfl, by decide⟩
theorem mc249 : m_C mt249 := ⟨by decide +kernel, m_cd (k := 7) (i := 216) rfl rfl rfl, by decide⟩
theorem mc250 : m_C mt250 := ⟨by decide +kernel, m_cd (k := 7) (i := 220) rfl rfl rfl, by decide⟩
theorem mc251 : m_C mt251 := ⟨by decide +kernel, m_cd (k := 7) (i := 223) rfl rfl rfl, by decide⟩
theorem mc252 : m_C mt252 := ⟨by decide +kernel, m_cd (k := 7) (i := 227) rfl rfl rfl, by decide⟩
theorem mc253 : m_C mt253 := ⟨by decide +kernel, m_cd (k := 7) (i := 232) rfl rfl rfl, by decide⟩
theorem mc254 : m_C mt254 := ⟨by decide +kernel, m_cd (k := 7) (i := 235) rfl rfl rfl, by decide⟩
theorem mc255 : m_C mt255 := ⟨by decide +kernel, m_cd (k := 7) (i := 239) rfl rfl rfl, by decide⟩
theorem mc256 : m_C mt256 := ⟨by decide +kernel, m_cd (k := 8) (i := 4) rfl rfl rfl, by decide⟩
theorem mc257 : m_C mt257 := ⟨by decide +kernel, m_cd (k := 8) (i := 8) rfl rfl rfl, by decide⟩
theorem mc258 : m_C mt258 := ⟨by decide +kernel, m_cd (k := 8) (i := 12) rfl rfl rfl, by decide⟩
theorem mc259 : m_C mt259 := ⟨by decide +kernel, m_cd (k := 8) (i := 16) rfl rfl rfl, by decide⟩
theorem mc260 : m_C mt260 := ⟨by decide +kernel, m_cd (k := 8) (i := 20) rfl rfl rfl, by decide⟩
theorem mc261 : m_C mt261 := ⟨by decide +kernel, m_cd (k := 8) (i := 24) rfl rfl rfl, by decide⟩
theorem mc262 : m_C mt262 := ⟨by decide +kernel, m_cd (k := 8) (i := 28) rfl rfl rfl, by decide⟩
theorem mc263 : m_C mt263 := ⟨by decide +kernel, m_cd (k := 8) (i := 32) rfl rfl rfl, by decide⟩
theorem mc264 : m_C mt264 := ⟨by decide +kernel, m_cd (k := 8) (i := 36) rfl rfl rfl, by decide⟩
theorem mc265 : m_C mt265 := ⟨by decide +kernel, m_cd (k := 8) (i := 41) rfl rfl rfl, by decide⟩
theorem mc266 : m_C mt266 := ⟨by decide +kernel, m_cd (k := 8) (i := 46) rfl rfl rfl, by decide⟩
theorem mc267 : m_C mt267 := ⟨by decide +kernel, m_cd (k := 8) (i := 50) rfl rfl rfl, by decide⟩
theorem mc268 : m_C mt268 := ⟨by decide +kernel, m_cd (k := 8) (i := 55) rfl rfl rfl, by decide⟩
theorem mc269 : m_C mt269 := ⟨by decide +kernel, m_cd (k := 10) (i := 2) rfl rfl rfl, by decide⟩
theorem mc270 : m_C mt270 := ⟨by decide +kernel, m_cd (k := 10) (i := 6) rfl rfl rfl, by decide⟩
theorem mc271 : m_C mt271 := ⟨by decide +kernel, m_cd (k := 10) (i := 10) rfl rfl rfl, by decide⟩
theorem mc272 : m_C mt272 := ⟨by decide +kernel, m_cd (k := 10) (i := 13) rfl rfl rfl, by decide⟩
theorem mc273 : m_C mt273 := ⟨by decide +kernel, m_cd (k := 10) (i := 16) rfl rfl rfl, by decide⟩
theorem mc274 : m_C mt274 := ⟨by decide +kernel, m_cd (k := 10) (i := 20) rfl rfl rfl, by decide⟩
theorem mc275 : m_C mt275 := ⟨by decide +kernel, m_cd (k := 10) (i := 24) rfl rfl rfl, by decide⟩
theorem mc276 : m_C mt276 := ⟨by decide +kernel, m_cd (k := 10) (i := 28) rfl rfl rfl, by decide⟩
theorem mc277 : m_C mt277 := ⟨by decide +kernel, m_cd (k := 10) (i := 31) rfl rfl rfl, by decide⟩
theorem mc278 : m_C mt278 := ⟨by decide +kernel, m_cd (k := 10) (i := 35) rfl rfl rfl, by decide⟩
theorem mc279 : m_C mt279 := ⟨by decide +kernel, m_cd (k := 10) (i := 39) rfl rfl rfl, by decide⟩
theorem mc280 : m_C mt280 := ⟨by decide +kernel, m_cd (k := 10) (i := 43) rfl rfl rfl, by decide⟩
theorem mc281 : m_C mt281 := ⟨by decide +kernel, m_cd (k := 10) (i := 47) rfl rfl rfl, by decide⟩
theorem mc282 : m_C mt282 := ⟨by decide +kernel, m_cd (k := 10) (i := 51) rfl rfl rfl, by decide⟩
theorem mc283 : m_C mt283 := ⟨by decide +kernel, m_cd (k := 10) (i := 55) rfl rfl rfl, by decide⟩
theorem mc284 : m_C mt284 := ⟨by decide +kernel, m_cd (k := 10) (i := 59) rfl rfl rfl, by decide⟩
theorem mc285 : m_C mt285 := ⟨by decide +kernel, m_cd (k := 10) (i := 63) rfl rfl rfl, by decide⟩
theorem mc286 : m_C mt286 := ⟨by decide +kernel, m_cd (k := 10) (i := 67) rfl rfl rfl, by decide⟩
theorem mc287 : m_C mt287 := ⟨by decide +kernel, m_cd (k := 10) (i := 71) rfl rfl rfl, by decide⟩
theorem mc288 : m_C mt288 := ⟨by decide +kernel, m_cd (k := 10) (i := 74) rfl rfl rfl, by decide⟩
theorem mc289 : m_C mt289 := ⟨by decide +kernel, m_cd (k := 10) (i := 78) rfl rfl rfl, by decide⟩
theorem mc290 : m_C mt290 := ⟨by decide +kernel, m_cd (k := 10) (i := 82) rfl rfl rfl, by decide⟩
theorem mc291 : m_C mt291 := ⟨by decide +kernel, m_cd (k := 10) (i := 86) rfl rfl rfl, by decide⟩
theorem mc292 : m_C mt292 := ⟨by decide +kernel, m_cd (k := 10) (i := 90) rfl rfl rfl, by decide⟩
theorem mc293 : m_C mt293 := ⟨by decide +kernel, m_cd (k := 10) (i := 94) rfl rfl rfl, by decide⟩
theorem mc294 : m_C mt294 := ⟨by decide +kernel, m_cd (k := 10) (i := 98) rfl rfl rfl, by decide⟩
theorem mc295 : m_C mt295 := ⟨by decide +kernel, m_cd (k := 10) (i := 102) rfl rfl rfl, by decide⟩
theorem mc296 : m_C mt296 := ⟨by decide +kernel, m_cd (k := 10) (i := 106) rfl rfl rfl, by decide⟩
theorem mc297 : m_C mt297 := ⟨by decide +kernel, m_cd (k := 10) (i := 110) rfl rfl rfl, by decide⟩
theorem mc298 : m_C mt298 := ⟨by decide +kernel, m_cd (k := 10) (i := 114) rfl rfl rfl, by decide⟩
theorem mc299 : m_C mt299 := ⟨by decide +kernel, m_cd (k := 10) (i := 118) rfl rfl rfl, by decide⟩
theorem mc300 : m_C mt300 := ⟨by decide +kernel, m_cd (k := 10) (i := 122) rfl rfl rfl, by decide⟩
theorem mc301 : m_C mt301 := ⟨by decide +kernel, m_cd (k := 10) (i := 125) rfl rfl rfl, by decide⟩
theorem mc302 : m_C mt302 := ⟨by decide +kernel, m_cd (k := 10) (i := 131) rfl rfl rfl, by decide⟩
theorem mc303 : m_C mt303 := ⟨by decide +kernel, m_cd (k := 10) (i := 137) rfl rfl rfl, by decide⟩
theorem mc304 : m_C mt304 := ⟨by decide +kernel, m_cd (k := 10) (i := 141) rfl rfl rfl, by decide⟩
theorem mc305 : m_C mt305 := ⟨by decide +kernel, m_cd (k := 10) (i := 145) rfl rfl rfl, by decide⟩
theorem mc306 : m_C mt306 := ⟨by decide +kernel, m_cd (k := 10) (i := 148) rfl rfl rfl, by decide⟩
theorem mc307 : m_C mt307 := ⟨by decide +kernel, m_cd (k := 10) (i := 152) rfl rfl rfl, by decide⟩
theorem mc308 : m_C mt308 := ⟨by decide +kernel, m_cd (k := 10) (i := 156) rfl rfl rfl, by decide⟩
theorem mc309 : m_C mt309 := ⟨by decide +kernel, m_cd (k := 10) (i := 160) rfl rfl rfl, by decide⟩
theorem mc310 : m_C mt310 := ⟨by decide +kernel, m_cd (k := 10) (i := 164) rfl rfl rfl, by decide⟩
theorem mc311 : m_C mt311 := ⟨by decide +kernel, m_cd (k := 10) (i := 168) rfl rfl rfl, by decide⟩
theorem mc312 : m_C mt312 := ⟨by decide +kernel, m_cd (k := 10) (i := 172) rfl rfl rfl, by decide⟩
theorem mc313 : m_C mt313 := ⟨by decide +kernel, m_cd (k := 10) (i := 176) rfl rfl rfl, by decide⟩
theorem mc314 : m_C mt314 := ⟨by decide +kernel, m_cd (k := 10) (i := 180) rfl rfl rfl, by decide⟩
theorem mc315 : m_C mt315 := ⟨by decide +kernel, m_cd (k := 10) (i := 184) rfl rfl rfl, by decide⟩
theorem mc316 : m_C mt316 := ⟨by decide +kernel, m_cd (k := 10) (i := 188) rfl rfl rfl, by decide⟩
theorem mc317 : m_C mt317 := ⟨by decide +kernel, m_cd (k := 10) (i := 192) rfl rfl rfl, by decide⟩
theorem mc318 : m_C mt318 := ⟨by decide +kernel, m_cd (k := 10) (i := 196) rfl rfl rfl, by decide⟩
theorem mc319 : m_C mt319 := ⟨by decide +kernel, m_cd (k := 10) (i := 200) rfl rfl rfl, by decide⟩
theorem mc320 : m_C mt320 := ⟨by decide +kernel, m_cd (k := 10) (i := 204) rfl rfl rfl, by decide⟩
theorem mc321 : m_C mt321 := ⟨by decide +kernel, m_cd (k := 10) (i := 208) rfl rfl rfl, by decide⟩
theorem mc322 : m_C mt322 := ⟨by decide +kernel, m_cd (k := 10) (i := 212) rfl rfl rfl, by decide⟩
theorem mc323 : m_C mt323 := ⟨by decide +kernel, m_cd (k := 10) (i := 216) rfl rfl rfl, by decide⟩
theorem mc324 : m_C mt324 := ⟨by decide +kernel, m_cd (k := 10) (i := 220) rfl rfl rfl, by decide⟩
theorem mc325 : m_C mt325 := ⟨by decide +kernel, m_cd (k := 10) (i := 224) rfl rfl rfl, by decide⟩
theorem mc326 : m_C mt326 := ⟨by decide +kernel, m_cd (k := 10) (i := 228) rfl rfl rfl, by decide⟩
theorem mc327 : m_C mt327 := ⟨by decide +kernel, m_cd (k := 10) (i := 232) rfl rfl rfl, by decide⟩
theorem mc328 : m_C mt328 := ⟨by decide +kernel, m_cd (k := 10) (i := 236) rfl rfl rfl, by decide⟩
theorem mc329 : m_C mt329 := ⟨by decide +kernel, m_cd (k := 11) (i := 0) rfl rfl rfl, by decide⟩
theorem mc330 : m_C mt330 := ⟨by decide +kernel, m_cd (k := 11) (i := 4) rfl rfl rfl, by decide⟩
theorem mc331 : m_C mt331 := ⟨by decide +kernel, m_cd (k := 11) (i := 8) rfl rfl rfl, by decide⟩
theorem mc332 : m_C mt332 := ⟨by decide +kernel, m_cd (k := 11) (i := 12) rfl rfl rfl, by decide⟩
theorem mc333 : m_C mt333 := ⟨by decide +kernel, m_cd (k := 11) (i := 16) rfl rfl rfl, by decide⟩
theorem mc334 : m_C mt334 := ⟨by decide +kernel, m_cd (k := 11) (i := 20) rfl rfl rfl, by decide⟩
theorem mc335 : m_C mt335 := ⟨by decide +kernel, m_cd (k := 11) (i := 24) rfl rfl rfl, by decide⟩
theorem mc336 : m_C mt336 := ⟨by decide +kernel, m_cd (k := 11) (i := 28) rfl rfl rfl, by decide⟩
theorem mc337 : m_C mt337 := ⟨by decide +kernel, m_cd (k := 11) (i := 32) rfl rfl rfl, by decide⟩
theorem mc338 : m_C mt338 := ⟨by decide +kernel, m_cd (k := 11) (i := 36) rfl rfl rfl, by decide⟩
theorem mc339 : m_C mt339 := ⟨by decide +kernel, m_cd (k := 11) (i := 40) rfl rfl rfl, by decide⟩
theorem mc340 : m_C mt340 := ⟨by decide +kernel, m_cd (k := 11) (i := 44) rfl rfl rfl, by decide⟩
theorem mc341 : m_C mt341 := ⟨by decide +kernel, m_cd (k := 11) (i := 48) rfl rfl rfl, by decide⟩
theorem mc342 : m_C mt342 := ⟨by decide +kernel, m_cd (k := 11) (i := 52) rfl rfl rfl, by decide⟩
theorem mc343 : m_C mt343 := ⟨by decide +kernel, m_cd (k := 11) (i := 56) rfl rfl rfl, by decide⟩
theorem mc344 : m_C mt344 := ⟨by decide +kernel, m_cd (k := 11) (i := 60) rfl rfl rfl, by decide⟩
theorem mc345 : m_C mt345 := ⟨by decide +kernel, m_cd (k := 11) (i := 64) rfl rfl rfl, by decide⟩
theorem mc346 : m_C mt346 := ⟨by decide +kernel, m_cd (k := 11) (i := 68) rfl rfl rfl, by decide⟩
theorem mc347 : m_C mt347 := ⟨by decide +kernel, m_cd (k := 11) (i := 72) rfl rfl rfl, by decide⟩
theorem mc348 : m_C mt348 := ⟨by decide +kernel, m_cd (k := 11) (i := 76) rfl rfl rfl, by decide⟩
theorem mc349 : m_C mt349 := ⟨by decide +kernel, m_cd (k := 11) (i := 80) rfl rfl rfl, by decide⟩
theorem mc350 : m_C mt350 := ⟨by decide +kernel, m_cd (k := 11) (i := 84) rfl rfl rfl, by decide⟩
theorem mc351 : m_C mt351 := ⟨by decide +kernel, m_cd (k := 11) (i := 88) rfl rfl rfl, by decide⟩
theorem mc352 : m_C mt352 := ⟨by decide +kernel, m_cd (k := 11) (i := 92) rfl rfl rfl, by decide⟩
theorem mc353 : m_C mt353 := ⟨by decide +kernel, m_cd (k := 11) (i := 96) rfl rfl rfl, by decide⟩
theorem mc354 : m_C mt354 := ⟨by decide +kernel, m_cd (k := 11) (i := 100) rfl rfl rfl, by decide⟩
theorem mc355 : m_C mt355 := ⟨by decide +kernel, m_cd (k := 11) (i := 104) rfl rfl rfl, by decide⟩
theorem mc356 : m_C mt356 := ⟨by decide +kernel, m_cd (k := 11) (i := 108) rfl rfl rfl, by decide⟩
theorem mc357 : m_C mt357 := ⟨by decide +kernel, m_cd (k := 11) (i := 112) rfl rfl rfl, by decide⟩
theorem mc358 : m_C mt358 := ⟨by decide +kernel, m_cd (k := 11) (i := 116) rfl rfl rfl, by decide⟩
theorem mc359 : m_C mt359 := ⟨by decide +kernel, m_cd (k := 11) (i := 120) rfl rfl rfl, by decide⟩
theorem mc360 : m_C mt360 := ⟨by decide +kernel, m_cd (k := 11) (i := 124) rfl rfl rfl, by decide⟩
theorem mc361 : m_C mt361 := ⟨by decide +kernel, m_cd (k := 11) (i := 128) rfl rfl rfl, by decide⟩
theorem mc362 : m_C mt362 := ⟨by decide +kernel, m_cd (k := 11) (i := 132) rfl rfl rfl, by decide⟩
theorem mc363 : m_C mt363 := ⟨by decide +kernel, m_cd (k := 11) (i := 136) rfl rfl rfl, by decide⟩
theorem mc364 : m_C mt364 := ⟨by decide +kernel, m_cd (k := 11) (i := 140) rfl rfl rfl, by decide⟩
theorem mc365 : m_C mt365 := ⟨by decide +kernel, m_cd (k := 11) (i := 144) rfl rfl rfl, by decide⟩
theorem mc366 : m_C mt366 := ⟨by decide +kernel, m_cd (k := 11) (i := 148) rfl rfl rfl, by decide⟩
theorem mc367 : m_C mt367 := ⟨by decide +kernel, m_cd (k := 11) (i := 152) rfl rfl rfl, by decide⟩
theorem mc368 : m_C mt368 := ⟨by decide +kernel, m_cd (k := 11) (i := 156) rfl rfl rfl, by decide⟩
theorem mc369 : m_C mt369 := ⟨by decide +kernel, m_cd (k := 11) (i := 160) rfl rfl rfl, by decide⟩
theorem mc370 : m_C mt370 := ⟨by decide +kernel, m_cd (k := 11) (i := 164) rfl rfl rfl, by decide⟩
theorem mc371 : m_C mt371 := ⟨by decide +kernel, m_cd (k := 11) (i := 168) rfl rfl rfl, by decide⟩
theorem mc372 : m_C mt372 := ⟨by decide +kernel, m_cd (k := 11) (i := 172) rfl rfl rfl, by decide⟩
theorem mc373 : m_C mt373 := ⟨by decide +kernel, m_cd (k := 11) (i := 176) rfl rfl rfl, by decide⟩
theorem mc374 : m_C mt374 := ⟨by decide +kernel, m_cd (k := 11) (i := 180) rfl rfl rfl, by decide⟩
theorem mc375 : m_C mt375 := ⟨by decide +kernel, m_cd (k := 11) (i := 184) rfl rfl rfl, by decide⟩
theorem mc376 : m_C mt376 := ⟨by decide +kernel, m_cd (k := 11) (i := 188) rfl rfl rfl, by decide⟩
theorem mc377 : m_C mt377 := ⟨by decide +kernel, m_cd (k := 11) (i := 192) rfl rfl rfl, by decide⟩
theorem mc378 : m_C mt378 := ⟨by decide +kernel, m_cd (k := 11) (i := 196) rfl rfl rfl, by decide⟩
theorem mc379 : m_C mt379 := ⟨by decide +kernel, m_cd (k := 11) (i := 200) rfl rfl rfl, by decide⟩
theorem mc380 : m_C mt380 := ⟨by decide +kernel, m_cd (k := 11) (i := 204) rfl rfl rfl, by decide⟩
theorem mc381 : m_C mt381 := ⟨by decide +kernel, m_cd (k := 11) (i := 208) rfl rfl rfl, by decide⟩
theorem mc382 : m_C mt382 := ⟨by decide +kernel, m_cd (k := 11) (i := 212) rfl rfl rfl, by decide⟩
theorem mc383 : m_C mt383 := ⟨by decide +kernel, m_cd (k := 11) (i := 216) rfl rfl rfl, by decide⟩
theorem mc384 : m_C mt384 := ⟨by decide +kernel, m_cd (k := 11) (i := 220) rfl rfl rfl, by decide⟩
theorem mc385 : m_C mt385 := ⟨by decide +kernel, m_cd (k := 11) (i := 224) rfl rfl rfl, by decide⟩
theorem mc386 : m_C mt386 := ⟨by decide +kernel, m_cd (k := 11) (i := 228) rfl rfl rfl, by decide⟩
theorem mc387 : m_C mt387 := ⟨by decide +kernel, m_cd (k := 11) (i := 232) rfl rfl rfl, by decide⟩
theorem mc388 : m_C mt388 := ⟨by decide +kernel, m_cd (k := 11) (i := 236) rfl rfl rfl, by decide⟩
theorem mc389 : m_C mt389 := ⟨by decide +kernel, m_cd (k := 12) (i := 0) rfl rfl rfl, by decide⟩
theorem mc390 : m_C mt390 := ⟨by decide +kernel, m_cd (k := 12) (i := 4) rfl rfl rfl, by decide⟩
theorem mc391 : m_C mt391 := ⟨by decide +kernel, m_cd (k := 12) (i := 8) rfl rfl rfl, by decide⟩
theorem mc392 : m_C mt392 := ⟨by decide +kernel, m_cd (k := 12) (i := 12) rfl rfl rfl, by decide⟩
theorem mc393 : m_C mt393 := ⟨by decide +kernel, m_cd (k := 12) (i := 16) rfl rfl rfl, by decide⟩
theorem mc394 : m_C mt394 := ⟨by decide +kernel, m_cd (k := 12) (i := 20) rfl rfl rfl, by decide⟩
theorem mc395 : m_C mt395 := ⟨by decide +kernel, m_cd (k := 12) (i := 24) rfl rfl rfl, by decide⟩
theorem mc396 : m_C mt396 := ⟨by decide +kernel, m_cd (k := 12) (i := 28) rfl rfl rfl, by decide⟩
theorem mc397 : m_C mt397 := ⟨by decide +kernel, m_cd (k := 12) (i := 32) rfl rfl rfl, by decide⟩
theorem mc398 : m_C mt398 := ⟨by decide +kernel, m_cd (k := 12) (i := 36) rfl rfl rfl, by decide⟩
theorem mc399 : m_C mt399 := ⟨by decide +kernel, m_cd (k := 12) (i := 40) rfl rfl rfl, by decide⟩
theorem mc400 : m_C mt400 := ⟨by decide +kernel, m_cd (k := 12) (i := 44) rfl rfl rfl, by decide⟩
theorem mc401 : m_C mt401 := ⟨by decide +kernel, m_cd (k := 12) (i := 48) rfl rfl rfl, by decide⟩
theorem mc402 : m_C mt402 := ⟨by decide +kernel, m_cd (k := 12) (i := 52) rfl rfl rfl, by decide⟩
theorem mc403 : m_C mt403 := ⟨by decide +kernel, m_cd (k := 12) (i := 56) rfl rfl rfl, by decide⟩
theorem mc404 : m_C mt404 := ⟨by decide +kernel, m_cd (k := 12) (i := 60) rfl rfl rfl, by decide⟩
theorem mc405 : m_C mt405 := ⟨by decide +kernel, m_cd (k := 12) (i := 65) rfl rfl rfl, by decide⟩
theorem mc406 : m_C mt406 := ⟨by decide +kernel, m_cd (k := 12) (i := 69) rfl rfl rfl, by decide⟩
theorem mc407 : m_C mt407 := ⟨by decide +kernel, m_cd (k := 12) (i := 73) rfl rfl rfl, by decide⟩
theorem mc408 : m_C mt408 := ⟨by decide +kernel, m_cd (k := 12) (i := 77) rfl rfl rfl, by decide⟩
theorem mc409 : m_C mt409 := ⟨by decide +kernel, m_cd (k := 12) (i := 81) rfl rfl rfl, by decide⟩
theorem mc410 : m_C mt410 := ⟨by decide +kernel, m_cd (k := 12) (i := 85) rfl rfl rfl, by decide⟩
theorem mc411 : m_C mt411 := ⟨by decide +kernel, m_cd (k := 12) (i := 89) rfl rfl rfl, by decide⟩
theorem mc412 : m_C mt412 := ⟨by decide +kernel, m_cd (k := 12) (i := 94) rfl rfl rfl, by decide⟩
theorem mc413 : m_C mt413 := ⟨by decide +kernel, m_cd (k := 12) (i := 97) rfl rfl rfl, by decide⟩
theorem mc414 : m_C mt414 := ⟨by decide +kernel, m_cd (k := 12) (i := 101) rfl rfl rfl, by decide⟩
theorem mc415 : m_C mt415 := ⟨by decide +kernel, m_cd (k := 12) (i := 105) rfl rfl rfl, by decide⟩
theorem mc416 : m_C mt416 := ⟨by decide +kernel, m_cd (k := 12) (i := 109) rfl rfl rfl, by decide⟩
theorem mc417 : m_C mt417 := ⟨by decide +kernel, m_cd (k := 12) (i := 113) rfl rfl rfl, by decide⟩
theorem mc418 : m_C mt418 := ⟨by decide +kernel, m_cd (k := 12) (i := 117) rfl rfl rfl, by decide⟩
end
section
/-! PRINTED by wip/whole/gen.py: the tables of all methods -/
def m_G (M : am_M) : Prop := am_tab m_cl m_tys m_P m_Ts m_sn m_sr M (M.1.name == "<init>")
theorem mg0 : m_G mt0 := am_tab_all (M := mt0) m_Tc_in mK0_ok mt0_ck
theorem mg1 : m_G mt1 := am_tab_all (M := mt1) m_Tc_in mK1_ok mt1_ck
theorem mg2 : m_G mt2 := am_tab_all (M := mt2) m_Tc_in mK2_ok mt2_ck
theorem mg3 : m_G mt3 := am_tab_all (M := mt3) m_Tc_in mK3_ok mt3_ck
theorem mg4 : m_G mt4 := am_tab_all (M := mt4) m_Tc_in mK4_ok mt4_ck
theorem mg5 : m_G mt5 := am_tab_all (M := mt5) m_Tc_in mK4_ok mt5_ck
theorem mg6 : m_G mt6 := am_tab_all (M := mt6) m_Tc_in mK5_ok mt6_ck
theorem mg7 : m_G mt7 := am_tab_all (M := mt7) m_Tc_in mK6_ok mt7_ck
theorem mg8 : m_G mt8 := am_tab_all (M := mt8) m_Tc_in mK6_ok mt8_ck
theorem mg9 : m_G mt9 := am_tab_all (M := mt9) m_Tc_in mK6_ok mt9_ck
theorem mg10 : m_G mt10 := am_tab_all (M := mt10) m_Tc_in mK6_ok mt10_ck
theorem mg11 : m_G mt11 := am_tab_all (M := mt11) m_Tc_in mK7_ok mt11_ck
theorem mg12 : m_G mt12 := am_tab_all (M := mt12) m_Tc_in mK6_ok mt12_ck
theorem mg13 : m_G mt13 := am_tab_all (M := mt13) m_Tc_in mK8_ok mt13_ck
theorem mg14 : m_G mt14 := am_tab_all (M := mt14) m_Tc_in mK9_ok mt14_ck
theorem mg15 : m_G mt15 := am_tab_all (M := mt15) m_Tc_in mK10_ok mt15_ck
theorem mg16 : m_G mt16 := am_tab_all (M := mt16) m_Tc_in mK11_ok mt16_ck
theorem mg17 : m_G mt17 := am_tab_all (M := mt17) m_Tc_in mK12_ok mt17_ck
theorem mg18 : m_G mt18 := am_tab_all (M := mt18) m_Tc_in mK13_ok mt18_ck
theorem mg19 : m_G mt19 := am_tab_all (M := mt19) m_Tc_in mK14_ok mt19_ck
theorem mg20 : m_G mt20 := am_tab_all (M := mt20) m_Tc_in mK15_ok mt20_ck
theorem mg21 : m_G mt21 := am_tab_all (M := mt21) m_Tc_in mK0_ok mt21_ck
theorem mg22 : m_G mt22 := am_tab_all (M := mt22) m_Tc_in mK1_ok mt22_ck
theorem mg23 : m_G mt23 := am_tab_all (M := mt23) m_Tc_in mK1_ok mt23_ck
theorem mg24 : m_G mt24 := am_tab_all (M := mt24) m_Tc_in mK0_ok mt24_ck
theorem mg25 : m_G mt25 := am_tab_all (M := mt25) m_Tc_in mK0_ok mt25_ck
theorem mg26 : m_G mt26 := am_tab_all (M := mt26) m_Tc_in mK0_ok mt26_ck
theorem mg27 : m_G mt27 := am_tab_all (M := mt27) m_Tc_in mK0_ok mt27_ck
theorem mg28 : m_G mt28 := am_tab_all (M := mt28) m_Tc_in mK14_ok mt28_ck
theorem mg29 : m_G mt29 := am_tab_all (M := mt29) m_Tc_in mK14_ok mt29_ck
theorem mg30 : m_G mt30 := am_tab_all (M := mt30) m_Tc_in mK14_ok mt30_ck
theorem mg31 : m_G mt31 := am_tab_all (M := mt31) m_Tc_in mK0_ok mt31_ck
theorem mg32 : m_G mt32 := am_tab_all (M := mt32) m_Tc_in mK11_ok mt32_ck
theorem mg33 : m_G mt33 := am_tab_all (M := mt33) m_Tc_in mK2_ok mt33_ck
theorem mg34 : m_G mt34 := am_tab_all (M := mt34) m_Tc_in mK2_ok mt34_ck
theorem mg35 : m_G mt35 := am_tab_all (M := mt35) m_Tc_in mK0_ok mt35_ck
theorem mg36 : m_G mt36 := am_tab_all (M := mt36) m_Tc_in mK2_ok mt36_ck
theorem mg37 : m_G mt37 := am_tab_all (M := mt37) m_Tc_in mK0_ok mt37_ck
theorem mg38 : m_G mt38 := am_tab_all (M := mt38) m_Tc_in mK2_ok mt38_ck
theorem mg39 : m_G mt39 := am_tab_all (M := mt39) m_Tc_in mK0_ok mt39_ck
theorem mg40 : m_G mt40 := am_tab_all (M := mt40) m_Tc_in mK2_ok mt40_ck
theorem mg41 : m_G mt41 := am_tab_all (M := mt41) m_Tc_in mK0_ok mt41_ck
theorem mg42 : m_G mt42 := am_tab_all (M := mt42) m_Tc_in mK0_ok mt42_ck
theorem mg43 : m_G mt43 := am_tab_all (M := mt43) m_Tc_in mK2_ok mt43_ck
theorem mg44 : m_G mt44 := am_tab_all (M := mt44) m_Tc_in mK5_ok mt44_ck
theorem mg45 : m_G mt45 := am_tab_all (M := mt45) m_Tc_in mK9_ok mt45_ck
theorem mg46 : m_G mt46 := am_tab_all (M := mt46) m_Tc_in mK9_ok mt46_ck
theorem mg47 : m_G mt47 := am_tab_all (M := mt47) m_Tc_in mK9_ok mt47_ck
theorem mg48 : m_G mt48 := am_tab_all (M := mt48) m_Tc_in mK10_ok mt48_ck
theorem mg49 : m_G mt49 := am_tab_all (M := mt49) m_Tc_in mK10_ok mt49_ck
theorem mg50 : m_G mt50 := am_tab_all (M := mt50) m_Tc_in mK16_ok mt50_ck
theorem mg51 : m_G mt51 := am_tab_all (M := mt51) m_Tc_in mK9_ok mt51_ck
theorem mg52 : m_G mt52 := am_tab_all (M := mt52) m_Tc_in mK3_ok mt52_ck
theorem mg53 : m_G mt53 := am_tab_all (M := mt53) m_Tc_in mK3_ok mt53_ck
theorem mg54 : m_G mt54 := am_tab_all (M := mt54) m_Tc_in mK3_ok mt54_ck
theorem mg55 : m_G mt55 := am_tab_all (M := mt55) m_Tc_in mK3_ok mt55_ck
theorem mg56 : m_G mt56 := am_tab_all (M := mt56) m_Tc_in mK3_ok mt56_ck
theorem mg57 : m_G mt57 := am_tab_all (M := mt57) m_Tc_in mK3_ok mt57_ck
theorem mg58 : m_G mt58 := am_tab_all (M := mt58) m_Tc_in mK9_ok mt58_ck
theorem mg59 : m_G mt59 := am_tab_all (M := mt59) m_Tc_in mK9_ok mt59_ck
theorem mg60 : m_G mt60 := am_tab_all (M := mt60) m_Tc_in mK10_ok mt60_ck
theorem mg61 : m_G mt61 := am_tab_all (M := mt61) m_Tc_in mK16_ok mt61_ck
theorem mg62 : m_G mt62 := am_tab_all (M := mt62) m_Tc_in mK16_ok mt62_ck
theorem mg63 : m_G mt63 := am_tab_all (M := mt63) m_Tc_in mK9_ok mt63_ck
theorem mg64 : m_G mt64 := am_tab_all (M := mt64) m_Tc_in mK9_ok mt64_ck
theorem mg65 : m_G mt65 := am_tab_all (M := mt65) m_Tc_in mK0_ok mt65_ck
theorem mg66 : m_G mt66 := am_tab_all (M := mt66) m_Tc_in mK2_ok mt66_ck
theorem mg67 : m_G mt67 := am_tab_all (M := mt67) m_Tc_in mK0_ok mt67_ck
theorem mg68 : m_G mt68 := am_tab_all (M := mt68) m_Tc_in mK0_ok mt68_ck
theorem mg69 : m_G mt69 := am_tab_all (M := mt69) m_Tc_in mK2_ok mt69_ck
theorem mg70 : m_G mt70 := am_tab_all (M := mt70) m_Tc_in mK0_ok mt70_ck
theorem mg71 : m_G mt71 := am_tab_all (M := mt71) m_Tc_in mK1_ok mt71_ck
theorem mg72 : m_G mt72 := am_tab_all (M := mt72) m_Tc_in mK1_ok mt72_ck
theorem mg73 : m_G mt73 := am_tab_all (M := mt73) m_Tc_in mK1_ok mt73_ck
theorem mg74 : m_G mt74 := am_tab_all (M := mt74) m_Tc_in mK1_ok mt74_ck
theorem mg75 : m_G mt75 := am_tab_all (M := mt75) m_Tc_in mK1_ok mt75_ck
theorem mg76 : m_G mt76 := am_tab_all (M := mt76) m_Tc_in mK3_ok mt76_ck
theorem mg77 : m_G mt77 := am_tab_all (M := mt77) m_Tc_in mK4_ok mt77_ck
theorem mg78 : m_G mt78 := am_tab_all (M := mt78) m_Tc_in mK4_ok mt78_ck
theorem mg79 : m_G mt79 := am_tab_all (M := mt79) m_Tc_in mK1_ok mt79_ck
theorem mg80 : m_G mt80 := am_tab_all (M := mt80) m_Tc_in mK1_ok mt80_ck
theorem mg81 : m_G mt81 := am_tab_all (M := mt81) m_Tc_in mK4_ok mt81_ck
theorem mg82 : m_G mt82 := am_tab_all (M := mt82) m_Tc_in mK4_ok mt82_ck
theorem mg83 : m_G mt83 := am_tab_all (M := mt83) m_Tc_in mK4_ok mt83_ck
theorem mg84 : m_G mt84 := am_tab_all (M := mt84) m_Tc_in mK1_ok mt84_ck
theorem mg85 : m_G mt85 := am_tab_all (M := mt85) m_Tc_in mK3_ok mt85_ck
theorem mg86 : m_G mt86 := am_tab_all (M := mt86) m_Tc_in mK3_ok mt86_ck
theorem mg87 : m_G mt87 := am_tab_all (M := mt87) m_Tc_in mK4_ok mt87_ck
theorem mg88 : m_G mt88 := am_tab_all (M := mt88) m_Tc_in mK4_ok mt88_ck
theorem mg89 : m_G mt89 := am_tab_all (M := mt89) m_Tc_in mK4_ok mt89_ck
theorem mg90 : m_G mt90 := am_tab_all (M := mt90) m_Tc_in mK4_ok mt90_ck
theorem mg91 : m_G mt91 := am_tab_all (M := mt91) m_Tc_in mK4_ok mt91_ck
theorem mg92 : m_G mt92 := am_tab_all (M := mt92) m_Tc_in mK4_ok mt92_ck
theorem mg93 : m_G mt93 := am_tab_all (M := mt93) m_Tc_in mK4_ok mt93_ck
theorem mg94 : m_G mt94 := am_tab_all (M := mt94) m_Tc_in mK4_ok mt94_ck
theorem mg95 : m_G mt95 := am_tab_all (M := mt95) m_Tc_in mK4_ok mt95_ck
theorem mg96 : m_G mt96 := am_tab_all (M := mt96) m_Tc_in mK4_ok mt96_ck
theorem mg97 : m_G mt97 := am_tab_all (M := mt97) m_Tc_in mK3_ok mt97_ck
theorem mg98 : m_G mt98 := am_tab_all (M := mt98) m_Tc_in mK4_ok mt98_ck
theorem mg99 : m_G mt99 := am_tab_all (M := mt99) m_Tc_in mK4_ok mt99_ck
theorem mg100 : m_G mt100 := am_tab_all (M := mt100) m_Tc_in mK4_ok mt100_ck
theorem mg101 : m_G mt101 := am_tab_all (M := mt101) m_Tc_in mK4_ok mt101_ck
theorem mg102 : m_G mt102 := am_tab_all (M := mt102) m_Tc_in mK3_ok mt102_ck
theorem mg103 : m_G mt103 := am_tab_all (M := mt103) m_Tc_in mK4_ok mt103_ck
theorem mg104 : m_G mt104 := am_tab_all (M := mt104) m_Tc_in mK4_ok mt104_ck
theorem mg105 : m_G mt105 := am_tab_all (M := mt105) m_Tc_in mK4_ok mt105_ck
theorem mg106 : m_G mt106 := am_tab_all (M := mt106) m_Tc_in mK3_ok mt106_ck
theorem mg107 : m_G mt107 := am_tab_all (M := mt107) m_Tc_in mK3_ok mt107_ck
theorem mg108 : m_G mt108 := am_tab_all (M := mt108) m_Tc_in mK0_ok mt108_ck
theorem mg109 : m_G mt109 := am_tab_all (M := mt109) m_Tc_in mK0_ok mt109_ck
theorem mg110 : m_G mt110 := am_tab_all (M := mt110) m_Tc_in mK3_ok mt110_ck
theorem mg111 : m_G mt111 := am_tab_all (M := mt111) m_Tc_in mK0_ok mt111_ck
theorem mg112 : m_G mt112 := am_tab_all (M := mt112) m_Tc_in mK0_ok mt112_ck
theorem mg113 : m_G mt113 := am_tab_all (M := mt113) m_Tc_in mK1_ok mt113_ck
theorem mg114 : m_G mt114 := am_tab_all (M := mt114) m_Tc_in mK0_ok mt114_ck
theorem mg115 : m_G mt115 := am_tab_all (M := mt115) m_Tc_in mK3_ok mt115_ck
theorem mg116 : m_G mt116 := am_tab_all (M := mt116) m_Tc_in mK0_ok mt116_ck
theorem mg117 : m_G mt117 := am_tab_all (M := mt117) m_Tc_in mK0_ok mt117_ck
theorem mg118 : m_G mt118 := am_tab_all (M := mt118) m_Tc_in mK3_ok mt118_ck
theorem mg119 : m_G mt119 := am_tab_all (M := mt119) m_Tc_in mK17_ok mt119_ck
theorem mg120 : m_G mt120 := am_tab_all (M := mt120) m_Tc_in mK0_ok mt120_ck
theorem mg121 : m_G mt121 := am_tab_all (M := mt121) m_Tc_in mK10_ok mt121_ck
theorem mg122 : m_G mt122 := am_tab_all (M := mt122) m_Tc_in mK10_ok mt122_ck
theorem mg123 : m_G mt123 := am_tab_all (M := mt123) m_Tc_in mK3_ok mt123_ck
theorem mg124 : m_G mt124 := am_tab_all (M := mt124) m_Tc_in mK3_ok mt124_ck
theorem mg125 : m_G mt125 := am_tab_all (M := mt125) m_Tc_in mK3_ok mt125_ck
theorem mg126 : m_G mt126 := am_tab_all (M := mt126) m_Tc_in mK10_ok mt126_ck
theorem mg127 : m_G mt127 := am_tab_all (M := mt127) m_Tc_in mK3_ok mt127_ck
theorem mg128 : m_G mt128 := am_tab_all (M := mt128) m_Tc_in mK3_ok mt128_ck
theorem mg129 : m_G mt129 := am_tab_all (M := mt129) m_Tc_in mK3_ok mt129_ck
theorem mg130 : m_G mt130 := am_tab_all (M := mt130) m_Tc_in mK0_ok mt130_ck
theorem mg131 : m_G mt131 := am_tab_all (M := mt131) m_Tc_in mK0_ok mt131_ck
theorem mg132 : m_G mt132 := am_tab_all (M := mt132) m_Tc_in mK0_ok mt132_ck
theorem mg133 : m_G mt133 := am_tab_all (M := mt133) m_Tc_in mK0_ok mt133_ck
theorem mg134 : m_G mt134 := am_tab_all (M := mt134) m_Tc_in mK9_ok mt134_ck
theorem mg135 : m_G mt135 := am_tab_all (M := mt135) m_Tc_in mK16_ok mt135_ck
theorem mg136 : m_G mt136 := am_tab_all (M := mt136) m_Tc_in mK9_ok mt136_ck
theorem mg137 : m_G mt137 := am_tab_all (M := mt137) m_Tc_in mK0_ok mt137_ck
theorem mg138 : m_G mt138 := am_tab_all (M := mt138) m_Tc_in mK0_ok mt138_ck
theorem mg139 : m_G mt139 := am_tab_all (M := mt139) m_Tc_in mK9_ok mt139_ck
theorem mg140 : m_G mt140 := am_tab_all (M := mt140) m_Tc_in mK10_ok mt140_ck
theorem mg141 : m_G mt141 := am_tab_all (M := mt141) m_Tc_in mK0_ok mt141_ck
theorem mg142 : m_G mt142 := am_tab_all (M := mt142) m_Tc_in mK10_ok mt142_ck
theorem mg143 : m_G mt143 := am_tab_all (M := mt143) m_Tc_in mK0_ok mt143_ck
theorem mg144 : m_G mt144 := am_tab_all (M := mt144) m_Tc_in mK9_ok mt144_ck
theorem mg145 : m_G mt145 := am_tab_all (M := mt145) m_Tc_in mK9_ok mt145_ck
theorem mg146 : m_G mt146 := am_tab_all (M := mt146) m_Tc_in mK10_ok mt146_ck
theorem mg147 : m_G mt147 := am_tab_all (M := mt147) m_Tc_in mK0_ok mt147_ck
theorem mg148 : m_G mt148 := am_tab_all (M := mt148) m_Tc_in mK9_ok mt148_ck
theorem mg149 : m_G mt149 := am_tab_all (M := mt149) m_Tc_in mK9_ok mt149_ck
theorem mg150 : m_G mt150 := am_tab_all (M := mt150) m_Tc_in mK9_ok mt150_ck
theorem mg151 : m_G mt151 := am_tab_all (M := mt151) m_Tc_in mK9_ok mt151_ck
theorem mg152 : m_G mt152 := am_tab_all (M := mt152) m_Tc_in mK0_ok mt152_ck
theorem mg153 : m_G mt153 := am_tab_all (M := mt153) m_Tc_in mK0_ok mt153_ck
theorem mg154 : m_G mt154 := am_tab_all (M := mt154) m_Tc_in mK16_ok mt154_ck
theorem mg155 : m_G mt155 := am_tab_all (M := mt155) m_Tc_in mK0_ok mt155_ck
theorem mg156 : m_G mt156 := am_tab_all (M := mt156) m_Tc_in mK16_ok mt156_ck
theorem mg157 : m_G mt157 := am_tab_all (M := mt157) m_Tc_in mK16_ok mt157_ck
theorem mg158 : m_G mt158 := am_tab_all (M := mt158) m_Tc_in mK0_ok mt158_ck
theorem mg159 : m_G mt159 := am_tab_all (M := mt159) m_Tc_in mK9_ok mt159_ck
theorem mg160 : m_G mt160 := am_tab_all (M := mt160) m_Tc_in mK9_ok mt160_ck
theorem mg161 : m_G mt161 := am_tab_all (M := mt161) m_Tc_in mK2_ok mt161_ck
theorem mg162 : m_G mt162 := am_tab_all (M := mt162) m_Tc_in mK9_ok mt162_ck
theorem mg163 : m_G mt163 := am_tab_all (M := mt163) m_Tc_in mK0_ok mt163_ck
theorem mg164 : m_G mt164 := am_tab_all (M := mt164) m_Tc_in mK16_ok mt164_ck
theorem mg165 : m_G mt165 := am_tab_all (M := mt165) m_Tc_in mK9_ok mt165_ck
theorem mg166 : m_G mt166 := am_tab_all (M := mt166) m_Tc_in mK0_ok mt166_ck
theorem mg167 : m_G mt167 := am_tab_all (M := mt167) m_Tc_in mK9_ok mt167_ck
theorem mg168 : m_G mt168 := am_tab_all (M := mt168) m_Tc_in mK0_ok mt168_ck
theorem mg169 : m_G mt169 := am_tab_all (M := mt169) m_Tc_in mK10_ok mt169_ck
theorem mg170 : m_G mt170 := am_tab_all (M := mt170) m_Tc_in mK0_ok mt170_ck
theorem mg171 : m_G mt171 := am_tab_all (M := mt171) m_Tc_in mK9_ok mt171_ck
theorem mg172 : m_G mt172 := am_tab_all (M := mt172) m_Tc_in mK9_ok mt172_ck
theorem mg173 : m_G mt173 := am_tab_all (M := mt173) m_Tc_in mK9_ok mt173_ck
theorem mg174 : m_G mt174 := am_tab_all (M := mt174) m_Tc_in mK2_ok mt174_ck
theorem mg175 : m_G mt175 := am_tab_all (M := mt175) m_Tc_in mK0_ok mt175_ck
theorem mg176 : m_G mt176 := am_tab_all (M := mt176) m_Tc_in mK0_ok mt176_ck
theorem mg177 : m_G mt177 := am_tab_all (M := mt177) m_Tc_in mK0_ok mt177_ck
theorem mg178 : m_G mt178 := am_tab_all (M := mt178) m_Tc_in mK9_ok mt178_ck
theorem mg179 : m_G mt179 := am_tab_all (M := mt179) m_Tc_in mK9_ok mt179_ck
theorem mg180 : m_G mt180 := am_tab_all (M := mt180) m_Tc_in mK9_ok mt180_ck
theorem mg181 : m_G mt181 := am_tab_all (M := mt181) m_Tc_in mK0_ok mt181_ck
theorem mg182 : m_G mt182 := am_tab_all (M := mt182) m_Tc_in mK9_ok mt182_ck
theorem mg183 : m_G mt183 := am_tab_all (M := mt183) m_Tc_in mK0_ok mt183_ck
theorem mg184 : m_G mt184 := am_tab_all (M := mt184) m_Tc_in mK16_ok mt184_ck
theorem mg185 : m_G mt185 := am_tab_all (M := mt185) m_Tc_in mK9_ok mt185_ck
theorem mg186 : m_G mt186 := am_tab_all (M := mt186) m_Tc_in mK9_ok mt186_ck
theorem mg187 : m_G mt187 := am_tab_all (M := mt187) m_Tc_in mK0_ok mt187_ck
theorem mg188 : m_G mt188 := am_tab_all (M := mt188) m_Tc_in mK0_ok mt188_ck
theorem mg189 : m_G mt189 := am_tab_all (M := mt189) m_Tc_in mK9_ok mt189_ck
theorem mg190 : m_G mt190 := am_tab_all (M := mt190) m_Tc_in mK0_ok mt190_ck
theorem mg191 : m_G mt191 := am_tab_all (M := mt191) m_Tc_in mK0_ok mt191_ck
theorem mg192 : m_G mt192 := am_tab_all (M := mt192) m_Tc_in mK0_ok mt192_ck
theorem mg193 : m_G mt193 := am_tab_all (M := mt193) m_Tc_in mK11_ok mt193_ck
theorem mg194 : m_G mt194 := am_tab_all (M := mt194) m_Tc_in mK11_ok mt194_ck
theorem mg195 : m_G mt195 := am_tab_all (M := mt195) m_Tc_in mK11_ok mt195_ck
theorem mg196 : m_G mt196 := am_tab_all (M := mt196) m_Tc_in mK0_ok mt196_ck
theorem mg197 : m_G mt197 := am_tab_all (M := mt197) m_Tc_in mK11_ok mt197_ck
theorem mg198 : m_G mt198 := am_tab_all (M := mt198) m_Tc_in mK0_ok mt198_ck
theorem mg199 : m_G mt199 := am_tab_all (M := mt199) m_Tc_in mK11_ok mt199_ck
theorem mg200 : m_G mt200 := am_tab_all (M := mt200) m_Tc_in mK9_ok mt200_ck
theorem mg201 : m_G mt201 := am_tab_all (M := mt201) m_Tc_in mK16_ok mt201_ck
theorem mg202 : m_G mt202 := am_tab_all (M := mt202) m_Tc_in mK0_ok mt202_ck
theorem mg203 : m_G mt203 := am_tab_all (M := mt203) m_Tc_in mK11_ok mt203_ck
theorem mg204 : m_G mt204 := am_tab_all (M := mt204) m_Tc_in mK0_ok mt204_ck
theorem mg205 : m_G mt205 := am_tab_all (M := mt205) m_Tc_in mK11_ok mt205_ck
theorem mg206 : m_G mt206 := am_tab_all (M := mt206) m_Tc_in mK0_ok mt206_ck
theorem mg207 : m_G mt207 := am_tab_all (M := mt207) m_Tc_in mK11_ok mt207_ck
theorem mg208 : m_G mt208 := am_tab_all (M := mt208) m_Tc_in mK0_ok mt208_ck
theorem mg209 : m_G mt209 := am_tab_all (M := mt209) m_Tc_in mK11_ok mt209_ck
theorem mg210 : m_G mt210 := am_tab_all (M := mt210) m_Tc_in mK9_ok mt210_ck
theorem mg211 : m_G mt211 := am_tab_all (M := mt211) m_Tc_in mK0_ok mt211_ck
theorem mg212 : m_G mt212 := am_tab_all (M := mt212) m_Tc_in mK11_ok mt212_ck
theorem mg213 : m_G mt213 := am_tab_all (M := mt213) m_Tc_in mK0_ok mt213_ck
theorem mg214 : m_G mt214 := am_tab_all (M := mt214) m_Tc_in mK0_ok mt214_ck
theorem mg215 : m_G mt215 := am_tab_all (M := mt215) m_Tc_in mK13_ok mt215_ck
theorem mg216 : m_G mt216 := am_tab_all (M := mt216) m_Tc_in mK0_ok mt216_ck
theorem mg217 : m_G mt217 := am_tab_all (M := mt217) m_Tc_in mK13_ok mt217_ck
theorem mg218 : m_G mt218 := am_tab_all (M := mt218) m_Tc_in mK13_ok mt218_ck
theorem mg219 : m_G mt219 := am_tab_all (M := mt219) m_Tc_in mK0_ok mt219_ck
theorem mg220 : m_G mt220 := am_tab_all (M := mt220) m_Tc_in mK13_ok mt220_ck
theorem mg221 : m_G mt221 := am_tab_all (M := mt221) m_Tc_in mK13_ok mt221_ck
theorem mg222 : m_G mt222 := am_tab_all (M := mt222) m_Tc_in mK13_ok mt222_ck
theorem mg223 : m_G mt223 := am_tab_all (M := mt223) m_Tc_in mK16_ok mt223_ck
theorem mg224 : m_G mt224 := am_tab_all (M := mt224) m_Tc_in mK13_ok mt224_ck
theorem mg225 : m_G mt225 := am_tab_all (M := mt225) m_Tc_in mK13_ok mt225_ck
theorem mg226 : m_G mt226 := am_tab_all (M := mt226) m_Tc_in mK13_ok mt226_ck
theorem mg227 : m_G mt227 := am_tab_all (M := mt227) m_Tc_in mK13_ok mt227_ck
theorem mg228 : m_G mt228 := am_tab_all (M := mt228) m_Tc_in mK0_ok mt228_ck
theorem mg229 : m_G mt229 := am_tab_all (M := mt229) m_Tc_in mK13_ok mt229_ck
theorem mg230 : m_G mt230 := am_tab_all (M := mt230) m_Tc_in mK0_ok mt230_ck
theorem mg231 : m_G mt231 := am_tab_all (M := mt231) m_Tc_in mK0_ok mt231_ck
theorem mg232 : m_G mt232 := am_tab_all (M := mt232) m_Tc_in mK13_ok mt232_ck
theorem mg233 : m_G mt233 := am_tab_all (M := mt233) m_Tc_in mK0_ok mt233_ck
theorem mg234 : m_G mt234 := am_tab_all (M := mt234) m_Tc_in mK14_ok mt234_ck
theorem mg235 : m_G mt235 := am_tab_all (M := mt235) m_Tc_in mK0_ok mt235_ck
theorem mg236 : m_G mt236 := am_tab_all (M := mt236) m_Tc_in mK14_ok mt236_ck
theorem mg237 : m_G mt237 := am_tab_all (M := mt237) m_Tc_in mK14_ok mt237_ck
theorem mg238 : m_G mt238 := am_tab_all (M := mt238) m_Tc_in mK14_ok mt238_ck
theorem mg239 : m_G mt239 := am_tab_all (M := mt239) m_Tc_in mK14_ok mt239_ck
theorem mg240 : m_G mt240 := am_tab_all (M := mt240) m_Tc_in mK0_ok mt240_ck
theorem mg241 : m_G mt241 := am_tab_all (M := mt241) m_Tc_in mK14_ok mt241_ck
theorem mg242 : m_G mt242 := am_tab_all (M := mt242) m_Tc_in mK0_ok mt242_ck
theorem mg243 : m_G mt243 := am_tab_all (M := mt243) m_Tc_in mK14_ok mt243_ck
theorem mg244 : m_G mt244 := am_tab_all (M := mt244) m_Tc_in mK0_ok mt244_ck
theorem mg245 : m_G mt245 := am_tab_all (M := mt245) m_Tc_in mK15_ok mt245_ck
theorem mg246 : m_G mt246 := am_tab_all (M := mt246) m_Tc_in mK0_ok mt246_ck
theorem mg247 : m_G mt247 := am_tab_all (M := mt247) m_Tc_in mK15_ok mt247_ck
theorem mg248 : m_G mt248 := am_tab_all (M := mt248) m_Tc_in mK15_ok mt248_ck
theorem mg249 : m_G mt249 := am_tab_all (M := mt249) m_Tc_in mK15_ok mt249_ck
theorem mg250 : m_G mt250 := am_tab_all (M := mt250) m_Tc_in mK15_ok mt250_ck
theorem mg251 : m_G mt251 := am_tab_all (M := mt251) m_Tc_in mK15_ok mt251_ck
theorem mg252 : m_G mt252 := am_tab_all (M := mt252) m_Tc_in mK15_ok mt252_ck
theorem mg253 : m_G mt253 := am_tab_all (M := mt253) m_Tc_in mK15_ok mt253_ck
theorem mg254 : m_G mt254 := am_tab_all (M := mt254) m_Tc_in mK15_ok mt254_ck
theorem mg255 : m_G mt255 := am_tab_all (M := mt255) m_Tc_in mK15_ok mt255_ck
theorem mg256 : m_G mt256 := am_tab_all (M := mt256) m_Tc_in mK0_ok mt256_ck
theorem mg257 : m_G mt257 := am_tab_all (M := mt257) m_Tc_in mK15_ok mt257_ck
theorem mg258 : m_G mt258 := am_tab_all (M := mt258) m_Tc_in mK15_ok mt258_ck
theorem mg259 : m_G mt259 := am_tab_all (M := mt259) m_Tc_in mK0_ok mt259_ck
theorem mg260 : m_G mt260 := am_tab_all (M := mt260) m_Tc_in mK9_ok mt260_ck
theorem mg261 : m_G mt261 := am_tab_all (M := mt261) m_Tc_in mK0_ok mt261_ck
theorem mg262 : m_G mt262 := am_tab_all (M := mt262) m_Tc_in mK9_ok mt262_ck
theorem mg263 : m_G mt263 := am_tab_all (M := mt263) m_Tc_in mK0_ok mt263_ck
theorem mg264 : m_G mt264 := am_tab_all (M := mt264) m_Tc_in mK16_ok mt264_ck
theorem mg265 : m_G mt265 := am_tab_all (M := mt265) m_Tc_in mK9_ok mt265_ck
theorem mg266 : m_G mt266 := am_tab_all (M := mt266) m_Tc_in mK0_ok mt266_ck
theorem mg267 : m_G mt267 := am_tab_all (M := mt267) m_Tc_in mK9_ok mt267_ck
theorem mg268 : m_G mt268 := am_tab_all (M := mt268) m_Tc_in mK18_ok mt268_ck
theorem mg269 : m_G mt269 := am_tab_all (M := mt269) m_Tc_in mK18_ok mt269_ck
theorem mg270 : m_G mt270 := am_tab_all (M := mt270) m_Tc_in mK18_ok mt270_ck
theorem mg271 : m_G mt271 := am_tab_all (M := mt271) m_Tc_in mK18_ok mt271_ck
theorem mg272 : m_G mt272 := am_tab_all (M := mt272) m_Tc_in mK18_ok mt272_ck
theorem mg273 : m_G mt273 := am_tab_all (M := mt273) m_Tc_in mK18_ok mt273_ck
theorem mg274 : m_G mt274 := am_tab_all (M := mt274) m_Tc_in mK18_ok mt274_ck
theorem mg275 : m_G mt275 := am_tab_all (M := mt275) m_Tc_in mK18_ok mt275_ck
theorem mg276 : m_G mt276 := am_tab_all (M := mt276) m_Tc_in mK18_ok mt276_ck
theorem mg277 : m_G mt277 := am_tab_all (M := mt277) m_Tc_in mK18_ok mt277_ck
theorem mg278 : m_G mt278 := am_tab_all (M := mt278) m_Tc_in mK18_ok mt278_ck
theorem mg279 : m_G mt279 := am_tab_all (M := mt279) m_Tc_in mK18_ok mt279_ck
theorem mg280 : m_G mt280 := am_tab_all (M := mt280) m_Tc_in mK18_ok mt280_ck
theorem mg281 : m_G mt281 := am_tab_all (M := mt281) m_Tc_in mK18_ok mt281_ck
theorem mg282 : m_G mt282 := am_tab_all (M := mt282) m_Tc_in mK18_ok mt282_ck
theorem mg283 : m_G mt283 := am_tab_all (M := mt283) m_Tc_in mK18_ok mt283_ck
theorem mg284 : m_G mt284 := am_tab_all (M := mt284) m_Tc_in mK18_ok mt284_ck
theorem mg285 : m_G mt285 := am_tab_all (M := mt285) m_Tc_in mK18_ok mt285_ck
theorem mg286 : m_G mt286 := am_tab_all (M := mt286) m_Tc_in mK18_ok mt286_ck
theorem mg287 : m_G mt287 := am_tab_all (M := mt287) m_Tc_in mK18_ok mt287_ck
theorem mg288 : m_G mt288 := am_tab_all (M := mt288) m_Tc_in mK18_ok mt288_ck
theorem mg289 : m_G mt289 := am_tab_all (M := mt289) m_Tc_in mK18_ok mt289_ck
theorem mg290 : m_G mt290 := am_tab_all (M := mt290) m_Tc_in mK18_ok mt290_ck
theorem mg291 : m_G mt291 := am_tab_all (M := mt291) m_Tc_in mK18_ok mt291_ck
theorem mg292 : m_G mt292 := am_tab_all (M := mt292) m_Tc_in mK18_ok mt292_ck
theorem mg293 : m_G mt293 := am_tab_all (M := mt293) m_Tc_in mK18_ok mt293_ck
theorem mg294 : m_G mt294 := am_tab_all (M := mt294) m_Tc_in mK18_ok mt294_ck
theorem mg295 : m_G mt295 := am_tab_all (M := mt295) m_Tc_in mK18_ok mt295_ck
theorem mg296 : m_G mt296 := am_tab_all (M := mt296) m_Tc_in mK18_ok mt296_ck
theorem mg297 : m_G mt297 := am_tab_all (M := mt297) m_Tc_in mK18_ok mt297_ck
theorem mg298 : m_G mt298 := am_tab_all (M := mt298) m_Tc_in mK18_ok mt298_ck
theorem mg299 : m_G mt299 := am_tab_all (M := mt299) m_Tc_in mK18_ok mt299_ck
theorem mg300 : m_G mt300 := am_tab_all (M := mt300) m_Tc_in mK18_ok mt300_ck
theorem mg301 : m_G mt301 := am_tab_all (M := mt301) m_Tc_in mK18_ok mt301_ck
theorem mg302 : m_G mt302 := am_tab_all (M := mt302) m_Tc_in mK18_ok mt302_ck
theorem mg303 : m_G mt303 := am_tab_all (M := mt303) m_Tc_in mK18_ok mt303_ck
theorem mg304 : m_G mt304 := am_tab_all (M := mt304) m_Tc_in mK18_ok mt304_ck
theorem mg305 : m_G mt305 := am_tab_all (M := mt305) m_Tc_in mK18_ok mt305_ck
theorem mg306 : m_G mt306 := am_tab_all (M := mt306) m_Tc_in mK18_ok mt306_ck
theorem mg307 : m_G mt307 := am_tab_all (M := mt307) m_Tc_in mK18_ok mt307_ck
theorem mg308 : m_G mt308 := am_tab_all (M := mt308) m_Tc_in mK18_ok mt308_ck
theorem mg309 : m_G mt309 := am_tab_all (M := mt309) m_Tc_in mK18_ok mt309_ck
theorem mg310 : m_G mt310 := am_tab_all (M := mt310) m_Tc_in mK18_ok mt310_ck
theorem mg311 : m_G mt311 := am_tab_all (M := mt311) m_Tc_in mK18_ok mt311_ck
theorem mg312 : m_G mt312 := am_tab_all (M := mt312) m_Tc_in mK18_ok mt312_ck
theorem mg313 : m_G mt313 := am_tab_all (M := mt313) m_Tc_in mK18_ok mt313_ck
theorem mg314 : m_G mt314 := am_tab_all (M := mt314) m_Tc_in mK18_ok mt314_ck
theorem mg315 : m_G mt315 := am_tab_all (M := mt315) m_Tc_in mK18_ok mt315_ck
theorem mg316 : m_G mt316 := am_tab_all (M := mt316) m_Tc_in mK18_ok mt316_ck
theorem mg317 : m_G mt317 := am_tab_all (M := mt317) m_Tc_in mK18_ok mt317_ck
theorem mg318 : m_G mt318 := am_tab_all (M := mt318) m_Tc_in mK18_ok mt318_ck
theorem mg319 : m_G mt319 := am_tab_all (M := mt319) m_Tc_in mK18_ok mt319_ck
theorem mg320 : m_G mt320 := am_tab_all (M := mt320) m_Tc_in mK18_ok mt320_ck
theorem mg321 : m_G mt321 := am_tab_all (M := mt321) m_Tc_in mK18_ok mt321_ck
theorem mg322 : m_G mt322 := am_tab_all (M := mt322) m_Tc_in mK18_ok mt322_ck
theorem mg323 : m_G mt323 := am_tab_all (M := mt323) m_Tc_in mK18_ok mt323_ck
theorem mg324 : m_G mt324 := am_tab_all (M := mt324) m_Tc_in mK18_ok mt324_ck
theorem mg325 : m_G mt325 := am_tab_all (M := mt325) m_Tc_in mK18_ok mt325_ck
theorem mg326 : m_G mt326 := am_tab_all (M := mt326) m_Tc_in mK18_ok mt326_ck
theorem mg327 : m_G mt327 := am_tab_all (M := mt327) m_Tc_in mK18_ok mt327_ck
theorem mg328 : m_G mt328 := am_tab_all (M := mt328) m_Tc_in mK18_ok mt328_ck
theorem mg329 : m_G mt329 := am_tab_all (M := mt329) m_Tc_in mK18_ok mt329_ck
theorem mg330 : m_G mt330 := am_tab_all (M := mt330) m_Tc_in mK18_ok mt330_ck
theorem mg331 : m_G mt331 := am_tab_all (M := mt331) m_Tc_in mK18_ok mt331_ck
theorem mg332 : m_G mt332 := am_tab_all (M := mt332) m_Tc_in mK18_ok mt332_ck
theorem mg333 : m_G mt333 := am_tab_all (M := mt333) m_Tc_in mK18_ok mt333_ck
theorem mg334 : m_G mt334 := am_tab_all (M := mt334) m_Tc_in mK18_ok mt334_ck
theorem mg335 : m_G mt335 := am_tab_all (M := mt335) m_Tc_in mK18_ok mt335_ck
theorem mg336 : m_G mt336 := am_tab_all (M := mt336) m_Tc_in mK18_ok mt336_ck
theorem mg337 : m_G mt337 := am_tab_all (M := mt337) m_Tc_in mK18_ok mt337_ck
theorem mg338 : m_G mt338 := am_tab_all (M := mt338) m_Tc_in mK18_ok mt338_ck
theorem mg339 : m_G mt339 := am_tab_all (M := mt339) m_Tc_in mK18_ok mt339_ck
theorem mg340 : m_G mt340 := am_tab_all (M := mt340) m_Tc_in mK18_ok mt340_ck
theorem mg341 : m_G mt341 := am_tab_all (M := mt341) m_Tc_in mK18_ok mt341_ck
theorem mg342 : m_G mt342 := am_tab_all (M := mt342) m_Tc_in mK18_ok mt342_ck
theorem mg343 : m_G mt343 := am_tab_all (M := mt343) m_Tc_in mK18_ok mt343_ck
theorem mg344 : m_G mt344 := am_tab_all (M := mt344) m_Tc_in mK18_ok mt344_ck
theorem mg345 : m_G mt345 := am_tab_all (M := mt345) m_Tc_in mK18_ok mt345_ck
theorem mg346 : m_G mt346 := am_tab_all (M := mt346) m_Tc_in mK18_ok mt346_ck
theorem mg347 : m_G mt347 := am_tab_all (M := mt347) m_Tc_in mK18_ok mt347_ck
theorem mg348 : m_G mt348 := am_tab_all (M := mt348) m_Tc_in mK18_ok mt348_ck
theorem mg349 : m_G mt349 := am_tab_all (M := mt349) m_Tc_in mK18_ok mt349_ck
theorem mg350 : m_G mt350 := am_tab_all (M := mt350) m_Tc_in mK18_ok mt350_ck
theorem mg351 : m_G mt351 := am_tab_all (M := mt351) m_Tc_in mK18_ok mt351_ck
theorem mg352 : m_G mt352 := am_tab_all (M := mt352) m_Tc_in mK18_ok mt352_ck
theorem mg353 : m_G mt353 := am_tab_all (M := mt353) m_Tc_in mK18_ok mt353_ck
theorem mg354 : m_G mt354 := am_tab_all (M := mt354) m_Tc_in mK18_ok mt354_ck
theorem mg355 : m_G mt355 := am_tab_all (M := mt355) m_Tc_in mK18_ok mt355_ck
theorem mg356 : m_G mt356 := am_tab_all (M := mt356) m_Tc_in mK18_ok mt356_ck
theorem mg357 : m_G mt357 := am_tab_all (M := mt357) m_Tc_in mK18_ok mt357_ck
theorem mg358 : m_G mt358 := am_tab_all (M := mt358) m_Tc_in mK18_ok mt358_ck
theorem mg359 : m_G mt359 := am_tab_all (M := mt359) m_Tc_in mK18_ok mt359_ck
theorem mg360 : m_G mt360 := am_tab_all (M := mt360) m_Tc_in mK18_ok mt360_ck
theorem mg361 : m_G mt361 := am_tab_all (M := mt361) m_Tc_in mK18_ok mt361_ck
theorem mg362 : m_G mt362 := am_tab_all (M := mt362) m_Tc_in mK18_ok mt362_ck
theorem mg363 : m_G mt363 := am_tab_all (M := mt363) m_Tc_in mK18_ok mt363_ck
theorem mg364 : m_G mt364 := am_tab_all (M := mt364) m_Tc_in mK18_ok mt364_ck
theorem mg365 : m_G mt365 := am_tab_all (M := mt365) m_Tc_in mK18_ok mt365_ck
theorem mg366 : m_G mt366 := am_tab_all (M := mt366) m_Tc_in mK18_ok mt366_ck
theorem mg367 : m_G mt367 := am_tab_all (M := mt367) m_Tc_in mK18_ok mt367_ck
theorem mg368 : m_G mt368 := am_tab_all (M := mt368) m_Tc_in mK18_ok mt368_ck
theorem mg369 : m_G mt369 := am_tab_all (M := mt369) m_Tc_in mK18_ok mt369_ck
theorem mg370 : m_G mt370 := am_tab_all (M := mt370) m_Tc_in mK18_ok mt370_ck
theorem mg371 : m_G mt371 := am_tab_all (M := mt371) m_Tc_in mK18_ok mt371_ck
theorem mg372 : m_G mt372 := am_tab_all (M := mt372) m_Tc_in mK18_ok mt372_ck
theorem mg373 : m_G mt373 := am_tab_all (M := mt373) m_Tc_in mK18_ok mt373_ck
theorem mg374 : m_G mt374 := am_tab_all (M := mt374) m_Tc_in mK18_ok mt374_ck
theorem mg375 : m_G mt375 := am_tab_all (M := mt375) m_Tc_in mK18_ok mt375_ck
theorem mg376 : m_G mt376 := am_tab_all (M := mt376) m_Tc_in mK18_ok mt376_ck
theorem mg377 : m_G mt377 := am_tab_all (M := mt377) m_Tc_in mK18_ok mt377_ck
theorem mg378 : m_G mt378 := am_tab_all (M := mt378) m_Tc_in mK18_ok mt378_ck
theorem mg379 : m_G mt379 := am_tab_all (M := mt379) m_Tc_in mK18_ok mt379_ck
theorem mg380 : m_G mt380 := am_tab_all (M := mt380) m_Tc_in mK18_ok mt380_ck
theorem mg381 : m_G mt381 := am_tab_all (M := mt381) m_Tc_in mK18_ok mt381_ck
theorem mg382 : m_G mt382 := am_tab_all (M := mt382) m_Tc_in mK18_ok mt382_ck
theorem mg383 : m_G mt383 := am_tab_all (M := mt383) m_Tc_in mK18_ok mt383_ck
theorem mg384 : m_G mt384 := am_tab_all (M := mt384) m_Tc_in mK18_ok mt384_ck
theorem mg385 : m_G mt385 := am_tab_all (M := mt385) m_Tc_in mK18_ok mt385_ck
theorem mg386 : m_G mt386 := am_tab_all (M := mt386) m_Tc_in mK18_ok mt386_ck
theorem mg387 : m_G mt387 := am_tab_all (M := mt387) m_Tc_in mK18_ok mt387_ck
theorem mg388 : m_G mt388 := am_tab_all (M := mt388) m_Tc_in mK18_ok mt388_ck
theorem mg389 : m_G mt389 := am_tab_all (M := mt389) m_Tc_in mK18_ok mt389_ck
theorem mg390 : m_G mt390 := am_tab_all (M := mt390) m_Tc_in mK18_ok mt390_ck
theorem mg391 : m_G mt391 := am_tab_all (M := mt391) m_Tc_in mK18_ok mt391_ck
theorem mg392 : m_G mt392 := am_tab_all (M := mt392) m_Tc_in mK18_ok mt392_ck
theorem mg393 : m_G mt393 := am_tab_all (M := mt393) m_Tc_in mK18_ok mt393_ck
theorem mg394 : m_G mt394 := am_tab_all (M := mt394) m_Tc_in mK18_ok mt394_ck
theorem mg395 : m_G mt395 := am_tab_all (M := mt395) m_Tc_in mK18_ok mt395_ck
theorem mg396 : m_G mt396 := am_tab_all (M := mt396) m_Tc_in mK18_ok mt396_ck
theorem mg397 : m_G mt397 := am_tab_all (M := mt397) m_Tc_in mK18_ok mt397_ck
theorem mg398 : m_G mt398 := am_tab_all (M := mt398) m_Tc_in mK18_ok mt398_ck
theorem mg399 : m_G mt399 := am_tab_all (M := mt399) m_Tc_in mK18_ok mt399_ck
theorem mg400 : m_G mt400 := am_tab_all (M := mt400) m_Tc_in mK18_ok mt400_ck
theorem mg401 : m_G mt401 := am_tab_all (M := mt401) m_Tc_in mK18_ok mt401_ck
theorem mg402 : m_G mt402 := am_tab_all (M := mt402) m_Tc_in mK18_ok mt402_ck
theorem mg403 : m_G mt403 := am_tab_all (M := mt403) m_Tc_in mK18_ok mt403_ck
theorem mg404 : m_G mt404 := am_tab_all (M := mt404) m_Tc_in mK18_ok mt404_ck
theorem mg405 : m_G mt405 := am_tab_all (M := mt405) m_Tc_in mK18_ok mt405_ck
theorem mg406 : m_G mt406 := am_tab_all (M := mt406) m_Tc_in mK18_ok mt406_ck
theorem mg407 : m_G mt407 := am_tab_all (M := mt407) m_Tc_in mK18_ok mt407_ck
theorem mg408 : m_G mt408 := am_tab_all (M := mt408) m_Tc_in mK18_ok mt408_ck
theorem mg409 : m_G mt409 := am_tab_all (M := mt409) m_Tc_in mK18_ok mt409_ck
theorem mg410 : m_G mt410 := am_tab_all (M := mt410) m_Tc_in mK18_ok mt410_ck
theorem mg411 : m_G mt411 := am_tab_all (M := mt411) m_Tc_in mK18_ok mt411_ck
theorem mg412 : m_G mt412 := am_tab_all (M := mt412) m_Tc_in mK18_ok mt412_ck
theorem mg413 : m_G mt413 := am_tab_all (M := mt413) m_Tc_in mK18_ok mt413_ck
theorem mg414 : m_G mt414 := am_tab_all (M := mt414) m_Tc_in mK18_ok mt414_ck
theorem mg415 : m_G mt415 := am_tab_all (M := mt415) m_Tc_in mK18_ok mt415_ck
theorem mg416 : m_G mt416 := am_tab_all (M := mt416) m_Tc_in mK18_ok mt416_ck
theorem mg417 : m_G mt417 := am_tab_all (M := mt417) m_Tc_in mK18_ok mt417_ck
theorem mg418 : m_G mt418 := am_tab_all (M := mt418) m_Tc_in mK18_ok mt418_ck
theorem mgL : m_G mtL := am_tab_all (M := mtL) m_Tc_in mK19_ok mtL_ck
end
section
/-! PRINTED by wip/whole/gen.py: the tables of all methods -/
theorem mgc0 : ∀ M ∈ [mt0, mt1, mt2, mt3, mt4, mt5, mt6, mt7, mt8, mt9, mt10, mt11, mt12, mt13, mt14, mt15, mt16, mt17, mt18, mt19, mt20, mt21, mt22, mt23, mt24, mt25, mt26, mt27, mt28, mt29], m_G M ∧ m_C M := List.forall_mem_cons.mpr ⟨⟨mg0, mc0⟩, List.forall_mem_cons.mpr ⟨⟨mg1, mc1⟩, List.forall_mem_cons.mpr ⟨⟨mg2, mc2⟩, List.forall_mem_cons.mpr ⟨⟨mg3, mc3⟩, List.forall_mem_cons.mpr ⟨⟨mg4, mc4⟩, List.forall_mem_cons.mpr ⟨⟨mg5, mc5⟩, List.forall_mem_cons.mpr ⟨⟨mg6, mc6⟩, List.forall_mem_cons.mpr ⟨⟨mg7, mc7⟩, List.forall_mem_cons.mpr ⟨⟨mg8, mc8⟩, List.forall_mem_cons.mpr ⟨⟨mg9, mc9⟩, List.forall_mem_cons.mpr ⟨⟨mg10, mc10⟩, List.forall_mem_cons.mpr ⟨⟨mg11, mc11⟩, List.forall_mem_cons.mpr ⟨⟨mg12, mc12⟩, List.forall_mem_cons.mpr ⟨⟨mg13, mc13⟩, List.forall_mem_cons.mpr ⟨⟨mg14, mc14⟩, List.forall_mem_cons.mpr ⟨⟨mg15, mc15⟩, List.forall_mem_cons.mpr ⟨⟨mg16, mc16⟩, List.forall_mem_cons.mpr ⟨⟨mg17, mc17⟩, List.forall_mem_cons.mpr ⟨⟨mg18, mc18⟩, List.forall_mem_cons.mpr ⟨⟨mg19, mc19⟩, List.forall_mem_cons.mpr ⟨⟨mg20, mc20⟩, List.forall_mem_cons.mpr ⟨⟨mg21, mc21⟩, List.forall_mem_cons.mpr ⟨⟨mg22, mc22⟩, List.forall_mem_cons.mpr ⟨⟨mg23, mc23⟩, List.forall_mem_cons.mpr ⟨⟨mg24, mc24⟩, List.forall_mem_cons.mpr ⟨⟨mg25, mc25⟩, List.forall_mem_cons.mpr ⟨⟨mg26, mc26⟩, List.forall_mem_cons.mpr ⟨⟨mg27, mc27⟩, List.forall_mem_cons.mpr ⟨⟨mg28, mc28⟩, List.forall_mem_cons.mpr ⟨⟨mg29, mc29⟩, fun _ h => absurd h List.not_mem_nil⟩⟩⟩⟩⟩⟩⟩⟩⟩⟩⟩⟩⟩⟩⟩⟩⟩⟩⟩⟩⟩⟩⟩⟩⟩⟩⟩⟩⟩⟩
theorem mgc1 : ∀ M ∈ [mt30, mt31, mt32, mt33, mt34, mt35, mt36, mt37, mt38, mt39, mt40, mt41, mt42, mt43, mt44, mt45, mt46, mt47, mt48, mt49, mt50, mt51, mt52, mt53, mt54, mt55, mt56, mt57, mt58, mt59], m_G M ∧ m_C M := List.forall_mem_cons.mpr ⟨⟨mg30, mc30⟩, List.forall_mem_cons.mpr ⟨⟨mg31, mc31⟩, List.forall_mem_cons.mpr ⟨⟨mg32, mc32⟩, List.forall_mem_cons.mpr ⟨⟨mg33, mc33⟩, List.forall_mem_cons.mpr ⟨⟨mg34, mc34⟩, List.forall_mem_cons.mpr ⟨⟨mg35, mc35⟩, List.forall_mem_cons.mpr ⟨⟨mg36, mc36⟩, List.forall_mem_cons.mpr ⟨⟨mg37, mc37⟩, List.forall_mem_cons.mpr ⟨⟨mg38, mc38⟩, List.forall_mem_cons.mpr ⟨⟨mg39, mc39⟩, List.forall_mem_cons.mpr ⟨⟨mg40, mc40⟩, List.forall_mem_cons.mpr ⟨⟨mg41, mc41⟩, List.forall_mem_cons.mpr ⟨⟨mg42, mc42⟩, List.forall_mem_cons.mpr ⟨⟨mg43, mc43⟩, List.forall_mem_cons.mpr ⟨⟨mg44, mc44⟩, List.forall_mem_cons.mpr ⟨⟨mg45, mc45⟩, List.forall_mem_cons.mpr ⟨⟨mg46, mc46⟩, List.forall_mem_cons.mpr ⟨⟨mg47, mc47⟩, List.forall_mem_cons.mpr ⟨⟨mg48, mc48⟩, List.forall_mem_cons.mpr ⟨⟨mg49, mc49⟩, List.forall_mem_cons.mpr ⟨⟨mg50, mc50⟩, List.forall_mem_cons.mpr ⟨⟨mg51, mc51⟩, List.forall_mem_cons.mpr ⟨⟨mg52, mc52⟩, List.forall_mem_cons.mpr ⟨⟨mg53, mc53⟩, List.forall_mem_cons.mpr ⟨⟨mg54, mc54⟩, List.forall_mem_cons.mpr ⟨⟨mg55, mc55⟩, List.forall_mem_cons.mpr ⟨⟨mg56, mc56⟩, List.forall_mem_cons.mpr ⟨⟨mg57, mc57⟩, List.forall_mem_cons.mpr ⟨⟨mg58, mc58⟩, List.forall_mem_cons.mpr ⟨⟨mg59, mc59⟩, fun _ h => absurd h List.not_mem_nil⟩⟩⟩⟩⟩⟩⟩⟩⟩⟩⟩⟩⟩⟩⟩⟩⟩⟩⟩⟩⟩⟩⟩⟩⟩⟩⟩⟩⟩⟩
theorem mgc2 : ∀ M ∈ [mt60, mt61, mt62, mt63, mt64, mt65, mt66, mt67, mt68, mt69, mt70, mt71, mt72, mt73, mt74, mt75, mt76, mt77, mt78, mt79, mt80, mt81, mt82, mt83, mt84, mt85, mt86, mt87, mt88, mt89], m_G M ∧ m_C M := List.forall_mem_cons.mpr ⟨⟨mg60, mc60⟩, List.forall_mem_cons.mpr ⟨⟨mg61, mc61⟩, List.forall_mem_cons.mpr ⟨⟨mg62, mc62⟩, List.forall_mem_cons.mpr ⟨⟨mg63, mc63⟩, List.forall_mem_cons.mpr ⟨⟨mg64, mc64⟩, List.forall_mem_cons.mpr ⟨⟨mg65, mc65⟩, List.forall_mem_cons.mpr ⟨⟨mg66, mc66⟩, List.forall_mem_cons.mpr ⟨⟨mg67, mc67⟩, List.forall_mem_cons.mpr ⟨⟨mg68, mc68⟩, List.forall_mem_cons.mpr ⟨⟨mg69, mc69⟩, List.forall_mem_cons.mpr ⟨⟨mg70, mc70⟩, List.forall_mem_cons.mpr ⟨⟨mg71, mc71⟩, List.forall_mem_cons.mpr ⟨⟨mg72, mc72⟩, List.forall_mem_cons.mpr ⟨⟨mg73, mc73⟩, List.forall_mem_cons.mpr ⟨⟨mg74, mc74⟩, List.forall_mem_cons.mpr ⟨⟨mg75, mc75⟩, List.forall_mem_cons.mpr ⟨⟨mg76, mc76⟩, List.forall_mem_cons.mpr ⟨⟨mg77, mc77⟩, List.forall_mem_cons.mpr ⟨⟨mg78, mc78⟩, List.forall_mem_cons.mpr ⟨⟨mg79, mc79⟩, List.forall_mem_cons.mpr ⟨⟨mg80, mc80⟩, List.forall_mem_cons.mpr ⟨⟨mg81, mc81⟩, List.forall_mem_cons.mpr ⟨⟨mg82, mc82⟩, List.forall_mem_cons.mpr ⟨⟨mg83, mc83⟩, List.forall_mem_cons.mpr ⟨⟨mg84, mc84⟩, List.forall_mem_cons.mpr ⟨⟨mg85, mc85⟩, List.forall_mem_cons.mpr ⟨⟨mg86, mc86⟩, List.forall_mem_cons.mpr ⟨⟨mg87, mc87⟩, List.forall_mem_cons.mpr ⟨⟨mg88, mc88⟩, List.forall_mem_cons.mpr ⟨⟨mg89, mc89⟩, fun _ h => absurd h List.not_mem_nil⟩⟩⟩⟩⟩⟩⟩⟩⟩⟩⟩⟩⟩⟩⟩⟩⟩⟩⟩⟩⟩⟩⟩⟩⟩⟩⟩⟩⟩⟩
theorem mgc3 : ∀ M ∈ [mt90, mt91, mt92, mt93, mt94, mt95, mt96, mt97, mt98, mt99, mt100, mt101, mt102, mt103, mt104, mt105, mt106, mt107, mt108, mt109, mt110, mt111, mt112, mt113, mt114, mt115, mt116, mt117, mt118, mt119], m_G M ∧ m_C M := List.forall_mem_cons.mpr ⟨⟨mg90, mc90⟩, List.forall_mem_cons.mpr ⟨⟨mg91, mc91⟩, List.forall_mem_cons.mpr ⟨⟨mg92, mc92⟩, List.forall_mem_cons.mpr ⟨⟨mg93, mc93⟩, List.forall_mem_cons.mpr ⟨⟨mg94, mc94⟩, List.forall_mem_cons.mpr ⟨⟨mg95, mc95⟩, List.forall_mem_cons.mpr ⟨⟨mg96, mc96⟩, List.forall_mem_cons.mpr ⟨⟨mg97, mc97⟩, List.forall_mem_cons.mpr ⟨⟨mg98, mc98⟩, List.forall_mem_cons.mpr ⟨⟨mg99, mc99⟩, List.forall_mem_cons.mpr ⟨⟨mg100, mc100⟩, List.forall_mem_cons.mpr ⟨⟨mg101, mc101⟩, List.forall_mem_cons.mpr ⟨⟨mg102, mc102⟩, List.forall_mem_cons.mpr ⟨⟨mg103, mc103⟩, List.forall_mem_cons.mpr ⟨⟨mg104, mc104⟩, List.forall_mem_cons.mpr ⟨⟨mg105, mc105⟩, List.forall_mem_cons.mpr ⟨⟨mg106, mc106⟩, List.forall_mem_cons.mpr ⟨⟨mg107, mc107⟩, List.forall_mem_cons.mpr ⟨⟨mg108, mc108⟩, List.forall_mem_cons.mpr ⟨⟨mg109, mc109⟩, List.forall_mem_cons.mpr ⟨⟨mg110, mc110⟩, List.forall_mem_cons.mpr ⟨⟨mg111, mc111⟩, List.forall_mem_cons.mpr ⟨⟨mg112, mc112⟩, List.forall_mem_cons.mpr ⟨⟨mg113, mc113⟩, List.forall_mem_cons.mpr ⟨⟨mg114, mc114⟩, List.forall_mem_cons.mpr ⟨⟨mg115, mc115⟩, List.forall_mem_cons.mpr ⟨⟨mg116, mc116⟩, List.forall_mem_cons.mpr ⟨⟨mg117, mc117⟩, List.forall_mem_cons.mpr ⟨⟨mg118, mc118⟩, List.forall_mem_cons.mpr ⟨⟨mg119, mc119⟩, fun _ h => absurd h List.not_mem_nil⟩⟩⟩⟩⟩⟩⟩⟩⟩⟩⟩⟩⟩⟩⟩⟩⟩⟩⟩⟩⟩⟩⟩⟩⟩⟩⟩⟩⟩⟩
theorem mgc4 : ∀ M ∈ [mt120, mt121, mt122, mt123, mt124, mt125, mt126, mt127, mt128, mt129, mt130, mt131, mt132, mt133, mt134, mt135, mt136, mt137, mt138, mt139, mt140, mt141, mt142, mt143, mt144, mt145, mt146, mt147, mt148, mt149], m_G M ∧ m_C M := List.forall_mem_cons.mpr ⟨⟨mg120, mc120⟩, List.forall_mem_cons.mpr ⟨⟨mg121, mc121⟩, List.forall_mem_cons.mpr ⟨⟨mg122, mc122⟩, List.forall_mem_cons.mpr ⟨⟨mg123, mc123⟩, List.forall_mem_cons.mpr ⟨⟨mg124, mc124⟩, List.forall_mem_cons.mpr ⟨⟨mg125, mc125⟩, List.forall_mem_cons.mpr ⟨⟨mg126, mc126⟩, List.forall_mem_cons.mpr ⟨⟨mg127, mc127⟩, List.forall_mem_cons.mpr ⟨⟨mg128, mc128⟩, List.forall_mem_cons.mpr ⟨⟨mg129, mc129⟩, List.forall_mem_cons.mpr ⟨⟨mg130, mc130⟩, List.forall_mem_cons.mpr ⟨⟨mg131, mc131⟩, List.forall_mem_cons.mpr ⟨⟨mg132, mc132⟩, List.forall_mem_cons.mpr ⟨⟨mg133, mc133⟩, List.forall_mem_cons.mpr ⟨⟨mg134, mc134⟩, List.forall_mem_cons.mpr ⟨⟨mg135, mc135⟩, List.forall_mem_cons.mpr ⟨⟨mg136, mc136⟩, List.forall_mem_cons.mpr ⟨⟨mg137, mc137⟩, List.forall_mem_cons.mpr ⟨⟨mg138, mc138⟩, List.forall_mem_cons.mpr ⟨⟨mg139, mc139⟩, List.forall_mem_cons.mpr ⟨⟨mg140, mc140⟩, List.forall_mem_cons.mpr ⟨⟨mg141, mc141⟩, List.forall_mem_cons.mpr ⟨⟨mg142, mc142⟩, List.forall_mem_cons.mpr ⟨⟨mg143, mc143⟩, List.forall_mem_cons.mpr ⟨⟨mg144, mc144⟩, List.forall_mem_cons.mpr ⟨⟨mg145, mc145⟩, List.forall_mem_cons.mpr ⟨⟨mg146, mc146⟩, List.forall_mem_cons.mpr ⟨⟨mg147, mc147⟩, List.forall_mem_cons.mpr ⟨⟨mg148, mc148⟩, List.forall_mem_cons.mpr ⟨⟨mg149, mc149⟩, fun _ h => absurd h List.not_mem_nil⟩⟩⟩⟩⟩⟩⟩⟩⟩⟩⟩⟩⟩⟩⟩⟩⟩⟩⟩⟩⟩⟩⟩⟩⟩⟩⟩⟩⟩⟩
theorem mgc5 : ∀ M ∈ [mt150, mt151, mt152, mt153, mt154, mt155, mt156, mt157, mt158, mt159, mt160, mt161, mt162, mt163, mt164, mt165, mt166, mt167, mt168, mt169, mt170, mt171, mt172, mt173, mt174, mt175, mt176, mt177, mt178, mt179], m_G M ∧ m_C M := List.forall_mem_cons.mpr ⟨⟨mg150, mc150⟩, List.forall_mem_cons.mpr ⟨⟨mg151, mc151⟩, List.forall_mem_cons.mpr ⟨⟨mg152, mc152⟩, List.forall_mem_cons.mpr ⟨⟨mg153, mc153⟩, List.forall_mem_cons.mpr ⟨⟨mg154, mc154⟩, List.forall_mem_cons.mpr ⟨⟨mg155, mc155⟩, List.forall_mem_cons.mpr ⟨⟨mg156, mc156⟩, List.forall_mem_cons.mpr ⟨⟨mg157, mc157⟩, List.forall_mem_cons.mpr ⟨⟨mg158, mc158⟩, List.forall_mem_cons.mpr ⟨⟨mg159, mc159⟩, List.forall_mem_cons.mpr ⟨⟨mg160, mc160⟩, List.forall_mem_cons.mpr ⟨⟨mg161, mc161⟩, List.forall_mem_cons.mpr ⟨⟨mg162, mc162⟩, List.forall_mem_cons.mpr ⟨⟨mg163, mc163⟩, List.forall_mem_cons.mpr ⟨⟨mg164, mc164⟩, List.forall_mem_cons.mpr ⟨⟨mg165, mc165⟩, List.forall_mem_cons.mpr ⟨⟨mg166, mc166⟩, List.forall_mem_cons.mpr ⟨⟨mg167, mc167⟩, List.forall_mem_cons.mpr ⟨⟨mg168, mc168⟩, List.forall_mem_cons.mpr ⟨⟨mg169, mc169⟩, List.forall_mem_cons.mpr ⟨⟨mg170, mc170⟩, List.forall_mem_cons.mpr ⟨⟨mg171, mc171⟩, List.forall_mem_cons.mpr ⟨⟨mg172, mc172⟩, List.forall_mem_cons.mpr ⟨⟨mg173, mc173⟩, List.forall_mem_cons.mpr ⟨⟨mg174, mc174⟩, List.forall_mem_cons.mpr ⟨⟨mg175, mc175⟩, List.forall_mem_cons.mpr ⟨⟨mg176, mc176⟩, List.forall_mem_cons.mpr ⟨⟨mg177, mc177⟩, List.forall_mem_cons.mpr ⟨⟨mg178, mc178⟩, List.forall_mem_cons.mpr ⟨⟨mg179, mc179⟩, fun _ h => absurd h List.not_mem_nil⟩⟩⟩⟩⟩⟩⟩⟩⟩⟩⟩⟩⟩⟩⟩⟩⟩⟩⟩⟩⟩⟩⟩⟩⟩⟩⟩⟩⟩⟩
theorem mgc6 : ∀ M ∈ [mt180, mt181, mt182, mt183, mt184, mt185, mt186, mt187, mt188, mt189, mt190, mt191, mt192, mt193, mt194, mt195, mt196, mt197, mt198, mt199, mt200, mt201, mt202, mt203, mt204, mt205, mt206, mt207, mt208, mt209], m_G M ∧ m_C M := List.forall_mem_cons.mpr ⟨⟨mg180, mc180⟩, List.forall_mem_cons.mpr ⟨⟨mg181, mc181⟩, List.forall_mem_cons.mpr ⟨⟨mg182, mc182⟩, List.forall_mem_cons.mpr ⟨⟨mg183, mc183⟩, List.forall_mem_cons.mpr ⟨⟨mg184, mc184⟩, List.forall_mem_cons.mpr ⟨⟨mg185, mc185⟩, List.forall_mem_cons.mpr ⟨⟨mg186, mc186⟩, List.forall_mem_cons.mpr ⟨⟨mg187, mc187⟩, List.forall_mem_cons.mpr ⟨⟨mg188, mc188⟩, List.forall_mem_cons.mpr ⟨⟨mg189, mc189⟩, List.forall_mem_cons.mpr ⟨⟨mg190, mc190⟩, List.forall_mem_cons.mpr ⟨⟨mg191, mc191⟩, List.forall_mem_cons.mpr ⟨⟨mg192, mc192⟩, List.forall_mem_cons.mpr ⟨⟨mg193, mc193⟩, List.forall_mem_cons.mpr ⟨⟨mg194, mc194⟩, List.forall_mem_cons.mpr ⟨⟨mg195, mc195⟩, List.forall_mem_cons.mpr ⟨⟨mg196, mc196⟩, List.forall_mem_cons.mpr ⟨⟨mg197, mc197⟩, List.forall_mem_cons.mpr ⟨⟨mg198, mc198⟩, List.forall_mem_cons.mpr ⟨⟨mg199, mc199⟩, List.forall_mem_cons.mpr ⟨⟨mg200, mc200⟩, List.forall_mem_cons.mpr ⟨⟨mg201, mc201⟩, List.forall_mem_cons.mpr ⟨⟨mg202, mc202⟩, List.forall_mem_cons.mpr ⟨⟨mg203, mc203⟩, List.forall_mem_cons.mpr ⟨⟨mg204, mc204⟩, List.forall_mem_cons.mpr ⟨⟨mg205, mc205⟩, List.forall_mem_cons.mpr ⟨⟨mg206, mc206⟩, List.forall_mem_cons.mpr ⟨⟨mg207, mc207⟩, List.forall_mem_cons.mpr ⟨⟨mg208, mc208⟩, List.forall_mem_cons.mpr ⟨⟨mg209, mc209⟩, fun _ h => absurd h List.not_mem_nil⟩⟩⟩⟩⟩⟩⟩⟩⟩⟩⟩⟩⟩⟩⟩⟩⟩⟩⟩⟩⟩⟩⟩⟩⟩⟩⟩⟩⟩⟩
theorem mgc7 : ∀ M ∈ [mt210, mt211, mt212, mt213, mt214, mt215, mt216, mt217, mt218, mt219, mt220, mt221, mt222, mt223, mt224, mt225, mt226, mt227, mt228, mt229, mt230, mt231, mt232, mt233, mt234, mt235, mt236, mt237, mt238, mt239], m_G M ∧ m_C M := List.forall_mem_cons.mpr ⟨⟨mg210, mc210⟩, List.forall_mem_cons.mpr ⟨⟨mg211, mc211⟩, List.forall_mem_cons.mpr ⟨⟨mg212, mc212⟩, List.forall_mem_cons.mpr ⟨⟨mg213, mc213⟩, List.forall_mem_cons.mpr ⟨⟨mg214, mc214⟩, List.forall_mem_cons.mpr ⟨⟨mg215, mc215⟩, List.forall_mem_cons.mpr ⟨⟨mg216, mc216⟩, List.forall_mem_cons.mpr ⟨⟨mg217, mc217⟩, List.forall_mem_cons.mpr ⟨⟨mg218, mc218⟩, List.forall_mem_cons.mpr ⟨⟨mg219, mc219⟩, List.forall_mem_cons.mpr ⟨⟨mg220, mc220⟩, List.forall_mem_cons.mpr ⟨⟨mg221, mc221⟩, List.forall_mem_cons.mpr ⟨⟨mg222, mc222⟩, List.forall_mem_cons.mpr ⟨⟨mg223, mc223⟩, List.forall_mem_cons.mpr ⟨⟨mg224, mc224⟩, List.forall_mem_cons.mpr ⟨⟨mg225, mc225⟩, List.forall_mem_cons.mpr ⟨⟨mg226, mc226⟩, List.forall_mem_cons.mpr ⟨⟨mg227, mc227⟩, List.forall_mem_cons.mpr ⟨⟨mg228, mc228⟩, List.forall_mem_cons.mpr ⟨⟨mg229, mc229⟩, List.forall_mem_cons.mpr ⟨⟨mg230, mc230⟩, List.forall_mem_cons.mpr ⟨⟨mg231, mc231⟩, List.forall_mem_cons.mpr ⟨⟨mg232, mc232⟩, List.forall_mem_cons.mpr ⟨⟨mg233, mc233⟩, List.forall_mem_cons.mpr ⟨⟨mg234, mc234⟩, List.forall_mem_cons.mpr ⟨⟨mg235, mc235⟩, List.forall_mem_cons.mpr ⟨⟨mg236, mc236⟩, List.forall_mem_cons.mpr ⟨⟨mg237, mc237⟩, List.forall_mem_cons.mpr ⟨⟨mg238, mc238⟩, List.forall_mem_cons.mpr ⟨⟨mg239, mc239⟩, fun _ h => absurd h List.not_mem_nil⟩⟩⟩⟩⟩⟩⟩⟩⟩⟩⟩⟩⟩⟩⟩⟩⟩⟩⟩⟩⟩⟩⟩⟩⟩⟩⟩⟩⟩⟩
theorem mgc8 : ∀ M ∈ [mt240, mt241, mt242, mt243, mt244, mt245, mt246, mt247, mt248, mt249, mt250, mt251, mt252, mt253, mt254, mt255, mt256, mt257, mt258, mt259, mt260, mt261, mt262, mt263, mt264, mt265, mt266, mt267, mt268, mt269], m_G M ∧ m_C M := List.forall_mem_cons.mpr ⟨⟨mg240, mc240⟩, List.forall_mem_cons.mpr ⟨⟨mg241, mc241⟩, List.forall_mem_cons.mpr ⟨⟨mg242, mc242⟩, List.forall_mem_cons.mpr ⟨⟨mg243, mc243⟩, List.forall_mem_cons.mpr ⟨⟨mg244, mc244⟩, List.forall_mem_cons.mpr ⟨⟨mg245, mc245⟩, List.forall_mem_cons.mpr ⟨⟨mg246, mc246⟩, List.forall_mem_cons.mpr ⟨⟨mg247, mc247⟩, List.forall_mem_cons.mpr ⟨⟨mg248, mc248⟩, List.forall_mem_cons.mpr ⟨⟨mg249, mc249⟩, List.forall_mem_cons.mpr ⟨⟨mg250, mc250⟩, List.forall_mem_cons.mpr ⟨⟨mg251, mc251⟩, List.forall_mem_cons.mpr ⟨⟨mg252, mc252⟩, List.forall_mem_cons.mpr ⟨⟨mg253, mc253⟩, List.forall_mem_cons.mpr ⟨⟨mg254, mc254⟩, List.forall_mem_cons.mpr ⟨⟨mg255, mc255⟩, List.forall_mem_cons.mpr ⟨⟨mg256, mc256⟩, List.forall_mem_cons.mpr ⟨⟨mg257, mc257⟩, List.forall_mem_cons.mpr ⟨⟨mg258, mc258⟩, List.forall_mem_cons.mpr ⟨⟨mg259, mc259⟩, List.forall_mem_cons.mpr ⟨⟨mg260, mc260⟩, List.forall_mem_cons.mpr ⟨⟨mg261, mc261⟩, List.forall_mem_cons.mpr ⟨⟨mg262, mc262⟩, List.forall_mem_cons.mpr ⟨⟨mg263, mc263⟩, List.forall_mem_cons.mpr ⟨⟨mg264, mc264⟩, List.forall_mem_cons.mpr ⟨⟨mg265, mc265⟩, List.forall_mem_cons.mpr ⟨⟨mg266, mc266⟩, List.forall_mem_cons.mpr ⟨⟨mg267, mc267⟩, List.forall_mem_cons.mpr ⟨⟨mg268, mc268⟩, List.forall_mem_cons.mpr ⟨⟨mg269, mc269⟩, fun _ h => absurd h List.not_mem_nil⟩⟩⟩⟩⟩⟩⟩⟩⟩⟩⟩⟩⟩⟩⟩⟩⟩⟩⟩⟩⟩⟩⟩⟩⟩⟩⟩⟩⟩⟩
theorem mgc9 : ∀ M ∈ [mt270, mt271, mt272, mt273, mt274, mt275, mt276, mt277, mt278, mt279, mt280, mt281, mt282, mt283, mt284, mt285, mt286, mt287, mt288, mt289, mt290, mt291, mt292, mt293, mt294, mt295, mt296, mt297, mt298, mt299], m_G M ∧ m_C M := List.forall_mem_cons.mpr ⟨⟨mg270, mc270⟩, List.forall_mem_cons.mpr ⟨⟨mg271, mc271⟩, List.forall_mem_cons.mpr ⟨⟨mg272, mc272⟩, List.forall_mem_cons.mpr ⟨⟨mg273, mc273⟩, List.forall_mem_cons.mpr ⟨⟨mg274, mc274⟩, List.forall_mem_cons.mpr ⟨⟨mg275, mc275⟩, List.forall_mem_cons.mpr ⟨⟨mg276, mc276⟩, List.forall_mem_cons.mpr ⟨⟨mg277, mc277⟩, List.forall_mem_cons.mpr ⟨⟨mg278, mc278⟩, List.forall_mem_cons.mpr ⟨⟨mg279, mc279⟩, List.forall_mem_cons.mpr ⟨⟨mg280, mc280⟩, List.forall_mem_cons.mpr ⟨⟨mg281, mc281⟩, List.forall_mem_cons.mpr ⟨⟨mg282, mc282⟩, List.forall_mem_cons.mpr ⟨⟨mg283, mc283⟩, List.forall_mem_cons.mpr ⟨⟨mg284, mc284⟩, List.forall_mem_cons.mpr ⟨⟨mg285, mc285⟩, List.forall_mem_cons.mpr ⟨⟨mg286, mc286⟩, List.forall_mem_cons.mpr ⟨⟨mg287, mc287⟩, List.forall_mem_cons.mpr ⟨⟨mg288, mc288⟩, List.forall_mem_cons.mpr ⟨⟨mg289, mc289⟩, List.forall_mem_cons.mpr ⟨⟨mg290, mc290⟩, List.forall_mem_cons.mpr ⟨⟨mg291, mc291⟩, List.forall_mem_cons.mpr ⟨⟨mg292, mc292⟩, List.forall_mem_cons.mpr ⟨⟨mg293, mc293⟩, List.forall_mem_cons.mpr ⟨⟨mg294, mc294⟩, List.forall_mem_cons.mpr ⟨⟨mg295, mc295⟩, List.forall_mem_cons.mpr ⟨⟨mg296, mc296⟩, List.forall_mem_cons.mpr ⟨⟨mg297, mc297⟩, List.forall_mem_cons.mpr ⟨⟨mg298, mc298⟩, List.forall_mem_cons.mpr ⟨⟨mg299, mc299⟩, fun _ h => absurd h List.not_mem_nil⟩⟩⟩⟩⟩⟩⟩⟩⟩⟩⟩⟩⟩⟩⟩⟩⟩⟩⟩⟩⟩⟩⟩⟩⟩⟩⟩⟩⟩⟩
theorem mgc10 : ∀ M ∈ [mt300, mt301, mt302, mt303, mt304, mt305, mt306, mt307, mt308, mt309, mt310, mt311, mt312, mt313, mt314, mt315, mt316, mt317, mt318, mt319, mt320, mt321, mt322, mt323, mt324, mt325, mt326, mt327, mt328, mt329], m_G M ∧ m_C M := List.forall_mem_cons.mpr ⟨⟨mg300, mc300⟩, List.forall_mem_cons.mpr ⟨⟨mg301, mc301⟩, List.forall_mem_cons.mpr ⟨⟨mg302, mc302⟩, List.forall_mem_cons.mpr ⟨⟨mg303, mc303⟩, List.forall_mem_cons.mpr ⟨⟨mg304, mc304⟩, List.forall_mem_cons.mpr ⟨⟨mg305, mc305⟩, List.forall_mem_cons.mpr ⟨⟨mg306, mc306⟩, List.forall_mem_cons.mpr ⟨⟨mg307, mc307⟩, List.forall_mem_cons.mpr ⟨⟨mg308, mc308⟩, List.forall_mem_cons.mpr ⟨⟨mg309, mc309⟩, List.forall_mem_cons.mpr ⟨⟨mg310, mc310⟩, List.forall_mem_cons.mpr ⟨⟨mg311, mc311⟩, List.forall_mem_cons.mpr ⟨⟨mg312, mc312⟩, List.forall_mem_cons.mpr ⟨⟨mg313, mc313⟩, List.forall_mem_cons.mpr ⟨⟨mg314, mc314⟩, List.forall_mem_cons.mpr ⟨⟨mg315, mc315⟩, List.forall_mem_cons.mpr ⟨⟨mg316, mc316⟩, List.forall_mem_cons.mpr ⟨⟨mg317, mc317⟩, List.forall_mem_cons.mpr ⟨⟨mg318, mc318⟩, List.forall_mem_cons.mpr ⟨⟨mg319, mc319⟩, List.forall_mem_cons.mpr ⟨⟨mg320, mc320⟩, List.forall_mem_cons.mpr ⟨⟨mg321, mc321⟩, List.forall_mem_cons.mpr ⟨⟨mg322, mc322⟩, List.forall_mem_cons.mpr ⟨⟨mg323, mc323⟩, List.forall_mem_cons.mpr ⟨⟨mg324, mc324⟩, List.forall_mem_cons.mpr ⟨⟨mg325, mc325⟩, List.forall_mem_cons.mpr ⟨⟨mg326, mc326⟩, List.forall_mem_cons.mpr ⟨⟨mg327, mc327⟩, List.forall_mem_cons.mpr ⟨⟨mg328, mc328⟩, List.forall_mem_cons.mpr ⟨⟨mg329, mc329⟩, fun _ h => absurd h List.not_mem_nil⟩⟩⟩⟩⟩⟩⟩⟩⟩⟩⟩⟩⟩⟩⟩⟩⟩⟩⟩⟩⟩⟩⟩⟩⟩⟩⟩⟩⟩⟩
theorem mgc11 : ∀ M ∈ [mt330, mt331, mt332, mt333, mt334, mt335, mt336, mt337, mt338, mt339, mt340, mt341, mt342, mt343, mt344, mt345, mt346, mt347, mt348, mt349, mt350, mt351, mt352, mt353, mt354, mt355, mt356, mt357, mt358, mt359], m_G M ∧ m_C M := List.forall_mem_cons.mpr ⟨⟨mg330, mc330⟩, List.forall_mem_cons.mpr ⟨⟨mg331, mc331⟩, List.forall_mem_cons.mpr ⟨⟨mg332, mc332⟩, List.forall_mem_cons.mpr ⟨⟨mg333, mc333⟩, List.forall_mem_cons.mpr ⟨⟨mg334, mc334⟩, List.forall_mem_cons.mpr ⟨⟨mg335, mc335⟩, List.forall_mem_cons.mpr ⟨⟨mg336, mc336⟩, List.forall_mem_cons.mpr ⟨⟨mg337, mc337⟩, List.forall_mem_cons.mpr ⟨⟨mg338, mc338⟩, List.forall_mem_cons.mpr ⟨⟨mg339, mc339⟩, List.forall_mem_cons.mpr ⟨⟨mg340, mc340⟩, List.forall_mem_cons.mpr ⟨⟨mg341, mc341⟩, List.forall_mem_cons.mpr ⟨⟨mg342, mc342⟩, List.forall_mem_cons.mpr ⟨⟨mg343, mc343⟩, List.forall_mem_cons.mpr ⟨⟨mg344, mc344⟩, List.forall_mem_cons.mpr ⟨⟨mg345, mc345⟩, List.forall_mem_cons.mpr ⟨⟨mg346, mc346⟩, List.forall_mem_cons.mpr ⟨⟨mg347, mc347⟩, List.forall_mem_cons.mpr ⟨⟨mg348, mc348⟩, List.forall_mem_cons.mpr ⟨⟨mg349, mc349⟩, List.forall_mem_cons.mpr ⟨⟨mg350, mc350⟩, List.forall_mem_cons.mpr ⟨⟨mg351, mc351⟩, List.forall_mem_cons.mpr ⟨⟨mg352, mc352⟩, List.forall_mem_cons.mpr ⟨⟨mg353, mc353⟩, List.forall_mem_cons.mpr ⟨⟨mg354, mc354⟩, List.forall_mem_cons.mpr ⟨⟨mg355, mc355⟩, List.forall_mem_cons.mpr ⟨⟨mg356, mc356⟩, List.forall_mem_cons.mpr ⟨⟨mg357, mc357⟩, List.forall_mem_cons.mpr ⟨⟨mg358, mc358⟩, List.forall_mem_cons.mpr ⟨⟨mg359, mc359⟩, fun _ h => absurd h List.not_mem_nil⟩⟩⟩⟩⟩⟩⟩⟩⟩⟩⟩⟩⟩⟩⟩⟩⟩⟩⟩⟩⟩⟩⟩⟩⟩⟩⟩⟩⟩⟩
theorem mgc12 : ∀ M ∈ [mt360, mt361, mt362, mt363, mt364, mt365, mt366, mt367, mt368, mt369, mt370, mt371, mt372, mt373, mt374, mt375, mt376, mt377, mt378, mt379, mt380, mt381, mt382, mt383, mt384, mt385, mt386, mt387, mt388, mt389], m_G M ∧ m_C M := List.forall_mem_cons.mpr ⟨⟨mg360, mc360⟩, List.forall_mem_cons.mpr ⟨⟨mg361, mc361⟩, List.forall_mem_cons.mpr ⟨⟨mg362, mc362⟩, List.forall_mem_cons.mpr ⟨⟨mg363, mc363⟩, List.forall_mem_cons.mpr ⟨⟨mg364, mc364⟩, List.forall_mem_cons.mpr ⟨⟨mg365, mc365⟩, List.forall_mem_cons.mpr ⟨⟨mg366, mc366⟩, List.forall_mem_cons.mpr ⟨⟨mg367, mc367⟩, List.forall_mem_cons.mpr ⟨⟨mg368, mc368⟩, List.forall_mem_cons.mpr ⟨⟨mg369, mc369⟩, List.forall_mem_cons.mpr ⟨⟨mg370, mc370⟩, List.forall_mem_cons.mpr ⟨⟨mg371, mc371⟩, List.forall_mem_cons.mpr ⟨⟨mg372, mc372⟩, List.forall_mem_cons.mpr ⟨⟨mg373, mc373⟩, List.forall_mem_cons.mpr ⟨⟨mg374, mc374⟩, List.forall_mem_cons.mpr ⟨⟨mg375, mc375⟩, List.forall_mem_cons.mpr ⟨⟨mg376, mc376⟩, List.forall_mem_cons.mpr ⟨⟨mg377, mc377⟩, List.forall_mem_cons.mpr ⟨⟨mg378, mc378⟩, List.forall_mem_cons.mpr ⟨⟨mg379, mc379⟩, List.forall_mem_cons.mpr ⟨⟨mg380, mc380⟩, List.forall_mem_cons.mpr ⟨⟨mg381, mc381⟩, List.forall_mem_cons.mpr ⟨⟨mg382, mc382⟩, List.forall_mem_cons.mpr ⟨⟨mg383, mc383⟩, List.forall_mem_cons.mpr ⟨⟨mg384, mc384⟩, List.forall_mem_cons.mpr ⟨⟨mg385, mc385⟩, List.forall_mem_cons.mpr ⟨⟨mg386, mc386⟩, List.forall_mem_cons.mpr ⟨⟨mg387, mc387⟩, List.forall_mem_cons.mpr ⟨⟨mg388, mc388⟩, List.forall_mem_cons.mpr ⟨⟨mg389, mc389⟩, fun _ h => absurd h List.not_mem_nil⟩⟩⟩⟩⟩⟩⟩⟩⟩⟩⟩⟩⟩⟩⟩⟩⟩⟩⟩⟩⟩⟩⟩⟩⟩⟩⟩⟩⟩⟩
theorem mgc13 : ∀ M ∈ [mt390, mt391, mt392, mt393, mt394, mt395, mt396, mt397, mt398, mt399, mt400, mt401, mt402, mt403, mt404, mt405, mt406, mt407, mt408, mt409, mt410, mt411, mt412, mt413, mt414, mt415, mt416, mt417, mt418], m_G M ∧ m_C M := List.forall_mem_cons.mpr ⟨⟨mg390, mc390⟩, List.forall_mem_cons.mpr ⟨⟨mg391, mc391⟩, List.forall_mem_cons.mpr ⟨⟨mg392, mc392⟩, List.forall_mem_cons.mpr ⟨⟨mg393, mc393⟩, List.forall_mem_cons.mpr ⟨⟨mg394, mc394⟩, List.forall_mem_cons.mpr ⟨⟨mg395, mc395⟩, List.forall_mem_cons.mpr ⟨⟨mg396, mc396⟩, List.forall_mem_cons.mpr ⟨⟨mg397, mc397⟩, List.forall_mem_cons.mpr ⟨⟨mg398, mc398⟩, List.forall_mem_cons.mpr ⟨⟨mg399, mc399⟩, List.forall_mem_cons.mpr ⟨⟨mg400, mc400⟩, List.forall_mem_cons.mpr ⟨⟨mg401, mc401⟩, List.forall_mem_cons.mpr ⟨⟨mg402, mc402⟩, List.forall_mem_cons.mpr ⟨⟨mg403, mc403⟩, List.forall_mem_cons.mpr ⟨⟨mg404, mc404⟩, List.forall_mem_cons.mpr ⟨⟨mg405, mc405⟩, List.forall_mem_cons.mpr ⟨⟨mg406, mc406⟩, List.forall_mem_cons.mpr ⟨⟨mg407, mc407⟩, List.forall_mem_cons.mpr ⟨⟨mg408, mc408⟩, List.forall_mem_cons.mpr ⟨⟨mg409, mc409⟩, List.forall_mem_cons.mpr ⟨⟨mg410, mc410⟩, List.forall_mem_cons.mpr ⟨⟨mg411, mc411⟩, List.forall_mem_cons.mpr ⟨⟨mg412, mc412⟩, List.forall_mem_cons.mpr ⟨⟨mg413, mc413⟩, List.forall_mem_cons.mpr ⟨⟨mg414, mc414⟩, List.forall_mem_cons.mpr ⟨⟨mg415, mc415⟩, List.forall_mem_cons.mpr ⟨⟨mg416, mc416⟩, List.forall_mem_cons.mpr ⟨⟨mg417, mc417⟩, List.forall_mem_cons.mpr ⟨⟨mg418, mc418⟩, fun _ h => absurd h List.not_mem_nil⟩⟩⟩⟩⟩⟩⟩⟩⟩⟩⟩⟩⟩⟩⟩⟩⟩⟩⟩⟩⟩⟩⟩⟩⟩⟩⟩⟩⟩
set_option maxRecDepth 100000 in
theorem m_Pc : m_P = [mt0, mt1, mt2, mt3, mt4, mt5, mt6, mt7, mt8, mt9, mt10, mt11, mt12, mt13, mt14, mt15, mt16, mt17, mt18, mt19, mt20, mt21, mt22, mt23, mt24, mt25, mt26, mt27, mt28, mt29] ++ ([mt30, mt31, mt32, mt33, mt34, mt35, mt36, mt37, mt38, mt39, mt40, mt41, mt42, mt43, mt44, mt45, mt46, mt47, mt48, mt49, mt50, mt51, mt52, mt53, mt54, mt55, mt56, mt57, mt58, mt59] ++ ([mt60, mt61, mt62, mt63, mt64, mt65, mt66, mt67, mt68, mt69, mt70, mt71, mt72, mt73, mt74, mt75, mt76, mt77, mt78, mt79, mt80, mt81, mt82, mt83, mt84, mt85, mt86, mt87, mt88, mt89] ++ ([mt90, mt91, mt92, mt93, mt94, mt95, mt96, mt97, mt98, mt99, mt100, mt101, mt102, mt103, mt104, mt105, mt106, mt107, mt108, mt109, mt110, mt111, mt112, mt113, mt114, mt115, mt116, mt117, mt118, mt119] ++ ([mt120, mt121, mt122, mt123, mt124, mt125, mt126, mt127, mt128, mt129, mt130, mt131, mt132, mt133, mt134, mt135, mt136, mt137, mt138, mt139, mt140, mt141, mt142, mt143, mt144, mt145, mt146, mt147, mt148, mt149] ++ ([mt150, mt151, mt152, mt153, mt154, mt155, mt156, mt157, mt158, mt159, mt160, mt161, mt162, mt163, mt164, mt165, mt166, mt167, mt168, mt169, mt170, mt171, mt172, mt173, mt174, mt175, mt176, mt177, mt178, mt179] ++ ([mt180, mt181, mt182, mt183, mt184, mt185, mt186, mt187, mt188, mt189, mt190, mt191, mt192, mt193, mt194, mt195, mt196, mt197, mt198, mt199, mt200, mt201, mt202, mt203, mt204, mt205, mt206, mt207, mt208, mt209] ++ ([mt210, mt211, mt212, mt213, mt214, mt215, mt216, mt217, mt218, mt219, mt220, mt221, mt222, mt223, mt224, mt225, mt226, mt227, mt228, mt229, mt230, mt231, mt232, mt233, mt234, mt235, mt236, mt237, mt238, mt239] ++ ([mt240, mt241, mt242, mt243, mt244, mt245, mt246, mt247, mt248, mt249, mt250, mt251, mt252, mt253, mt254, mt255, mt256, mt257, mt258, mt259, mt260, mt261, mt262, mt263, mt264, mt265, mt266, mt267, mt268, mt269] ++ ([mt270, mt271, mt272, mt273, mt274, mt275, mt276, mt277, mt278, mt279, mt280, mt281, mt282, mt283, mt284, mt285, mt286, mt287, mt288, mt289, mt290, mt291, mt292, mt293, mt294, mt295, mt296, mt297, mt298, mt299] ++ ([mt300, mt301, mt302, mt303, mt304, mt305, mt306, mt307, mt308, mt309, mt310, mt311, mt312, mt313, mt314, mt315, mt316, mt317, mt318, mt319, mt320, mt321, mt322, mt323, mt324, mt325, mt326, mt327, mt328, mt329] ++ ([mt330, mt331, mt332, mt333, mt334, mt335, mt336, mt337, mt338, mt339, mt340, mt341, mt342, mt343, mt344, mt345, mt346, mt347, mt348, mt349, mt350, mt351, mt352, mt353, mt354, mt355, mt356, mt357, mt358, mt359] ++ ([mt360, mt361, mt362, mt363, mt364, mt365, mt366, mt367, mt368, mt369, mt370, mt371, mt372, mt373, mt374, mt375, mt376, mt377, mt378, mt379, mt380, mt381, mt382, mt383, mt384, mt385, mt386, mt387, mt388, mt389] ++ ([mt390, mt391, mt392, mt393, mt394, mt395, mt396, mt397, mt398, mt399, mt400, mt401, mt402, mt403, mt404, mt405, mt406, mt407, mt408, mt409, mt410, mt411, mt412, mt413, mt414, mt415, mt416, mt417, mt418]))))))))))))) := rfl
theorem m_PG : ∀ M ∈ m_P, m_G M ∧ m_C M := by
  rw [m_Pc]
  exact List.forall_mem_append.mpr ⟨mgc0, List.forall_mem_append.mpr ⟨mgc1, List.forall_mem_append.mpr ⟨mgc2, List.forall_mem_append.mpr ⟨mgc3, List.forall_mem_append.mpr ⟨mgc4, List.forall_mem_append.mpr ⟨mgc5, List.forall_mem_append.mpr ⟨mgc6, List.forall_mem_append.mpr ⟨mgc7, List.forall_mem_append.mpr ⟨mgc8, List.forall_mem_append.mpr ⟨mgc9, List.forall_mem_append.mpr ⟨mgc10, List.forall_mem_append.mpr ⟨mgc11, List.forall_mem_append.mpr ⟨mgc12, mgc13⟩⟩⟩⟩⟩⟩⟩⟩⟩⟩⟩⟩⟩
theorem m_tabs : am_tabs m_cl m_tys m_P m_Ts m_sn m_sr := fun mi M h => ⟨(m_PG M (List.mem_of_getElem? h)).2.1, (m_PG M (List.mem_of_getElem? h)).1⟩
theorem m_ctx : am_ctx m_cl m_tys m_tt m_P m_Ts := ⟨m_clok, fun w hw => good_of_word (List.mem_filter.mp hw).2, fun mi M h => (m_PG M (List.mem_of_getElem? h)).2.2⟩
end
section
/-! THE CLAIM OUT OF ONE WALK OF THE LAW'S BODY. Your part is whole_start (and what it stands on); all else here is the same for every law, but numbers. -/
def R_law : String := "AssizeRideLaw"
def lw_P (b : Addr) (xs : List Int32) (args : Array Value) (s : State) : Prop := args = #[.ref b] ∧ s.IntsAt b xs ∧ xs.length ≤ 7 ∧ (Jvm.Cond.and given_1 narrow_1).before args s = true
def lw_Q (_ : Array Value) (s : State) (o : Outcome) (t : State) : Prop := o = .returned (some (.int 1)) ∧ Framed s o t [] 600000 7302249
def lw_Z (below : List Frame) (a : Array Value) (s : State) : State → Prop := fun t => ∃ o, t.status = .running ∧ Ended t below o ∧ lw_Q a s o t
/-- the law's own end, with 1 on the stack, nothing written that was there before, its room as the claim has it -/
theorem lw_ret {p : Program} {l : Launch} {e : Env} {s : State} {m : MethodId} {below : List Frame} {meth : Method} {c : Code} {b : Nat} (hx : p.tables.exec = Jvm.exec) (hb : c.code = code) (hr : meth.sig.returnType = ret) (hlocks : meth.locks = false) {pc : Nat} {H : Heap} {ls : Array Slot} (hdg : decode code pc = .ok (.ireturn, 1)) : W p l e room_1 s m #[Value.ref b] below meth c H [] 600000 7302249 (lw_Z below #[Value.ref b] s) (F0 m pc ls [.int 1]) := by
  intro T hT X
  obtain ⟨fs, hret, hrun, hended, hW, hframe⟩ := X.leave (v := some (.int 1)) (hlocks := hlocks) (fun h => by rw [hr] at h; cases h)
  have hmeth' : T.vm.method? m = some meth := X.method'
  refine ⟨T.setFrames fs, ?_, .returned (some (.int 1)), hrun, hended, rfl, ⟨_, rfl⟩, hW, hframe⟩
  jvm_step X.here [X.here.top, hx, hb, hdg, hmeth', hr, ret, narrow_b1]
  (try refine ⟨rfl, ?_⟩); (try refine ⟨rfl, ?_⟩)
  first | (intro acts; rw [hret _ acts rfl rfl rfl]) | rw [hret _ _ rfl rfl rfl]
  exact Steps.refl _
/-- what holds at the law's entry: the machine, the code, the tables' words (any of lw_tbl by 'hts w (by decide +kernel)'), the script of L ints xs at the cell b, what the Statement gives of the start (any of its parts by flat_of_before) -/
def lw_At (p : Program) (s : State) (m : MethodId) (meth : Method) (c : Code) (b L : Nat) (xs : Nat → Int32) : Prop :=
  p.tables.exec = Jvm.exec ∧ c.code = code ∧ meth.sig.returnType = ret ∧ c.maxLocals = 4 ∧ s.vm.findClass R_law = some m.cls ∧ (∀ w ∈ lw_tbl, w.before #[Value.ref b] s = true) ∧ va_X b L xs s s.heap ∧ b < s.heap.size ∧ meth.locks = false ∧ (Jvm.Cond.and given_1 narrow_1).before #[Value.ref b] s = true
end
section
theorem am_r_int {ret : Option FieldType} {I : Instr} {st : List Value} {v : Int32} (h : am_r ret I st = some (some (.int v))) : I = .ireturn ∧ st = [.int v] := by
  cases I with
  | ireturn =>
    refine ⟨rfl, ?_⟩
    simp only [am_r] at h
    split at h
    case h_2 => cases h
    split at h
    · cases h; rfl
    · split at h
      · cases h; rfl
      · cases h
    · split at h
      · cases h; rfl
      · cases h
    · split at h
      · cases h; rfl
      · cases h
    · cases h
  | lreturn =>
    simp only [am_r] at h
    split at h
    case h_2 => cases h
    split at h <;> cases h
  | areturn =>
    simp only [am_r] at h
    split at h
    · split at h <;> cases h
    · split at h <;> cases h
    · cases h
  | return_ =>
    simp only [am_r] at h
    split at h
    case h_2 => cases h
    split at h <;> cases h
  | _ => simp [am_r] at h
set_option maxHeartbeats 4000000 in
set_option maxRecDepth 100000 in
/-- the law's walk out of a run of the abstract machine -/
theorem m_start0 {p : Program} {e : Env} {s : State} {m : MethodId} {below : List Frame} {meth : Method} {c : Code} (l : Launch) {b L : Nat} {xs : Nat → Int32} (C0 : lw_At p s m meth c b L xs)
    {D : va_G} {ca : FieldType → ClassId} {kd adV : Nat → Nat} {cst : am_K} {lens : List Nat} {byts : List (List Int32)} (hw : am_W D m_cl m_tys ca kd (fun q => s.heap.size ≤ q) cst m_sn m_sr m_strs lens byts adV s) (hk4 : kd 4 = b)
    {d n : Nat} {r : am_Q} (hd : d ≤ 400) (hgo : am_Go cst m_cl m_tt m_P m_strs (am_Run cst m_cl m_tt m_P m_strs (fun _ _ _ _ => False) d) mtL n 0 (lv_args 0 [.ref 4]) [] [] r) (hr1 : r.1 = some (.int 1)) (hc : r.2.2.1 ≤ 600000) (hs : r.2.2.2 ≤ 7302249) :
    W p l e room_1 s m #[Value.ref b] below meth c s.heap [] 0 0 (lw_Z below #[Value.ref b] s) (entryFrame m ([Value.ref b] : List Value).toArray 4) := by
  obtain ⟨hx, hb, hr, hml, hown, hts, hX, hbl, hlocks, hgv⟩ := C0
  have hl := lv_entry ([Value.ref b]) (n := 4) (Nat.le_of_ble_eq_true rfl)
  rw [lg_entry_eq]
  have e4 : am_ad kd s.heap.size 4 = b := by unfold am_ad; rw [if_pos (by decide)]; exact hk4
  have hl' : lv_has ((lg_sl [Value.ref b] ++ List.replicate (4 - (lg_sl [Value.ref b]).length) Slot.unset).toArray) mtL.2.2.1 (am_lc (am_ad kd s.heap.size) (lv_args 0 [.ref 4])) := by
    rw [← am_args_lc]
    show lv_has _ 4 (lv_args 0 [Value.ref (am_ad kd s.heap.size 4)])
    rw [e4]
    exact hl
  have hR0 : am_R D m_cl m_tys (am_ad kd s.heap.size) ca s.heap.size [] s.heap := ⟨fun i e h => by simp at h, by simp, fun i ty a h => by simp at h⟩
  refine am_sim (M := mtL) (d := d) (base := s.heap.size) (R := room_1) hx hb hml (fun w hq => hts w (m_Ts_in w hq)) hown (fun h => absurd h (by decide)) mgL m_ctx hw (am_met m_ctx m_tabs (fun _ h => h) (fun _ _ _ _ _ _ _ _ h => h.elim) d) (fun _ h => h) (by show d + 1 ≤ 2048; omega) (by show 200 * d + 200 ≤ 84000; omega) n 0 _ [] [] r s.heap [] 0 0 _ hgo hl' hR0 va_S.rf (by rw [Nat.zero_add]; exact hc) (by rw [Nat.zero_add]; exact hs) (fun pcr I X st' ls' H' locs' hf hv hR' hS' => ?_)
  rw [hr1] at hv
  obtain ⟨rfl, rfl⟩ := am_r_int hv
  have hdec := (mgL pcr _ X hf).1
  refine W.widen (k := 600000) (n := 7302249) (by rw [Nat.zero_add]; exact hc) (by rw [Nat.zero_add]; exact hs) ?_
  refine va_forget (fun q hq => hS'.2.2 q hq) ?_
  exact lw_ret hx hb hr hlocks hdec
end
