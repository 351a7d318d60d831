/-! an abstract machine: pair lists for locals, a list of cells for the heap, constants at the addresses below 16 -/
abbrev am_E : Type := (FieldType × vp_A) ⊕ (Nat × List Value)
abbrev am_H : Type := List am_E
/-- what a table says of an instruction -/
abbrev am_X : Type := Nat × Nat × Int
/-- constants: rows of ints at the addresses from 0 on, rows of bytes of the texts from 12 on (the texts themselves from 8 on), a reference or null that is only handed on -/
abbrev am_K : Type := List (List Int32) × List (List Int32) × Value
/-- what a static field holds, by its number -/
def am_sv (cst : am_K) (a : Nat) : Value := if a < 8 then .ref a else if a = 8 then .int 1 else cst.2.2
def am_lowv : Value → Bool
  | .ref k => decide (k < 16)
  | _ => true
/-- texts by class and entry, and links to methods of nest mates -/
abbrev am_SR : Type := List (String × Nat × String × Nat) × List (String × Nat × MethodName × String)
abbrev am_L : Type := List (Nat × Value)
abbrev am_F : Type := Nat × am_L × List Value × am_H
/-- a method: name, bytes, locals, return type, its instructions -/
abbrev am_M : Type := MethodName × ByteArray × Nat × Option FieldType × List (Nat × Instr × am_X)
def am_st1 (i : Nat) (v : Value) (l : am_L) : am_L := (i, v) :: l.filter (fun q => !(q.1 == i) && !(q.1 + 1 == i && q.2.category == 2))
def am_st2 (i : Nat) (v : Value) (l : am_L) : am_L := (i, v) :: l.filter (fun q => !(q.1 == i) && (!(q.1 == i + 1) && !(q.1 + 1 == i && q.2.category == 2)))
def am_ld (i : Nat) : am_L → Option Value
  | [] => none
  | q :: l => if q.1 = i then some q.2 else am_ld i l
def am_j (pc : Nat) (off : Int) : Option Nat := if 0 ≤ (pc : Int) + off then some ((pc : Int) + off).toNat else none
def am_br (b : Prop) [Decidable b] (pc : Nat) (off : Int) (l : am_L) (st : List Value) (h : am_H) : Option am_F :=
  match am_j pc off with
  | none => none
  | some t => if b then some (t, l, st, h) else some (pc + 3, l, st, h)
/-- what a field of a type takes as it is -/
def am_fit : FieldType → Value → Bool
  | .int, .int _ => true
  | .long, .long _ => true
  | .boolean, .int x => x == 0 || x == 1
  | .object _, .null => true
  | .object _, .ref _ => true
  | .array _, .null => true
  | .array _, .ref _ => true
  | _, _ => false
def am_len (X : am_X) : Instr → Nat
  | .bipush _ => 2
  | .iload _ => 2
  | .lload _ => 2
  | .aload _ => 2
  | .istore _ => 2
  | .lstore _ => 2
  | .astore _ => 2
  | .ldc _ => 2
  | .newarray _ => 2
  | .tableswitch .. => X.1
  | .sipush _ => 3
  | .ldc_w _ => 3
  | .ldc2_w _ => 3
  | .getfield _ => 3
  | .putfield _ => 3
  | .getstatic _ => 3
  | .invokevirtual _ => 3
  | .invokespecial _ => 3
  | .invokestatic _ => 3
  | .new _ => 3
  | .anewarray _ => 3
  | .goto _ => 3
  | .ifCond .. => 3
  | .if_icmp .. => 3
  | .ifnull _ => 3
  | .ifnonnull _ => 3
  | .iinc .. => 3
  | _ => 1
/-- the instructions that neither call nor end nor make a cell -/
def am_s (cst : am_K) (cl : List vw_C) (tt : List (List FieldType)) (I : Instr) (X : am_X) (pc : Nat) (l : am_L) (st : List Value) (h : am_H) : Option am_F :=
  match I with
  | .iconst n => some (pc + 1, l, .int (Int32.ofInt n) :: st, h)
  | .bipush n => some (pc + 2, l, .int (Int8.ofInt n).toInt32 :: st, h)
  | .sipush n => some (pc + 3, l, .int (Int16.ofInt n).toInt32 :: st, h)
  | .lconst n => some (pc + 1, l, .long (Int64.ofNat (n : Nat)) :: st, h)
  | .aconst_null => some (pc + 1, l, .null :: st, h)
  | .ldc _ => if X.1 = 0 then some (pc + 2, l, .int (Int32.ofInt X.2.2) :: st, h) else if X.2.1 < 16 then some (pc + 2, l, .ref X.2.1 :: st, h) else none
  | .ldc_w _ => if X.1 = 0 then some (pc + 3, l, .int (Int32.ofInt X.2.2) :: st, h) else if X.2.1 < 16 then some (pc + 3, l, .ref X.2.1 :: st, h) else none
  | .ldc2_w _ => some (pc + 3, l, .long (Int64.ofInt X.2.2) :: st, h)
  | .getstatic _ => if am_lowv (am_sv cst X.2.1) = true then some (pc + 3, l, am_sv cst X.2.1 :: st, h) else none
  | .iload i => match am_ld i l with
    | some (.int x) => some (pc + 2, l, .int x :: st, h)
    | _ => none
  | .iload_n i => match am_ld i l with
    | some (.int x) => some (pc + 1, l, .int x :: st, h)
    | _ => none
  | .lload i => match am_ld i l with
    | some (.long x) => some (pc + 2, l, .long x :: st, h)
    | _ => none
  | .lload_n i => match am_ld i l with
    | some (.long x) => some (pc + 1, l, .long x :: st, h)
    | _ => none
  | .aload i => match am_ld i l with
    | some (.ref x) => some (pc + 2, l, .ref x :: st, h)
    | some .null => some (pc + 2, l, .null :: st, h)
    | _ => none
  | .aload_n i => match am_ld i l with
    | some (.ref x) => some (pc + 1, l, .ref x :: st, h)
    | some .null => some (pc + 1, l, .null :: st, h)
    | _ => none
  | .istore i => match st with
    | .int x :: st => some (pc + 2, am_st1 i (.int x) l, st, h)
    | _ => none
  | .istore_n i => match st with
    | .int x :: st => some (pc + 1, am_st1 i (.int x) l, st, h)
    | _ => none
  | .lstore i => match st with
    | .long x :: st => some (pc + 2, am_st2 i (.long x) l, st, h)
    | _ => none
  | .lstore_n i => match st with
    | .long x :: st => some (pc + 1, am_st2 i (.long x) l, st, h)
    | _ => none
  | .astore i => match st with
    | .ref x :: st => some (pc + 2, am_st1 i (.ref x) l, st, h)
    | .null :: st => some (pc + 2, am_st1 i .null l, st, h)
    | _ => none
  | .astore_n i => match st with
    | .ref x :: st => some (pc + 1, am_st1 i (.ref x) l, st, h)
    | .null :: st => some (pc + 1, am_st1 i .null l, st, h)
    | _ => none
  | .iinc i n => match am_ld i l with
    | some (.int x) => some (pc + 3, am_st1 i (.int (x + Int32.ofInt n)) l, st, h)
    | _ => none
  | .iadd => match st with
    | .int y :: .int x :: st => some (pc + 1, l, .int (x + y) :: st, h)
    | _ => none
  | .isub => match st with
    | .int y :: .int x :: st => some (pc + 1, l, .int (x - y) :: st, h)
    | _ => none
  | .imul => match st with
    | .int y :: .int x :: st => some (pc + 1, l, .int (x * y) :: st, h)
    | _ => none
  | .idiv => match st with
    | .int y :: .int x :: st => if y = 0 then none else some (pc + 1, l, .int (x / y) :: st, h)
    | _ => none
  | .irem => match st with
    | .int y :: .int x :: st => if y = 0 then none else some (pc + 1, l, .int (x - x / y * y) :: st, h)
    | _ => none
  | .iand => match st with
    | .int y :: .int x :: st => some (pc + 1, l, .int (x &&& y) :: st, h)
    | _ => none
  | .ior => match st with
    | .int y :: .int x :: st => some (pc + 1, l, .int (x ||| y) :: st, h)
    | _ => none
  | .ixor => match st with
    | .int y :: .int x :: st => some (pc + 1, l, .int (x ^^^ y) :: st, h)
    | _ => none
  | .ishl => match st with
    | .int y :: .int x :: st => some (pc + 1, l, .int (x <<< (y &&& 31)) :: st, h)
    | _ => none
  | .ishr => match st with
    | .int y :: .int x :: st => some (pc + 1, l, .int (x >>> (y &&& 31)) :: st, h)
    | _ => none
  | .iushr => match st with
    | .int y :: .int x :: st => some (pc + 1, l, .int ((x.toUInt32 >>> (y.toUInt32 &&& Int32.toUInt32 31)).toInt32) :: st, h)
    | _ => none
  | .ladd => match st with
    | .long y :: .long x :: st => some (pc + 1, l, .long (x + y) :: st, h)
    | _ => none
  | .lsub => match st with
    | .long y :: .long x :: st => some (pc + 1, l, .long (x - y) :: st, h)
    | _ => none
  | .lmul => match st with
    | .long y :: .long x :: st => some (pc + 1, l, .long (x * y) :: st, h)
    | _ => none
  | .lcmp => match st with
    | .long y :: .long x :: st => some (pc + 1, l, .int (lg_cmp x y) :: st, h)
    | _ => none
  | .i2l => match st with
    | .int x :: st => some (pc + 1, l, .long x.toInt64 :: st, h)
    | _ => none
  | .l2i => match st with
    | .long x :: st => some (pc + 1, l, .int x.toInt32 :: st, h)
    | _ => none
  | .i2c => match st with
    | .int x :: st => some (pc + 1, l, .int (x.toUInt32 % 65536).toInt32 :: st, h)
    | _ => none
  | .i2b => match st with
    | .int x :: st => some (pc + 1, l, .int x.toInt8.toInt32 :: st, h)
    | _ => none
  | .pop => match st with
    | v :: st => if v.category = 1 then some (pc + 1, l, st, h) else none
    | _ => none
  | .dup => match st with
    | v :: st => if v.category = 1 then some (pc + 1, l, v :: v :: st, h) else none
    | _ => none
  | .dup2 => match st with
    | v :: w :: st => if v.category = 1 ∧ w.category = 1 then some (pc + 1, l, v :: w :: v :: w :: st, h) else none
    | _ => none
  | .goto off => match am_j pc off with
    | some t => some (t, l, st, h)
    | none => none
  | .ifCond c off => match st with
    | .int x :: st => match c with
      | .eq => am_br (x = 0) pc off l st h
      | .ne => am_br (¬ x = 0) pc off l st h
      | .lt => am_br (x < 0) pc off l st h
      | .ge => am_br (0 ≤ x) pc off l st h
      | .gt => am_br (0 < x) pc off l st h
      | .le => am_br (x ≤ 0) pc off l st h
    | _ => none
  | .if_icmp c off => match st with
    | .int y :: .int x :: st => match c with
      | .eq => am_br (x = y) pc off l st h
      | .ne => am_br (¬ x = y) pc off l st h
      | .lt => am_br (x < y) pc off l st h
      | .ge => am_br (y ≤ x) pc off l st h
      | .gt => am_br (y < x) pc off l st h
      | .le => am_br (x ≤ y) pc off l st h
    | _ => none
  | .ifnull off => match st with
    | .ref _ :: st => some (pc + 3, l, st, h)
    | .null :: st => match am_j pc off with
      | some t => some (t, l, st, h)
      | none => none
    | _ => none
  | .ifnonnull off => match st with
    | .null :: st => some (pc + 3, l, st, h)
    | .ref _ :: st => match am_j pc off with
      | some t => some (t, l, st, h)
      | none => none
    | _ => none
  | .tableswitch dflt lo hi offs => match st with
    | .int x :: st => if x.toInt < lo ∨ hi < x.toInt then (match am_j pc dflt with
        | some t => some (t, l, st, h)
        | none => none) else (match offs[(x.toInt - lo).toNat]? with
        | some off => (match am_j pc off with
          | some t => some (t, l, st, h)
          | none => none)
        | none => none)
    | _ => none
  | .getfield _ => match st with
    | .ref a :: st => if a < 16 then (if 8 ≤ a ∧ a < 12 ∧ a - 8 < cst.2.1.length then (if X.2.2 = 1 then some (pc + 3, l, .ref (a + 4) :: st, h) else if X.2.2 = 2 then some (pc + 3, l, .int 0 :: st, h) else none) else none) else match h[a - 16]? with
      | some (.inr (ci, fs)) => if ci = X.1 ∧ X.2.2 = 0 then (match fs[X.2.1]? with
        | some v => some (pc + 3, l, v :: st, h)
        | none => none) else none
      | _ => none
    | _ => none
  | .putfield _ => match st with
    | v :: .ref a :: st => if a < 16 then none else match h[a - 16]? with
      | some (.inr (ci, fs)) => if ci = X.1 ∧ X.2.1 < fs.length then (match (tt.getD ci []).getD X.2.1 .char with
        | ty => if am_fit ty v = true then some (pc + 3, l, st, h.set (a - 16) (.inr (ci, fs.set X.2.1 v))) else none) else none
      | _ => none
    | _ => none
  | .arraylength => match st with
    | .ref a :: st => if a < 16 then (match (if 12 ≤ a then cst.2.1[a - 12]? else cst.1[a]?) with
      | some L => some (pc + 1, l, .int (Int32.ofNat L.length) :: st, h)
      | none => none) else match h[a - 16]? with
      | some (.inl (_, n, _)) => some (pc + 1, l, .int (Int32.ofNat n) :: st, h)
      | _ => none
    | _ => none
  | .iaload => match st with
    | .int i :: .ref a :: st => if a < 16 then (match cst.1[a]? with
      | some L => if i < 0 ∨ L.length ≤ i.toNatClampNeg then none else some (pc + 1, l, .int (L.getD i.toNatClampNeg 0) :: st, h)
      | none => none) else match h[a - 16]? with
      | some (.inl (.int, n, .inl f)) => if i < 0 ∨ n ≤ i.toNatClampNeg then none else some (pc + 1, l, .int (f i.toNatClampNeg) :: st, h)
      | _ => none
    | _ => none
  | .laload => match st with
    | .int i :: .ref a :: st => if a < 16 then none else match h[a - 16]? with
      | some (.inl (.long, n, .inr (.inl f))) => if i < 0 ∨ n ≤ i.toNatClampNeg then none else some (pc + 1, l, .long (f i.toNatClampNeg) :: st, h)
      | _ => none
    | _ => none
  | .baload => match st with
    | .int i :: .ref a :: st => if a < 16 then (if 12 ≤ a then (match cst.2.1[a - 12]? with
      | some L => if i < 0 ∨ L.length ≤ i.toNatClampNeg then none else some (pc + 1, l, .int (L.getD i.toNatClampNeg 0) :: st, h)
      | none => none) else none) else match h[a - 16]? with
      | some (.inl (.byte, n, .inl f)) => if i < 0 ∨ n ≤ i.toNatClampNeg then none else some (pc + 1, l, .int (f i.toNatClampNeg) :: st, h)
      | some (.inl (.boolean, n, .inl f)) => if i < 0 ∨ n ≤ i.toNatClampNeg then none else some (pc + 1, l, .int (f i.toNatClampNeg) :: st, h)
      | _ => none
    | _ => none
  | .aaload => match st with
    | .int i :: .ref a :: st => if a < 16 then none else match h[a - 16]? with
      | some (.inl (.object _, n, .inr (.inr (.inr (.inr f))))) => if i < 0 ∨ n ≤ i.toNatClampNeg then none else some (pc + 1, l, va_rf (f i.toNatClampNeg) :: st, h)
      | _ => none
    | _ => none
  | .iastore => match st with
    | .int x :: .int i :: .ref a :: st => if a < 16 then none else match h[a - 16]? with
      | some (.inl (.int, n, .inl f)) => if i < 0 ∨ n ≤ i.toNatClampNeg then none else some (pc + 1, l, st, h.set (a - 16) (.inl (.int, n, .inl (upd f i.toNatClampNeg x))))
      | _ => none
    | _ => none
  | .lastore => match st with
    | .long x :: .int i :: .ref a :: st => if a < 16 then none else match h[a - 16]? with
      | some (.inl (.long, n, .inr (.inl f))) => if i < 0 ∨ n ≤ i.toNatClampNeg then none else some (pc + 1, l, st, h.set (a - 16) (.inl (.long, n, .inr (.inl (vp_updL f i.toNatClampNeg x)))))
      | _ => none
    | _ => none
  | .bastore => match st with
    | .int x :: .int i :: .ref a :: st => if a < 16 then none else match h[a - 16]? with
      | some (.inl (.byte, n, .inl f)) => if i < 0 ∨ n ≤ i.toNatClampNeg then none else some (pc + 1, l, st, h.set (a - 16) (.inl (.byte, n, .inl (upd f i.toNatClampNeg (vp_nar .byte x)))))
      | some (.inl (.boolean, n, .inl f)) => if i < 0 ∨ n ≤ i.toNatClampNeg then none else some (pc + 1, l, st, h.set (a - 16) (.inl (.boolean, n, .inl (upd f i.toNatClampNeg (vp_nar .boolean x)))))
      | _ => none
    | _ => none
  | .aastore => match st with
    | .ref v :: .int i :: .ref a :: st => if a < 16 then none else match h[a - 16]? with
      | some (.inl (.object C, n, .inr (.inr (.inr (.inr f))))) => if i < 0 ∨ n ≤ i.toNatClampNeg then none else (if v < 16 then none else match h[v - 16]? with
        | some (.inr (ci, _)) => (match cl[ci]? with
          | some r => if C = r.1 then some (pc + 1, l, st, h.set (a - 16) (.inl (.object C, n, .inr (.inr (.inr (.inr (va_up f i.toNatClampNeg (some v)))))))) else none
          | none => none)
        | _ => none)
      | _ => none
    | _ => none
  | _ => none
