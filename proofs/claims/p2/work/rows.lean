section
/-! an abstract machine: pair lists for locals, a list of cells for the heap, constants at the addresses below 16 -/
abbrev am_E : Type := (FieldType × vp_A) ⊕ (Nat × List Value)
abbrev am_H : Type := List am_E
/-- what a table says of an instruction -/
abbrev am_X : Type := Nat × Nat × Int
/-- constants: rows of ints at the addresses from 0 on, rows of bytes of the texts from 12 on (the texts themselves from 8 on), a reference or null that is only handed on -/
abbrev am_K : Type := List (List Int32) × List (List Int32) × Value
/-- what a static field holds, by its number -/
def am_sv (cst : am_K) (a : Nat) : Value := if a < 8 then .ref a else if a = 8 then .int 1 else cst.2.2
def am_lowv : Value → Bool
  | .ref k => decide (k < 16)
  | _ => true
/-- texts by class and entry, and links to methods of nest mates -/
abbrev am_SR : Type := List (String × Nat × String × Nat) × List (String × Nat × MethodName × String)
abbrev am_L : Type := List (Nat × Value)
abbrev am_F : Type := Nat × am_L × List Value × am_H
/-- a method: name, bytes, locals, return type, its instructions -/
abbrev am_M : Type := MethodName × ByteArray × Nat × Option FieldType × List (Nat × Instr × am_X)
def am_st1 (i : Nat) (v : Value) (l : am_L) : am_L := (i, v) :: l.filter (fun q => !(q.1 == i) && !(q.1 + 1 == i && q.2.category == 2))
def am_st2 (i : Nat) (v : Value) (l : am_L) : am_L := (i, v) :: l.filter (fun q => !(q.1 == i) && (!(q.1 == i + 1) && !(q.1 + 1 == i && q.2.category == 2)))
def am_ld (i : Nat) : am_L → Option Value
  | [] => none
  | q :: l => if q.1 = i then some q.2 else am_ld i l
def am_j (pc : Nat) (off : Int) : Option Nat := if 0 ≤ (pc : Int) + off then some ((pc : Int) + off).toNat else none
def am_br (b : Prop) [Decidable b] (pc : Nat) (off : Int) (l : am_L) (st : List Value) (h : am_H) : Option am_F :=
  match am_j pc off with
  | none => none
  | some t => if b then some (t, l, st, h) else some (pc + 3, l, st, h)
/-- what a field of a type takes as it is -/
def am_fit : FieldType → Value → Bool
  | .int, .int _ => true
  | .long, .long _ => true
  | .boolean, .int x => x == 0 || x == 1
  | .object _, .null => true
  | .object _, .ref _ => true
  | .array _, .null => true
  | .array _, .ref _ => true
  | _, _ => false
def am_len (X : am_X) : Instr → Nat
  | .bipush _ => 2
  | .iload _ => 2
  | .lload _ => 2
  | .aload _ => 2
  | .istore _ => 2
  | .lstore _ => 2
  | .astore _ => 2
  | .ldc _ => 2
  | .newarray _ => 2
  | .tableswitch .. => X.1
  | .sipush _ => 3
  | .ldc_w _ => 3
  | .ldc2_w _ => 3
  | .getfield _ => 3
  | .putfield _ => 3
  | .getstatic _ => 3
  | .invokevirtual _ => 3
  | .invokespecial _ => 3
  | .invokestatic _ => 3
  | .new _ => 3
  | .anewarray _ => 3
  | .goto _ => 3
  | .ifCond .. => 3
  | .if_icmp .. => 3
  | .ifnull _ => 3
  | .ifnonnull _ => 3
  | .iinc .. => 3
  | _ => 1
/-- the instructions that neither call nor end nor make a cell -/
def am_s (cst : am_K) (cl : List vw_C) (tt : List (List FieldType)) (I : Instr) (X : am_X) (pc : Nat) (l : am_L) (st : List Value) (h : am_H) : Option am_F :=
  match I with
  | .iconst n => some (pc + 1, l, .int (Int32.ofInt n) :: st, h)
  | .bipush n => some (pc + 2, l, .int (Int8.ofInt n).toInt32 :: st, h)
  | .sipush n => some (pc + 3, l, .int (Int16.ofInt n).toInt32 :: st, h)
  | .lconst n => some (pc + 1, l, .long (Int64.ofNat (n : Nat)) :: st, h)
  | .aconst_null => some (pc + 1, l, .null :: st, h)
  | .ldc _ => if X.1 = 0 then some (pc + 2, l, .int (Int32.ofInt X.2.2) :: st, h) else if X.2.1 < 16 then some (pc + 2, l, .ref X.2.1 :: st, h) else none
  | .ldc_w _ => if X.1 = 0 then some (pc + 3, l, .int (Int32.ofInt X.2.2) :: st, h) else if X.2.1 < 16 then some (pc + 3, l, .ref X.2.1 :: st, h) else none
  | .ldc2_w _ => some (pc + 3, l, .long (Int64.ofInt X.2.2) :: st, h)
  | .getstatic _ => if am_lowv (am_sv cst X.2.1) = true then some (pc + 3, l, am_sv cst X.2.1 :: st, h) else none
  | .iload i => match am_ld i l with
    | some (.int x) => some (pc + 2, l, .int x :: st, h)
    | _ => none
  | .iload_n i => match am_ld i l with
    | some (.int x) => some (pc + 1, l, .int x :: st, h)
    | _ => none
  | .lload i => match am_ld i l with
    | some (.long x) => some (pc + 2, l, .long x :: st, h)
    | _ => none
  | .lload_n i => match am_ld i l with
    | some (.long x) => some (pc + 1, l, .long x :: st, h)
    | _ => none
  | .aload i => match am_ld i l with
    | some (.ref x) => some (pc + 2, l, .ref x :: st, h)
    | some .null => some (pc + 2, l, .null :: st, h)
    | _ => none
  | .aload_n i => match am_ld i l with
    | some (.ref x) => some (pc + 1, l, .ref x :: st, h)
    | some .null => some (pc + 1, l, .null :: st, h)
    | _ => none
  | .istore i => match st with
    | .int x :: st => some (pc + 2, am_st1 i (.int x) l, st, h)
    | _ => none
  | .istore_n i => match st with
    | .int x :: st => some (pc + 1, am_st1 i (.int x) l, st, h)
    | _ => none
  | .lstore i => match st with
    | .long x :: st => some (pc + 2, am_st2 i (.long x) l, st, h)
    | _ => none
  | .lstore_n i => match st with
    | .long x :: st => some (pc + 1, am_st2 i (.long x) l, st, h)
    | _ => none
  | .astore i => match st with
    | .ref x :: st => some (pc + 2, am_st1 i (.ref x) l, st, h)
    | .null :: st => some (pc + 2, am_st1 i .null l, st, h)
    | _ => none
  | .astore_n i => match st with
    | .ref x :: st => some (pc + 1, am_st1 i (.ref x) l, st, h)
    | .null :: st => some (pc + 1, am_st1 i .null l, st, h)
    | _ => none
  | .iinc i n => match am_ld i l with
    | some (.int x) => some (pc + 3, am_st1 i (.int (x + Int32.ofInt n)) l, st, h)
    | _ => none
  | .iadd => match st with
    | .int y :: .int x :: st => some (pc + 1, l, .int (x + y) :: st, h)
    | _ => none
  | .isub => match st with
    | .int y :: .int x :: st => some (pc + 1, l, .int (x - y) :: st, h)
    | _ => none
  | .imul => match st with
    | .int y :: .int x :: st => some (pc + 1, l, .int (x * y) :: st, h)
    | _ => none
  | .idiv => match st with
    | .int y :: .int x :: st => if y = 0 then none else some (pc + 1, l, .int (x / y) :: st, h)
    | _ => none
  | .irem => match st with
    | .int y :: .int x :: st => if y = 0 then none else some (pc + 1, l, .int (x - x / y * y) :: st, h)
    | _ => none
  | .iand => match st with
    | .int y :: .int x :: st => some (pc + 1, l, .int (x &&& y) :: st, h)
    | _ => none
  | .ior => match st with
    | .int y :: .int x :: st => some (pc + 1, l, .int (x ||| y) :: st, h)
    | _ => none
  | .ixor => match st with
    | .int y :: .int x :: st => some (pc + 1, l, .int (x ^^^ y) :: st, h)
    | _ => none
  | .ishl => match st with
    | .int y :: .int x :: st => some (pc + 1, l, .int (x <<< (y &&& 31)) :: st, h)
    | _ => none
  | .ishr => match st with
    | .int y :: .int x :: st => some (pc + 1, l, .int (x >>> (y &&& 31)) :: st, h)
    | _ => none
  | .iushr => match st with
    | .int y :: .int x :: st => some (pc + 1, l, .int ((x.toUInt32 >>> (y.toUInt32 &&& Int32.toUInt32 31)).toInt32) :: st, h)
    | _ => none
  | .ladd => match st with
    | .long y :: .long x :: st => some (pc + 1, l, .long (x + y) :: st, h)
    | _ => none
  | .lsub => match st with
    | .long y :: .long x :: st => some (pc + 1, l, .long (x - y) :: st, h)
    | _ => none
  | .lmul => match st with
    | .long y :: .long x :: st => some (pc + 1, l, .long (x * y) :: st, h)
    | _ => none
  | .lcmp => match st with
    | .long y :: .long x :: st => some (pc + 1, l, .int (lg_cmp x y) :: st, h)
    | _ => none
  | .i2l => match st with
    | .int x :: st => some (pc + 1, l, .long x.toInt64 :: st, h)
    | _ => none
  | .l2i => match st with
    | .long x :: st => some (pc + 1, l, .int x.toInt32 :: st, h)
    | _ => none
  | .i2c => match st with
    | .int x :: st => some (pc + 1, l, .int (x.toUInt32 % 65536).toInt32 :: st, h)
    | _ => none
  | .i2b => match st with
    | .int x :: st => some (pc + 1, l, .int x.toInt8.toInt32 :: st, h)
    | _ => none
  | .pop => match st with
    | v :: st => if v.category = 1 then some (pc + 1, l, st, h) else none
    | _ => none
  | .dup => match st with
    | v :: st => if v.category = 1 then some (pc + 1, l, v :: v :: st, h) else none
    | _ => none
  | .dup2 => match st with
    | v :: w :: st => if v.category = 1 ∧ w.category = 1 then some (pc + 1, l, v :: w :: v :: w :: st, h) else none
    | _ => none
  | .goto off => match am_j pc off with
    | some t => some (t, l, st, h)
    | none => none
  | .ifCond c off => match st with
    | .int x :: st => match c with
      | .eq => am_br (x = 0) pc off l st h
      | .ne => am_br (¬ x = 0) pc off l st h
      | .lt => am_br (x < 0) pc off l st h
      | .ge => am_br (0 ≤ x) pc off l st h
      | .gt => am_br (0 < x) pc off l st h
      | .le => am_br (x ≤ 0) pc off l st h
    | _ => none
  | .if_icmp c off => match st with
    | .int y :: .int x :: st => match c with
      | .eq => am_br (x = y) pc off l st h
      | .ne => am_br (¬ x = y) pc off l st h
      | .lt => am_br (x < y) pc off l st h
      | .ge => am_br (y ≤ x) pc off l st h
      | .gt => am_br (y < x) pc off l st h
      | .le => am_br (x ≤ y) pc off l st h
    | _ => none
  | .ifnull off => match st with
    | .ref _ :: st => some (pc + 3, l, st, h)
    | .null :: st => match am_j pc off with
      | some t => some (t, l, st, h)
      | none => none
    | _ => none
  | .ifnonnull off => match st with
    | .null :: st => some (pc + 3, l, st, h)
    | .ref _ :: st => match am_j pc off with
      | some t => some (t, l, st, h)
      | none => none
    | _ => none
  | .tableswitch dflt lo hi offs => match st with
    | .int x :: st => if x.toInt < lo ∨ hi < x.toInt then (match am_j pc dflt with
        | some t => some (t, l, st, h)
        | none => none) else (match offs[(x.toInt - lo).toNat]? with
        | some off => (match am_j pc off with
          | some t => some (t, l, st, h)
          | none => none)
        | none => none)
    | _ => none
  | .getfield _ => match st with
    | .ref a :: st => if a < 16 then (if 8 ≤ a ∧ a < 12 ∧ a - 8 < cst.2.1.length then (if X.2.2 = 1 then some (pc + 3, l, .ref (a + 4) :: st, h) else if X.2.2 = 2 then some (pc + 3, l, .int 0 :: st, h) else none) else none) else match h[a - 16]? with
      | some (.inr (ci, fs)) => if ci = X.1 ∧ X.2.2 = 0 then (match fs[X.2.1]? with
        | some v => some (pc + 3, l, v :: st, h)
        | none => none) else none
      | _ => none
    | _ => none
  | .putfield _ => match st with
    | v :: .ref a :: st => if a < 16 then none else match h[a - 16]? with
      | some (.inr (ci, fs)) => if ci = X.1 ∧ X.2.1 < fs.length then (match (tt.getD ci []).getD X.2.1 .char with
        | ty => if am_fit ty v = true then some (pc + 3, l, st, h.set (a - 16) (.inr (ci, fs.set X.2.1 v))) else none) else none
      | _ => none
    | _ => none
  | .arraylength => match st with
    | .ref a :: st => if a < 16 then (match (if 12 ≤ a then cst.2.1[a - 12]? else cst.1[a]?) with
      | some L => some (pc + 1, l, .int (Int32.ofNat L.length) :: st, h)
      | none => none) else match h[a - 16]? with
      | some (.inl (_, n, _)) => some (pc + 1, l, .int (Int32.ofNat n) :: st, h)
      | _ => none
    | _ => none
  | .iaload => match st with
    | .int i :: .ref a :: st => if a < 16 then (match cst.1[a]? with
      | some L => if i < 0 ∨ L.length ≤ i.toNatClampNeg then none else some (pc + 1, l, .int (L.getD i.toNatClampNeg 0) :: st, h)
      | none => none) else match h[a - 16]? with
      | some (.inl (.int, n, .inl f)) => if i < 0 ∨ n ≤ i.toNatClampNeg then none else some (pc + 1, l, .int (f i.toNatClampNeg) :: st, h)
      | _ => none
    | _ => none
  | .laload => match st with
    | .int i :: .ref a :: st => if a < 16 then none else match h[a - 16]? with
      | some (.inl (.long, n, .inr (.inl f))) => if i < 0 ∨ n ≤ i.toNatClampNeg then none else some (pc + 1, l, .long (f i.toNatClampNeg) :: st, h)
      | _ => none
    | _ => none
  | .baload => match st with
    | .int i :: .ref a :: st => if a < 16 then (if 12 ≤ a then (match cst.2.1[a - 12]? with
      | some L => if i < 0 ∨ L.length ≤ i.toNatClampNeg then none else some (pc + 1, l, .int (L.getD i.toNatClampNeg 0) :: st, h)
      | none => none) else none) else match h[a - 16]? with
      | some (.inl (.byte, n, .inl f)) => if i < 0 ∨ n ≤ i.toNatClampNeg then none else some (pc + 1, l, .int (f i.toNatClampNeg) :: st, h)
      | some (.inl (.boolean, n, .inl f)) => if i < 0 ∨ n ≤ i.toNatClampNeg then none else some (pc + 1, l, .int (f i.toNatClampNeg) :: st, h)
      | _ => none
    | _ => none
  | .aaload => match st with
    | .int i :: .ref a :: st => if a < 16 then none else match h[a - 16]? with
      | some (.inl (.object _, n, .inr (.inr (.inr (.inr f))))) => if i < 0 ∨ n ≤ i.toNatClampNeg then none else some (pc + 1, l, va_rf (f i.toNatClampNeg) :: st, h)
      | _ => none
    | _ => none
  | .iastore => match st with
    | .int x :: .int i :: .ref a :: st => if a < 16 then none else match h[a - 16]? with
      | some (.inl (.int, n, .inl f)) => if i < 0 ∨ n ≤ i.toNatClampNeg then none else some (pc + 1, l, st, h.set (a - 16) (.inl (.int, n, .inl (upd f i.toNatClampNeg x))))
      | _ => none
    | _ => none
  | .lastore => match st with
    | .long x :: .int i :: .ref a :: st => if a < 16 then none else match h[a - 16]? with
      | some (.inl (.long, n, .inr (.inl f))) => if i < 0 ∨ n ≤ i.toNatClampNeg then none else some (pc + 1, l, st, h.set (a - 16) (.inl (.long, n, .inr (.inl (vp_updL f i.toNatClampNeg x)))))
      | _ => none
    | _ => none
  | .bastore => match st with
    | .int x :: .int i :: .ref a :: st => if a < 16 then none else match h[a - 16]? with
      | some (.inl (.byte, n, .inl f)) => if i < 0 ∨ n ≤ i.toNatClampNeg then none else some (pc + 1, l, st, h.set (a - 16) (.inl (.byte, n, .inl (upd f i.toNatClampNeg (vp_nar .byte x)))))
      | some (.inl (.boolean, n, .inl f)) => if i < 0 ∨ n ≤ i.toNatClampNeg then none else some (pc + 1, l, st, h.set (a - 16) (.inl (.boolean, n, .inl (upd f i.toNatClampNeg (vp_nar .boolean x)))))
      | _ => none
    | _ => none
  | .aastore => match st with
    | .ref v :: .int i :: .ref a :: st => if a < 16 then none else match h[a - 16]? with
      | some (.inl (.object C, n, .inr (.inr (.inr (.inr f))))) => if i < 0 ∨ n ≤ i.toNatClampNeg then none else (if v < 16 then none else match h[v - 16]? with
        | some (.inr (ci, _)) => (match cl[ci]? with
          | some r => if C = r.1 then some (pc + 1, l, st, h.set (a - 16) (.inl (.object C, n, .inr (.inr (.inr (.inr (va_up f i.toNatClampNeg (some v)))))))) else none
          | none => none)
        | _ => none)
      | _ => none
    | _ => none
  | _ => none
end
section
/-! the abstract machine beside the Java machine: addresses, values, cells, what a table must say -/
def am_ad (kd : Nat → Nat) (base k : Nat) : Nat := if k < 16 then kd k else base + (k - 16)
def am_v (f : Nat → Nat) : Value → Value
  | .ref k => .ref (f k)
  | v => v
def am_e (f : Nat → Nat) (ca : FieldType → ClassId) : am_E → va_E
  | .inl (ty, n, .inl g) => .inl (ca ty, n, .inl g)
  | .inl (ty, n, .inr (.inl g)) => .inl (ca ty, n, .inr (.inl g))
  | .inl (ty, n, .inr (.inr (.inl g))) => .inl (ca ty, n, .inr (.inr (.inl g)))
  | .inl (ty, n, .inr (.inr (.inr (.inl g)))) => .inl (ca ty, n, .inr (.inr (.inr (.inl g))))
  | .inl (ty, n, .inr (.inr (.inr (.inr g)))) => .inl (ca ty, n, .inr (.inr (.inr (.inr (fun j => (g j).map f)))))
  | .inr (ci, fs) => .inr (ci, fs.map (am_v f))
def am_R (D : va_G) (cl : List vw_C) (tys : List FieldType) (f : Nat → Nat) (ca : FieldType → ClassId) (base : Nat) (h : am_H) (H : Heap) : Prop :=
  (∀ (i : Nat) (e : am_E), h[i]? = some e → va_at D cl (base + i, am_e f ca e) H) ∧ H.size = base + h.length ∧ ∀ (i : Nat) (ty : FieldType) (a : vp_A), h[i]? = some (.inl (ty, a)) → ty ∈ tys
def am_lc (f : Nat → Nat) (l : am_L) : am_L := l.map (fun q => (q.1, am_v f q.2))
theorem am_v_cat (f : Nat → Nat) (v : Value) : (am_v f v).category = v.category := by cases v <;> rfl
theorem am_ld_mem {i : Nat} {v : Value} : ∀ {l : am_L}, am_ld i l = some v → (i, v) ∈ l
  | [], h => by simp [am_ld] at h
  | q :: l, h => by
    unfold am_ld at h
    by_cases hq : q.1 = i
    · rw [if_pos hq] at h
      cases h
      subst hq
      exact List.mem_cons_self
    · rw [if_neg hq] at h
      exact List.mem_cons_of_mem _ (am_ld_mem h)
theorem am_ld_at {ls : Array Slot} {nL : Nat} {f : Nat → Nat} {l : am_L} {i : Nat} {v : Value} (hl : lv_has ls nL (am_lc f l)) (h : am_ld i l = some v) : ls[i]? = some (.val (am_v f v)) :=
  hl.2.2 (i, am_v f v) (List.mem_map.mpr ⟨(i, v), am_ld_mem h, rfl⟩)
theorem am_st1_lc (f : Nat → Nat) (i : Nat) (v : Value) (l : am_L) : am_lc f (am_st1 i v l) = (i, am_v f v) :: (am_lc f l).filter (fun q => !(q.1 == i) && !(q.1 + 1 == i && q.2.category == 2)) := by
  unfold am_st1 am_lc
  rw [List.map_cons, List.filter_map]
  congr 2
  apply List.filter_congr
  intro q _
  simp only [Function.comp, am_v_cat]
theorem am_st2_lc (f : Nat → Nat) (i : Nat) (v : Value) (l : am_L) : am_lc f (am_st2 i v l) = (i, am_v f v) :: (am_lc f l).filter (fun q => !(q.1 == i) && (!(q.1 == i + 1) && !(q.1 + 1 == i && q.2.category == 2))) := by
  unfold am_st2 am_lc
  rw [List.map_cons, List.filter_map]
  congr 2
  apply List.filter_congr
  intro q _
  simp only [Function.comp, am_v_cat]
theorem am_j_some {pc t : Nat} {off : Int} (h : am_j pc off = some t) : (pc : Int) + off = (t : Int) := by
  unfold am_j at h
  by_cases hp : 0 ≤ (pc : Int) + off
  · rw [if_pos hp] at h
    cases h
    omega
  · rw [if_neg hp] at h
    cases h
theorem am_br_some {b : Prop} [Decidable b] {pc : Nat} {off : Int} {l : am_L} {st : List Value} {h : am_H} {r : am_F} (hs : am_br b pc off l st h = some r) :
    ∃ t : Nat, (pc : Int) + off = (t : Int) ∧ ((b ∧ r = (t, l, st, h)) ∨ (¬ b ∧ r = (pc + 3, l, st, h))) := by
  unfold am_br at hs
  cases hj : am_j pc off with
  | none => rw [hj] at hs; cases hs
  | some t =>
    rw [hj] at hs
    refine ⟨t, am_j_some hj, ?_⟩
    by_cases hb : b
    · simp only [if_pos hb] at hs
      cases hs
      exact Or.inl ⟨hb, rfl⟩
    · simp only [if_neg hb] at hs
      cases hs
      exact Or.inr ⟨hb, rfl⟩
section AM0
variable {D : va_G} {cl : List vw_C} {tys : List FieldType} {kd : Nat → Nat} {ca : FieldType → ClassId} {base : Nat} {h : am_H} {H H1 : Heap} {a : Nat} {e e' : am_E}
theorem am_ad_hi (ha : ¬ a < 16) : am_ad kd base a = base + (a - 16) := by unfold am_ad; rw [if_neg ha]
theorem am_R.at (hR : am_R D cl tys (am_ad kd base) ca base h H) (ha : ¬ a < 16) (he : h[a - 16]? = some e) : va_at D cl (am_ad kd base a, am_e (am_ad kd base) ca e) H := by
  rw [am_ad_hi ha]; exact hR.1 _ _ he
theorem am_R.P (hR : am_R D cl tys (am_ad kd base) ca base h H) (ha : ¬ a < 16) (he : h[a - 16]? = some e) : va_P D cl [(am_ad kd base a, am_e (am_ad kd base) ca e)] H := by
  intro k q hk
  have hz : k < 1 := (List.getElem?_eq_some_iff.mp hk).1
  rw [show k = 0 by omega] at hk
  cases hk
  exact hR.at ha he
theorem am_R.set (hR : am_R D cl tys (am_ad kd base) ca base h H) (ha : ¬ a < 16) (he : h[a - 16]? = some e) (hs : H1.size = H.size) (ho : ∀ q, q ≠ am_ad kd base a → H1[q]? = H[q]?)
    (h1 : va_at D cl (am_ad kd base a, am_e (am_ad kd base) ca e') H1) (ht : ∀ ty x, e' = .inl (ty, x) → ty ∈ tys) : am_R D cl tys (am_ad kd base) ca base (h.set (a - 16) e') H1 := by
  have hl : a - 16 < h.length := (List.getElem?_eq_some_iff.mp he).1
  rw [am_ad_hi ha] at ho h1
  refine ⟨fun i x hx => ?_, by rw [hs, List.length_set]; exact hR.2.1, fun i ty x hx => ?_⟩
  · by_cases hi : i = a - 16
    · subst hi
      rw [List.getElem?_set_self hl] at hx
      cases hx
      exact h1
    · rw [List.getElem?_set_ne (Ne.symm hi)] at hx
      exact (hR.1 i x hx).kept (ho _ (by show base + i ≠ _; omega))
  · by_cases hi : i = a - 16
    · subst hi
      rw [List.getElem?_set_self hl] at hx
      cases hx
      exact ht _ _ rfl
    · rw [List.getElem?_set_ne (Ne.symm hi)] at hx
      exact hR.2.2 i ty x hx
end AM0
/-- the tables of the classes: their words are there, their fields' types and names as the words have them -/
def am_clok (cl : List vw_C) (tt : List (List FieldType)) (Ts : List Cond) : Prop :=
  ∀ (ci : Nat) (r : vw_C), cl[ci]? = some r → (∀ w ∈ u_ws r.1 r.2.1 r.2.2, w ∈ Ts) ∧ (∀ k, k < r.2.2 → parseFieldDescriptor (r.2.1 k).2.2.1 = some ((tt.getD ci []).getD k .char)) ∧ (∀ a, a < r.2.2 → ∀ b, b < r.2.2 → a ≠ b → (r.2.1 a).2.1 ≠ (r.2.1 b).2.1)
/-- what a table must say of an instruction of a method of a class -/
def am_ok (cl : List vw_C) (Ts : List Cond) (sn : List (Nat × String × String × String)) (sr : am_SR) (own : String) (nL : Nat) (init : Bool) (X : am_X) : Instr → Prop
  | .ldc i => (X.1 = 0 → Cond.constant own i (Int32.ofInt X.2.2) ∈ Ts) ∧ (¬ X.1 = 0 → ∃ tx, (own, i, tx, X.2.1) ∈ sr.1)
  | .ldc_w i => (X.1 = 0 → Cond.constant own i (Int32.ofInt X.2.2) ∈ Ts) ∧ (¬ X.1 = 0 → ∃ tx, (own, i, tx, X.2.1) ∈ sr.1)
  | .ldc2_w i => Cond.constantLong own i (Int64.ofInt X.2.2) ∈ Ts
  | .getstatic i => ∃ C n d, (X.2.1, C, n, d) ∈ sn ∧ (Cond.fieldLink own i C n d ∈ Ts ∨ ∃ host, Cond.fieldLinkNest own i C n d host ∈ Ts)
  | .getfield i => (X.2.2 = 1 → Cond.fieldLink own i "java/lang/String" "value" "[B" ∈ Ts) ∧ (X.2.2 = 2 → Cond.fieldLink own i "java/lang/String" "coder" "B" ∈ Ts) ∧ (X.2.2 = 0 → ∃ r : vw_C, cl[X.1]? = some r ∧ X.2.1 < r.2.2 ∧ (Cond.fieldLink own i (r.2.1 X.2.1).1 (r.2.1 X.2.1).2.1 (r.2.1 X.2.1).2.2.1 ∈ Ts ∨ ∃ host, Cond.fieldLinkNest own i (r.2.1 X.2.1).1 (r.2.1 X.2.1).2.1 (r.2.1 X.2.1).2.2.1 host ∈ Ts))
  | .putfield i => ∃ r : vw_C, cl[X.1]? = some r ∧ X.2.1 < r.2.2 ∧ ((Cond.fieldLink own i (r.2.1 X.2.1).1 (r.2.1 X.2.1).2.1 (r.2.1 X.2.1).2.2.1 ∈ Ts ∧ ((r.2.1 X.2.1).2.2.2 = false ∨ ((r.2.1 X.2.1).2.2.2 = true ∧ init = true ∧ (r.2.1 X.2.1).1 = own))) ∨ ((r.2.1 X.2.1).2.2.2 = false ∧ ∃ host, Cond.fieldLinkNest own i (r.2.1 X.2.1).1 (r.2.1 X.2.1).2.1 (r.2.1 X.2.1).2.2.1 host ∈ Ts))
  | .istore i => i < nL
  | .istore_n i => (i : Nat) < nL
  | .astore i => i < nL
  | .astore_n i => (i : Nat) < nL
  | .lstore i => i + 1 < nL
  | .lstore_n i => (i : Nat) + 1 < nL
  | .iinc i _ => i < nL
  | _ => True
end
section
def am_isP (X : am_X) : Instr → Prop
  | .ldc _ => X.1 = 0
  | .ldc_w _ => X.1 = 0
  | .getstatic _ => False
  | .getfield _ => False
  | .putfield _ => False
  | .arraylength => False
  | .iaload => False
  | .laload => False
  | .baload => False
  | .aaload => False
  | .iastore => False
  | .lastore => False
  | .bastore => False
  | .aastore => False
  | _ => True
section AM1
variable {p : Program} {l0 : Launch} {e : Env} {R : Room} {s : State} {m : MethodId} {args : Array Value} {below : List Frame} {meth : Method} {c : Code} {H : Heap} {locs : List Loc} {cells slots : Nat} {Q : State → Prop}
variable {cc : ByteArray} {pc pc' : Nat} {ls : Array Slot} {f : Nat → Nat} {l l' : am_L} {st st' : List Value} {h h' : am_H} {nL : Nat}
set_option maxHeartbeats 4000000 in
/-- numbers, locals, stack, jumps: nothing of the heap -/
theorem am_pure {cst : am_K} {cl : List vw_C} {tt : List (List FieldType)} {Ts : List Cond} {sn : List (Nat × String × String × String)} {sr : am_SR} {own : String} {init : Bool} {X : am_X} {I : Instr}
    (hx : p.tables.exec = Jvm.exec) (hb : c.code = cc) (hts : ∀ w ∈ Ts, w.before args s = true) (hown : s.vm.findClass own = some m.cls) (hd : decode cc pc = .ok (I, am_len X I)) (hok : am_ok cl Ts sn sr own nL init X I)
    (hl : lv_has ls nL (am_lc f l)) (hs : am_s cst cl tt I X pc l st h = some (pc', l', st', h'))
    (hI : am_isP X I)
    (k : h' = h → ∀ ls' : Array Slot, lv_has ls' nL (am_lc f l') → W p l0 e R s m args below meth c H locs cells slots Q (F0 m pc' ls' (st'.map (am_v f)))) :
    W p l0 e R s m args below meth c H locs cells slots Q (F0 m pc ls (st.map (am_v f))) := by
  cases I with
  | iconst n => simp only [am_s, Option.some.injEq, Prod.mk.injEq] at hs; obtain ⟨rfl, rfl, rfl, rfl⟩ := hs; exact lv_iconst hx hb hd rfl (k rfl _ hl)
  | bipush n => simp only [am_s, Option.some.injEq, Prod.mk.injEq] at hs; obtain ⟨rfl, rfl, rfl, rfl⟩ := hs; exact lv_bipush hx hb hd rfl (k rfl _ hl)
  | sipush n => simp only [am_s, Option.some.injEq, Prod.mk.injEq] at hs; obtain ⟨rfl, rfl, rfl, rfl⟩ := hs; exact lv_sipush hx hb hd rfl (k rfl _ hl)
  | lconst n => simp only [am_s, Option.some.injEq, Prod.mk.injEq] at hs; obtain ⟨rfl, rfl, rfl, rfl⟩ := hs; exact lv_lconst hx hb hd rfl (k rfl _ hl)
  | aconst_null => simp only [am_s, Option.some.injEq, Prod.mk.injEq] at hs; obtain ⟨rfl, rfl, rfl, rfl⟩ := hs; exact lv_null hx hb hd (k rfl _ hl)
  | ldc i =>
    have h0 : X.1 = 0 := hI
    simp only [am_s, if_pos h0, Option.some.injEq, Prod.mk.injEq] at hs; obtain ⟨rfl, rfl, rfl, rfl⟩ := hs
    exact lv_ldc hx hb hown (hts _ (hok.1 h0)) hd (k rfl _ hl)
  | ldc_w i =>
    have h0 : X.1 = 0 := hI
    simp only [am_s, if_pos h0, Option.some.injEq, Prod.mk.injEq] at hs; obtain ⟨rfl, rfl, rfl, rfl⟩ := hs
    exact lv_ldcw hx hb hown (hts _ (hok.1 h0)) hd (k rfl _ hl)
  | ldc2_w i => simp only [am_s, Option.some.injEq, Prod.mk.injEq] at hs; obtain ⟨rfl, rfl, rfl, rfl⟩ := hs; exact lv_ldc2 hx hb hown (hts _ hok) hd (k rfl _ hl)
  | iload i =>
    simp only [am_s] at hs
    split at hs
    · rename_i x hq
      simp only [Option.some.injEq, Prod.mk.injEq] at hs; obtain ⟨rfl, rfl, rfl, rfl⟩ := hs
      exact lv_iload hx hb hd (am_ld_at hl hq) (k rfl _ hl)
    · cases hs
  | iload_n i =>
    simp only [am_s] at hs
    split at hs
    · rename_i x hq
      simp only [Option.some.injEq, Prod.mk.injEq] at hs; obtain ⟨rfl, rfl, rfl, rfl⟩ := hs
      exact lv_iload_n hx hb hd rfl (am_ld_at hl hq) (k rfl _ hl)
    · cases hs
  | lload i =>
    simp only [am_s] at hs
    split at hs
    · rename_i x hq
      simp only [Option.some.injEq, Prod.mk.injEq] at hs; obtain ⟨rfl, rfl, rfl, rfl⟩ := hs
      exact lv_lload hx hb hd (am_ld_at hl hq) (k rfl _ hl)
    · cases hs
  | lload_n i =>
    simp only [am_s] at hs
    split at hs
    · rename_i x hq
      simp only [Option.some.injEq, Prod.mk.injEq] at hs; obtain ⟨rfl, rfl, rfl, rfl⟩ := hs
      exact lv_lload_n hx hb hd rfl (am_ld_at hl hq) (k rfl _ hl)
    · cases hs
  | aload i =>
    simp only [am_s] at hs
    split at hs
    · rename_i x hq
      simp only [Option.some.injEq, Prod.mk.injEq] at hs; obtain ⟨rfl, rfl, rfl, rfl⟩ := hs
      exact lv_aload hx hb hd (am_ld_at hl hq) (k rfl _ hl)
    · rename_i hq
      simp only [Option.some.injEq, Prod.mk.injEq] at hs; obtain ⟨rfl, rfl, rfl, rfl⟩ := hs
      exact lv_aloadN hx hb hd (am_ld_at hl hq) (k rfl _ hl)
    · cases hs
  | aload_n i =>
    simp only [am_s] at hs
    split at hs
    · rename_i x hq
      simp only [Option.some.injEq, Prod.mk.injEq] at hs; obtain ⟨rfl, rfl, rfl, rfl⟩ := hs
      exact lv_aload_n hx hb hd rfl (am_ld_at hl hq) (k rfl _ hl)
    · rename_i hq
      simp only [Option.some.injEq, Prod.mk.injEq] at hs; obtain ⟨rfl, rfl, rfl, rfl⟩ := hs
      exact lv_aload_nN hx hb hd rfl (am_ld_at hl hq) (k rfl _ hl)
    · cases hs
  | istore i =>
    simp only [am_s] at hs
    split at hs
    · simp only [Option.some.injEq, Prod.mk.injEq] at hs; obtain ⟨rfl, rfl, rfl, rfl⟩ := hs
      exact lv_istore hx hb hd hl hok (am_st1_lc f _ (Value.int _) _).symm (fun ls' hl' => k rfl ls' hl')
    · cases hs
  | istore_n i =>
    simp only [am_s] at hs
    split at hs
    · simp only [Option.some.injEq, Prod.mk.injEq] at hs; obtain ⟨rfl, rfl, rfl, rfl⟩ := hs
      exact lv_istore_n hx hb hd rfl hl hok (am_st1_lc f _ (Value.int _) _).symm (fun ls' hl' => k rfl ls' hl')
    · cases hs
  | lstore i =>
    simp only [am_s] at hs
    split at hs
    · simp only [Option.some.injEq, Prod.mk.injEq] at hs; obtain ⟨rfl, rfl, rfl, rfl⟩ := hs
      exact lv_lstore hx hb hd hl hok (am_st2_lc f _ (Value.long _) _).symm (fun ls' hl' => k rfl ls' hl')
    · cases hs
  | lstore_n i =>
    simp only [am_s] at hs
    split at hs
    · simp only [Option.some.injEq, Prod.mk.injEq] at hs; obtain ⟨rfl, rfl, rfl, rfl⟩ := hs
      exact lv_lstore_n hx hb hd rfl hl hok (am_st2_lc f _ (Value.long _) _).symm (fun ls' hl' => k rfl ls' hl')
    · cases hs
  | astore i =>
    simp only [am_s] at hs
    split at hs
    · simp only [Option.some.injEq, Prod.mk.injEq] at hs; obtain ⟨rfl, rfl, rfl, rfl⟩ := hs
      exact lv_astore hx hb hd hl hok (am_st1_lc f _ (Value.ref _) _).symm (fun ls' hl' => k rfl ls' hl')
    · simp only [Option.some.injEq, Prod.mk.injEq] at hs; obtain ⟨rfl, rfl, rfl, rfl⟩ := hs
      exact lv_astoreN hx hb hd hl hok (am_st1_lc f _ Value.null _).symm (fun ls' hl' => k rfl ls' hl')
    · cases hs
  | astore_n i =>
    simp only [am_s] at hs
    split at hs
    · simp only [Option.some.injEq, Prod.mk.injEq] at hs; obtain ⟨rfl, rfl, rfl, rfl⟩ := hs
      exact lv_astore_n hx hb hd rfl hl hok (am_st1_lc f _ (Value.ref _) _).symm (fun ls' hl' => k rfl ls' hl')
    · simp only [Option.some.injEq, Prod.mk.injEq] at hs; obtain ⟨rfl, rfl, rfl, rfl⟩ := hs
      exact lv_astore_nN hx hb hd rfl hl hok (am_st1_lc f _ Value.null _).symm (fun ls' hl' => k rfl ls' hl')
    · cases hs
  | iinc i n =>
    simp only [am_s] at hs
    split at hs
    · rename_i x hq
      simp only [Option.some.injEq, Prod.mk.injEq] at hs; obtain ⟨rfl, rfl, rfl, rfl⟩ := hs
      obtain ⟨j, hj⟩ := List.getElem?_of_mem (List.mem_map.mpr ⟨(i, Value.int x), am_ld_mem hq, rfl⟩ : ((i, am_v f (Value.int x)) : Nat × Value) ∈ am_lc f l)
      exact lv_iinc hx hb hd hl hj rfl hok (am_st1_lc f _ (Value.int _) _).symm (fun ls' hl' => k rfl ls' hl')
    · cases hs
  | iadd =>
    simp only [am_s] at hs
    split at hs
    · simp only [Option.some.injEq, Prod.mk.injEq] at hs; obtain ⟨rfl, rfl, rfl, rfl⟩ := hs; exact lv_iadd hx hb hd (k rfl _ hl)
    · cases hs
  | isub =>
    simp only [am_s] at hs
    split at hs
    · simp only [Option.some.injEq, Prod.mk.injEq] at hs; obtain ⟨rfl, rfl, rfl, rfl⟩ := hs; exact lv_isub hx hb hd (k rfl _ hl)
    · cases hs
  | imul =>
    simp only [am_s] at hs
    split at hs
    · simp only [Option.some.injEq, Prod.mk.injEq] at hs; obtain ⟨rfl, rfl, rfl, rfl⟩ := hs; exact lv_imul hx hb hd (k rfl _ hl)
    · cases hs
  | iand =>
    simp only [am_s] at hs
    split at hs
    · simp only [Option.some.injEq, Prod.mk.injEq] at hs; obtain ⟨rfl, rfl, rfl, rfl⟩ := hs; exact lv_iand hx hb hd (k rfl _ hl)
    · cases hs
  | ior =>
    simp only [am_s] at hs
    split at hs
    · simp only [Option.some.injEq, Prod.mk.injEq] at hs; obtain ⟨rfl, rfl, rfl, rfl⟩ := hs; exact lv_ior hx hb hd (k rfl _ hl)
    · cases hs
  | ixor =>
    simp only [am_s] at hs
    split at hs
    · simp only [Option.some.injEq, Prod.mk.injEq] at hs; obtain ⟨rfl, rfl, rfl, rfl⟩ := hs; exact lv_ixor hx hb hd (k rfl _ hl)
    · cases hs
  | ishl =>
    simp only [am_s] at hs
    split at hs
    · simp only [Option.some.injEq, Prod.mk.injEq] at hs; obtain ⟨rfl, rfl, rfl, rfl⟩ := hs; exact lv_ishl hx hb hd (k rfl _ hl)
    · cases hs
  | ishr =>
    simp only [am_s] at hs
    split at hs
    · simp only [Option.some.injEq, Prod.mk.injEq] at hs; obtain ⟨rfl, rfl, rfl, rfl⟩ := hs; exact lv_ishr hx hb hd (k rfl _ hl)
    · cases hs
  | iushr =>
    simp only [am_s] at hs
    split at hs
    · simp only [Option.some.injEq, Prod.mk.injEq] at hs; obtain ⟨rfl, rfl, rfl, rfl⟩ := hs; exact lv_iushr hx hb hd rfl (k rfl _ hl)
    · cases hs
  | ladd =>
    simp only [am_s] at hs
    split at hs
    · simp only [Option.some.injEq, Prod.mk.injEq] at hs; obtain ⟨rfl, rfl, rfl, rfl⟩ := hs; exact lv_ladd hx hb hd (k rfl _ hl)
    · cases hs
  | lsub =>
    simp only [am_s] at hs
    split at hs
    · simp only [Option.some.injEq, Prod.mk.injEq] at hs; obtain ⟨rfl, rfl, rfl, rfl⟩ := hs; exact lv_lsub hx hb hd (k rfl _ hl)
    · cases hs
  | lmul =>
    simp only [am_s] at hs
    split at hs
    · simp only [Option.some.injEq, Prod.mk.injEq] at hs; obtain ⟨rfl, rfl, rfl, rfl⟩ := hs; exact lv_lmul hx hb hd (k rfl _ hl)
    · cases hs
  | lcmp =>
    simp only [am_s] at hs
    split at hs
    · simp only [Option.some.injEq, Prod.mk.injEq] at hs; obtain ⟨rfl, rfl, rfl, rfl⟩ := hs; exact W.lcmp hx hb hd (k rfl _ hl)
    · cases hs
  | i2l =>
    simp only [am_s] at hs
    split at hs
    · simp only [Option.some.injEq, Prod.mk.injEq] at hs; obtain ⟨rfl, rfl, rfl, rfl⟩ := hs; exact lv_i2l hx hb hd rfl (k rfl _ hl)
    · cases hs
  | l2i =>
    simp only [am_s] at hs
    split at hs
    · simp only [Option.some.injEq, Prod.mk.injEq] at hs; obtain ⟨rfl, rfl, rfl, rfl⟩ := hs; exact lv_l2i hx hb hd rfl (k rfl _ hl)
    · cases hs
  | i2c =>
    simp only [am_s] at hs
    split at hs
    · simp only [Option.some.injEq, Prod.mk.injEq] at hs; obtain ⟨rfl, rfl, rfl, rfl⟩ := hs; exact lv_i2c hx hb hd rfl (k rfl _ hl)
    · cases hs
  | i2b =>
    simp only [am_s] at hs
    split at hs
    · simp only [Option.some.injEq, Prod.mk.injEq] at hs; obtain ⟨rfl, rfl, rfl, rfl⟩ := hs; exact lv_i2b hx hb hd rfl (k rfl _ hl)
    · cases hs
  | idiv =>
    simp only [am_s] at hs
    split at hs
    · rename_i y x st1
      by_cases h0 : y = 0
      · rw [if_pos h0] at hs; cases hs
      · rw [if_neg h0] at hs
        simp only [Option.some.injEq, Prod.mk.injEq] at hs; obtain ⟨rfl, rfl, rfl, rfl⟩ := hs
        exact lv_idiv hx hb hd h0 (k rfl _ hl)
    · cases hs
  | irem =>
    simp only [am_s] at hs
    split at hs
    · rename_i y x st1
      by_cases h0 : y = 0
      · rw [if_pos h0] at hs; cases hs
      · rw [if_neg h0] at hs
        simp only [Option.some.injEq, Prod.mk.injEq] at hs; obtain ⟨rfl, rfl, rfl, rfl⟩ := hs
        exact lv_irem hx hb hd h0 (k rfl _ hl)
    · cases hs
  | pop =>
    simp only [am_s] at hs
    split at hs
    · rename_i v st1
      by_cases h0 : v.category = 1
      · rw [if_pos h0] at hs
        simp only [Option.some.injEq, Prod.mk.injEq] at hs; obtain ⟨rfl, rfl, rfl, rfl⟩ := hs
        exact lv_pop hx hb hd (by rw [am_v_cat]; exact h0) (k rfl _ hl)
      · rw [if_neg h0] at hs; cases hs
    · cases hs
  | dup =>
    simp only [am_s] at hs
    split at hs
    · rename_i v st1
      by_cases h0 : v.category = 1
      · rw [if_pos h0] at hs
        simp only [Option.some.injEq, Prod.mk.injEq] at hs; obtain ⟨rfl, rfl, rfl, rfl⟩ := hs
        exact lv_dup hx hb hd (by rw [am_v_cat]; exact h0) (k rfl _ hl)
      · rw [if_neg h0] at hs; cases hs
    · cases hs
  | dup2 =>
    simp only [am_s] at hs
    split at hs
    · rename_i v w st1
      by_cases h0 : v.category = 1 ∧ w.category = 1
      · rw [if_pos h0] at hs
        simp only [Option.some.injEq, Prod.mk.injEq] at hs; obtain ⟨rfl, rfl, rfl, rfl⟩ := hs
        exact lv_dup2_11 hx hb hd (by rw [am_v_cat]; exact h0.1) (by rw [am_v_cat]; exact h0.2) (k rfl _ hl)
      · rw [if_neg h0] at hs; cases hs
    · cases hs
  | goto off =>
    simp only [am_s] at hs
    split at hs
    · rename_i t ht
      simp only [Option.some.injEq, Prod.mk.injEq] at hs; obtain ⟨rfl, rfl, rfl, rfl⟩ := hs
      exact lv_goto hx hb hd (am_j_some ht) (k rfl _ hl)
    · cases hs
  | ifCond cd off =>
    simp only [am_s] at hs
    split at hs
    · rename_i x st1
      cases cd <;> simp only at hs <;> obtain ⟨t, ht, (⟨hc, hr⟩ | ⟨hc, hr⟩)⟩ := am_br_some hs <;> simp only [Prod.mk.injEq] at hr <;> obtain ⟨rfl, rfl, rfl, rfl⟩ := hr
      · exact lv_if_eq hx hb hd ht (fun _ => k rfl _ hl) (fun q => absurd hc q)
      · exact lv_if_eq hx hb hd ht (fun q => absurd q hc) (fun _ => k rfl _ hl)
      · exact lv_if_ne hx hb hd ht (fun _ => k rfl _ hl) (fun q => absurd q hc)
      · exact lv_if_ne hx hb hd ht (fun q => absurd q hc) (fun _ => k rfl _ hl)
      · exact lv_if_lt hx hb hd ht (fun _ => k rfl _ hl) (fun q => absurd hc q)
      · exact lv_if_lt hx hb hd ht (fun q => absurd q hc) (fun _ => k rfl _ hl)
      · exact lv_if_ge hx hb hd ht (fun _ => k rfl _ hl) (fun q => absurd hc q)
      · exact lv_if_ge hx hb hd ht (fun q => absurd q hc) (fun _ => k rfl _ hl)
      · exact lv_if_gt hx hb hd ht (fun _ => k rfl _ hl) (fun q => absurd hc q)
      · exact lv_if_gt hx hb hd ht (fun q => absurd q hc) (fun _ => k rfl _ hl)
      · exact lv_if_le hx hb hd ht (fun _ => k rfl _ hl) (fun q => absurd hc q)
      · exact lv_if_le hx hb hd ht (fun q => absurd q hc) (fun _ => k rfl _ hl)
    · cases hs
  | if_icmp cd off =>
    simp only [am_s] at hs
    split at hs
    · rename_i y x st1
      cases cd <;> simp only at hs <;> obtain ⟨t, ht, (⟨hc, hr⟩ | ⟨hc, hr⟩)⟩ := am_br_some hs <;> simp only [Prod.mk.injEq] at hr <;> obtain ⟨rfl, rfl, rfl, rfl⟩ := hr
      · exact lv_icmp_eq hx hb hd ht (fun _ => k rfl _ hl) (fun q => absurd hc q)
      · exact lv_icmp_eq hx hb hd ht (fun q => absurd q hc) (fun _ => k rfl _ hl)
      · exact lv_icmp_ne hx hb hd ht (fun _ => k rfl _ hl) (fun q => absurd q hc)
      · exact lv_icmp_ne hx hb hd ht (fun q => absurd q hc) (fun _ => k rfl _ hl)
      · exact lv_icmp_lt hx hb hd ht (fun _ => k rfl _ hl) (fun q => absurd hc q)
      · exact lv_icmp_lt hx hb hd ht (fun q => absurd q hc) (fun _ => k rfl _ hl)
      · exact lv_icmp_ge hx hb hd ht (fun _ => k rfl _ hl) (fun q => absurd hc q)
      · exact lv_icmp_ge hx hb hd ht (fun q => absurd q hc) (fun _ => k rfl _ hl)
      · exact lv_icmp_gt hx hb hd ht (fun _ => k rfl _ hl) (fun q => absurd hc q)
      · exact lv_icmp_gt hx hb hd ht (fun q => absurd q hc) (fun _ => k rfl _ hl)
      · exact lv_icmp_le hx hb hd ht (fun _ => k rfl _ hl) (fun q => absurd hc q)
      · exact lv_icmp_le hx hb hd ht (fun q => absurd q hc) (fun _ => k rfl _ hl)
    · cases hs
  | ifnull off =>
    simp only [am_s] at hs
    split at hs
    · simp only [Option.some.injEq, Prod.mk.injEq] at hs; obtain ⟨rfl, rfl, rfl, rfl⟩ := hs
      exact lv_ifnull hx hb hd (k rfl _ hl)
    · split at hs
      · rename_i t ht
        simp only [Option.some.injEq, Prod.mk.injEq] at hs; obtain ⟨rfl, rfl, rfl, rfl⟩ := hs
        exact lv_ifnullN hx hb hd (am_j_some ht) (k rfl _ hl)
      · cases hs
    · cases hs
  | ifnonnull off =>
    simp only [am_s] at hs
    split at hs
    · simp only [Option.some.injEq, Prod.mk.injEq] at hs; obtain ⟨rfl, rfl, rfl, rfl⟩ := hs
      exact lv_ifnonnullN hx hb hd (k rfl _ hl)
    · split at hs
      · rename_i t ht
        simp only [Option.some.injEq, Prod.mk.injEq] at hs; obtain ⟨rfl, rfl, rfl, rfl⟩ := hs
        exact lv_ifnonnull hx hb hd (am_j_some ht) (k rfl _ hl)
      · cases hs
    · cases hs
  | tableswitch dflt lo hi offs =>
    simp only [am_s] at hs
    split at hs
    · rename_i x st1
      by_cases ho : x.toInt < lo ∨ hi < x.toInt
      · rw [if_pos ho] at hs
        split at hs
        · rename_i t ht
          simp only [Option.some.injEq, Prod.mk.injEq] at hs; obtain ⟨rfl, rfl, rfl, rfl⟩ := hs
          exact lv_tableOut hx hb hd ho (am_j_some ht) (k rfl _ hl)
        · cases hs
      · rw [if_neg ho] at hs
        split at hs
        · rename_i off hoff
          split at hs
          · rename_i t ht
            simp only [Option.some.injEq, Prod.mk.injEq] at hs; obtain ⟨rfl, rfl, rfl, rfl⟩ := hs
            exact lv_tableIn hx hb hd (fun q => ho (Or.inl q)) (fun q => ho (Or.inr q)) hoff (am_j_some ht) (k rfl _ hl)
          · cases hs
        · cases hs
    · cases hs
  | _ => first | exact (False.elim hI) | (simp only [am_s] at hs; cases hs; done) | (simp [am_s] at hs; done)
end AM1
end
section
section AM2
variable {p : Program} {l0 : Launch} {e : Env} {R : Room} {s : State} {m : MethodId} {args : Array Value} {below : List Frame} {meth : Method} {c : Code} {H : Heap} {locs : List Loc} {cells slots : Nat} {Q : State → Prop}
variable {cc : ByteArray} {pc pc' : Nat} {ls : Array Slot} {l l' : am_L} {st st' : List Value} {h h' : am_H} {nL : Nat}
variable {D : va_G} {cl : List vw_C} {tys : List FieldType} {kd : Nat → Nat} {ca : FieldType → ClassId} {base : Nat} {A : Nat → Prop} {Ts : List Cond} {tt : List (List FieldType)} {own : String}
theorem am_ldcwS {tx : String} {index q : Nat} {rest : List Value} (hx : p.tables.exec = Jvm.exec) (hb : c.code = cc) (hown : s.vm.findClass own = some m.cls) (hZ : vk_R own index tx q s) (hdg : decode cc pc = .ok (.ldc_w index, 3))
    (kk : W p l0 e R s m args below meth c H locs cells slots Q (F0 m (pc + 3) ls (.ref q :: rest))) : W p l0 e R s m args below meth c H locs cells slots Q (F0 m pc ls rest) := by
  intro T hT X
  obtain ⟨t, a1, b1⟩ := kk T hT X
  refine ⟨t, ?_, b1⟩
  obtain ⟨k, cf, i, a', hk, hcf, hcp, -, hr, hev'⟩ := Cond.stringRef_spec hown hZ.1
  cases hZ.2.symm.trans hev'
  obtain ⟨k', hk', he⟩ := X.warmed.alike.2.2 _ _ hk
  have hr' : k'.resolved[index]? = some (some (.string q)) := by
    rcases X.warmed.entry hk hk' index with h | ⟨h, -⟩
    · rw [h]; exact hr
    · rw [hr] at h; cases h
  jvm_step X.here [hx, hb, hdg, ldc_w.wp_string (s := T) (f := F0 m pc ls rest) X.here.top hk' (by rw [he]; exact hcf) hcp hr']
  exact a1
/-- the texts' cells -/
def am_tx (kd : Nat → Nat) (A : Nat → Prop) (cst : am_K) (U : State) : Prop := ∀ (i : Nat) (L : List Int32), cst.2.1[i]? = some L → va_OF "java/lang/String" "value" "[B" (.ref (kd (12 + i))) (kd (8 + i)) A U U.heap ∧ va_OF "java/lang/String" "coder" "B" (.int 0) (kd (8 + i)) A U U.heap ∧ va_T .byte (kd (12 + i)) L.length (fun j => .int (L.getD j 0)) A U U.heap
theorem am_K1 (hK : va_K D cl [] s) (hT : ∀ ty ∈ tys, ArrOfT s (ca ty) ty ∧ va_RA s (ca ty) ty) {ty : FieldType} (ht : ty ∈ tys) : va_K D cl [(ca ty, ty)] s :=
  ⟨hK.1, fun k q hk => by
    have hz : k < 1 := (List.getElem?_eq_some_iff.mp hk).1
    rw [show k = 0 by omega] at hk
    cases hk
    exact hT ty ht⟩
theorem am_fit_ok {ty : FieldType} {v : Value} (f : Nat → Nat) (h : am_fit ty v = true) : narrow ty (am_v f v) = am_v f v ∧ fits ty (am_v f v) = true := by
  cases ty <;> cases v <;> first | (exact ⟨rfl, rfl⟩) | (simp [am_fit] at h; done) | skip
  rename_i x
  simp only [am_fit, Bool.or_eq_true, beq_iff_eq] at h
  rcases h with rfl | rfl
  · exact ⟨(by decide : narrow .boolean (.int 0) = .int 0), (by decide : fits .boolean (.int 0) = true)⟩
  · exact ⟨(by decide : narrow .boolean (.int 1) = .int 1), (by decide : fits .boolean (.int 1) = true)⟩
/-- a field is written: the cell behind it -/
theorem am_put_at {r : vw_C} {a ci k : Nat} {fs : List Value} {v : Value} {cell : Cell} {H' : Heap} (hts : ∀ w ∈ Ts, w.before args s = true) (hcl : am_clok cl tt Ts) (hK : va_K D cl [] s) (hR : am_R D cl tys (am_ad kd base) ca base h H) (ha : ¬ a < 16) (he : h[a - 16]? = some (.inr (ci, fs))) (hc : cl[ci]? = some r) (hk : k < r.2.2) (hl : k < fs.length)
    (q2 : cell.cls = D.1 ci) (q3 : cell.vm = .none) (q4 : ∀ k, k < r.2.2 → cell.slots[D.2 ci k]? = some (vp_V (fs.map (am_v (am_ad kd base))) k))
    (e1 : H'[am_ad kd base a]? = some (cell.setSlot (D.2 ci k) (am_v (am_ad kd base) v))) (e2 : H'.size = H.size) (e3 : ∀ q, q ≠ am_ad kd base a → H'[q]? = H[q]?) :
    am_R D cl tys (am_ad kd base) ca base (h.set (a - 16) (.inr (ci, fs.set k v))) H' := by
  have hap := va_apart (args := args) (s := s) (D := D) (cl := cl) (tys := []) (own := "") (C := r.1) (T := r.2.1) (N := r.2.2) (ci := ci) hts (hcl ci r hc).1 _ (hcl ci r hc).2.1 (hcl ci r hc).2.2 hK hc
  refine hR.set ha he e2 e3 ⟨r, hc, t_OB.to (V := updV (vp_V (fs.map (am_v (am_ad kd base)))) k (am_v (am_ad kd base) v)) ⟨_, e1, q2, q3, t_set q4 hap hk _⟩ (fun j _ => ?_)⟩ (fun ty x hx => by cases hx)
  rw [vp_updV_set (by rw [List.length_map]; exact hl), ← List.map_set]
set_option maxHeartbeats 4000000 in
theorem am_hput {init : Bool} {X : am_X} {i : Nat} {cst : am_K} {sn : List (Nat × String × String × String)} {sr : am_SR}
    (hx : p.tables.exec = Jvm.exec) (hb : c.code = cc) (hts : ∀ w ∈ Ts, w.before args s = true) (hown : s.vm.findClass own = some m.cls) (hd : decode cc pc = .ok (.putfield i, 3)) (hok : am_ok cl Ts sn sr own nL init X (.putfield i))
    (hcl : am_clok cl tt Ts) (hK : va_K D cl [] s) (hinit : init = true → meth.name = "<init>") (hA : ∀ q, base ≤ q → A q) (hS : va_S A s.heap H locs) (hR : am_R D cl tys (am_ad kd base) ca base h H)
    (hs : am_s cst cl tt (.putfield i) X pc l st h = some (pc', l', st', h'))
    (k : ∀ (H' : Heap) (locs' : List Loc), am_R D cl tys (am_ad kd base) ca base h' H' → va_S A s.heap H' locs' → l' = l → W p l0 e R s m args below meth c H' locs' cells slots Q (F0 m pc' ls (st'.map (am_v (am_ad kd base))))) :
    W p l0 e R s m args below meth c H locs cells slots Q (F0 m pc ls (st.map (am_v (am_ad kd base)))) := by
  simp only [am_s] at hs
  split at hs
  case h_2 => cases hs
  rename_i v a st1
  by_cases ha : a < 16
  · rw [if_pos ha] at hs; cases hs
  rw [if_neg ha] at hs
  split at hs
  case h_2 => cases hs
  rename_i ci fs he
  by_cases hcx : ci = X.1 ∧ X.2.1 < fs.length
  case neg => rw [if_neg hcx] at hs; cases hs
  rw [if_pos hcx] at hs
  by_cases hf : am_fit ((tt.getD ci []).getD X.2.1 .char) v = true
  case neg => rw [if_neg hf] at hs; cases hs
  rw [if_pos hf] at hs
  simp only [Option.some.injEq, Prod.mk.injEq] at hs; obtain ⟨rfl, rfl, rfl, rfl⟩ := hs
  obtain ⟨hci, hlen⟩ := hcx
  obtain ⟨r, hc, hk, hcase⟩ := hok
  rw [← hci] at hc
  obtain ⟨hn, hft⟩ := am_fit_ok (am_ad kd base) hf
  have hpd := (hcl ci r hc).2.1 _ hk
  obtain ⟨r', h1, cell, q1, q2, q3, q4⟩ := hR.at ha he
  have hr : r' = r := Option.some.inj (h1.symm.trans hc)
  subst hr
  obtain ⟨hSl, hfc, kC, hkC, hkind⟩ := hK.1 ci _ hc
  obtain ⟨cf, kf, fi, fd, hi, hsl⟩ := hSl X.2.1 hk
  have hin := (hcl ci r' hc).1
  have hlay := hts _ (hin _ (u_in_lay hk))
  have hst := (u_facts hfc hkC (u_lays hts hin hk) hi).1
  have hAa : A (am_ad kd base a) := hA _ (by rw [am_ad_hi ha]; omega)
  unfold u_lay at hlay
  rcases hcase with ⟨hlink, hfin | ⟨hfin, hini, hdecl⟩⟩ | ⟨hfin, host, hlink⟩
  · rw [if_neg (by rw [hfin]; decide)] at hlay
    have h6 := u_store hfc hkC hkind hlay hi hpd hn hft
    refine W.putK hx hb (f := fd) ⟨hown, hts _ hlink, ⟨_, _, _, hi⟩, hst⟩ (by rw [q2]; exact h6) q1 q3 (by rw [hsl]; exact k2_hasslot (q4 _ hk)) rfl rfl hd fun H' e1 e2 e3 => ?_
    rw [hsl] at e1 ⊢
    exact k H' _ (am_put_at hts hcl hK hR ha he hc hk hlen q2 q3 q4 e1 e2 e3) (hS.put e2 e3 hAa) rfl
  · rw [if_pos hfin] at hlay
    have hcf : m.cls = cf := by
      obtain ⟨_, _, c', _, _, _, -, -, hf', -, -, -, hown2, -⟩ := Cond.laysFinal_spec hlay
      have e1 : c' = cf := by have := hi.symm.trans hf'; simp at this; exact this.1.symm
      rw [hdecl] at hown2
      rw [← e1]; exact Option.some.inj (hown.symm.trans hown2)
    have h6 := u_fits hfc hkC hkind (Or.inr hlay) hi hpd hn hft
    refine W.putFinK hx hb hown (hts _ hlink) hi hst hcf (hinit hini) (by rw [q2]; exact h6) q1 q3 (by rw [hsl]; exact k2_hasslot (q4 _ hk)) rfl rfl hd fun H' e1 e2 e3 => ?_
    rw [hsl] at e1 ⊢
    exact k H' _ (am_put_at hts hcl hK hR ha he hc hk hlen q2 q3 q4 e1 e2 e3) (hS.put e2 e3 hAa) rfl
  · rw [if_neg (by rw [hfin]; decide)] at hlay
    have h6 := u_store hfc hkC hkind hlay hi hpd hn hft
    refine va_WputK hx hb (f := fd) hown (hts _ hlink) hi hst (by rw [q2]; exact h6) q1 q3 (by rw [hsl]; exact k2_hasslot (q4 _ hk)) rfl rfl hd fun H' e1 e2 e3 => ?_
    rw [hsl] at e1 ⊢
    exact k H' _ (am_put_at hts hcl hK hR ha he hc hk hlen q2 q3 q4 e1 e2 e3) (hS.put e2 e3 hAa) rfl
set_option maxHeartbeats 4000000 in
theorem am_hget {init : Bool} {X : am_X} {i : Nat} {cst : am_K} {sn : List (Nat × String × String × String)} {sr : am_SR}
    (hx : p.tables.exec = Jvm.exec) (hb : c.code = cc) (hts : ∀ w ∈ Ts, w.before args s = true) (hown : s.vm.findClass own = some m.cls) (hd : decode cc pc = .ok (.getfield i, 3)) (hok : am_ok cl Ts sn sr own nL init X (.getfield i))
    (hcl : am_clok cl tt Ts) (hK : va_K D cl [] s) (hR : am_R D cl tys (am_ad kd base) ca base h H) (hS : va_S A s.heap H locs) (hX : am_tx kd A cst s)
    (hs : am_s cst cl tt (.getfield i) X pc l st h = some (pc', l', st', h'))
    (k : h' = h → l' = l → W p l0 e R s m args below meth c H locs cells slots Q (F0 m pc' ls (st'.map (am_v (am_ad kd base))))) :
    W p l0 e R s m args below meth c H locs cells slots Q (F0 m pc ls (st.map (am_v (am_ad kd base)))) := by
  simp only [am_s] at hs
  split at hs
  case h_2 => cases hs
  rename_i a st1
  by_cases ha : a < 16
  · rw [if_pos ha] at hs
    by_cases h8 : 8 ≤ a ∧ a < 12 ∧ a - 8 < cst.2.1.length
    case neg => rw [if_neg h8] at hs; cases hs
    rw [if_pos h8] at hs
    obtain ⟨hL, hLe⟩ : ∃ L, cst.2.1[a - 8]? = some L := ⟨_, List.getElem?_eq_getElem h8.2.2⟩
    have hF := hX _ _ hLe
    have e8 : 8 + (a - 8) = a := Nat.add_sub_cancel' h8.1
    have e12 : 12 + (a - 8) = a + 4 := by rw [show (12 : Nat) = 4 + 8 from rfl, Nat.add_assoc, e8, Nat.add_comm]
    rw [e8, e12] at hF
    have a1 : am_ad kd base a = kd a := by unfold am_ad; rw [if_pos ha]
    have a2 : am_ad kd base (a + 4) = kd (a + 4) := by unfold am_ad; rw [if_pos (Nat.add_lt_add_right h8.2.1 4)]
    by_cases h1 : X.2.2 = 1
    · rw [if_pos h1] at hs
      simp only [Option.some.injEq, Prod.mk.injEq] at hs; obtain ⟨rfl, rfl, rfl, rfl⟩ := hs
      have hv := hF.1
      rw [← a1, ← a2] at hv
      exact vk_getf hx hb hv hS hown (hts _ (hok.1 h1)) (fun _ h9 => h9) hd (k rfl rfl)
    · rw [if_neg h1] at hs
      by_cases h2 : X.2.2 = 2
      case neg => rw [if_neg h2] at hs; cases hs
      rw [if_pos h2] at hs
      simp only [Option.some.injEq, Prod.mk.injEq] at hs; obtain ⟨rfl, rfl, rfl, rfl⟩ := hs
      have hv := hF.2.1
      rw [← a1] at hv
      exact vk_getf hx hb hv hS hown (hts _ (hok.2.1 h2)) (fun _ h9 => h9) hd (k rfl rfl)
  rw [if_neg ha] at hs
  split at hs
  case h_2 => cases hs
  rename_i ci fs he
  by_cases hcx : ci = X.1 ∧ X.2.2 = 0
  case neg => rw [if_neg hcx] at hs; cases hs
  rw [if_pos hcx] at hs
  split at hs
  case h_2 => cases hs
  rename_i v hv
  simp only [Option.some.injEq, Prod.mk.injEq] at hs; obtain ⟨rfl, rfl, rfl, rfl⟩ := hs
  obtain ⟨r, hc, hk, hcase⟩ := hok.2.2 hcx.2
  rw [← hcx.1] at hc
  have hv' : (fs.map (am_v (am_ad kd base)))[X.2.1]? = some (am_v (am_ad kd base) v) := by rw [List.getElem?_map, hv]; rfl
  rcases hcase with hlink | ⟨host, hlink⟩
  · exact va_get (D := D) (cl := cl) (tys := []) (C := r.1) (T := r.2.1) (N := r.2.2) hx hb hts (hcl ci r hc).1 hown hK (hR.P ha he) 0 rfl hc X.2.1 hk (hts _ hlink) (fun _ h9 => h9) hv' hd (k rfl rfl)
  · exact va_getN (D := D) (cl := cl) (tys := []) (C := r.1) (T := r.2.1) (N := r.2.2) hx hb hts (hcl ci r hc).1 hown hK (hR.P ha he) 0 rfl hc X.2.1 hk (hts _ hlink) (fun _ h9 => h9) hv' hd (k rfl rfl)
set_option maxHeartbeats 4000000 in
/-- loads of arrays, and the constants -/
theorem am_hload {init : Bool} {X : am_X} {I : Instr} {cst : am_K} {sn : List (Nat × String × String × String)} {sr : am_SR}
    (hx : p.tables.exec = Jvm.exec) (hb : c.code = cc) (hts : ∀ w ∈ Ts, w.before args s = true) (hown : s.vm.findClass own = some m.cls) (hd : decode cc pc = .ok (I, am_len X I)) (hok : am_ok cl Ts sn sr own nL init X I)
    (hK : va_K D cl [] s) (hT : ∀ ty ∈ tys, ArrOfT s (ca ty) ty ∧ va_RA s (ca ty) ty) (hS : va_S A s.heap H locs) (hR : am_R D cl tys (am_ad kd base) ca base h H)
    (hC1 : ∀ (a : Nat) (L : List Int32), a < 16 → cst.1[a]? = some L → va_T .int (kd a) L.length (fun j => .int (L.getD j 0)) A s s.heap)
    (hC2 : ∀ (a : Nat) (C n d : String), (a, C, n, d) ∈ sn → va_Z C n d (am_v kd (am_sv cst a)) A s s.heap) (hX : am_tx kd A cst s)
    (hC3 : ∀ (o : String) (i : Nat) (tx : String) (a : Nat), (o, i, tx, a) ∈ sr.1 → vk_R o i tx (kd a) s)
    (hI : I = .arraylength ∨ I = .iaload ∨ I = .laload ∨ I = .baload ∨ I = .aaload ∨ (∃ i, I = .getstatic i) ∨ ((∃ i, I = .ldc i) ∧ ¬ X.1 = 0) ∨ ((∃ i, I = .ldc_w i) ∧ ¬ X.1 = 0))
    (hs : am_s cst cl tt I X pc l st h = some (pc', l', st', h'))
    (k : h' = h → l' = l → W p l0 e R s m args below meth c H locs cells slots Q (F0 m pc' ls (st'.map (am_v (am_ad kd base))))) :
    W p l0 e R s m args below meth c H locs cells slots Q (F0 m pc ls (st.map (am_v (am_ad kd base)))) := by
  have hlo : ∀ a : Nat, a < 16 → am_ad kd base a = kd a := fun a ha => by unfold am_ad; rw [if_pos ha]
  rcases hI with rfl | rfl | rfl | rfl | rfl | ⟨i, rfl⟩ | ⟨⟨i, rfl⟩, h0⟩ | ⟨⟨i, rfl⟩, h0⟩
  · simp only [am_s] at hs
    split at hs
    case h_2 => cases hs
    rename_i a st1
    by_cases ha : a < 16
    · rw [if_pos ha] at hs
      split at hs
      case h_2 => cases hs
      rename_i L hL
      simp only [Option.some.injEq, Prod.mk.injEq] at hs; obtain ⟨rfl, rfl, rfl, rfl⟩ := hs
      by_cases h12 : 12 ≤ a
      · rw [if_pos h12] at hL
        have hT1 := (hX _ _ hL).2.2
        rw [show 12 + (a - 12) = a from Nat.add_sub_cancel' h12, ← hlo a ha] at hT1
        exact va_tlen hx hb hT1 hS rfl hd (k rfl rfl)
      · rw [if_neg h12] at hL
        have hT1 := hC1 a L ha hL
        rw [← hlo a ha] at hT1
        exact va_tlen hx hb hT1 hS rfl hd (k rfl rfl)
    · rw [if_neg ha] at hs
      split at hs
      case h_2 => cases hs
      rename_i ty n z he
      simp only [Option.some.injEq, Prod.mk.injEq] at hs; obtain ⟨rfl, rfl, rfl, rfl⟩ := hs
      have ht := hR.2.2 _ _ _ he
      have hP := hR.P ha he
      rcases z with g | g | g | g | g
      · exact va_alen hx hb (am_K1 hK hT ht) hP 0 0 rfl rfl rfl hd (k rfl rfl)
      · exact va_alen hx hb (am_K1 hK hT ht) hP 0 0 rfl rfl rfl hd (k rfl rfl)
      · exact va_alen hx hb (am_K1 hK hT ht) hP 0 0 rfl rfl rfl hd (k rfl rfl)
      · exact va_alen hx hb (am_K1 hK hT ht) hP 0 0 rfl rfl rfl hd (k rfl rfl)
      · exact va_alen hx hb (am_K1 hK hT ht) hP 0 0 rfl rfl rfl hd (k rfl rfl)
  · simp only [am_s] at hs
    split at hs
    case h_2 => cases hs
    rename_i i a st1
    by_cases ha : a < 16
    · rw [if_pos ha] at hs
      split at hs
      case h_2 => cases hs
      rename_i L hL
      by_cases hin : i < 0 ∨ L.length ≤ i.toNatClampNeg
      · rw [if_pos hin] at hs; cases hs
      rw [if_neg hin] at hs
      simp only [Option.some.injEq, Prod.mk.injEq] at hs; obtain ⟨rfl, rfl, rfl, rfl⟩ := hs
      have hT1 := hC1 a L ha hL
      rw [← hlo a ha] at hT1
      exact va_ti hx hb hT1 hS hin rfl hd (k rfl rfl)
    · rw [if_neg ha] at hs
      split at hs
      case h_2 => cases hs
      rename_i n g he
      by_cases hin : i < 0 ∨ n ≤ i.toNatClampNeg
      · rw [if_pos hin] at hs; cases hs
      rw [if_neg hin] at hs
      simp only [Option.some.injEq, Prod.mk.injEq] at hs; obtain ⟨rfl, rfl, rfl, rfl⟩ := hs
      exact va_iald hx hb (am_K1 hK hT (hR.2.2 _ _ _ he)) (hR.P ha he) 0 0 rfl rfl hin hd (k rfl rfl)
  · simp only [am_s] at hs
    split at hs
    case h_2 => cases hs
    rename_i i a st1
    by_cases ha : a < 16
    · rw [if_pos ha] at hs; cases hs
    · rw [if_neg ha] at hs
      split at hs
      case h_2 => cases hs
      rename_i n g he
      by_cases hin : i < 0 ∨ n ≤ i.toNatClampNeg
      · rw [if_pos hin] at hs; cases hs
      rw [if_neg hin] at hs
      simp only [Option.some.injEq, Prod.mk.injEq] at hs; obtain ⟨rfl, rfl, rfl, rfl⟩ := hs
      exact va_lald hx hb (am_K1 hK hT (hR.2.2 _ _ _ he)) (hR.P ha he) 0 0 rfl rfl hin hd (k rfl rfl)
  · simp only [am_s] at hs
    split at hs
    case h_2 => cases hs
    rename_i i a st1
    by_cases ha : a < 16
    · rw [if_pos ha] at hs
      by_cases h12 : 12 ≤ a
      case neg => rw [if_neg h12] at hs; cases hs
      rw [if_pos h12] at hs
      split at hs
      case h_2 => cases hs
      rename_i L hL
      by_cases hin : i < 0 ∨ L.length ≤ i.toNatClampNeg
      · rw [if_pos hin] at hs; cases hs
      rw [if_neg hin] at hs
      simp only [Option.some.injEq, Prod.mk.injEq] at hs; obtain ⟨rfl, rfl, rfl, rfl⟩ := hs
      have hT1 := (hX _ _ hL).2.2
      rw [show 12 + (a - 12) = a from Nat.add_sub_cancel' h12, ← hlo a ha] at hT1
      exact va_tb hx hb hT1 hS hin rfl hd (k rfl rfl)
    · rw [if_neg ha] at hs
      split at hs
      case h_3 => cases hs
      · rename_i n g he
        by_cases hin : i < 0 ∨ n ≤ i.toNatClampNeg
        · rw [if_pos hin] at hs; cases hs
        rw [if_neg hin] at hs
        simp only [Option.some.injEq, Prod.mk.injEq] at hs; obtain ⟨rfl, rfl, rfl, rfl⟩ := hs
        exact va_bald hx hb (am_K1 hK hT (hR.2.2 _ _ _ he)) (hR.P ha he) 0 0 rfl rfl hin hd (k rfl rfl)
      · rename_i n g he
        by_cases hin : i < 0 ∨ n ≤ i.toNatClampNeg
        · rw [if_pos hin] at hs; cases hs
        rw [if_neg hin] at hs
        simp only [Option.some.injEq, Prod.mk.injEq] at hs; obtain ⟨rfl, rfl, rfl, rfl⟩ := hs
        exact va_zald hx hb (am_K1 hK hT (hR.2.2 _ _ _ he)) (hR.P ha he) 0 0 rfl rfl hin hd (k rfl rfl)
  · simp only [am_s] at hs
    split at hs
    case h_2 => cases hs
    rename_i i a st1
    by_cases ha : a < 16
    · rw [if_pos ha] at hs; cases hs
    · rw [if_neg ha] at hs
      split at hs
      case h_2 => cases hs
      rename_i C n g he
      by_cases hin : i < 0 ∨ n ≤ i.toNatClampNeg
      · rw [if_pos hin] at hs; cases hs
      rw [if_neg hin] at hs
      simp only [Option.some.injEq, Prod.mk.injEq] at hs; obtain ⟨rfl, rfl, rfl, rfl⟩ := hs
      refine va_aldq (C := C) hx hb (am_K1 hK hT (hR.2.2 _ _ _ he)) (hR.P ha he) 0 0 rfl rfl hin hd ?_
      have hv : va_rf ((g i.toNatClampNeg).map (am_ad kd base)) = am_v (am_ad kd base) (va_rf (g i.toNatClampNeg)) := by cases g i.toNatClampNeg <;> rfl
      show W p l0 e R s m args below meth c H locs cells slots Q (F0 m _ ls (va_rf ((g i.toNatClampNeg).map (am_ad kd base)) :: _))
      rw [hv]
      exact k rfl rfl
  · simp only [am_s] at hs
    by_cases ha : am_lowv (am_sv cst X.2.1) = true
    case neg => rw [if_neg ha] at hs; cases hs
    rw [if_pos ha] at hs
    simp only [Option.some.injEq, Prod.mk.injEq] at hs; obtain ⟨rfl, rfl, rfl, rfl⟩ := hs
    obtain ⟨C, n, d, hn, hcase⟩ := hok
    have hZ := hC2 _ _ _ _ hn
    have hvv : am_v kd (am_sv cst X.2.1) = am_v (am_ad kd base) (am_sv cst X.2.1) := by
      generalize am_sv cst X.2.1 = w at ha
      cases w with
      | ref q => exact congrArg Value.ref (hlo q (of_decide_eq_true ha)).symm
      | _ => rfl
    rw [hvv] at hZ
    rcases hcase with hlink | ⟨host, hlink⟩
    · exact va_gets hx hb hZ hS hown (hts _ hlink) (fun _ h9 => h9) hd (k rfl rfl)
    · exact va_getsN hx hb hZ hS hown (hts _ hlink) (fun _ h9 => h9) hd (k rfl rfl)
  · simp only [am_s, if_neg h0] at hs
    by_cases ha : X.2.1 < 16
    case neg => rw [if_neg ha] at hs; cases hs
    rw [if_pos ha] at hs
    simp only [Option.some.injEq, Prod.mk.injEq] at hs; obtain ⟨rfl, rfl, rfl, rfl⟩ := hs
    obtain ⟨tx, hm⟩ := hok.2 h0
    have hZ := hC3 _ _ _ _ hm
    rw [← hlo _ ha] at hZ
    exact va_ldcS hx hb hown hZ hd (k rfl rfl)
  · simp only [am_s, if_neg h0] at hs
    by_cases ha : X.2.1 < 16
    case neg => rw [if_neg ha] at hs; cases hs
    rw [if_pos ha] at hs
    simp only [Option.some.injEq, Prod.mk.injEq] at hs; obtain ⟨rfl, rfl, rfl, rfl⟩ := hs
    obtain ⟨tx, hm⟩ := hok.2 h0
    have hZ := hC3 _ _ _ _ hm
    rw [← hlo _ ha] at hZ
    exact am_ldcwS hx hb hown hZ hd (k rfl rfl)
set_option maxHeartbeats 4000000 in
/-- stores into arrays -/
theorem am_hstore {X : am_X} {I : Instr} {cst : am_K}
    (hx : p.tables.exec = Jvm.exec) (hb : c.code = cc) (hd : decode cc pc = .ok (I, am_len X I))
    (hK : va_K D cl [] s) (hT : ∀ ty ∈ tys, ArrOfT s (ca ty) ty ∧ va_RA s (ca ty) ty) (hA : ∀ q, base ≤ q → A q) (hS : va_S A s.heap H locs) (hR : am_R D cl tys (am_ad kd base) ca base h H)
    (hI : I = .iastore ∨ I = .lastore ∨ I = .bastore ∨ I = .aastore)
    (hs : am_s cst cl tt I X pc l st h = some (pc', l', st', h'))
    (k : ∀ (H' : Heap) (locs' : List Loc), am_R D cl tys (am_ad kd base) ca base h' H' → va_S A s.heap H' locs' → l' = l → W p l0 e R s m args below meth c H' locs' cells slots Q (F0 m pc' ls (st'.map (am_v (am_ad kd base))))) :
    W p l0 e R s m args below meth c H locs cells slots Q (F0 m pc ls (st.map (am_v (am_ad kd base)))) := by
  rcases hI with rfl | rfl | rfl | rfl
  · simp only [am_s] at hs
    split at hs
    case h_2 => cases hs
    rename_i x i a st1
    by_cases ha : a < 16
    · rw [if_pos ha] at hs; cases hs
    rw [if_neg ha] at hs
    split at hs
    case h_2 => cases hs
    rename_i n g he
    by_cases hin : i < 0 ∨ n ≤ i.toNatClampNeg
    · rw [if_pos hin] at hs; cases hs
    rw [if_neg hin] at hs
    simp only [Option.some.injEq, Prod.mk.injEq] at hs; obtain ⟨rfl, rfl, rfl, rfl⟩ := hs
    have ht := hR.2.2 _ _ _ he
    refine W.iast hx hb (hR.at ha he) ((hT _ ht).1 n (fun j => .int (g j))) (fun q => by cases q) (by show ¬ (i < 0 ∨ (arrV _ _ _).slots.size ≤ _); rw [arrV_size]; exact hin) rfl rfl hd fun H1 e1 z oq => ?_
    refine k H1 _ (hR.set ha he z oq ?_ (fun ty y hy => by cases hy; exact ht)) (hS.put z oq (hA _ (by rw [am_ad_hi ha]; omega))) rfl
    show H1[am_ad kd base a]? = some (vp_cell _ _)
    rw [e1, vp_cell_i, vp_cell_i, arrV_store]
    congr 2
    funext q
    by_cases hq : q = i.toNatClampNeg
    · subst hq; simp [updV, upd]
    · simp [updV, upd, hq]
  · simp only [am_s] at hs
    split at hs
    case h_2 => cases hs
    rename_i x i a st1
    by_cases ha : a < 16
    · rw [if_pos ha] at hs; cases hs
    rw [if_neg ha] at hs
    split at hs
    case h_2 => cases hs
    rename_i n g he
    by_cases hin : i < 0 ∨ n ≤ i.toNatClampNeg
    · rw [if_pos hin] at hs; cases hs
    rw [if_neg hin] at hs
    simp only [Option.some.injEq, Prod.mk.injEq] at hs; obtain ⟨rfl, rfl, rfl, rfl⟩ := hs
    have ht := hR.2.2 _ _ _ he
    refine W.last hx hb (hR.at ha he) ((hT _ ht).1 n (fun j => .long (g j))) (fun q => by cases q) (by show ¬ (i < 0 ∨ (arrV _ _ _).slots.size ≤ _); rw [arrV_size]; exact hin) rfl rfl hd fun H1 e1 z oq => ?_
    refine k H1 _ (hR.set ha he z oq ?_ (fun ty y hy => by cases hy; exact ht)) (hS.put z oq (hA _ (by rw [am_ad_hi ha]; omega))) rfl
    show H1[am_ad kd base a]? = some (vp_cell _ _)
    rw [e1, vp_cell_l, vp_cell_l, arrV_store]
    congr 2
    funext q
    by_cases hq : q = i.toNatClampNeg
    · subst hq; simp [updV, vp_updL]
    · simp [updV, vp_updL, hq]
  · simp only [am_s] at hs
    split at hs
    case h_2 => cases hs
    rename_i x i a st1
    by_cases ha : a < 16
    · rw [if_pos ha] at hs; cases hs
    rw [if_neg ha] at hs
    split at hs
    case h_3 => cases hs
    · rename_i n g he
      by_cases hin : i < 0 ∨ n ≤ i.toNatClampNeg
      · rw [if_pos hin] at hs; cases hs
      rw [if_neg hin] at hs
      simp only [Option.some.injEq, Prod.mk.injEq] at hs; obtain ⟨rfl, rfl, rfl, rfl⟩ := hs
      have ht := hR.2.2 _ _ _ he
      refine W.bast hx hb (hR.at ha he) ((hT _ ht).1 n (fun j => .int (g j))) (fun q => by cases q) (by show ¬ (i < 0 ∨ (arrV _ _ _).slots.size ≤ _); rw [arrV_size]; exact hin) rfl rfl hd fun H1 e1 z oq => ?_
      refine k H1 _ (hR.set ha he z oq ?_ (fun ty y hy => by cases hy; exact ht)) (hS.put z oq (hA _ (by rw [am_ad_hi ha]; omega))) rfl
      show H1[am_ad kd base a]? = some (vp_cell _ _)
      rw [e1, vp_cell_i, vp_cell_i, arrV_store]
      congr 2
      funext q
      by_cases hq : q = i.toNatClampNeg
      · subst hq; simp [updV, upd, vp_nar]; try rfl
      · simp [updV, upd, hq]
    · rename_i n g he
      by_cases hin : i < 0 ∨ n ≤ i.toNatClampNeg
      · rw [if_pos hin] at hs; cases hs
      rw [if_neg hin] at hs
      simp only [Option.some.injEq, Prod.mk.injEq] at hs; obtain ⟨rfl, rfl, rfl, rfl⟩ := hs
      have ht := hR.2.2 _ _ _ he
      refine W.zast hx hb (hR.at ha he) ((hT _ ht).1 n (fun j => .int (g j))) (fun q => by cases q) (by show ¬ (i < 0 ∨ (arrV _ _ _).slots.size ≤ _); rw [arrV_size]; exact hin) rfl rfl hd fun H1 e1 z oq => ?_
      refine k H1 _ (hR.set ha he z oq ?_ (fun ty y hy => by cases hy; exact ht)) (hS.put z oq (hA _ (by rw [am_ad_hi ha]; omega))) rfl
      show H1[am_ad kd base a]? = some (vp_cell _ _)
      rw [e1, vp_cell_i, vp_cell_i, arrV_store]
      congr 2
      funext q
      by_cases hq : q = i.toNatClampNeg
      · subst hq; simp [updV, upd, vp_nar]; try rfl
      · simp [updV, upd, hq]
  · simp only [am_s] at hs
    split at hs
    case h_2 => cases hs
    rename_i v i a st1
    by_cases ha : a < 16
    · rw [if_pos ha] at hs; cases hs
    rw [if_neg ha] at hs
    split at hs
    case h_2 => cases hs
    rename_i C n g he
    by_cases hin : i < 0 ∨ n ≤ i.toNatClampNeg
    · rw [if_pos hin] at hs; cases hs
    rw [if_neg hin] at hs
    by_cases hv : v < 16
    · rw [if_pos hv] at hs; cases hs
    rw [if_neg hv] at hs
    split at hs
    case h_2 => cases hs
    rename_i ci vs hve
    split at hs
    case h_2 => cases hs
    rename_i r hc
    by_cases hC : C = r.1
    case neg => rw [if_neg hC] at hs; cases hs
    rw [if_pos hC] at hs
    simp only [Option.some.injEq, Prod.mk.injEq] at hs; obtain ⟨rfl, rfl, rfl, rfl⟩ := hs
    have ht := hR.2.2 _ _ _ he
    have hlt : i.toNatClampNeg < n := Nat.not_le.mp fun q => hin (Or.inr q)
    have h0 : ¬ i < 0 := fun q => hin (Or.inl q)
    obtain ⟨r', hr', cellV, g1, g2, g3, -⟩ := hR.at hv hve
    have hcls := (hK.1 ci r hc).2
    subst hC
    obtain ⟨kA, comp, k1, k2, k3, -⟩ := (hT _ ht).2
    have hcomp : comp = D.1 ci := Option.some.inj (k3.symm.trans hcls.1)
    subst hcomp
    obtain ⟨kC, hkC, -⟩ := hcls.2
    refine W.aast hx hb (hR.at ha he) (fun q h => by cases h) (fun h => by cases h) k1 k2 rfl hkC ⟨h0, by show _ < (arrV _ _ _).slots.size; rw [arrV_size]; exact hlt⟩ g1 (fun q h => by rw [g3] at h; cases h) (by rw [g2]; exact hkC) (by rw [g2]; exact va_assign hcls) rfl rfl hd fun H1 e1 z oq => ?_
    refine k H1 _ (hR.set ha he z oq ?_ (fun ty y hy => by cases hy; exact ht)) (hS.put z oq (hA _ (by rw [am_ad_hi ha]; omega))) rfl
    show H1[am_ad kd base a]? = some (vp_cell _ _)
    rw [e1, vp_cell_q, vp_cell_q, arrV_store]
    congr 2
    funext q
    by_cases hq : q = i.toNatClampNeg
    · subst hq; simp [updV, va_up, va_rf]
    · simp [updV, va_up, hq]
end AM2
end
section
/-! cells that are made; the state behind it and its slots -/
def am_a (cl : List vw_C) (tt : List (List FieldType)) (I : Instr) (X : am_X) (pc : Nat) (l : am_L) (st : List Value) (h : am_H) : Option (am_F × Nat) :=
  match I with
  | .new _ => match cl[X.1]? with
    | some r => if (tt.getD X.1 []).length = r.2.2 then some ((pc + 3, l, .ref (16 + h.length) :: st, h ++ [.inr (X.1, (tt.getD X.1 []).map defaultValue)]), r.2.2) else none
    | none => none
  | .newarray t => match st with
    | .int n :: st => if n < 0 ∨ 60000000 < n.toNatClampNeg then none else match t with
      | .int => some ((pc + 2, l, .ref (16 + h.length) :: st, h ++ [.inl (.int, n.toNatClampNeg, .inl (fun _ => 0))]), n.toNatClampNeg)
      | .long => some ((pc + 2, l, .ref (16 + h.length) :: st, h ++ [.inl (.long, n.toNatClampNeg, .inr (.inl (fun _ => 0)))]), n.toNatClampNeg)
      | .byte => some ((pc + 2, l, .ref (16 + h.length) :: st, h ++ [.inl (.byte, n.toNatClampNeg, .inl (fun _ => 0))]), n.toNatClampNeg)
      | .boolean => some ((pc + 2, l, .ref (16 + h.length) :: st, h ++ [.inl (.boolean, n.toNatClampNeg, .inl (fun _ => 0))]), n.toNatClampNeg)
      | _ => none
    | _ => none
  | .anewarray _ => match st with
    | .int n :: st => if n < 0 ∨ 60000000 < n.toNatClampNeg then none else match cl[X.1]? with
      | some r => some ((pc + 3, l, .ref (16 + h.length) :: st, h ++ [.inl (.object r.1, n.toNatClampNeg, .inr (.inr (.inr (.inr (fun _ => none)))))]), n.toNatClampNeg)
      | none => none
    | _ => none
  | _ => none
/-- what a table must say of an instruction that makes a cell -/
def am_oka (cl : List vw_C) (tys : List FieldType) (Ts : List Cond) (own : String) (X : am_X) : Instr → Prop
  | .new i => ∃ r : vw_C, cl[X.1]? = some r ∧ Cond.classLink own i r.1 ∈ Ts ∧ Cond.instantiable r.1 r.2.2 ∈ Ts ∧ Cond.initialized r.1 ∈ Ts
  | .newarray t => Cond.arrayClass (newarray.typeOf t) ∈ Ts ∧ newarray.typeOf t ∈ tys
  | .anewarray i => ∃ r : vw_C, cl[X.1]? = some r ∧ Cond.classLink own i r.1 ∈ Ts ∧ .object r.1 ∈ tys
  | _ => True
section AM3
variable {p : Program} {l0 : Launch} {e : Env} {R : Room} {s : State} {m : MethodId} {args : Array Value} {below : List Frame} {meth : Method} {c : Code} {H : Heap} {locs : List Loc} {cells slots : Nat} {Q : State → Prop}
variable {cc : ByteArray} {pc pc' : Nat} {ls : Array Slot} {l l' : am_L} {st st' : List Value} {h h' : am_H} {nL : Nat}
variable {D : va_G} {cl : List vw_C} {tys : List FieldType} {kd : Nat → Nat} {ca : FieldType → ClassId} {base : Nat} {A : Nat → Prop} {Ts : List Cond} {tt : List (List FieldType)} {own : String}
theorem am_R.push {H1 : Heap} {e1 : am_E} (hR : am_R D cl tys (am_ad kd base) ca base h H) (z : H1.size = H.size + 1) (o1 : ∀ q, q < H.size → H1[q]? = H[q]?) (he : va_at D cl (H.size, am_e (am_ad kd base) ca e1) H1) (ht : ∀ ty x, e1 = .inl (ty, x) → ty ∈ tys) :
    am_R D cl tys (am_ad kd base) ca base (h ++ [e1]) H1 := by
  refine ⟨fun i x hx => ?_, by rw [z, hR.2.1, List.length_append]; rfl, fun i ty x hx => ?_⟩
  · by_cases hi : i < h.length
    · rw [List.getElem?_append_left hi] at hx
      exact (hR.1 i x hx).kept (o1 _ (by show base + i < _; rw [hR.2.1]; omega))
    · rw [List.getElem?_append_right (by omega)] at hx
      have hz : i - h.length < 1 := (List.getElem?_eq_some_iff.mp hx).1
      have hi0 : i = h.length := by omega
      subst hi0
      rw [Nat.sub_self] at hx
      cases hx
      rw [← hR.2.1]
      exact he
  · by_cases hi : i < h.length
    · rw [List.getElem?_append_left hi] at hx
      exact hR.2.2 i ty x hx
    · rw [List.getElem?_append_right (by omega)] at hx
      have hz : i - h.length < 1 := (List.getElem?_eq_some_iff.mp hx).1
      have hi0 : i = h.length := by omega
      subst hi0
      rw [Nat.sub_self] at hx
      cases hx
      exact ht _ _ rfl
theorem am_ad_new (hR : am_R D cl tys (am_ad kd base) ca base h H) : Value.ref H.size = am_v (am_ad kd base) (.ref (16 + h.length)) := by
  show Value.ref H.size = .ref (am_ad kd base (16 + h.length))
  rw [am_ad_hi (by omega), hR.2.1, Nat.add_sub_cancel_left]
theorem am_S_push {H1 : Heap} (hS : va_S A s.heap H locs) (z : H1.size = H.size + 1) (o1 : ∀ q, q < H.size → H1[q]? = H[q]?) : va_S A s.heap H1 locs :=
  ⟨Nat.le_trans hS.1 (by omega), fun x h1 h2 => (o1 x (Nat.lt_of_lt_of_le h1 hS.1)).trans (hS.2.1 x h1 h2), hS.2.2⟩
theorem am_dv (f : Nat → Nat) (ty : FieldType) : am_v f (defaultValue ty) = defaultValue ty := by cases ty <;> rfl
set_option maxHeartbeats 4000000 in
theorem am_halloc {X : am_X} {I : Instr} {k0 : Nat}
    (hx : p.tables.exec = Jvm.exec) (hb : c.code = cc) (hts : ∀ w ∈ Ts, w.before args s = true) (hown : s.vm.findClass own = some m.cls) (hd : decode cc pc = .ok (I, am_len X I)) (hok : am_oka cl tys Ts own X I)
    (hcl : am_clok cl tt Ts) (hK : va_K D cl [] s) (hT : ∀ ty ∈ tys, ArrOfT s (ca ty) ty ∧ va_RA s (ca ty) ty) (hO : ∀ C, .object C ∈ tys → va_AO C s) (hS : va_S A s.heap H locs) (hR : am_R D cl tys (am_ad kd base) ca base h H)
    (hs : am_a cl tt I X pc l st h = some ((pc', l', st', h'), k0)) (hcells : cells + 1 ≤ R.cells) (hslots : slots + k0 ≤ R.slots)
    (k : ∀ (H' : Heap), am_R D cl tys (am_ad kd base) ca base h' H' → va_S A s.heap H' locs → l' = l → W p l0 e R s m args below meth c H' locs (cells + 1) (slots + k0) Q (F0 m pc' ls (st'.map (am_v (am_ad kd base))))) :
    W p l0 e R s m args below meth c H locs cells slots Q (F0 m pc ls (st.map (am_v (am_ad kd base)))) := by
  cases I with
  | new i =>
    obtain ⟨r, hc, hw1, hw2, hw3⟩ := hok
    simp only [am_a, hc] at hs
    by_cases hlen : (tt.getD X.1 []).length = r.2.2
    case neg => rw [if_neg hlen] at hs; cases hs
    rw [if_pos hlen] at hs
    simp only [Option.some.injEq, Prod.mk.injEq] at hs; obtain ⟨⟨rfl, rfl, rfl, rfl⟩, rfl⟩ := hs
    have hKn := hK.1 X.1 _ hc
    refine W.newcK hx hb hown (hts _ hw1) (hts _ hw2) (hts _ hw3) rfl hd hcells hslots hKn.2.1 rfl fun H1 kC hkC e1 z1 o1 => ?_
    refine W.eq (g2 := F0 m (pc + 3) ls (am_v (am_ad kd base) (.ref (16 + h.length)) :: st.map (am_v (am_ad kd base)))) (by rw [← am_ad_new hR]) ?_
    refine k H1 (hR.push z1 o1 ?_ (fun ty x hx => by cases hx)) (am_S_push hS z1 o1) rfl
    refine ⟨r, hc, (u_born _ hts (hcl _ r hc).1 hKn hkC e1 (hcl _ r hc).2.1).to (fun j hj => ?_)⟩
    have hj' : j < (tt.getD X.1 []).length := by rw [hlen]; exact hj
    simp only [vp_V, List.getD_eq_getElem?_getD, List.getElem?_map, List.map_map]
    rw [List.getD_eq_getElem?_getD] at hj'
    rw [List.getElem?_eq_getElem hj']
    simp only [Option.getD_some, Option.map_some, Function.comp, am_dv]
  | newarray t =>
    obtain ⟨hw, hty⟩ := hok
    simp only [am_a] at hs
    split at hs
    case h_2 => cases hs
    rename_i n st1
    by_cases hn : n < 0 ∨ 60000000 < n.toNatClampNeg
    · rw [if_pos hn] at hs; cases hs
    rw [if_neg hn] at hs
    have hn0 : ¬ n < 0 := fun q => hn (Or.inl q)
    have hn1 : n.toNatClampNeg ≤ 60000000 := Nat.not_lt.mp fun q => hn (Or.inr q)
    have hnm : s.vm.findClass ("[" ++ (newarray.typeOf t).toString) = some (ca (newarray.typeOf t)) := by
      have := (hT _ hty).2
      cases t <;> exact this
    cases t <;> simp only at hs <;> first
      | (cases hs; done)
      | (simp only [Option.some.injEq, Prod.mk.injEq] at hs; obtain ⟨⟨rfl, rfl, rfl, rfl⟩, rfl⟩ := hs
         refine va_newaK hx hb (hts _ hw) rfl hd rfl hn0 rfl (by simp only [newarray.typeOf, componentBytes]; omega) hcells hslots rfl fun H1 cA e1 z1 o1 hAr hNm => ?_
         refine W.eq (g2 := F0 m (pc + 2) ls (am_v (am_ad kd base) (.ref (16 + h.length)) :: st1.map (am_v (am_ad kd base)))) (by rw [← am_ad_new hR]) ?_
         have hcA := Option.some.inj (hNm.symm.trans hnm)
         subst hcA
         exact k H1 (hR.push z1 o1 e1 (fun ty x hx => by cases hx; exact hty)) (am_S_push hS z1 o1) rfl)
  | anewarray i =>
    obtain ⟨r, hc, hw1, hty⟩ := hok
    have hw2 := hO r.1 hty
    simp only [am_a, hc] at hs
    split at hs
    case h_2 => cases hs
    rename_i n st1
    by_cases hn : n < 0 ∨ 60000000 < n.toNatClampNeg
    · rw [if_pos hn] at hs; cases hs
    rw [if_neg hn] at hs
    have hn0 : ¬ n < 0 := fun q => hn (Or.inl q)
    have hn1 : n.toNatClampNeg ≤ 60000000 := Nat.not_lt.mp fun q => hn (Or.inr q)
    simp only [Option.some.injEq, Prod.mk.injEq] at hs; obtain ⟨⟨rfl, rfl, rfl, rfl⟩, rfl⟩ := hs
    refine W.anew hx hb hown (hts _ hw1) (va_AO.use hw2) rfl hd rfl hn0 (by omega) hcells hslots fun cA kA comp f1 f2 f3 f4 => ?_
    generalize hH1 : H.push ({ cls := cA, slots := Array.replicate n.toNatClampNeg .null, vm := .none } : Cell) = H1
    have z1 : H1.size = H.size + 1 := by rw [← hH1, Array.size_push]
    have e1 : H1[H.size]? = some (arrV cA n.toNatClampNeg (fun _ => .null)) := by rw [← hH1, Array.getElem?_push_size, ← arrV_new]
    have o1 : ∀ q : Nat, q < H.size → H1[q]? = H[q]? := fun q hq => by rw [← hH1, Array.getElem?_push, if_neg (Nat.ne_of_lt hq)]
    refine W.eq (g2 := F0 m (pc + 3) ls (am_v (am_ad kd base) (.ref (16 + h.length)) :: st1.map (am_v (am_ad kd base)))) (by rw [← am_ad_new hR]) ?_
    obtain ⟨_, _, _, _, _, hnm⟩ := (hT _ hty).2
    have hcA := Option.some.inj (f1.symm.trans hnm)
    subst hcA
    exact k H1 (hR.push z1 o1 e1 (fun ty x hx => by cases hx; exact hty)) (am_S_push hS z1 o1) rfl
  | _ => simp [am_a] at hs
end AM3
end
section
/-! answers: the value, the heap, the cells and the slots that were made -/
abbrev am_Q : Type := Option Value × am_H × Nat × Nat
def am_find (pc : Nat) : List (Nat × Instr × am_X) → Option (Instr × am_X)
  | [] => none
  | q :: L => if q.1 = pc then some q.2 else am_find pc L
/-- the value that a return hands out -/
def am_r (ret : Option FieldType) (I : Instr) (st : List Value) : Option (Option Value) :=
  match I with
  | .ireturn => match st with
    | [.int v] => match ret with
      | some .int => some (some (.int v))
      | some .boolean => if v = 0 ∨ v = 1 then some (some (.int v)) else none
      | some .byte => if v.toInt8.toInt32 = v then some (some (.int v)) else none
      | some .char => if v.toUInt32.toUInt16.toUInt32.toInt32 = v then some (some (.int v)) else none
      | _ => none
    | _ => none
  | .lreturn => match st with
    | [.long v] => if ret = some .long then some (some (.long v)) else none
    | _ => none
  | .areturn => match st with
    | [.ref a] => match ret with
      | some (.object _) => some (some (.ref a))
      | some (.array _) => some (some (.ref a))
      | _ => none
    | [.null] => match ret with
      | some (.object _) => some (some .null)
      | some (.array _) => some (some .null)
      | _ => none
    | _ => none
  | .return_ => match st with
    | [] => if ret = none then some none else none
    | _ => none
  | _ => none
/-- the receiver of a call: an object of the class, or a constant text -/
def am_rc (cl : List vw_C) (strs : List Nat) (C : String) (v : Value) (h : am_H) : Prop :=
  ∃ a, v = .ref a ∧ ((¬ a < 16 ∧ ∃ ci fs r, h[a - 16]? = some (.inr (ci, fs)) ∧ cl[ci]? = some r ∧ r.1 = C) ∨ (a < 16 ∧ a ∈ strs ∧ C = "java/lang/String"))
/-- a call by its table: N values off the stack, the first of them below -/
def am_c (cl : List vw_C) (P : List am_M) (strs : List Nat) (I : Instr) (X : am_X) (st : List Value) (h : am_H) : Prop :=
  X.2.1 ≤ st.length ∧ ((st.drop X.2.1).map fun v => v.category).sum ≤ 8 ∧ X.2.2 = 0 ∧
  match I with
  | .invokestatic _ => True
  | .invokevirtual _ => ∃ v As M, (st.take X.2.1).reverse = v :: As ∧ P[X.1]? = some M ∧ am_rc cl strs M.1.cls v h
  | .invokespecial _ => ∃ a As, (st.take X.2.1).reverse = .ref a :: As
  | _ => False
/-- arraycopy of ints -/
def am_copy (I : Instr) (X : am_X) (st : List Value) (h : am_H) : Option (List Value × am_H) :=
  match I with
  | .invokestatic _ => if X.2.2 = 2 then (match st with
    | .int n :: .int dp :: .ref b :: .int sp :: .ref a :: st => if a < 16 ∨ b < 16 ∨ n < 0 ∨ dp < 0 ∨ sp < 0 ∨ ¬ (st.map fun v => v.category).sum ≤ 8 then none else (match h[a - 16]?, h[b - 16]? with
      | some (.inl (.int, n0, .inl f)), some (.inl (.int, n1, .inl g)) => if sp.toNatClampNeg + n.toNatClampNeg ≤ n0 ∧ dp.toNatClampNeg + n.toNatClampNeg ≤ n1 then some (st, h.set (b - 16) (.inl (.int, n1, .inl (va_cpy f g sp.toNatClampNeg dp.toNatClampNeg n.toNatClampNeg)))) else none
      | _, _ => none)
    | _ => none) else none
  | _ => none
/-- Object's own constructor -/
def am_obj (I : Instr) (X : am_X) (st : List Value) : Option (List Value) :=
  match I with
  | .invokespecial _ => if X.2.2 = 1 then (match st with
    | .ref _ :: st => if (st.map fun v => v.category).sum ≤ 8 then some st else none
    | _ => none) else none
  | _ => none
section AM4
variable (cst : am_K) (cl : List vw_C) (tt : List (List FieldType)) (P : List am_M) (strs : List Nat) (call : Nat → List Value → am_H → am_Q → Prop) (M : am_M)
/-- a run of a method from a point to its end, within n instructions of its own -/
def am_Go : Nat → Nat → am_L → List Value → am_H → am_Q → Prop
  | 0, _, _, _, _, _ => False
  | n + 1, pc, l, st, h, r => ∃ I X, am_find pc M.2.2.2.2 = some (I, X) ∧
      ((∃ F, am_s cst cl tt I X pc l st h = some F ∧ am_Go n F.1 F.2.1 F.2.2.1 F.2.2.2 r) ∨
       (∃ F k r1, am_a cl tt I X pc l st h = some (F, k) ∧ am_Go n F.1 F.2.1 F.2.2.1 F.2.2.2 r1 ∧ r = (r1.1, r1.2.1, 1 + r1.2.2.1, k + r1.2.2.2)) ∨
       (∃ v, am_r M.2.2.2.1 I st = some v ∧ r = (v, h, 0, 0)) ∨
       (∃ r1 r2, am_c cl P strs I X st h ∧ call X.1 (st.take X.2.1).reverse h r1 ∧ am_Go n (pc + 3) l (r1.1.toList ++ st.drop X.2.1) r1.2.1 r2 ∧ r = (r2.1, r2.2.1, r1.2.2.1 + r2.2.2.1, r1.2.2.2 + r2.2.2.2)) ∨
       (∃ st1, am_obj I X st = some st1 ∧ am_Go n (pc + 3) l st1 h r) ∨
       (∃ st1 h1, am_copy I X st h = some (st1, h1) ∧ am_Go n (pc + 3) l st1 h1 r))
end AM4
/-- what a table must say of a call -/
def am_okc (P : List am_M) (Ts : List Cond) (sr : am_SR) (own : String) (X : am_X) : Instr → Prop
  | .invokevirtual i => X.2.2 = 0 → ∃ M, P[X.1]? = some M ∧ Cond.instanceMethod M.1 ∈ Ts ∧ Cond.selects M.1.cls M.1 M.1 ∈ Ts ∧ Cond.initialized M.1.cls ∈ Ts ∧ (M.1.cls ≠ "java/lang/invoke/MethodHandle" ∧ M.1.cls ≠ "java/lang/invoke/VarHandle" ∧ (parseMethodDescriptor M.1.desc).map (fun d => d.parameters.length + 1) = some X.2.1) ∧ (Cond.methodLink own i M.1 ∈ Ts ∨ ∃ host, (own, i, M.1, host) ∈ sr.2)
  | .invokestatic i => (X.2.2 = 0 → ∃ M, P[X.1]? = some M ∧ Cond.static M.1 ∈ Ts ∧ Cond.initialized M.1.cls ∈ Ts ∧ (M.1.cls ≠ "java/lang/invoke/MethodHandle" ∧ M.1.cls ≠ "java/lang/invoke/VarHandle" ∧ (parseMethodDescriptor M.1.desc).map (fun d => d.parameters.length) = some X.2.1) ∧ (Cond.methodLink own i M.1 ∈ Ts ∨ ∃ host, (own, i, M.1, host) ∈ sr.2)) ∧
      (X.2.2 = 2 → Cond.methodLink own i arraycopyName ∈ Ts ∧ Cond.native arraycopyName ∈ Ts ∧ Cond.static arraycopyName ∈ Ts ∧ Cond.initialized "java/lang/System" ∈ Ts)
  | .invokespecial i => (X.2.2 = 0 → ∃ M, P[X.1]? = some M ∧ M.1.name = "<init>" ∧ M.2.2.2.1 = none ∧ Cond.instanceMethod M.1 ∈ Ts ∧ Cond.initialized M.1.cls ∈ Ts ∧ (M.1.cls ≠ "java/lang/invoke/MethodHandle" ∧ M.1.cls ≠ "java/lang/invoke/VarHandle" ∧ (parseMethodDescriptor M.1.desc).map (fun d => d.parameters.length + 1) = some X.2.1) ∧ (Cond.methodLink own i M.1 ∈ Ts ∨ ∃ host, (own, i, M.1, host) ∈ sr.2)) ∧
      (X.2.2 = 1 → Cond.methodLink own i Lib.objectInit ∈ Ts ∧ Cond.instanceMethod Lib.objectInit ∈ Ts ∧ Cond.code Lib.objectInit ⟨#[0xb1]⟩ 1 none ∈ Ts)
  | _ => True
/-- what holds of the tables and constants at every method's entry -/
def am_W (D : va_G) (cl : List vw_C) (tys : List FieldType) (ca : FieldType → ClassId) (kd : Nat → Nat) (A : Nat → Prop) (cst : am_K) (sn : List (Nat × String × String × String)) (sr : am_SR) (strs : List Nat) (lens : List Nat) (byts : List (List Int32)) (adV : Nat → Nat) (U : State) : Prop :=
  va_K D cl [] U ∧ (∀ ty ∈ tys, ArrOfT U (ca ty) ty ∧ va_RA U (ca ty) ty) ∧
  (∀ (a : Nat) (L : List Int32), a < 16 → cst.1[a]? = some L → va_T .int (kd a) L.length (fun j => .int (L.getD j 0)) A U U.heap) ∧
  (∀ (a : Nat) (C n d : String), (a, C, n, d) ∈ sn → va_Z C n d (am_v kd (am_sv cst a)) A U U.heap) ∧
  (∀ (o : String) (i : Nat) (tx : String) (a : Nat), (o, i, tx, a) ∈ sr.1 → vk_R o i tx (kd a) U) ∧
  (∀ a ∈ strs, va_O "java/lang/String" (kd a) A U U.heap) ∧
  am_tx kd A cst U ∧ (∀ q ∈ sr.2, va_Nw (.methodLinkNest q.1 q.2.1 q.2.2.1 q.2.2.2) U) ∧ ∀ C, .object C ∈ tys → va_AO C U
section AM5
variable {D : va_G} {cl : List vw_C} {tys : List FieldType} {ca : FieldType → ClassId} {kd : Nat → Nat} {A : Nat → Prop} {cst : am_K} {sn : List (Nat × String × String × String)} {sr : am_SR} {strs : List Nat} {lens : List Nat} {byts : List (List Int32)} {adV : Nat → Nat}
theorem am_W.to {s U : State} (hw : am_W D cl tys ca kd A cst sn sr strs lens byts adV s) (hW : s.WarmedH U.vm) (hq : ∀ a : Nat, a < s.heap.size → ¬ A a → U.heap[a]? = s.heap[a]?) : am_W D cl tys ca kd A cst sn sr strs lens byts adV U := by
  obtain ⟨h1, h2, h3, h4, h5, h6, h7, h8, h9⟩ := hw
  have ha := hW.alike
  exact ⟨h1.moved ha, fun ty ht => ⟨arrOfT_moved ha (h2 ty ht).1, (h2 ty ht).2.moved ha⟩, fun a L x y => ((h3 a L x y).moved ha).kept hq, fun a C n d x => ((h4 a C n d x).moved ha).kept hq, fun o i tx a x => (h5 o i tx a x).warm hW, fun a x => ((h6 a x).moved ha).kept hq, fun i L x => ⟨((h7 i L x).1.moved ha).kept hq, ((h7 i L x).2.1.moved ha).kept hq, ((h7 i L x).2.2.moved ha).kept hq⟩, fun q hx => va_Nw.warmM hW (h8 q hx), fun C hC => va_AO.moved ha (h9 C hC)⟩
theorem am_W.call {U : State} {g : JFrame} {mk : MethodId} {a : Array Value} (hw : am_W D cl tys ca kd A cst sn sr strs lens byts adV U) : am_W D cl tys ca kd A cst sn sr strs lens byts adV (U.calling g mk a) := by
  obtain ⟨h1, h2, h3, h4, h5, h6, h7, h8, h9⟩ := hw
  have ha : U.vm.Alike (U.calling g mk a).vm := Vm.Alike.refl U.vm
  exact ⟨h1.moved ha, fun ty ht => ⟨arrOfT_moved ha (h2 ty ht).1, (h2 ty ht).2.moved ha⟩, fun a L x y => (h3 a L x y).moved ha, fun a C n d x => (h4 a C n d x).moved ha, fun o i tx a x => (h5 o i tx a x).same rfl, fun a x => (h6 a x).moved ha, fun i L x => ⟨(h7 i L x).1.moved ha, (h7 i L x).2.1.moved ha, (h7 i L x).2.2.moved ha⟩, fun q hx => va_Nw.same rfl rfl (h8 q hx), fun C hC => va_AO.moved ha (h9 C hC)⟩
end AM5
end
section
section AM6
variable {D : va_G} {cl : List vw_C} {tys : List FieldType} {ca : FieldType → ClassId} {kd : Nat → Nat} {base : Nat} {A : Nat → Prop} {cst : am_K} {sn : List (Nat × String × String × String)} {sr : am_SR} {strs : List Nat} {lens : List Nat} {byts : List (List Int32)} {adV : Nat → Nat} {tt : List (List FieldType)} {P : List am_M} {Ts : List Cond} {call : Nat → List Value → am_H → am_Q → Prop} {l0 : Launch}
variable (D cl tys ca kd base A cst sn sr strs lens byts adV)
def am_Pc (av : List Value) (h : am_H) : Array Value → State → Prop := fun v U => v = (av.map (am_v (am_ad kd base))).toArray ∧ am_R D cl tys (am_ad kd base) ca base h U.heap ∧ am_W D cl tys ca kd A cst sn sr strs lens byts adV U
def am_Qc (r : am_Q) : Array Value → State → Outcome → State → Prop := fun _ st o t => o = .returned (r.1.map (am_v (am_ad kd base))) ∧ am_R D cl tys (am_ad kd base) ca base r.2.1 t.heap ∧ va_F A st t
variable {D cl tys ca kd base A cst sn sr strs lens byts adV}
theorem am_blind {av : List Value} {h : am_H} : FrameBlind (am_Pc D cl tys ca kd base A cst sn sr strs lens byts adV av h) := fun _ _ _ _ hq => ⟨hq.1, hq.2.1, hq.2.2.call⟩
/-- what is asked of the program's table, of its words, and of the callees -/
def am_ctx (cl : List vw_C) (tys : List FieldType) (tt : List (List FieldType)) (P : List am_M) (Ts : List Cond) : Prop :=
  am_clok cl tt Ts ∧ (∀ w ∈ Ts, (w.onTables && w.keeps) = true ∨ ∃ ty, w = .arrayClass ty) ∧ ∀ (mi : Nat) (M : am_M), P[mi]? = some M → Cond.code M.1 M.2.1 M.2.2.1 M.2.2.2.1 ∈ Ts ∧ M.2.2.1 ≤ 100
def am_tab (cl : List vw_C) (tys : List FieldType) (P : List am_M) (Ts : List Cond) (sn : List (Nat × String × String × String)) (sr : am_SR) (M : am_M) (init : Bool) : Prop :=
  ∀ (pc : Nat) (I : Instr) (X : am_X), am_find pc M.2.2.2.2 = some (I, X) → decode M.2.1 pc = .ok (I, am_len X I) ∧ am_ok cl Ts sn sr M.1.cls M.2.2.1 init X I ∧ am_oka cl tys Ts M.1.cls X I ∧ am_okc P Ts sr M.1.cls X I
theorem am_goodIn (hC : am_ctx cl tys tt P Ts) {mi : Nat} {M : am_M} (hM : P[mi]? = some M) : GoodIn Ts (Cond.code M.1 M.2.1 M.2.2.1 M.2.2.2.1 :: Ts) := by
  intro w hw
  rcases List.mem_cons.mp hw with rfl | h
  · exact ⟨(hC.2.2 mi M hM).1, hC.2.1 _ (hC.2.2 mi M hM).1⟩
  · exact ⟨h, hC.2.1 w h⟩
variable {p : Program} {e : Env} {R : Room} {s : State} {m : MethodId} {args : Array Value} {below : List Frame} {meth : Method} {c : Code} {H : Heap} {locs : List Loc} {cells slots : Nat} {Q : State → Prop}
theorem am_after {r : am_Q} {a : Array Value} {pc mc ms : Nat} {ls : Array Slot} {st0 rest : List Value} (hr : va_Run p l0 e R s m args below meth c H locs cells slots mc ms (F0 m pc ls st0) rest (am_Qc D cl tys ca kd base A r a) A) (hS : va_S A s.heap H locs)
    (kk : ∀ (H1 : Heap) (locs1 : List Loc), am_R D cl tys (am_ad kd base) ca base r.2.1 H1 → va_S A s.heap H1 locs1 → W p l0 e R s m args below meth c H1 locs1 (cells + mc) (slots + ms) Q (F0 m (pc + 3) ls ((r.1.map (am_v (am_ad kd base))).toList ++ rest))) : W p l0 e R s m args below meth c H locs cells slots Q (F0 m pc ls st0) := by
  intro T hT X
  obtain ⟨v, st₀, t, T', L, h0, X', hL, e1, e2, ⟨hv, hR, hz, hk⟩, st⟩ := hr T hT X
  cases hv
  rw [h0] at hz hk
  obtain ⟨t2, a1, b1⟩ := kk T'.heap (locs ++ L) (by rw [e1]; exact hR) ⟨Nat.le_trans hS.1 (by rw [e1]; exact hz), fun q h1 h2 => by rw [e1, hk q (Nat.lt_of_lt_of_le h1 hS.1) h2]; exact hS.2.1 q h1 h2, fun q hq => by
      rcases List.mem_append.mp hq with h | h
      · exact hS.2.2 q h
      · exact hL q h⟩ T' rfl X'
  exact ⟨t2, st t2 a1, b1⟩
theorem am_obj_some {I : Instr} {X : am_X} {st st1 : List Value} (h : am_obj I X st = some st1) : ∃ i a, I = .invokespecial i ∧ X.2.2 = 1 ∧ st = .ref a :: st1 ∧ (st1.map fun v => v.category).sum ≤ 8 := by
  unfold am_obj at h
  split at h
  case h_2 => cases h
  by_cases hX : X.2.2 = 1
  case neg => rw [if_neg hX] at h; cases h
  rw [if_pos hX] at h
  split at h
  case h_2 => cases h
  rename_i a st2
  by_cases hs : (st2.map fun v => v.category).sum ≤ 8
  case neg => rw [if_neg hs] at h; cases h
  rw [if_pos hs] at h
  cases h
  exact ⟨_, _, rfl, hX, rfl, hs⟩
theorem am_cats (f : Nat → Nat) (st : List Value) : ((st.map (am_v f)).map fun v => v.category) = st.map fun v => v.category := by
  rw [List.map_map]
  apply List.map_congr_left
  intro v _
  exact am_v_cat f v
end AM6
end
section
section AM7
variable {D : va_G} {cl : List vw_C} {tys : List FieldType} {ca : FieldType → ClassId} {kd : Nat → Nat} {base : Nat} {A : Nat → Prop} {cst : am_K} {sn : List (Nat × String × String × String)} {sr : am_SR} {strs : List Nat} {lens : List Nat} {byts : List (List Int32)} {adV : Nat → Nat} {tt : List (List FieldType)} {P : List am_M} {Ts : List Cond} {call : Nat → List Value → am_H → am_Q → Prop} {l0 : Launch}
variable {p : Program} {e : Env} {R : Room} {s : State} {m : MethodId} {args : Array Value} {below : List Frame} {meth : Method} {c : Code} {H : Heap} {locs : List Loc} {cells slots : Nat} {Q : State → Prop}
theorem am_clamp {z : Int32} (hz : ¬ z < 0) : z.toInt = (z.toNatClampNeg : Int) := by
  have hz0 : (0 : Int) ≤ z.toInt := by
    have := Int32.not_lt.mp hz
    simpa using Int32.le_iff_toInt_le.mp this
  show z.toInt = ((z.toInt.toNat : Nat) : Int)
  omega
set_option maxHeartbeats 4000000 in
theorem am_hcopy {cc : ByteArray} {pc : Nat} {ls : Array Slot} {I : Instr} {X : am_X} {st st1 : List Value} {h h1 : am_H} {own : String}
    (hx : p.tables.exec = Jvm.exec) (hb : c.code = cc) (hml : c.maxLocals = ls.size) (hts : ∀ w ∈ Ts, w.before args s = true) (hown : s.vm.findClass own = some m.cls) (hd : decode cc pc = .ok (I, am_len X I)) (hok : am_okc P Ts sr own X I)
    (hT : ∀ ty ∈ tys, ArrOfT s (ca ty) ty ∧ va_RA s (ca ty) ty) (hA : ∀ q, base ≤ q → A q) (hS : va_S A s.heap H locs) (hR : am_R D cl tys (am_ad kd base) ca base h H)
    (hs : am_copy I X st h = some (st1, h1)) (hf : 1 ≤ R.frames) (hlo : 100 ≤ R.locals)
    (k : ∀ (H' : Heap) (locs' : List Loc), am_R D cl tys (am_ad kd base) ca base h1 H' → va_S A s.heap H' locs' → W p l0 e R s m args below meth c H' locs' cells slots Q (F0 m (pc + 3) ls (st1.map (am_v (am_ad kd base))))) :
    W p l0 e R s m args below meth c H locs cells slots Q (F0 m pc ls (st.map (am_v (am_ad kd base)))) := by
  unfold am_copy at hs
  split at hs
  case h_2 => cases hs
  rename_i i
  by_cases hX : X.2.2 = 2
  case neg => rw [if_neg hX] at hs; cases hs
  rw [if_pos hX] at hs
  split at hs
  case h_2 => cases hs
  rename_i n dp b sp a st2
  split at hs
  · cases hs
  rename_i hneg
  simp only [not_or, Decidable.not_not] at hneg
  obtain ⟨ha, hb2, hn, hdp, hsp, hsum⟩ := hneg
  split at hs
  case h_2 => cases hs
  rename_i n0 f n1 g hea heb
  split at hs
  case isFalse => cases hs
  rename_i hlen
  cases hs
  obtain ⟨hw1, hw2, hw3, hw4⟩ := hok.2 hX
  have hta := hR.2.2 _ _ _ hea
  intro T hT0 XS
  have hc0 : H[am_ad kd base a]? = some (vp_cell (ca .int) (n0, .inl f)) := hR.at ha hea
  have hc1 : H[am_ad kd base b]? = some (vp_cell (ca .int) (n1, .inl g)) := hR.at hb2 heb
  obtain ⟨-, k0, hk0, cm0, hkk0⟩ := (hT _ hta).1 n0 (fun j => .int (f j))
  obtain ⟨-, k1, hk1, cm1, hkk1⟩ := (hT _ hta).1 n1 (fun j => .int (g j))
  obtain ⟨vm', X', step⟩ := XS.arraycopy hx hown (hts _ hw1) (hts _ hw2) (hts _ hw3) (hts _ hw4) (src := am_ad kd base a) (dst := am_ad kd base b) (cs := vp_cell (ca .int) (n0, .inl f)) (cd := vp_cell (ca .int) (n1, .inl g)) (srcPos := sp) (destPos := dp) (n := n) (by rw [hT0]; exact hc0) (by rw [hT0]; exact hc1)
    (fun _ h => by cases h) (fun _ h => by cases h) (fun h => by cases h) (fun h => by cases h) hk0 hk1 hkk0 hkk1 (by simp [refKind]) hsp hdp hn
    (by rw [am_clamp hsp, am_clamp hn]; show ¬ _ > ((arrV (ca .int) n0 (fun j => .int (f j))).slots.size : Int); rw [arrV_size]; omega)
    (by rw [am_clamp hdp, am_clamp hn]; show ¬ _ > ((arrV (ca .int) n1 (fun j => .int (g j))).slots.size : Int); rw [arrV_size]; omega)
    (fun vm₁ _ i hi => by
      have e : (vp_cell (ca .int) (n0, .inl f)).slots.getD (sp.toNatClampNeg + i) .null = .int (f (sp.toNatClampNeg + i)) := by
        show (arrV (ca .int) n0 (fun j => .int (f j))).slots.getD _ _ = _
        rw [Array.getD_eq_getD_getElem?, arrV_read _ _ (by omega)]
        rfl
      refine ⟨?_, ?_⟩
      · rw [e]; rfl
      · rw [e]; exact trivial)
    (g := F0 m pc ls (.int n :: .int dp :: .ref (am_ad kd base b) :: .int sp :: .ref (am_ad kd base a) :: st1.map (am_v (am_ad kd base)))) rfl (by rw [hml]) (rest := st1.map (am_v (am_ad kd base))) rfl (by rw [hb]; exact hd) hf (by
      rw [am_cats]
      show 2 * 0 + _ + (nativeFrameWords "java/lang/System" "arraycopy" 5 + 11) ≤ _
      have : nativeFrameWords "java/lang/System" "arraycopy" 5 = 7 := by decide
      rw [this]
      omega)
  have e1 : copied (vp_cell (ca .int) (n0, .inl f)) (vp_cell (ca .int) (n1, .inl g)) sp dp n = vp_cell (ca .int) (n1, .inl (va_cpy f g sp.toNatClampNeg dp.toNatClampNeg n.toNatClampNeg)) := va_copied (fun z => .int z) (ca .int) (ca .int) f g hlen.1
  rw [e1] at X' step
  have hl : am_ad kd base b < H.size := (Array.getElem?_eq_some_iff.mp hc1).1
  generalize hcell : vp_cell (ca .int) (n1, .inl (va_cpy f g sp.toNatClampNeg dp.toNatClampNeg n.toNatClampNeg)) = cellN at X' step
  have hheap : ((T.setVm vm').setCell (am_ad kd base b) cellN).heap = H.setIfInBounds (am_ad kd base b) cellN := by rw [← hT0]; rfl
  have oq : ∀ q : Nat, q ≠ am_ad kd base b → (H.setIfInBounds (am_ad kd base b) cellN)[q]? = H[q]? := fun q hq => by simp [Array.getElem?_setIfInBounds, Ne.symm hq]
  have hAb : A (am_ad kd base b) := hA _ (by rw [am_ad_hi hb2]; omega)
  obtain ⟨t, a1, b1⟩ := k _ _ (hR.set hb2 heb (H1 := H.setIfInBounds (am_ad kd base b) cellN) (by simp) oq (show (H.setIfInBounds (am_ad kd base b) cellN)[am_ad kd base b]? = some _ by rw [← hcell]; simp [Array.getElem?_setIfInBounds, hl, am_e]) (fun ty y hy => by cases hy; exact hta))
    ⟨by simp; exact hS.1, fun q g1 g2 => by
      rw [oq q (fun e => g2 (by rw [e]; exact hAb))]
      exact hS.2.1 q g1 g2, fun q hq => by
      rcases List.mem_append.mp hq with h | h
      · exact hS.2.2 q h
      · obtain ⟨z, -, hz⟩ := List.mem_map.mp h
        rw [← hz]
        exact hAb⟩ _ hheap X'
  exact ⟨t, step t a1, b1⟩
end AM7
end
section
section AM8
variable {D : va_G} {cl : List vw_C} {tys : List FieldType} {ca : FieldType → ClassId} {kd : Nat → Nat} {base : Nat} {A : Nat → Prop} {cst : am_K} {sn : List (Nat × String × String × String)} {sr : am_SR} {strs : List Nat} {lens : List Nat} {byts : List (List Int32)} {adV : Nat → Nat} {tt : List (List FieldType)} {P : List am_M} {Ts : List Cond} {call : Nat → List Value → am_H → am_Q → Prop} {l0 : Launch}
variable {p : Program} {e : Env} {R : Room} {s : State} {m : MethodId} {args : Array Value} {below : List Frame} {meth : Method} {c : Code} {H : Heap} {locs : List Loc} {cells slots : Nat} {Q : State → Prop}
/-- what the callees are known to do, at a depth -/
def am_calls (D : va_G) (cl : List vw_C) (tys : List FieldType) (ca : FieldType → ClassId) (kd : Nat → Nat) (base : Nat) (A : Nat → Prop) (cst : am_K) (sn : List (Nat × String × String × String)) (sr : am_SR) (strs : List Nat) (lens : List Nat) (byts : List (List Int32)) (adV : Nat → Nat) (P : List am_M) (Ts : List Cond) (l0 : Launch) (d : Nat) (call : Nat → List Value → am_H → am_Q → Prop) : Prop :=
  ∀ (mi : Nat) (M : am_M) (av : List Value) (h : am_H) (r : am_Q), P[mi]? = some M → call mi av h r →
    Met l0 M.1 (Cond.code M.1 M.2.1 M.2.2.1 M.2.2.2.1 :: Ts) ({ frames := d, cells := r.2.2.1, slots := r.2.2.2, locals := 200 * d } : Room) (am_Pc D cl tys ca kd base A cst sn sr strs lens byts adV av h) (am_Qc D cl tys ca kd base A r) r.2.2.1 r.2.2.2 A
theorem am_recv {C : String} {v : Value} {h : am_H} (hw : am_W D cl tys ca kd A cst sn sr strs lens byts adV s) (hS : va_S A s.heap H locs) (hR : am_R D cl tys (am_ad kd base) ca base h H) (hv : am_rc cl strs C v h) :
    ∃ a, v = .ref a ∧ ∃ cell : Cell, H[am_ad kd base a]? = some cell ∧ cell.vm.isStatics = false ∧ s.vm.findClass C = some cell.cls := by
  obtain ⟨a, rfl, (⟨ha, ci, fs, r, he, hc, hC⟩ | ⟨ha, hin, hC⟩)⟩ := hv
  · refine ⟨a, rfl, ?_⟩
    obtain ⟨r', h1, cell, q1, q2, q3, -⟩ := hR.at ha he
    exact ⟨cell, q1, by rw [q3]; rfl, by rw [q2, ← hC]; exact (hw.1.1 ci r hc).2.1⟩
  · refine ⟨a, rfl, ?_⟩
    obtain ⟨cell, q1, q2, q3, q4⟩ := hw.2.2.2.2.2.1 a hin
    refine ⟨cell, ?_, q2, by rw [hC]; exact q3⟩
    have : am_ad kd base a = kd a := by unfold am_ad; rw [if_pos ha]
    rw [this, hS.2.1 _ (Array.getElem?_eq_some_iff.mp q1).1 q4]
    exact q1
theorem am_desc {x : Option MethodDescriptor} {N n : Nat} (h : x.map (fun d => d.parameters.length + 1) = some N) (hn : N = n + 1) : x.map (fun d => d.parameters.length) = some n := by
  cases x with
  | none => cases h
  | some y =>
    simp only [Option.map_some, Option.some.injEq] at h ⊢
    omega
set_option maxHeartbeats 4000000 in
theorem am_hcall {cc : ByteArray} {pc d : Nat} {ls : Array Slot} {I : Instr} {X : am_X} {st : List Value} {h : am_H} {r1 : am_Q} {own : String}
    (hx : p.tables.exec = Jvm.exec) (hb : c.code = cc) (hml : c.maxLocals = ls.size) (hts : ∀ w ∈ Ts, w.before args s = true) (hown : s.vm.findClass own = some m.cls) (hd : decode cc pc = .ok (I, am_len X I)) (hok : am_okc P Ts sr own X I)
    (hC : am_ctx cl tys tt P Ts) (hw : am_W D cl tys ca kd A cst sn sr strs lens byts adV s) (hcs : am_calls D cl tys ca kd base A cst sn sr strs lens byts adV P Ts l0 d call)
    (hS : va_S A s.heap H locs) (hR : am_R D cl tys (am_ad kd base) ca base h H)
    (hc : am_c cl P strs I X st h) (hcl : call X.1 (st.take X.2.1).reverse h r1) (hRf : d + 1 ≤ R.frames) (hRl : 200 * d + 200 ≤ R.locals) (hcells : cells + r1.2.2.1 ≤ R.cells) (hslots : slots + r1.2.2.2 ≤ R.slots)
    (k : ∀ (H' : Heap) (locs' : List Loc), am_R D cl tys (am_ad kd base) ca base r1.2.1 H' → va_S A s.heap H' locs' → W p l0 e R s m args below meth c H' locs' (cells + r1.2.2.1) (slots + r1.2.2.2) Q (F0 m (pc + 3) ls ((r1.1.toList ++ st.drop X.2.1).map (am_v (am_ad kd base))))) :
    W p l0 e R s m args below meth c H locs cells slots Q (F0 m pc ls (st.map (am_v (am_ad kd base)))) := by
  obtain ⟨hN, hsum, h0, hI⟩ := hc
  have hsum' : 2 * (F0 m pc ls (st.map (am_v (am_ad kd base)))).monitorRoom + (((st.drop X.2.1).map (am_v (am_ad kd base))).map fun v => v.category).sum ≤ 8 := by
    rw [am_cats]; exact lv_room hsum
  have hk : ∀ (H' : Heap) (locs' : List Loc), am_R D cl tys (am_ad kd base) ca base r1.2.1 H' → va_S A s.heap H' locs' → W p l0 e R s m args below meth c H' locs' (cells + r1.2.2.1) (slots + r1.2.2.2) Q (F0 m (pc + 3) ls ((r1.1.map (am_v (am_ad kd base))).toList ++ (st.drop X.2.1).map (am_v (am_ad kd base)))) := by
    intro H' locs' q1 q2
    refine W.eq ?_ (k H' locs' q1 q2)
    rw [List.map_append]
    congr 2
    cases r1.1 <;> rfl
  have hpre : ∀ U : State, U.heap = H → s.WarmedH U.vm → am_Pc D cl tys ca kd base A cst sn sr strs lens byts adV (st.take X.2.1).reverse h (((st.take X.2.1).reverse.map (am_v (am_ad kd base))).toArray) U := fun U hU hW => ⟨rfl, by rw [hU]; exact hR, hw.to hW (fun a g1 g2 => by rw [hU]; exact hS.2.1 a g1 g2)⟩
  cases I with
  | invokestatic i =>
    obtain ⟨M, hM, hst, hin, hdd, hlink⟩ := hok.1 h0
    have hstk : st.map (am_v (am_ad kd base)) = ((st.take X.2.1).reverse.map (am_v (am_ad kd base))).reverse ++ (st.drop X.2.1).map (am_v (am_ad kd base)) := by
      rw [List.map_reverse, List.reverse_reverse, ← List.map_append, List.take_append_drop]
    have hlen : ((st.take X.2.1).reverse.map (am_v (am_ad kd base))).length = X.2.1 := by simp; omega
    have hmL := (hC.2.2 _ M hM).2
    rcases hlink with hlink | ⟨host, hlink⟩
    · exact am_after (va_runS (Ts := Ts) ⟨hx, hb, hml, hown, hts⟩ (hcs _ M _ _ _ hM hcl) ⟨callB_of X.2.1 hts (am_goodIn hC hM) rfl rfl rfl (hts _ hin) (hts _ hlink) hdd ⟨hRf, by show 8 + (_ + 11) + 200 * d ≤ _; omega⟩, hts _ hst⟩ ⟨am_blind, hpre⟩ rfl hlen rfl hstk hsum' hd ⟨hcells, hslots⟩) hS hk
    · exact am_after (va_runSN (Ts := Ts) (host := host) ⟨hx, hb, hml, hown, hts⟩ (hcs _ M _ _ _ hM hcl) ⟨va_cnB X.2.1 hts (am_goodIn hC hM) rfl rfl rfl (hw.2.2.2.2.2.2.2.1 _ hlink) (hts _ hin) hdd ⟨hRf, by show 8 + (_ + 11) + 200 * d ≤ _; omega⟩, hts _ hst, trivial⟩ ⟨am_blind, hpre⟩ rfl hlen rfl hstk hsum' hd ⟨hcells, hslots⟩) hS hk
  | invokevirtual i =>
    obtain ⟨M, hM, hins, hsel, hin, hdd, hlink⟩ := hok h0
    obtain ⟨v, As, M', hA, hM', hrc⟩ := hI
    cases hM.symm.trans hM'
    obtain ⟨a, rfl, hcell⟩ := am_recv hw hS hR hrc
    rw [hA] at hpre hcl
    have hN' : X.2.1 = As.length + 1 := by
      have := congrArg List.length hA
      simp at this
      omega
    have htk : st.take X.2.1 = As.reverse ++ [.ref a] := by
      have := congrArg List.reverse hA
      simpa using this
    have hstk : st.map (am_v (am_ad kd base)) = (As.map (am_v (am_ad kd base))).reverse ++ .ref (am_ad kd base a) :: (st.drop X.2.1).map (am_v (am_ad kd base)) := by
      have e1 : st = (As.reverse ++ [.ref a]) ++ st.drop X.2.1 := by rw [← htk, List.take_append_drop]
      have e2 := congrArg (List.map (am_v (am_ad kd base))) e1
      rw [e2]
      simp [List.map_append, List.map_reverse, am_v]
    have hlen : (As.map (am_v (am_ad kd base))).length = As.length := List.length_map _
    have hmL := (hC.2.2 _ M hM).2
    rcases hlink with hlink | ⟨host, hlink⟩
    · exact am_after (va_runV (Ts := Ts) (C := M.1.cls) ⟨hx, hb, hml, hown, hts⟩ (hcs _ M _ _ _ hM hcl) ⟨callB_of As.length hts (am_goodIn hC hM) rfl rfl rfl (hts _ hin) (hts _ hlink) ⟨hdd.1, hdd.2.1, am_desc hdd.2.2 hN'⟩ ⟨hRf, by show 8 + (_ + 11) + 200 * d ≤ _; omega⟩, hts _ hins, hts _ hsel⟩ ⟨am_blind, hcell, hpre⟩ rfl hlen rfl hstk hsum' hd ⟨hcells, hslots⟩) hS hk
    · exact am_after (va_runVN (Ts := Ts) (C := M.1.cls) (host := host) ⟨hx, hb, hml, hown, hts⟩ (hcs _ M _ _ _ hM hcl) ⟨va_cnB As.length hts (am_goodIn hC hM) rfl rfl rfl (hw.2.2.2.2.2.2.2.1 _ hlink) (hts _ hin) ⟨hdd.1, hdd.2.1, am_desc hdd.2.2 hN'⟩ ⟨hRf, by show 8 + (_ + 11) + 200 * d ≤ _; omega⟩, hts _ hins, hts _ hsel⟩ ⟨am_blind, hcell, hpre⟩ rfl hlen rfl hstk hsum' hd ⟨hcells, hslots⟩) hS hk
  | invokespecial i =>
    obtain ⟨M, hM, hnm, hrt, hins, hin, hdd, hlink⟩ := hok.1 h0
    obtain ⟨a, As, hA⟩ := hI
    rw [hA] at hpre hcl
    have hN' : X.2.1 = As.length + 1 := by
      have := congrArg List.length hA
      simp at this
      omega
    have htk : st.take X.2.1 = As.reverse ++ [.ref a] := by
      have := congrArg List.reverse hA
      simpa using this
    have hstk : st.map (am_v (am_ad kd base)) = (As.map (am_v (am_ad kd base))).reverse ++ .ref (am_ad kd base a) :: (st.drop X.2.1).map (am_v (am_ad kd base)) := by
      have e1 : st = (As.reverse ++ [.ref a]) ++ st.drop X.2.1 := by rw [← htk, List.take_append_drop]
      have e2 := congrArg (List.map (am_v (am_ad kd base))) e1
      rw [e2]
      simp [List.map_append, List.map_reverse, am_v]
    have hlen : (As.map (am_v (am_ad kd base))).length = As.length := List.length_map _
    have hmL := (hC.2.2 _ M hM).2
    have hMet := hcs _ M _ _ _ hM hcl
    have hG := am_goodIn hC hM
    obtain ⟨y, bytes, maxL, ret, L⟩ := M
    dsimp only at hrt hMet hG hmL hnm hins hin hdd hlink
    subst hrt
    rcases hlink with hlink | ⟨host, hlink⟩
    · exact am_after (va_runI (Ts := Ts) ⟨hx, hb, hml, hown, hts⟩ hMet ⟨callB_of As.length hts hG rfl rfl rfl (hts _ hin) (hts _ hlink) ⟨hdd.1, hdd.2.1, am_desc hdd.2.2 hN'⟩ ⟨hRf, by show 8 + (_ + 11) + 200 * d ≤ _; omega⟩, hnm, hts _ hins⟩ ⟨am_blind, hpre⟩ rfl hlen rfl hstk hsum' hd ⟨hcells, hslots⟩) hS hk
    · exact am_after (va_runIN (Ts := Ts) (host := host) ⟨hx, hb, hml, hown, hts⟩ hMet ⟨va_cnB As.length hts hG rfl rfl rfl (hw.2.2.2.2.2.2.2.1 _ hlink) (hts _ hin) ⟨hdd.1, hdd.2.1, am_desc hdd.2.2 hN'⟩ ⟨hRf, by show 8 + (_ + 11) + 200 * d ≤ _; omega⟩, hnm, hts _ hins⟩ ⟨am_blind, hpre⟩ rfl hlen rfl hstk hsum' hd ⟨hcells, hslots⟩) hS hk
  | _ => exact hI.elim
end AM8
end
section
theorem am_kinds (X : am_X) (I : Instr) : am_isP X I ∨ (∃ i, I = .getfield i) ∨ (∃ i, I = .putfield i) ∨ (I = .arraylength ∨ I = .iaload ∨ I = .laload ∨ I = .baload ∨ I = .aaload ∨ (∃ i, I = .getstatic i) ∨ ((∃ i, I = .ldc i) ∧ ¬ X.1 = 0) ∨ ((∃ i, I = .ldc_w i) ∧ ¬ X.1 = 0)) ∨ (I = .iastore ∨ I = .lastore ∨ I = .bastore ∨ I = .aastore) := by
  cases I with
  | ldc i =>
    by_cases h : X.1 = 0
    · exact Or.inl h
    · exact Or.inr (Or.inr (Or.inr (Or.inl (Or.inr (Or.inr (Or.inr (Or.inr (Or.inr (Or.inr (Or.inl ⟨⟨i, rfl⟩, h⟩))))))))))
  | ldc_w i =>
    by_cases h : X.1 = 0
    · exact Or.inl h
    · exact Or.inr (Or.inr (Or.inr (Or.inl (Or.inr (Or.inr (Or.inr (Or.inr (Or.inr (Or.inr (Or.inr ⟨⟨i, rfl⟩, h⟩))))))))))
  | getfield i => exact Or.inr (Or.inl ⟨i, rfl⟩)
  | putfield i => exact Or.inr (Or.inr (Or.inl ⟨i, rfl⟩))
  | arraylength => simp
  | iaload => simp
  | laload => simp
  | baload => simp
  | aaload => simp
  | getstatic i => simp
  | iastore => simp
  | lastore => simp
  | bastore => simp
  | aastore => simp
  | _ => exact Or.inl trivial
theorem am_args_lc (f : Nat → Nat) : ∀ (av : List Value) (i : Nat), lv_args i (av.map (am_v f)) = am_lc f (lv_args i av)
  | [], _ => rfl
  | v :: av, i => by
    simp only [List.map_cons, lv_args, am_lc, am_v_cat]
    congr 1
    exact am_args_lc f av _
theorem am_sl_len (f : Nat → Nat) (av : List Value) : (lg_sl (av.map (am_v f))).length = (lg_sl av).length := by
  unfold lg_sl
  rw [List.flatMap_map]
  simp only [List.length_flatMap]
  congr 1
  apply List.map_congr_left
  intro v _
  simp only [am_v_cat]
  split <;> rfl
section AM9
variable {D : va_G} {cl : List vw_C} {tys : List FieldType} {ca : FieldType → ClassId} {kd : Nat → Nat} {base : Nat} {A : Nat → Prop} {cst : am_K} {sn : List (Nat × String × String × String)} {sr : am_SR} {strs : List Nat} {lens : List Nat} {byts : List (List Int32)} {adV : Nat → Nat} {tt : List (List FieldType)} {P : List am_M} {Ts : List Cond} {call : Nat → List Value → am_H → am_Q → Prop} {l0 : Launch}
variable {p : Program} {e : Env} {R : Room} {s : State} {m : MethodId} {args : Array Value} {below : List Frame} {meth : Method} {c : Code} {Q : State → Prop}
set_option maxHeartbeats 4000000 in
/-- a run of the abstract machine is a walk of the Java machine -/
theorem am_sim {M : am_M} {init : Bool} {d : Nat} (hx : p.tables.exec = Jvm.exec) (hb : c.code = M.2.1) (hml : c.maxLocals = M.2.2.1) (hts : ∀ w ∈ Ts, w.before args s = true) (hown : s.vm.findClass M.1.cls = some m.cls) (hinit : init = true → meth.name = "<init>")
    (htab : am_tab cl tys P Ts sn sr M init) (hC : am_ctx cl tys tt P Ts) (hw : am_W D cl tys ca kd A cst sn sr strs lens byts adV s) (hcs : am_calls D cl tys ca kd base A cst sn sr strs lens byts adV P Ts l0 d call) (hA : ∀ q, base ≤ q → A q) (hRf : d + 1 ≤ R.frames) (hRl : 200 * d + 200 ≤ R.locals) :
    ∀ (n pc : Nat) (l : am_L) (st : List Value) (h : am_H) (r : am_Q) (H : Heap) (locs : List Loc) (cells slots : Nat) (ls : Array Slot), am_Go cst cl tt P strs call M n pc l st h r → lv_has ls M.2.2.1 (am_lc (am_ad kd base) l) → am_R D cl tys (am_ad kd base) ca base h H → va_S A s.heap H locs → cells + r.2.2.1 ≤ R.cells → slots + r.2.2.2 ≤ R.slots →
      (∀ (pcr : Nat) (I : Instr) (X : am_X) (st' : List Value) (ls' : Array Slot) (H' : Heap) (locs' : List Loc), am_find pcr M.2.2.2.2 = some (I, X) → am_r M.2.2.2.1 I st' = some r.1 → am_R D cl tys (am_ad kd base) ca base r.2.1 H' → va_S A s.heap H' locs' → W p l0 e R s m args below meth c H' locs' (cells + r.2.2.1) (slots + r.2.2.2) Q (F0 m pcr ls' (st'.map (am_v (am_ad kd base))))) →
      W p l0 e R s m args below meth c H locs cells slots Q (F0 m pc ls (st.map (am_v (am_ad kd base)))) := by
  intro n
  induction n with
  | zero => intro pc l st h r H locs cells slots ls hgo; exact hgo.elim
  | succ n ih =>
    intro pc l st h r H locs cells slots ls hgo hl hR hS hcells hslots hret
    obtain ⟨I, X, hf, hcase⟩ := hgo
    obtain ⟨hd, hok, hoka, hokc⟩ := htab pc I X hf
    rcases hcase with ⟨F, hs, hgo⟩ | ⟨F, k0, r1, hs, hgo, rfl⟩ | ⟨v, hv, rfl⟩ | ⟨r1, r2, hc, hcl, hgo, rfl⟩ | ⟨st1, hs, hgo⟩ | ⟨st1, h1, hs, hgo⟩
    · obtain ⟨pc', l', st', h'⟩ := F
      rcases am_kinds X I with hk | ⟨i, rfl⟩ | ⟨i, rfl⟩ | hk | hk
      · refine am_pure hx hb hts hown hd hok hl hs hk (fun hh ls' hl' => ?_)
        subst hh
        exact ih _ _ _ _ _ _ _ _ _ _ hgo hl' hR hS hcells hslots hret
      · refine am_hget hx hb hts hown hd hok hC.1 hw.1 hR hS hw.2.2.2.2.2.2.1 hs (fun hh hll => ?_)
        subst hh; subst hll
        exact ih _ _ _ _ _ _ _ _ _ _ hgo hl hR hS hcells hslots hret
      · refine am_hput hx hb hts hown hd hok hC.1 hw.1 hinit hA hS hR hs (fun H' locs' hR' hS' hll => ?_)
        subst hll
        exact ih _ _ _ _ _ _ _ _ _ _ hgo hl hR' hS' hcells hslots hret
      · refine am_hload hx hb hts hown hd hok hw.1 hw.2.1 hS hR hw.2.2.1 hw.2.2.2.1 hw.2.2.2.2.2.2.1 hw.2.2.2.2.1 hk hs (fun hh hll => ?_)
        subst hh; subst hll
        exact ih _ _ _ _ _ _ _ _ _ _ hgo hl hR hS hcells hslots hret
      · refine am_hstore hx hb hd hw.1 hw.2.1 hA hS hR hk hs (fun H' locs' hR' hS' hll => ?_)
        subst hll
        exact ih _ _ _ _ _ _ _ _ _ _ hgo hl hR' hS' hcells hslots hret
    · obtain ⟨pc', l', st', h'⟩ := F
      dsimp only at hcells hslots hret
      refine am_halloc hx hb hts hown hd hoka hC.1 hw.1 hw.2.1 hw.2.2.2.2.2.2.2.2 hS hR hs (by omega) (by omega) (fun H' hR' hS' hll => ?_)
      subst hll
      refine ih _ _ _ _ _ _ _ _ _ _ hgo hl hR' hS' (by omega) (by omega) (fun pcr I' X' st2 ls2 H2 locs2 g1 g2 g3 g4 => ?_)
      have := hret pcr I' X' st2 ls2 H2 locs2 g1 g2 g3 g4
      rwa [← Nat.add_assoc, ← Nat.add_assoc] at this
    · exact hret pc I X st ls H locs hf hv hR hS
    · dsimp only at hcells hslots hret
      refine am_hcall hx hb (hml.trans hl.1.symm) hts hown hd hokc hC hw hcs hS hR hc hcl hRf hRl (by omega) (by omega) (fun H' locs' hR' hS' => ?_)
      refine ih _ _ _ _ _ _ _ _ _ _ hgo hl hR' hS' (by omega) (by omega) (fun pcr I' X' st2 ls2 H2 locs2 g1 g2 g3 g4 => ?_)
      have := hret pcr I' X' st2 ls2 H2 locs2 g1 g2 g3 g4
      rwa [← Nat.add_assoc, ← Nat.add_assoc] at this
    · obtain ⟨i, a, rfl, hX, rfl, hsum⟩ := am_obj_some hs
      obtain ⟨w1, w2, w3⟩ := hokc.2 hX
      refine W.objInit hx hb hown (hts _ w1) (hts _ w2) (hts _ w3) rfl (hl.1.trans hml.symm) rfl hd (by omega) ?_ ?_
      · rw [am_cats]
        have := lv_room (m := m) (pc := pc) (ls := ls) (rest := []) hsum
        show 2 * 0 + _ + 12 ≤ _
        omega
      · exact ih _ _ _ _ _ _ _ _ _ _ hgo hl hR hS hcells hslots hret
    · refine am_hcopy hx hb (hml.trans hl.1.symm) hts hown hd hokc hw.2.1 hA hS hR hs (by omega) (by omega) (fun H' locs' hR' hS' => ?_)
      exact ih _ _ _ _ _ _ _ _ _ _ hgo hl hR' hS' hcells hslots hret
end AM9
/-- a run of a method from its entry, at a depth; bi: what else may be called -/
def am_Run (cst : am_K) (cl : List vw_C) (tt : List (List FieldType)) (P : List am_M) (strs : List Nat) (bi : Nat → List Value → am_H → am_Q → Prop) : Nat → Nat → List Value → am_H → am_Q → Prop
  | 0, _, _, _, _ => False
  | d + 1, mi, av, h, r => (3 ≤ d ∧ bi mi av h r) ∨ ∃ M n, P[mi]? = some M ∧ (lg_sl av).length ≤ M.2.2.1 ∧ am_Go cst cl tt P strs (am_Run cst cl tt P strs bi d) M n 0 (lv_args 0 av) [] h r
end
section
section AM10
variable {D : va_G} {cl : List vw_C} {tys : List FieldType} {ca : FieldType → ClassId} {kd : Nat → Nat} {base : Nat} {A : Nat → Prop} {cst : am_K} {sn : List (Nat × String × String × String)} {sr : am_SR} {strs : List Nat} {lens : List Nat} {byts : List (List Int32)} {adV : Nat → Nat} {tt : List (List FieldType)} {P : List am_M} {Ts : List Cond} {bi : Nat → List Value → am_H → am_Q → Prop} {l0 : Launch}
/-- the tables of all methods -/
def am_tabs (cl : List vw_C) (tys : List FieldType) (P : List am_M) (Ts : List Cond) (sn : List (Nat × String × String × String)) (sr : am_SR) : Prop :=
  ∀ (mi : Nat) (M : am_M), P[mi]? = some M → plainFor M.1 = true ∧ am_tab cl tys P Ts sn sr M (M.1.name == "<init>")
theorem am_r_end {p : Program} {e : Env} {R : Room} {s : State} {m : MethodId} {args : Array Value} {below : List Frame} {meth : Method} {c : Code} {H : Heap} {locs : List Loc} {cells slots : Nat} {cc : ByteArray} {pc : Nat} {ls : Array Slot} {ret : Option FieldType} {I : Instr} {X : am_X} {st : List Value} {v : Option Value} {f : Nat → Nat} {Qc : Array Value → State → Outcome → State → Prop} {free : Addr → Prop}
    (hx : p.tables.exec = Jvm.exec) (hb : c.code = cc) (hr : meth.sig.returnType = ret) (hlocks : meth.locks = false) (hd : decode cc pc = .ok (I, am_len X I)) (hv : am_r ret I st = some v)
    (hq : ∀ t : State, t.heap = H → s.WarmedH t.vm → Qc args s (.returned (v.map (am_v f))) t) (hf : ∀ q ∈ locs, free q.base) :
    W p l0 e R s m args below meth c H locs cells slots (MQ below Qc args s cells slots free) (F0 m pc ls (st.map (am_v f))) := by
  cases I with
  | ireturn =>
    simp only [am_r] at hv
    split at hv
    case h_2 => cases hv
    rename_i x
    split at hv
    · cases hv
      exact W.iret hx hb hr hq hf hd hlocks
    · by_cases h01 : x = 0 ∨ x = 1
      case neg => rw [if_neg h01] at hv; cases hv
      rw [if_pos h01] at hv
      cases hv
      refine W.zret (ty := .boolean) hx hb hr ?_ hq hf hd hlocks
      rcases h01 with rfl | rfl
      · exact (by decide : narrow .boolean (.int 0) = .int 0)
      · exact (by decide : narrow .boolean (.int 1) = .int 1)
    · by_cases h01 : x.toInt8.toInt32 = x
      case neg => rw [if_neg h01] at hv; cases hv
      rw [if_pos h01] at hv
      cases hv
      exact W.zret (ty := .byte) hx hb hr (congrArg Value.int h01) hq hf hd hlocks
    · by_cases h01 : x.toUInt32.toUInt16.toUInt32.toInt32 = x
      case neg => rw [if_neg h01] at hv; cases hv
      rw [if_pos h01] at hv
      cases hv
      exact W.zret (ty := .char) hx hb hr (congrArg Value.int h01) hq hf hd hlocks
    · cases hv
  | lreturn =>
    simp only [am_r] at hv
    split at hv
    case h_2 => cases hv
    by_cases h1 : ret = some .long
    case neg => rw [if_neg h1] at hv; cases hv
    rw [if_pos h1] at hv
    cases hv
    exact W.lret hx hb (hr.trans h1) hq hf hd hlocks
  | areturn =>
    simp only [am_r] at hv
    split at hv
    · split at hv
      · cases hv
        exact W.aret hx hb hr (Or.inl ⟨_, rfl⟩) (Or.inr ⟨_, rfl⟩) hq hf hd hlocks
      · cases hv
        exact W.aret hx hb hr (Or.inr ⟨_, rfl⟩) (Or.inr ⟨_, rfl⟩) hq hf hd hlocks
      · cases hv
    · split at hv
      · cases hv
        exact W.aret hx hb hr (Or.inl ⟨_, rfl⟩) (Or.inl rfl) hq hf hd hlocks
      · cases hv
        exact W.aret hx hb hr (Or.inr ⟨_, rfl⟩) (Or.inl rfl) hq hf hd hlocks
      · cases hv
    · cases hv
  | return_ =>
    simp only [am_r] at hv
    split at hv
    case h_2 => cases hv
    by_cases h1 : ret = none
    case neg => rw [if_neg h1] at hv; cases hv
    rw [if_pos h1] at hv
    cases hv
    exact W.vret hx hb (hr.trans h1) hq hf hd hlocks
  | _ => simp [am_r] at hv
set_option maxHeartbeats 4000000 in
/-- every run is a contract -/
theorem am_met (hC : am_ctx cl tys tt P Ts) (hP : am_tabs cl tys P Ts sn sr) (hA : ∀ q, base ≤ q → A q)
    (hbi : ∀ (d mi : Nat) (M : am_M) (av : List Value) (h : am_H) (r : am_Q), 3 ≤ d → P[mi]? = some M → bi mi av h r →
      Met l0 M.1 (Cond.code M.1 M.2.1 M.2.2.1 M.2.2.2.1 :: Ts) ({ frames := d + 1, cells := r.2.2.1, slots := r.2.2.2, locals := 200 * (d + 1) } : Room) (am_Pc D cl tys ca kd base A cst sn sr strs lens byts adV av h) (am_Qc D cl tys ca kd base A r) r.2.2.1 r.2.2.2 A) :
    ∀ d : Nat, am_calls D cl tys ca kd base A cst sn sr strs lens byts adV P Ts l0 d (am_Run cst cl tt P strs bi d) := by
  intro d
  induction d with
  | zero => intro mi M av h r hM hrun; exact hrun.elim
  | succ d ih =>
    intro mi M av h r hM hrun
    rcases hrun with ⟨hd, hb⟩ | ⟨M', n, hM', hsl, hgo⟩
    · exact hbi d mi M av h r hd hM hb
    cases hM.symm.trans hM'
    obtain ⟨hpl, htab⟩ := hP mi M hM
    refine va_MetF (cc := M.2.1) (maxL := M.2.2.1) (ret := M.2.2.2.1) hpl rfl ?_
    intro p e s m args below meth c s₁ B hml hv
    obtain ⟨rfl, hR, hw⟩ := hv
    have hx := B.exec
    have hb := B.bytes
    have hr := B.returns
    have hts0 := atoms_spec (ws := Cond.code M.1 M.2.1 M.2.2.1 M.2.2.2.1 :: Ts) B.pre
    have hts : ∀ w ∈ Ts, w.before (av.map (am_v (am_ad kd base))).toArray s = true := fun w hw => hts0 w (List.mem_cons_of_mem _ hw)
    have hown : s.vm.findClass M.1.cls = some m.cls := findClass_of_methodNamed B.named
    have hlocks := B.notSynchronized
    have hl := lv_entry (av.map (am_v (am_ad kd base))) (n := M.2.2.1) (by rw [am_sl_len]; exact hsl)
    rw [am_args_lc] at hl
    rw [lg_entry_eq]
    refine am_sim (R := (headSpec (Cond.code M.1 M.2.1 M.2.2.1 M.2.2.2.1 :: Ts) ({ frames := d + 1, cells := r.2.2.1, slots := r.2.2.2, locals := 200 * (d + 1) } : Room)).room) (d := d) hx hb hml hts hown (fun hi => ?_) htab hC hw ih hA (Nat.le_refl (d + 1)) (Nat.le_of_eq (by show 200 * d + 200 = 200 * (d + 1); omega)) n 0 (lv_args 0 av) [] h r s.heap [] 0 0 _ hgo hl hR va_S.rf (by rw [Nat.zero_add]; exact Nat.le_refl r.2.2.1) (by rw [Nat.zero_add]; exact Nat.le_refl r.2.2.2) (fun pcr I X st' ls' H' locs' hf hv hR' hS' => ?_)
    · have := (name_of_methodNamed B.named B.method).1
      rw [this]
      simpa using hi
    · rw [Nat.zero_add, Nat.zero_add]
      exact am_r_end hx hb hr hlocks (htab pcr I X hf).1 hv (fun t ht _ => ⟨rfl, by rw [ht]; exact hR', hS'.F ht⟩) hS'.2.2
end AM10
end
section
/-! an interval machine beside the abstract machine: ints that are known, or lie between bounds and may be a symbol and a number; longs that are known or not; places of cells that are known -/
abbrev sx_V : Type := Int ⊕ (Int × Int × Option (Nat × Int)) ⊕ Option Int ⊕ Option Nat
abbrev sx_B : Type := List (Int × Int)
abbrev sx_L : Type := List (Nat × sx_V)
/-- a row: its type, its length, what it holds where nothing else is said, what else is said; an object: its class, what is said of fields, and behind that in rows of eight -/
abbrev sx_E : Type := (FieldType × Nat × sx_V × sx_L) ⊕ (Nat × sx_L × List (List sx_V))
/-- cells that changed, cells as they stood in rows by sixteen, how many (a milliard: nobody knows) -/
abbrev sx_H : Type := List (Nat × sx_E) × List (List (Nat × sx_E)) × Nat
/-- the constant rows by address -/
abbrev sx_K : Type := List (Nat × List Int)
abbrev sx_c (c : Int) : sx_V := .inl c
abbrev sx_i (lo hi : Int) (t : Option (Nat × Int)) : sx_V := .inr (.inl (lo, hi, t))
abbrev sx_j (t : Option Int) : sx_V := .inr (.inr (.inl t))
abbrev sx_a (a : Nat) : sx_V := .inr (.inr (.inr (some a)))
abbrev sx_n : sx_V := .inr (.inr (.inr none))
abbrev sx_min : Int := .negSucc 2147483647
abbrev sx_max : Int := .ofNat 2147483647
abbrev sx_top : sx_V := sx_i sx_min sx_max none
def sx_le (a b : Int) : Bool := match Int.sub b a with
  | .ofNat _ => true
  | .negSucc _ => false
def sx_eq : Int → Int → Bool
  | .ofNat m, .ofNat n => Nat.beq m n
  | .negSucc m, .negSucc n => Nat.beq m n
  | _, _ => false
def sx_mx (a b : Int) : Int := bif sx_le a b then b else a
def sx_mn (a b : Int) : Int := bif sx_le a b then a else b
def sx_w (z : Int) : Int := bif sx_le sx_min z && sx_le z sx_max then z else Int.bmod z 4294967296
def sx_get {α : Type} (i : Nat) : List (Nat × α) → Option α
  | [] => none
  | q :: l => bif Nat.beq q.1 i then some q.2 else sx_get i l
def sx_put {α : Type} (i : Nat) (v : α) : List (Nat × α) → List (Nat × α)
  | [] => [(i, v)]
  | q :: l => bif Nat.beq q.1 i then (i, v) :: l else q :: sx_put i v l
def sx_ch {α : Type} (w i : Nat) (L : List (List α)) : Option α := match L[i / w]? with
  | some r => r[i % w]?
  | none => none
def sx_N {α : Type} (n : Nat) (k : Nat → α) : α := match n with
  | 0 => k 0
  | m + 1 => k (m + 1)
def sx_hget : sx_H → Nat → Option sx_E
  | (a, b, _), i => match sx_get i a with
    | some e => some e
    | none => match b[i / 16]? with
      | some r => sx_get i r
      | none => none
def sx_hset (i : Nat) (e : sx_E) : sx_H → sx_H
  | (a, b, n) => (sx_put i e a, b, n)
def sx_hpush (e : sx_E) : sx_H → sx_H
  | (a, b, n) => sx_N n fun n => ((n, e) :: a, b, n + 1)
def sx_cat : sx_V → Nat
  | .inr (.inr (.inl _)) => 2
  | _ => 1
def sx_st1 (i : Nat) (v : sx_V) (l : sx_L) : sx_L := (i, v) :: l.filter (fun q => !(Nat.beq q.1 i) && !(Nat.beq (q.1 + 1) i && Nat.beq (sx_cat q.2) 2))
def sx_st2 (i : Nat) (v : sx_V) (l : sx_L) : sx_L := (i, v) :: l.filter (fun q => !(Nat.beq q.1 i) && (!(Nat.beq q.1 (i + 1)) && !(Nat.beq (q.1 + 1) i && Nat.beq (sx_cat q.2) 2)))
/-- the bounds of an int -/
def sx_iv (B : sx_B) : sx_V → Option (Int × Int)
  | .inl c => some (c, c)
  | .inr (.inl (lo, hi, none)) => some (lo, hi)
  | .inr (.inl (lo, hi, some (k, c))) => match B[k]? with
    | some p => some (sx_mx lo (Int.add p.1 c), sx_mn hi (Int.add p.2 c))
    | none => some (lo, hi)
  | _ => none
def sx_tag : sx_V → Option (Nat × Int)
  | .inr (.inl (_, _, t)) => t
  | _ => none
/-- an int that is known -/
def sx_con (B : sx_B) (v : sx_V) : Option Int := match sx_iv B v with
  | some p => bif sx_eq p.1 p.2 then some p.1 else none
  | none => none
/-- a sum of bounds -/
def sx_mk (lo hi : Int) (t : Option (Nat × Int)) : sx_V := bif sx_le sx_min lo && sx_le hi sx_max then sx_i lo hi t else sx_top
def sx_add (B : sx_B) (x y : sx_V) : Option sx_V := match x, y with
  | .inl a, .inl b => some (sx_c (sx_w (Int.add a b)))
  | x, y => match sx_iv B x, sx_iv B y with
    | some p, some q => some (sx_mk (Int.add p.1 q.1) (Int.add p.2 q.2) (match x, y with
      | .inr (.inl (_, _, some (k, c))), .inl b => some (k, Int.add c b)
      | .inl b, .inr (.inl (_, _, some (k, c))) => some (k, Int.add c b)
      | _, _ => none))
    | _, _ => none
def sx_sub (B : sx_B) (x y : sx_V) : Option sx_V := match x, y with
  | .inl a, .inl b => some (sx_c (sx_w (Int.sub a b)))
  | x, y => match sx_iv B x, sx_iv B y with
    | some p, some q => some (sx_mk (Int.sub p.1 q.2) (Int.sub p.2 q.1) (match x, y with
      | .inr (.inl (_, _, some (k, c))), .inl b => some (k, Int.sub c b)
      | _, _ => none))
    | _, _ => none
/-- an operation on two ints, by itself where both are known, else anything -/
def sx_op (B : sx_B) (f : Int32 → Int32 → Int32) (x y : sx_V) : Option sx_V := match sx_con B x, sx_con B y with
  | some a, some b => some (sx_c (f (Int32.ofInt a) (Int32.ofInt b)).toInt)
  | _, _ => match sx_iv B x, sx_iv B y with
    | some _, some _ => some sx_top
    | _, _ => none
/-- a known factor, and bounds -/
def sx_mc (a : Int) (p : Int × Int) : sx_V := bif sx_le 0 a then sx_mk (Int.mul a p.1) (Int.mul a p.2) none else sx_top
def sx_mul (B : sx_B) (x y : sx_V) : Option sx_V := match sx_iv B x, sx_iv B y with
  | some p, some q => bif sx_eq p.1 p.2 then (bif sx_eq q.1 q.2 then some (sx_c (sx_w (Int.mul p.1 q.1))) else bif sx_eq p.1 0 then some (sx_c 0) else some (sx_mc p.1 q)) else bif sx_eq q.1 q.2 then (bif sx_eq q.1 0 then some (sx_c 0) else some (sx_mc q.1 p)) else some sx_top
  | _, _ => none
/-- whether a comparison is sure: less, less or even, even -/
def sx_lt (p q : Int × Int) : Option Bool := bif sx_le q.1 p.2 then (bif sx_le q.2 p.1 then some false else none) else some true
def sx_ev (p q : Int × Int) : Option Bool := bif sx_le q.1 p.2 && sx_le p.1 q.2 then (bif sx_eq p.1 p.2 && (sx_eq q.1 q.2 && sx_eq p.1 q.1) then some true else none) else some false
def sx_dec (c : ClassFile.Cond) (p q : Int × Int) : Option Bool := match c with
  | .eq => sx_ev p q
  | .ne => (sx_ev p q).map not
  | .lt => sx_lt p q
  | .ge => (sx_lt p q).map not
  | .gt => sx_lt q p
  | .le => (sx_lt q p).map not
def sx_neg : ClassFile.Cond → ClassFile.Cond
  | .eq => .ne
  | .ne => .eq
  | .lt => .ge
  | .ge => .lt
  | .gt => .le
  | .le => .gt
def sx_flip : ClassFile.Cond → ClassFile.Cond
  | .eq => .eq
  | .ne => .ne
  | .lt => .gt
  | .ge => .le
  | .gt => .lt
  | .le => .ge
def sx_box (k : Nat) (lo hi : Int) (B : sx_B) : List sx_B := bif sx_le lo hi then [B.set k (lo, hi)] else []
/-- the boxes in which 'symbol k and cc' may stand so to what lies between the bounds q -/
def sx_ref (c : ClassFile.Cond) (k : Nat) (cc : Int) (q : Int × Int) (B : sx_B) : List sx_B := match B[k]? with
  | none => [B]
  | some p => match c with
    | .lt => sx_box k p.1 (sx_mn p.2 (Int.sub (Int.sub q.2 1) cc)) B
    | .le => sx_box k p.1 (sx_mn p.2 (Int.sub q.2 cc)) B
    | .gt => sx_box k (sx_mx p.1 (Int.sub (Int.add q.1 1) cc)) p.2 B
    | .ge => sx_box k (sx_mx p.1 (Int.sub q.1 cc)) p.2 B
    | .eq => sx_box k (sx_mx p.1 (Int.sub q.1 cc)) (sx_mn p.2 (Int.sub q.2 cc)) B
    | .ne => bif sx_eq q.1 q.2 then sx_box k p.1 (sx_mn p.2 (Int.sub (Int.sub q.2 1) cc)) B ++ sx_box k (sx_mx p.1 (Int.sub (Int.add q.1 1) cc)) p.2 B else [B]
def sx_br (c : ClassFile.Cond) (x y : sx_V) (B : sx_B) : Option (List (Bool × sx_B)) := match sx_iv B x, sx_iv B y with
  | some p, some q => match sx_dec c p q with
    | some b => some [(b, B)]
    | none => match sx_tag x with
      | some (k, cc) => some ((sx_ref c k cc q B).map (fun b => (true, b)) ++ (sx_ref (sx_neg c) k cc q B).map (fun b => (false, b)))
      | none => match sx_tag y with
        | some (k, cc) => some ((sx_ref (sx_flip c) k cc p B).map (fun b => (true, b)) ++ (sx_ref (sx_flip (sx_neg c)) k cc p B).map (fun b => (false, b)))
        | none => some [(true, B), (false, B)]
  | _, _ => none
abbrev sx_S : Type := sx_B × Nat × sx_L × List sx_V × sx_H
def sx_to (pc : Nat) (off : Int) : Nat := (Int.add (.ofNat pc) off).toNat
def sx_jump (pc : Nat) (off : Int) : Bool := sx_le 0 (Int.add (.ofNat pc) off)
def sx_fork (o : Option (List (Bool × sx_B))) (pc : Nat) (off : Int) (l : sx_L) (st : List sx_V) (h : sx_H) : Option (List sx_S) := bif sx_jump pc off then (match o with
  | some bs => some (bs.map fun b => (b.2, (bif b.1 then sx_to pc off else pc + 3), l, st, h))
  | none => none) else none
def sx_one (B : sx_B) (pc : Nat) (l : sx_L) (o : Option sx_V) (st : List sx_V) (h : sx_H) : Option (List sx_S) := match o with
  | some v => some [(B, pc, l, v :: st, h)]
  | none => none
/-- a field that holds what it held when it was made -/
def sx_zero : FieldType → Option sx_V
  | .int => some (sx_c 0)
  | .boolean => some (sx_c 0)
  | .long => some (sx_j (some 0))
  | .object _ => some sx_n
  | .array _ => some sx_n
  | _ => none
def sx_fld (tt : List (List FieldType)) (ci j : Nat) (ov : sx_L) (bs : List (List sx_V)) : Option sx_V := match sx_get j ov with
  | some v => some v
  | none => match bs with
    | [] => match (tt.getD ci [])[j]? with
      | some t => sx_zero t
      | none => none
    | bs => sx_ch 8 j bs
def sx_fit (t : FieldType) (B : sx_B) (v : sx_V) : Bool := match t, v with
  | .int, .inl _ => true
  | .int, .inr (.inl _) => true
  | .long, .inr (.inr (.inl _)) => true
  | .boolean, v => match sx_iv B v with
    | some p => sx_le 0 p.1 && sx_le p.2 1
    | none => false
  | .object _, .inr (.inr (.inr _)) => true
  | .array _, .inr (.inr (.inr _)) => true
  | _, _ => false
def sx_elt (d : sx_V) (ov : sx_L) (j : Nat) : sx_V := match sx_get j ov with
  | some v => v
  | none => d
def sx_same : sx_V → sx_V → Bool
  | .inl a, .inl b => sx_eq a b
  | .inr (.inl (a, b, none)), .inr (.inl (c, d, none)) => sx_eq a c && sx_eq b d
  | .inr (.inl (a, b, some (k, e))), .inr (.inl (c, d, some (j, f))) => sx_eq a c && (sx_eq b d && (Nat.beq k j && sx_eq e f))
  | .inr (.inr (.inl (some a))), .inr (.inr (.inl (some b))) => sx_eq a b
  | .inr (.inr (.inl none)), .inr (.inr (.inl none)) => true
  | .inr (.inr (.inr (some a))), .inr (.inr (.inr (some b))) => Nat.beq a b
  | .inr (.inr (.inr none)), .inr (.inr (.inr none)) => true
  | _, _ => false
def sx_istop : sx_V → Bool
  | .inr (.inl (a, b, none)) => sx_eq a sx_min && sx_eq b sx_max
  | _ => false
/-- a write; what is written as it stood is no change -/
def sx_wr (d : sx_V) (j : Nat) (v : sx_V) (ov : sx_L) : sx_L := bif sx_same v (sx_elt d ov j) then ov else sx_put j v ov
/-- a place in a row of n -/
def sx_in (B : sx_B) (v : sx_V) (n : Nat) : Option Nat := match sx_con B v with
  | some c => match c with
    | .ofNat j => bif Nat.blt j n then some j else none
    | .negSucc _ => none
  | none => none
/-- an unsure place in a row of n -/
def sx_inn (B : sx_B) (v : sx_V) (n : Nat) : Bool := match sx_iv B v with
  | some p => sx_le 0 p.1 && sx_le (Int.add p.2 1) (.ofNat n)
  | none => false
def sx_isI : sx_V → Bool
  | .inl _ => true
  | .inr (.inl _) => true
  | _ => false
def sx_isJ : sx_V → Bool
  | .inr (.inr (.inl _)) => true
  | _ => false
def sx_isA : sx_V → Bool
  | .inr (.inr (.inr _)) => true
  | _ => false
def sx_load (f : sx_V → Bool) (i : Nat) (l : sx_L) : Option sx_V := match sx_get i l with
  | some v => bif f v then some v else none
  | none => none
/-- a known int is worked out before it is handed on -/
def sx_vf {α : Type} (v : sx_V) (k : sx_V → α) : α := match v with
  | .inl (.ofNat n) => sx_N n fun n => k (.inl (.ofNat n))
  | .inl (.negSucc n) => sx_N n fun n => k (.inl (.negSucc n))
  | v => k v
def sx_psh (B : sx_B) (pc : Nat) (l : sx_L) (o : Option sx_V) (st : List sx_V) (h : sx_H) : Option (List sx_S) := match o with
  | some v => sx_vf v fun v => some [(B, pc, l, v :: st, h)]
  | none => none
def sx_sto (f : sx_V → Bool) (B : sx_B) (pc : Nat) (g : sx_V → sx_L) (st : List sx_V) (h : sx_H) : Option (List sx_S) := match st with
  | v :: st => bif f v then some [(B, pc, g v, st, h)] else none
  | [] => none
def sx_bin (B : sx_B) (pc : Nat) (l : sx_L) (f : sx_V → sx_V → Option sx_V) (st : List sx_V) (h : sx_H) : Option (List sx_S) := match st with
  | y :: x :: st => sx_psh B (pc + 1) l (f x y) st h
  | _ => none
def sx_un (B : sx_B) (pc : Nat) (l : sx_L) (f : sx_V → Option sx_V) (st : List sx_V) (h : sx_H) : Option (List sx_S) := match st with
  | x :: st => sx_psh B (pc + 1) l (f x) st h
  | _ => none
def sx_op1 (B : sx_B) (f : Int32 → Int32) (x : sx_V) : Option sx_V := match sx_con B x with
  | some a => some (sx_c (f (Int32.ofInt a)).toInt)
  | none => match sx_iv B x with
    | some _ => some sx_top
    | none => none
/-- an operation on two longs -/
def sx_opj (f : Int64 → Int64 → Int64) : sx_V → sx_V → Option sx_V
  | .inr (.inr (.inl (some a))), .inr (.inr (.inl (some b))) => some (sx_j (some (f (Int64.ofInt a) (Int64.ofInt b)).toInt))
  | .inr (.inr (.inl _)), .inr (.inr (.inl _)) => some (sx_j none)
  | _, _ => none
def sx_cmp : sx_V → sx_V → Option sx_V
  | .inr (.inr (.inl (some a))), .inr (.inr (.inl (some b))) => some (sx_c (lg_cmp (Int64.ofInt a) (Int64.ofInt b)).toInt)
  | .inr (.inr (.inl _)), .inr (.inr (.inl _)) => some (sx_i (-1) 1 none)
  | _, _ => none
def sx_i2l (B : sx_B) (x : sx_V) : Option sx_V := match sx_con B x with
  | some a => some (sx_j (some a))
  | none => match sx_iv B x with
    | some _ => some (sx_j none)
    | none => none
def sx_l2i : sx_V → Option sx_V
  | .inr (.inr (.inl (some a))) => some (sx_c (Int64.ofInt a).toInt32.toInt)
  | .inr (.inr (.inl none)) => some sx_top
  | _ => none
/-- the cell that a place names, if it is none of the constants -/
def sx_cell (h : sx_H) (v : sx_V) : Option (Nat × sx_E) := match v with
  | .inr (.inr (.inr (some a))) => bif Nat.blt a 16 then none else match sx_hget h (a - 16) with
    | some e => some (a - 16, e)
    | none => none
  | _ => none
/-- the script's element j, and a constant row's -/
def sx_low (K : sx_K) (B : sx_B) (a : Nat) (i : sx_V) : Option sx_V := bif Nat.beq a 4 then (match B[7]? with
  | some p => match sx_con B i with
    | some (.ofNat j) => bif sx_le (.ofNat (j + 1)) p.1 && Nat.blt j 7 then (match B[j]? with
      | some q => bif sx_eq q.1 q.2 then some (sx_c q.1) else some (sx_i sx_min sx_max (some (j, 0)))
      | none => none) else none
    | _ => none
  | none => none) else match sx_get a K with
  | some r => match sx_con B i with
    | some (.ofNat j) => match r[j]? with
      | some c => some (sx_c c)
      | none => none
    | _ => none
  | none => none
def sx_isrow (f : FieldType → Bool) : sx_E → Option (FieldType × Nat × sx_V × sx_L)
  | .inl e => bif f e.1 then some e else none
  | .inr _ => none
def sx_tI : FieldType → Bool
  | .int => true
  | _ => false
def sx_tJ : FieldType → Bool
  | .long => true
  | _ => false
def sx_tB : FieldType → Bool
  | .byte => true
  | .boolean => true
  | _ => false
def sx_aload (f : FieldType → Bool) (low : Nat → sx_V → Option sx_V) (B : sx_B) (pc : Nat) (l : sx_L) (st : List sx_V) (h : sx_H) : Option (List sx_S) := match st with
  | i :: .inr (.inr (.inr (some a))) :: st => bif Nat.blt a 16 then sx_psh B (pc + 1) l (low a i) st h else match sx_hget h (a - 16) with
    | some e => match sx_isrow f e with
      | some e => match sx_in B i e.2.1 with
        | some j => sx_psh B (pc + 1) l (some (sx_elt e.2.2.1 e.2.2.2 j)) st h
        | none => bif e.2.2.2.isEmpty && sx_inn B i e.2.1 then sx_psh B (pc + 1) l (some e.2.2.1) st h else none
      | none => none
    | none => none
  | _ => none
def sx_astore (f : FieldType → Bool) (g : FieldType → sx_V → Option sx_V) (B : sx_B) (pc : Nat) (l : sx_L) (st : List sx_V) (h : sx_H) : Option (List sx_S) := match st with
  | v :: i :: .inr (.inr (.inr (some a))) :: st => bif Nat.blt a 16 then none else match sx_hget h (a - 16) with
    | some e => match sx_isrow f e with
      | some e => match sx_in B i e.2.1, g e.1 v with
        | some j, some v => some [(B, pc + 1, l, st, sx_hset (a - 16) (.inl (e.1, e.2.1, e.2.2.1, sx_wr e.2.2.1 j v e.2.2.2)) h)]
        | none, some v => bif e.2.2.2.isEmpty && (sx_istop e.2.2.1 && (sx_isI v && sx_inn B i e.2.1)) then some [(B, pc + 1, l, st, sx_hset (a - 16) (.inl e) h)] else none
        | _, _ => none
      | none => none
    | none => none
  | _ => none
def sx_nar (B : sx_B) (t : FieldType) (v : sx_V) : Option sx_V := match sx_con B v with
  | some c => some (sx_c (vp_nar t (Int32.ofInt c)).toInt)
  | none => match sx_iv B v with
    | some _ => some sx_top
    | none => none
abbrev sx_Hd : Type := sx_K → List (List FieldType) → am_X → Nat → sx_B → sx_L → List sx_V → sx_H → Option (List sx_S)
def sx_s (I : Instr) : Option sx_Hd :=
  match I with
  | .iconst n => some fun K tt X pc B l st h => sx_psh B (pc + 1) l (some (sx_c (sx_w n))) st h
  | .bipush n => some fun K tt X pc B l st h => sx_psh B (pc + 2) l (bif sx_le (-128) n && sx_le n 127 then some (sx_c n) else none) st h
  | .sipush n => some fun K tt X pc B l st h => sx_psh B (pc + 3) l (bif sx_le (-32768) n && sx_le n 32767 then some (sx_c n) else none) st h
  | .lconst n => some fun K tt X pc B l st h => sx_psh B (pc + 1) l (some (sx_j (some (.ofNat n.val)))) st h
  | .aconst_null => some fun K tt X pc B l st h => sx_psh B (pc + 1) l (some sx_n) st h
  | .ldc _ => some fun K tt X pc B l st h => sx_psh B (pc + 2) l (bif Nat.beq X.1 0 then some (sx_c (sx_w X.2.2)) else bif Nat.blt X.2.1 16 then some (sx_a X.2.1) else none) st h
  | .ldc_w _ => some fun K tt X pc B l st h => sx_psh B (pc + 3) l (bif Nat.beq X.1 0 then some (sx_c (sx_w X.2.2)) else bif Nat.blt X.2.1 16 then some (sx_a X.2.1) else none) st h
  | .ldc2_w _ => some fun K tt X pc B l st h => sx_psh B (pc + 3) l (some (sx_j (some (Int64.ofInt X.2.2).toInt))) st h
  | .getstatic _ => some fun K tt X pc B l st h => sx_psh B (pc + 3) l (some (bif Nat.blt X.2.1 8 then sx_a X.2.1 else bif Nat.beq X.2.1 8 then sx_c 1 else sx_a 7)) st h
  | .iload i => some fun K tt X pc B l st h => sx_psh B (pc + 2) l (sx_load sx_isI i l) st h
  | .iload_n i => some fun K tt X pc B l st h => sx_psh B (pc + 1) l (sx_load sx_isI i.val l) st h
  | .lload i => some fun K tt X pc B l st h => sx_psh B (pc + 2) l (sx_load sx_isJ i l) st h
  | .lload_n i => some fun K tt X pc B l st h => sx_psh B (pc + 1) l (sx_load sx_isJ i.val l) st h
  | .aload i => some fun K tt X pc B l st h => sx_psh B (pc + 2) l (sx_load sx_isA i l) st h
  | .aload_n i => some fun K tt X pc B l st h => sx_psh B (pc + 1) l (sx_load sx_isA i.val l) st h
  | .istore i => some fun K tt X pc B l st h => sx_sto sx_isI B (pc + 2) (fun v => sx_st1 i v l) st h
  | .istore_n i => some fun K tt X pc B l st h => sx_sto sx_isI B (pc + 1) (fun v => sx_st1 i.val v l) st h
  | .lstore i => some fun K tt X pc B l st h => sx_sto sx_isJ B (pc + 2) (fun v => sx_st2 i v l) st h
  | .lstore_n i => some fun K tt X pc B l st h => sx_sto sx_isJ B (pc + 1) (fun v => sx_st2 i.val v l) st h
  | .astore i => some fun K tt X pc B l st h => sx_sto sx_isA B (pc + 2) (fun v => sx_st1 i v l) st h
  | .astore_n i => some fun K tt X pc B l st h => sx_sto sx_isA B (pc + 1) (fun v => sx_st1 i.val v l) st h
  | .iinc i n => some fun K tt X pc B l st h => match sx_get i l with
    | some x => match sx_add B x (sx_c (sx_w n)) with
      | some v => sx_vf v fun v => some [(B, pc + 3, sx_st1 i v l, st, h)]
      | none => none
    | none => none
  | .iadd => some fun K tt X pc B l st h => sx_bin B pc l (sx_add B) st h
  | .isub => some fun K tt X pc B l st h => sx_bin B pc l (sx_sub B) st h
  | .imul => some fun K tt X pc B l st h => sx_bin B pc l (sx_mul B) st h
  | .idiv => some fun K tt X pc B l st h => sx_bin B pc l (fun x y => match sx_con B y with
    | some c => bif sx_eq c 0 then none else sx_op B (fun x y => x / y) x y
    | none => none) st h
  | .irem => some fun K tt X pc B l st h => sx_bin B pc l (fun x y => match sx_con B y with
    | some c => bif sx_eq c 0 then none else sx_op B (fun x y => x - x / y * y) x y
    | none => none) st h
  | .iand => some fun K tt X pc B l st h => sx_bin B pc l (sx_op B fun x y => x &&& y) st h
  | .ior => some fun K tt X pc B l st h => sx_bin B pc l (sx_op B fun x y => x ||| y) st h
  | .ixor => some fun K tt X pc B l st h => sx_bin B pc l (sx_op B fun x y => x ^^^ y) st h
  | .ishl => some fun K tt X pc B l st h => sx_bin B pc l (sx_op B fun x y => x <<< (y &&& 31)) st h
  | .ishr => some fun K tt X pc B l st h => sx_bin B pc l (sx_op B fun x y => x >>> (y &&& 31)) st h
  | .iushr => some fun K tt X pc B l st h => sx_bin B pc l (sx_op B fun x y => (x.toUInt32 >>> (y.toUInt32 &&& Int32.toUInt32 31)).toInt32) st h
  | .ladd => some fun K tt X pc B l st h => sx_bin B pc l (sx_opj fun x y => x + y) st h
  | .lsub => some fun K tt X pc B l st h => sx_bin B pc l (sx_opj fun x y => x - y) st h
  | .lmul => some fun K tt X pc B l st h => sx_bin B pc l (sx_opj fun x y => x * y) st h
  | .lcmp => some fun K tt X pc B l st h => sx_bin B pc l sx_cmp st h
  | .i2l => some fun K tt X pc B l st h => sx_un B pc l (sx_i2l B) st h
  | .l2i => some fun K tt X pc B l st h => sx_un B pc l sx_l2i st h
  | .i2c => some fun K tt X pc B l st h => sx_un B pc l (sx_op1 B fun x => (x.toUInt32 % 65536).toInt32) st h
  | .i2b => some fun K tt X pc B l st h => sx_un B pc l (sx_op1 B fun x => x.toInt8.toInt32) st h
  | .pop => some fun K tt X pc B l st h => match st with
    | v :: st => bif Nat.beq (sx_cat v) 1 then some [(B, pc + 1, l, st, h)] else none
    | _ => none
  | .dup => some fun K tt X pc B l st h => match st with
    | v :: st => bif Nat.beq (sx_cat v) 1 then some [(B, pc + 1, l, v :: v :: st, h)] else none
    | _ => none
  | .dup2 => some fun K tt X pc B l st h => match st with
    | v :: w :: st => bif Nat.beq (sx_cat v) 1 && Nat.beq (sx_cat w) 1 then some [(B, pc + 1, l, v :: w :: v :: w :: st, h)] else none
    | _ => none
  | .goto off => some fun K tt X pc B l st h => bif sx_jump pc off then some [(B, sx_to pc off, l, st, h)] else none
  | .ifCond c off => some fun K tt X pc B l st h => match st with
    | x :: st => sx_fork (sx_br c x (sx_c 0) B) pc off l st h
    | _ => none
  | .if_icmp c off => some fun K tt X pc B l st h => match st with
    | y :: x :: st => sx_fork (sx_br c x y B) pc off l st h
    | _ => none
  | .ifnull off => some fun K tt X pc B l st h => match st with
    | .inr (.inr (.inr (some a))) :: st => bif Nat.beq a 7 then none else some [(B, pc + 3, l, st, h)]
    | .inr (.inr (.inr none)) :: st => bif sx_jump pc off then some [(B, sx_to pc off, l, st, h)] else none
    | _ => none
  | .ifnonnull off => some fun K tt X pc B l st h => match st with
    | .inr (.inr (.inr none)) :: st => some [(B, pc + 3, l, st, h)]
    | .inr (.inr (.inr (some a))) :: st => bif Nat.beq a 7 then none else bif sx_jump pc off then some [(B, sx_to pc off, l, st, h)] else none
    | _ => none
  | .tableswitch dflt lo hi offs => some fun K tt X pc B l st h => match st with
    | x :: st => match sx_con B x with
      | some c => bif sx_le lo c && sx_le c hi then (match offs.toList[(Int.sub c lo).toNat]? with
        | some off => bif sx_jump pc off then some [(B, sx_to pc off, l, st, h)] else none
        | none => none) else (bif sx_jump pc dflt then some [(B, sx_to pc dflt, l, st, h)] else none)
      | none => match sx_iv B x with
        | some p => bif (sx_le (Int.add p.2 1) lo || sx_le (Int.add hi 1) p.1) && sx_jump pc dflt then some [(B, sx_to pc dflt, l, st, h)] else none
        | none => none
    | _ => none
  | .getfield _ => some fun K tt X pc B l st h => match st with
    | .inr (.inr (.inr (some a))) :: st => bif Nat.blt a 16 then (bif Nat.ble 8 a && Nat.blt a 12 then (bif sx_eq X.2.2 1 then sx_psh B (pc + 3) l (some (sx_a (a + 4))) st h else bif sx_eq X.2.2 2 then sx_psh B (pc + 3) l (some (sx_c 0)) st h else none) else none) else match sx_hget h (a - 16) with
      | some (.inr e) => bif Nat.beq e.1 X.1 && sx_eq X.2.2 0 then sx_psh B (pc + 3) l (sx_fld tt e.1 X.2.1 e.2.1 e.2.2) st h else none
      | _ => none
    | _ => none
  | .putfield _ => some fun K tt X pc B l st h => match st with
    | v :: .inr (.inr (.inr (some a))) :: st => bif Nat.blt a 16 then none else match sx_hget h (a - 16) with
      | some (.inr e) => bif Nat.beq e.1 X.1 then (match (tt.getD e.1 [])[X.2.1]? with
        | some t => bif sx_fit t B v then some [(B, pc + 3, l, st, sx_hset (a - 16) (.inr (e.1, sx_put X.2.1 v e.2.1, e.2.2)) h)] else none
        | none => none) else none
      | _ => none
    | _ => none
  | .arraylength => some fun K tt X pc B l st h => match st with
    | .inr (.inr (.inr (some a))) :: st => bif Nat.blt a 16 then (bif Nat.beq a 4 then sx_psh B (pc + 1) l (some (sx_i 0 sx_max (some (7, 0)))) st h else match sx_get a K with
      | some r => bif Nat.ble r.length 60000000 then sx_psh B (pc + 1) l (some (sx_c (.ofNat r.length))) st h else none
      | none => none) else match sx_hget h (a - 16) with
      | some (.inl e) => bif Nat.ble e.2.1 60000000 then sx_psh B (pc + 1) l (some (sx_c (.ofNat e.2.1))) st h else none
      | _ => none
    | _ => none
  | .iaload => some fun K tt X pc B l st h => sx_aload sx_tI (fun a i => bif Nat.blt a 8 then sx_low K B a i else none) B pc l st h
  | .laload => some fun K tt X pc B l st h => sx_aload sx_tJ (fun _ _ => none) B pc l st h
  | .baload => some fun K tt X pc B l st h => sx_aload sx_tB (fun a i => bif Nat.ble 12 a then sx_low K B a i else none) B pc l st h
  | .iastore => some fun K tt X pc B l st h => sx_astore sx_tI (fun _ v => bif sx_isI v then some v else none) B pc l st h
  | .lastore => some fun K tt X pc B l st h => sx_astore sx_tJ (fun _ v => bif sx_isJ v then some v else none) B pc l st h
  | .bastore => some fun K tt X pc B l st h => sx_astore sx_tB (sx_nar B) B pc l st h
  | _ => none
/-- cells that are made, and their slots -/
def sx_new (cl : List vw_C) (tt : List (List FieldType)) (I : Instr) (X : am_X) (pc : Nat) (B : sx_B) (st : List sx_V) (h : sx_H) : Option (Nat × List sx_V × sx_H × Nat) :=
  bif Nat.blt h.2.2 999999999 then (match I with
  | .new _ => match cl[X.1]? with
    | some r => bif Nat.beq (tt.getD X.1 []).length r.2.2 then some (pc + 3, sx_a (16 + h.2.2) :: st, sx_hpush (.inr (X.1, [], [])) h, r.2.2) else none
    | none => none
  | .newarray t => match st with
    | v :: st => match sx_in B v 60000001 with
      | some n => match t with
        | .int => some (pc + 2, sx_a (16 + h.2.2) :: st, sx_hpush (.inl (.int, n, sx_c 0, [])) h, n)
        | .long => some (pc + 2, sx_a (16 + h.2.2) :: st, sx_hpush (.inl (.long, n, sx_j (some 0), [])) h, n)
        | .byte => some (pc + 2, sx_a (16 + h.2.2) :: st, sx_hpush (.inl (.byte, n, sx_c 0, [])) h, n)
        | .boolean => some (pc + 2, sx_a (16 + h.2.2) :: st, sx_hpush (.inl (.boolean, n, sx_c 0, [])) h, n)
        | _ => none
      | none => none
    | _ => none
  | .anewarray _ => match st with
    | v :: st => match sx_in B v 60000001, cl[X.1]? with
      | some n, some r => some (pc + 3, sx_a (16 + h.2.2) :: st, sx_hpush (.inl (.object r.1, n, sx_n, [])) h, n)
      | _, _ => none
    | _ => none
  | _ => none) else none
/-- a return's value -/
def sx_r (ret : Option FieldType) (I : Instr) (B : sx_B) (st : List sx_V) : Option (Option sx_V) :=
  match I, ret, st with
  | .ireturn, some .int, [v] => bif sx_isI v then some (some v) else none
  | .ireturn, some .boolean, [v] => match sx_iv B v with
    | some p => bif sx_le 0 p.1 && sx_le p.2 1 then some (some v) else none
    | none => none
  | .ireturn, some .byte, [v] => match sx_con B v with
    | some c => bif decide ((Int32.ofInt c).toInt8.toInt32 = Int32.ofInt c) then some (some v) else none
    | none => none
  | .ireturn, some .char, [v] => match sx_con B v with
    | some c => bif decide ((Int32.ofInt c).toUInt32.toUInt16.toUInt32.toInt32 = Int32.ofInt c) then some (some v) else none
    | none => none
  | .lreturn, some .long, [v] => bif sx_isJ v then some (some v) else none
  | .areturn, some (.object _), [v] => bif sx_isA v then some (some v) else none
  | .areturn, some (.array _), [v] => bif sx_isA v then some (some v) else none
  | .return_, none, [] => some none
  | _, _, _ => none
/-- a cell that is no less than another says -/
def sx_subE (tt : List (List FieldType)) : sx_E → sx_E → Bool
  | .inl (t, n, d, ov), .inl (t', n', d', ov') => decide (t = t') && (Nat.beq n n' && (bif sx_istop d' && (ov'.isEmpty && sx_tI t') then true else bif ov.isEmpty && ov'.isEmpty then sx_same d d' else (List.range n).all fun j => sx_same (sx_elt d ov j) (sx_elt d' ov' j)))
  | .inr (ci, ov, bs), .inr (ci', ov', bs') => Nat.beq ci ci' && (match bs' with
    | [] => false
    | [[]] => ov'.all fun q => match sx_fld tt ci q.1 ov bs with
      | some v => sx_same v q.2
      | none => false
    | bs' => ov'.isEmpty && (List.range (8 * bs'.length)).all fun j => match sx_fld tt ci' j ov' bs' with
      | none => true
      | some v' => match sx_fld tt ci j ov bs with
        | some v => sx_same v v'
        | none => false)
  | _, _ => false
/-- a method whose effect is known: its number, the receiver, bounds of its arguments, cells as they must stand, cells as they stand behind it -/
abbrev sx_Y : Type := Nat × Nat × List (Int × Int) × List (Nat × sx_E) × List (Nat × sx_E)
def sx_ivs (B : sx_B) : List sx_V → List (Int × Int) → Bool
  | [], [] => true
  | v :: vs, q :: qs => (match sx_iv B v with
    | some p => sx_le q.1 p.1 && sx_le p.2 q.2
    | none => false) && sx_ivs B vs qs
  | _, _ => false
def sx_hsets : List (Nat × sx_E) → sx_H → sx_H
  | [], h => h
  | q :: qs, h => sx_hset q.1 q.2 (sx_hsets qs h)
def sx_pre (tt : List (List FieldType)) (h : sx_H) (L : List (Nat × sx_E)) : Bool := L.all fun q => match sx_hget h q.1 with
  | some e => sx_subE tt e q.2
  | none => false
def sx_yok (tt : List (List FieldType)) (B : sx_B) (h : sx_H) (y : sx_Y) (As : List sx_V) : Bool := match As with
  | v :: As => sx_same v (sx_a y.2.1) && (!(Nat.beq y.2.1 7) && (sx_ivs B As y.2.2.1 && sx_pre tt h y.2.2.2.1))
  | [] => false
/-- a method: its number, its class's number (99: String; 98: none is asked), its locals, its return, its instructions by their places in rows of 32 -/
abbrev sx_M : Type := Nat × Nat × Nat × Option FieldType × List (List (Nat × Instr × am_X))
abbrev sx_F : Type := sx_M × Nat × sx_L × List sx_V
def sx_find (pc : Nat) (C : List (List (Nat × Instr × am_X))) : Option (Instr × am_X) := match C[pc / 32]? with
  | some r => sx_get pc r
  | none => none
def sx_args : Nat → List sx_V → sx_L
  | _, [] => []
  | i, v :: vs => (i, v) :: sx_args (i + sx_cat v) vs
def sx_cats (st : List sx_V) : Nat := match st with
  | [] => 0
  | v :: st => sx_cat v + sx_cats st
/-- whether the receiver is of the method's class -/
def sx_rcv (h : sx_H) (m : sx_M) (v : sx_V) : Bool := match v with
  | .inr (.inr (.inr (some a))) => bif Nat.blt a 16 then Nat.beq m.2.1 99 && (Nat.ble 8 a && Nat.blt a 12) else match sx_hget h (a - 16) with
    | some (.inr e) => Nat.beq e.1 m.2.1 && Nat.blt m.2.1 98
    | _ => false
  | _ => false
def sx_isref : sx_V → Bool
  | .inr (.inr (.inr (some a))) => !(Nat.beq a 7)
  | _ => false
def sx_rcvs (I : Instr) (h : sx_H) (m : sx_M) (As : List sx_V) : Bool := match I with
  | .invokestatic _ => true
  | .invokevirtual _ => match As with
    | v :: _ => sx_rcv h m v
    | [] => false
  | .invokespecial _ => match As with
    | v :: _ => sx_isref v
    | [] => false
  | _ => false
def sx_copy (I : Instr) (X : am_X) (B : sx_B) (st : List sx_V) (h : sx_H) : Option (List sx_V × sx_H) := match I, st with
  | .invokestatic _, n :: dp :: b :: sp :: a :: st => bif sx_eq X.2.2 2 && Nat.ble (sx_cats st) 8 then (match sx_con B n, sx_con B dp, sx_con B sp, sx_cell h a, sx_cell h b with
    | some (.ofNat n), some (.ofNat dp), some (.ofNat sp), some (_, .inl x), some (j, .inl y) => bif sx_tI x.1 && sx_tI y.1 && Nat.beq n x.2.1 && Nat.beq n y.2.1 && Nat.beq dp 0 && Nat.beq sp 0 then some (st, sx_hset j (.inl x) h) else none
    | _, _, _, _, _ => none) else none
  | _, _ => none
def sx_obj (I : Instr) (X : am_X) (st : List sx_V) : Option (List sx_V) := match I, st with
  | .invokespecial _, v :: st => bif sx_eq X.2.2 1 && sx_isref v && Nat.ble (sx_cats st) 8 then some st else none
  | _, _ => none
def sx_isc : Instr → Bool
  | .invokestatic _ => true
  | .invokevirtual _ => true
  | .invokespecial _ => true
  | _ => false
def sx_isn : Instr → Bool
  | .new _ => true
  | .newarray _ => true
  | .anewarray _ => true
  | _ => false
def sx_isr : Instr → Bool
  | .ireturn => true
  | .lreturn => true
  | .areturn => true
  | .return_ => true
  | _ => false
abbrev sx_G : Type := Nat × sx_F × List sx_F × sx_H × sx_B × Nat × Nat
section SX0
variable (T : List (List sx_M)) (K : sx_K) (tt : List (List FieldType)) (cl : List vw_C) (sp sm : Nat) (stop : sx_G → Bool) (Y : List sx_Y) (d0 : Nat) (fin : Option sx_V → sx_H → Nat → Nat → Bool)
def sx_stepc (I : Instr) (X : am_X) (pc d : Nat) (m : sx_M) (l : sx_L) (st : List sx_V) (fs : List sx_F) (h : sx_H) (B : sx_B) (c s : Nat) : Option (List sx_G) :=
  bif sx_eq X.2.2 0 then (match Y.find? fun y => Nat.beq y.1 X.1 with
    | some y => (match sx_ch 16 X.1 T with
      | some m' => bif Nat.beq m'.1 X.1 && (Nat.ble d0 d && (Nat.ble X.2.1 st.length && (sx_rcvs I h m' (st.take X.2.1).reverse && (Nat.ble (sx_cats (st.drop X.2.1)) 8 && sx_yok tt B h y (st.take X.2.1).reverse)))) then some [(d, (m, pc + 3, l, st.drop X.2.1), fs, sx_hsets y.2.2.2.2 h, B, c, s)] else none
      | none => none)
    | none => match d, sx_ch 16 X.1 T with
    | d + 1, some m' => bif Nat.beq m'.1 X.1 && (Nat.ble X.2.1 st.length && (sx_rcvs I h m' (st.take X.2.1).reverse && (Nat.ble (sx_cats (st.drop X.2.1)) 8 && Nat.ble (sx_cats (st.take X.2.1).reverse) m'.2.2.1))) then
        some [(d, (m', 0, sx_args 0 (st.take X.2.1).reverse, []), (m, pc + 3, l, st.drop X.2.1) :: fs, h, B, c, s)] else none
    | _, _ => none) else bif sx_eq X.2.2 1 then (match sx_obj I X st with
    | some st => some [(d, (m, pc + 3, l, st), fs, h, B, c, s)]
    | none => none) else (match sx_copy I X B st h with
    | some (st, h) => some [(d, (m, pc + 3, l, st), fs, h, B, c, s)]
    | none => none)
def sx_stepr (I : Instr) (d : Nat) (m : sx_M) (st : List sx_V) (fs : List sx_F) (h : sx_H) (B : sx_B) (c s : Nat) : Option (List sx_G) :=
  match sx_r m.2.2.2.1 I B st with
  | some v => (match fs with
    | [] => bif fin v h c s then some [] else none
    | g :: fs => some [(d + 1, (g.1, g.2.1, g.2.2.1, v.toList ++ g.2.2.2), fs, h, B, c, s)])
  | none => none
def sx_stepn (I : Instr) (X : am_X) (pc d : Nat) (m : sx_M) (l : sx_L) (st : List sx_V) (fs : List sx_F) (h : sx_H) (B : sx_B) (c s : Nat) : Option (List sx_G) :=
  match sx_new cl tt I X pc B st h with
  | some (pc, st, h, k) => some [(d, (m, pc, l, st), fs, h, B, c + 1, s + k)]
  | none => none
def sx_steps (f : sx_Hd) (X : am_X) (pc d : Nat) (m : sx_M) (l : sx_L) (st : List sx_V) (fs : List sx_F) (h : sx_H) (B : sx_B) (c s : Nat) : Option (List sx_G) :=
  match f K tt X pc B l st h with
  | some ss => some (ss.map fun q => (d, (m, q.2.1, q.2.2.1, q.2.2.2.1), fs, q.2.2.2.2, q.1, c, s))
  | none => none
def sx_stepi (q : Instr × am_X) (pc d : Nat) (m : sx_M) (l : sx_L) (st : List sx_V) (fs : List sx_F) (h : sx_H) (B : sx_B) (c s : Nat) : Option (List sx_G) :=
  match sx_s q.1 with
  | some f => sx_steps K tt f q.2 pc d m l st fs h B c s
  | none => bif sx_isc q.1 then sx_stepc T tt Y d0 q.1 q.2 pc d m l st fs h B c s else bif sx_isr q.1 then sx_stepr fin q.1 d m st fs h B c s else sx_stepn tt cl q.1 q.2 pc d m l st fs h B c s
def sx_step (g : sx_G) : Option (List sx_G) := match g with
  | (d, (m, pc, l, st), fs, h, B, c, s) => sx_N pc fun pc => bif Nat.beq pc sp && Nat.beq m.1 sm then (bif stop g then some [] else none) else
    match sx_find pc m.2.2.2.2 with
    | none => none
    | some q => sx_stepi T K tt cl Y d0 fin q pc d m l st fs h B c s
/-- all runs from here end with 1 and in their room, or come to a point that is known -/
def sx_run : Nat → sx_G → Bool
  | 0, _ => false
  | n + 1, g => match sx_step T K tt cl sp sm stop Y d0 fin g with
    | some gs => gs.all (sx_run n)
    | none => false
end SX0
def sx_fin1 (v : Option sx_V) (_ : sx_H) (c s : Nat) : Bool := match v with
  | some (.inl z) => sx_eq z 1 && (Nat.ble c 600000 && Nat.ble s 7302249)
  | _ => false
/-- the boxes of a symbol at these numbers and between them -/
def sx_cut (k : Nat) : List Int → sx_B → List sx_B
  | [], B => [B]
  | p :: ps, B => sx_ref .lt k 0 (p, p) B ++ (sx_ref .eq k 0 (p, p) B ++ (sx_ref .gt k 0 (p, p) B).flatMap (sx_cut k ps))
end
section
/-! what the interval machine's words mean, over the abstract machine's -/
theorem sx_le_iff {a b : Int} : sx_le a b = true ↔ a ≤ b := by
  unfold sx_le
  have e : Int.sub b a = b - a := rfl
  rw [e]
  split
  · rename_i n h
    simp only [true_iff]
    have : (Int.ofNat n) = (n : Int) := rfl
    omega
  · rename_i n h
    simp only [Bool.false_eq_true, false_iff]
    have := Int.negSucc_eq n
    omega
theorem sx_le_neg {a b : Int} (h : sx_le a b = false) : b < a := by
  by_cases hb : a ≤ b
  · rw [sx_le_iff.mpr hb] at h; cases h
  · omega
theorem sx_eq_iff {a b : Int} : sx_eq a b = true ↔ a = b := by
  cases a <;> cases b <;> simp [sx_eq] <;> omega
theorem sx_mx_le {a b c : Int} (h1 : a ≤ c) (h2 : b ≤ c) : sx_mx a b ≤ c := by
  unfold sx_mx
  cases sx_le a b <;> assumption
theorem sx_mn_le {a b c : Int} (h1 : c ≤ a) (h2 : c ≤ b) : c ≤ sx_mn a b := by
  unfold sx_mn
  cases sx_le a b <;> assumption
theorem sx_w_eq (z : Int) : sx_w z = Int.bmod z 4294967296 := by
  unfold sx_w
  cases h : (sx_le sx_min z && sx_le z sx_max)
  · rfl
  · rw [Bool.and_eq_true] at h
    have h1 := sx_le_iff.mp h.1
    have h2 := sx_le_iff.mp h.2
    have e1 : sx_min = -2147483648 := rfl
    have e2 : sx_max = 2147483647 := rfl
    show z = Int.bmod z 4294967296
    rw [Int.bmod_eq_of_le (by omega) (by omega)]
theorem sx_get_put {α : Type} (i j : Nat) (v : α) : ∀ l : List (Nat × α), sx_get j (sx_put i v l) = if j = i then some v else sx_get j l
  | [] => by
    unfold sx_put sx_get
    by_cases h : j = i
    · subst h; simp [sx_get]
    · have : Nat.beq i j = false := by
        cases hb : Nat.beq i j with
        | false => rfl
        | true => exact absurd (Nat.eq_of_beq_eq_true hb).symm h
      simp [this, h, sx_get]
  | q :: l => by
    unfold sx_put
    cases hq : Nat.beq q.1 i with
    | true =>
      have e := Nat.eq_of_beq_eq_true hq
      simp only [cond_true, sx_get]
      by_cases h : j = i
      · subst h; simp
      · have : Nat.beq i j = false := by
          cases hb : Nat.beq i j with
          | false => rfl
          | true => exact absurd (Nat.eq_of_beq_eq_true hb).symm h
        rw [e, this]
        simp [h]
    | false =>
      simp only [cond_false, sx_get]
      rw [sx_get_put i j v l]
      cases hj : Nat.beq q.1 j with
      | true =>
        have e := Nat.eq_of_beq_eq_true hj
        have : j ≠ i := fun h => by
          subst h
          rw [e] at hq
          simp at hq
        simp [this]
      | false => rfl
theorem sx_N_eq {α : Type} (n : Nat) (k : Nat → α) : sx_N n k = k n := by cases n <;> rfl
theorem sx_vf_eq {α : Type} (v : sx_V) (k : sx_V → α) : sx_vf v k = k v := by
  unfold sx_vf
  split
  · rw [sx_N_eq]
  · rw [sx_N_eq]
  · rfl
/-- a value that an interval's word says -/
def sx_g (ρ : Nat → Int32) : sx_V → Value → Prop
  | .inl c, w => ∃ n : Int32, w = .int n ∧ n.toInt = c
  | .inr (.inl (lo, hi, t)), w => ∃ n : Int32, w = .int n ∧ lo ≤ n.toInt ∧ n.toInt ≤ hi ∧ ∀ k c, t = some (k, c) → n.toInt = (ρ k).toInt + c
  | .inr (.inr (.inl t)), w => ∃ n : Int64, w = .long n ∧ ∀ c, t = some c → n.toInt = c
  | .inr (.inr (.inr none)), w => w = .null
  | .inr (.inr (.inr (some a))), w => w = .ref a ∨ (a = 7 ∧ w = .null)
def sx_gB (ρ : Nat → Int32) (B : sx_B) : Prop := ∀ k p, B[k]? = some p → p.1 ≤ (ρ k).toInt ∧ (ρ k).toInt ≤ p.2
def sx_gS (ρ : Nat → Int32) : List sx_V → List Value → Prop
  | [], [] => True
  | v :: vs, w :: ws => sx_g ρ v w ∧ sx_gS ρ vs ws
  | _, _ => False
def sx_gL (ρ : Nat → Int32) : sx_L → am_L → Prop
  | [], [] => True
  | v :: vs, w :: ws => (v.1 = w.1 ∧ sx_g ρ v.2 w.2) ∧ sx_gL ρ vs ws
  | _, _ => False
def sx_gE (tt : List (List FieldType)) (ρ : Nat → Int32) : sx_E → am_E → Prop
  | .inl (ty, n, d, ov), y => ∃ c, y = .inl (ty, n, c) ∧ (match ty with
    | .long => ∃ f, c = .inr (.inl f) ∧ ∀ j, j < n → sx_g ρ (sx_elt d ov j) (.long (f j))
    | .object _ => ∃ f, c = .inr (.inr (.inr (.inr f))) ∧ ∀ j, j < n → sx_g ρ (sx_elt d ov j) (va_rf (f j))
    | _ => ∃ f, c = .inl f ∧ ∀ j, j < n → sx_g ρ (sx_elt d ov j) (.int (f j)))
  | .inr (ci, ov, bs), y => ∃ fs : List Value, y = .inr (ci, fs) ∧ fs.length = (tt.getD ci []).length ∧ ∀ j v, sx_fld tt ci j ov bs = some v → ∃ w, fs[j]? = some w ∧ sx_g ρ v w
/-- a heap: its cells as they are said, all others as they stood in h0 -/
def sx_gH (tt : List (List FieldType)) (ρ : Nat → Int32) (h0 : am_H) (H : sx_H) (h : am_H) : Prop :=
  h.length = (if 1000000000 ≤ H.2.2 then h0.length else H.2.2) ∧ h0.length ≤ h.length ∧ (∀ i e, sx_hget H i = some e → ∃ x, h[i]? = some x ∧ sx_gE tt ρ e x) ∧ ∀ i, i < h0.length → sx_get i H.1 = none → h[i]? = h0[i]?
section SX1
variable {ρ : Nat → Int32} {B : sx_B}
theorem sx_g_int {v : sx_V} {w : Value} {p : Int × Int} (hB : sx_gB ρ B) (hg : sx_g ρ v w) (h : sx_iv B v = some p) : ∃ n : Int32, w = .int n ∧ p.1 ≤ n.toInt ∧ n.toInt ≤ p.2 := by
  match v, hg, h with
  | .inl c, hg, h =>
    obtain ⟨n, e, hn⟩ := hg
    cases h
    exact ⟨n, e, by omega, by omega⟩
  | .inr (.inl (lo, hi, none)), hg, h =>
    obtain ⟨n, e, h1, h2, -⟩ := hg
    cases h
    exact ⟨n, e, h1, h2⟩
  | .inr (.inl (lo, hi, some (k, c))), hg, h =>
    obtain ⟨n, e, h1, h2, h3⟩ := hg
    have h3 := h3 k c rfl
    cases hk : B[k]? with
    | none =>
      simp only [sx_iv, hk] at h
      cases h
      exact ⟨n, e, h1, h2⟩
    | some q =>
      simp only [sx_iv, hk] at h
      cases h
      obtain ⟨b1, b2⟩ := hB k q hk
      refine ⟨n, e, sx_mx_le h1 ?_, sx_mn_le h2 ?_⟩
      · show q.1 + c ≤ _; omega
      · show _ ≤ q.2 + c; omega
  | .inr (.inr (.inl t)), hg, h => cases h
  | .inr (.inr (.inr t)), hg, h => cases h
theorem sx_g_con {v : sx_V} {w : Value} {c : Int} (hB : sx_gB ρ B) (hg : sx_g ρ v w) (h : sx_con B v = some c) : ∃ n : Int32, w = .int n ∧ n.toInt = c := by
  unfold sx_con at h
  cases hi : sx_iv B v with
  | none => rw [hi] at h; cases h
  | some p =>
    rw [hi] at h
    cases he : sx_eq p.1 p.2 with
    | false => simp only [he, cond_false] at h; cases h
    | true =>
      simp only [he, cond_true] at h
      cases h
      obtain ⟨n, e, h1, h2⟩ := sx_g_int hB hg hi
      have := sx_eq_iff.mp he
      exact ⟨n, e, by omega⟩
theorem sx_g_isI {v : sx_V} {w : Value} (hg : sx_g ρ v w) (h : sx_isI v = true) : ∃ n : Int32, w = .int n := by
  match v, hg, h with
  | .inl c, hg, h => obtain ⟨n, e, -⟩ := hg; exact ⟨n, e⟩
  | .inr (.inl (_, _, _)), hg, h => obtain ⟨n, e, -⟩ := hg; exact ⟨n, e⟩
theorem sx_g_isJ {v : sx_V} {w : Value} (hg : sx_g ρ v w) (h : sx_isJ v = true) : ∃ n : Int64, w = .long n := by
  match v, hg, h with
  | .inr (.inr (.inl _)), hg, h => obtain ⟨n, e, -⟩ := hg; exact ⟨n, e⟩
theorem sx_g_isA {v : sx_V} {w : Value} (hg : sx_g ρ v w) (h : sx_isA v = true) : (∃ a, w = .ref a) ∨ w = .null := by
  match v, hg, h with
  | .inr (.inr (.inr none)), hg, h => exact Or.inr hg
  | .inr (.inr (.inr (some a))), hg, h =>
    rcases hg with e | ⟨-, e⟩
    · exact Or.inl ⟨a, e⟩
    · exact Or.inr e
theorem sx_g_iv {v : sx_V} {p : Int × Int} (h : sx_iv B v = some p) : sx_isI v = true := by
  match v, h with
  | .inl c, h => rfl
  | .inr (.inl (_, _, _)), h => rfl
  | .inr (.inr (.inl t)), h => cases h
  | .inr (.inr (.inr t)), h => cases h
theorem sx_g_top (n : Int32) : sx_g ρ sx_top (.int n) := by
  refine ⟨n, rfl, ?_, ?_, fun _ _ h => by cases h⟩
  · have := Int32.le_toInt n
    show (-2147483648 : Int) ≤ _
    omega
  · have := Int32.toInt_lt n
    show _ ≤ (2147483647 : Int)
    omega
theorem sx_g_cat {v : sx_V} {w : Value} (hg : sx_g ρ v w) : w.category = sx_cat v := by
  match v, hg with
  | .inl c, hg => obtain ⟨n, e, -⟩ := hg; rw [e]; rfl
  | .inr (.inl (_, _, _)), hg => obtain ⟨n, e, -⟩ := hg; rw [e]; rfl
  | .inr (.inr (.inl _)), hg => obtain ⟨n, e, -⟩ := hg; rw [e]; rfl
  | .inr (.inr (.inr none)), hg => rw [show w = .null from hg]; rfl
  | .inr (.inr (.inr (some a))), hg =>
    rcases hg with e | ⟨-, e⟩ <;> rw [e] <;> rfl
theorem sx_gS_cons {v : sx_V} {vs : List sx_V} {ws : List Value} (h : sx_gS ρ (v :: vs) ws) : ∃ w ws', ws = w :: ws' ∧ sx_g ρ v w ∧ sx_gS ρ vs ws' := by
  match ws, h with
  | w :: ws', h => exact ⟨w, ws', rfl, h.1, h.2⟩
theorem sx_gS_nil {ws : List Value} (h : sx_gS ρ [] ws) : ws = [] := by
  match ws, h with
  | [], _ => rfl
theorem sx_gS_len : ∀ {vs : List sx_V} {ws : List Value}, sx_gS ρ vs ws → ws.length = vs.length
  | [], [], _ => rfl
  | _ :: _, _ :: _, h => by simp [sx_gS_len h.2]
theorem sx_gS_take (n : Nat) : ∀ {vs : List sx_V} {ws : List Value}, sx_gS ρ vs ws → sx_gS ρ (vs.take n) (ws.take n) := by
  induction n with
  | zero => intro vs ws _; simp [sx_gS]
  | succ n ih =>
    intro vs ws h
    match vs, ws, h with
    | [], [], _ => simp [sx_gS]
    | v :: vs, w :: ws, h => exact ⟨h.1, ih h.2⟩
theorem sx_gS_drop (n : Nat) : ∀ {vs : List sx_V} {ws : List Value}, sx_gS ρ vs ws → sx_gS ρ (vs.drop n) (ws.drop n) := by
  induction n with
  | zero => intro vs ws h; exact h
  | succ n ih =>
    intro vs ws h
    match vs, ws, h with
    | [], [], _ => simp [sx_gS]
    | v :: vs, w :: ws, h => exact ih h.2
theorem sx_gS_app : ∀ {vs : List sx_V} {ws : List Value} {vs' : List sx_V} {ws' : List Value}, sx_gS ρ vs ws → sx_gS ρ vs' ws' → sx_gS ρ (vs ++ vs') (ws ++ ws')
  | [], [], _, _, _, h => h
  | _ :: _, _ :: _, _, _, h, h' => ⟨h.1, sx_gS_app h.2 h'⟩
theorem sx_gS_rev : ∀ {vs : List sx_V} {ws : List Value}, sx_gS ρ vs ws → sx_gS ρ vs.reverse ws.reverse
  | [], [], _ => trivial
  | v :: vs, w :: ws, h => by
    rw [List.reverse_cons, List.reverse_cons]
    exact sx_gS_app (sx_gS_rev h.2) ⟨h.1, trivial⟩
theorem sx_gS_cats : ∀ {vs : List sx_V} {ws : List Value}, sx_gS ρ vs ws → (ws.map fun v => v.category).sum = sx_cats vs
  | [], [], _ => rfl
  | v :: vs, w :: ws, h => by
    simp only [List.map_cons, List.sum_cons, sx_cats]
    rw [sx_gS_cats h.2, sx_g_cat h.1]
theorem sx_gL_get (i : Nat) : ∀ {l : sx_L} {l' : am_L}, sx_gL ρ l l' → ∀ v, sx_get i l = some v → ∃ w, am_ld i l' = some w ∧ sx_g ρ v w
  | [], [], _, v, h => by cases h
  | q :: l, r :: l', hl, v, h => by
    unfold sx_get at h
    unfold am_ld
    cases hq : Nat.beq q.1 i with
    | true =>
      simp only [hq, cond_true] at h
      cases h
      rw [← hl.1.1, if_pos (Nat.eq_of_beq_eq_true hq)]
      exact ⟨r.2, rfl, hl.1.2⟩
    | false =>
      simp only [hq, cond_false] at h
      have : ¬ r.1 = i := fun e => by
        rw [← hl.1.1] at e
        rw [e] at hq
        simp at hq
      rw [if_neg this]
      exact sx_gL_get i hl.2 v h
theorem sx_gL_filter {p : Nat × sx_V → Bool} {p' : Nat × Value → Bool} (hp : ∀ q r, q.1 = r.1 → sx_g ρ q.2 r.2 → p q = p' r) : ∀ {l : sx_L} {l' : am_L}, sx_gL ρ l l' → sx_gL ρ (l.filter p) (l'.filter p')
  | [], [], _ => trivial
  | q :: l, r :: l', h => by
    have e := hp q r h.1.1 h.1.2
    rw [List.filter_cons, List.filter_cons, ← e]
    cases p q
    · exact sx_gL_filter hp h.2
    · exact ⟨h.1, sx_gL_filter hp h.2⟩
theorem sx_beq (a b : Nat) : (a == b) = Nat.beq a b := by
  cases h : Nat.beq a b with
  | true => rw [Nat.eq_of_beq_eq_true h]; simp
  | false =>
    have : a ≠ b := fun e => by subst e; simp at h
    simp [this]
theorem sx_gL_st1 {i : Nat} {v : sx_V} {w : Value} {l : sx_L} {l' : am_L} (hl : sx_gL ρ l l') (hg : sx_g ρ v w) : sx_gL ρ (sx_st1 i v l) (am_st1 i w l') := by
  refine ⟨⟨rfl, hg⟩, sx_gL_filter (fun q r e hq => ?_) hl⟩
  rw [sx_beq, sx_beq, sx_beq, e, sx_g_cat hq]
theorem sx_gL_st2 {i : Nat} {v : sx_V} {w : Value} {l : sx_L} {l' : am_L} (hl : sx_gL ρ l l') (hg : sx_g ρ v w) : sx_gL ρ (sx_st2 i v l) (am_st2 i w l') := by
  refine ⟨⟨rfl, hg⟩, sx_gL_filter (fun q r e hq => ?_) hl⟩
  rw [sx_beq, sx_beq, sx_beq, sx_beq, e, sx_g_cat hq]
theorem sx_gL_args : ∀ {vs : List sx_V} {ws : List Value} (i : Nat), sx_gS ρ vs ws → sx_gL ρ (sx_args i vs) (lv_args i ws)
  | [], [], _, _ => trivial
  | v :: vs, w :: ws, i, h => by
    refine ⟨⟨rfl, h.1⟩, ?_⟩
    have e : (if w.category = 2 then i + 2 else i + 1) = i + sx_cat v := by
      rw [sx_g_cat h.1]
      match v with
      | .inl _ => rfl
      | .inr (.inl _) => rfl
      | .inr (.inr (.inl _)) => rfl
      | .inr (.inr (.inr _)) => rfl
    rw [e]
    exact sx_gL_args _ h.2
end SX1
end
section
section SX2
variable {ρ : Nat → Int32} {B : sx_B}
theorem sx_iv_c (a : Int) : sx_iv B (.inl a) = some (a, a) := rfl
theorem sx_iv_z (z : Option Int ⊕ Option Nat) : sx_iv B (.inr (.inr z)) = none := by cases z <;> rfl
theorem sx_of {n : Int32} {c : Int} (h : n.toInt = c) : n = Int32.ofInt c := by rw [← h, Int32.ofInt_toInt]
theorem sx_mk_ok {lo hi : Int} {t : Option (Nat × Int)} {n : Int32} (h1 : sx_min ≤ lo → hi ≤ sx_max → lo ≤ n.toInt ∧ n.toInt ≤ hi ∧ ∀ k c, t = some (k, c) → n.toInt = (ρ k).toInt + c) : sx_g ρ (sx_mk lo hi t) (.int n) := by
  unfold sx_mk
  cases h : (sx_le sx_min lo && sx_le hi sx_max)
  · exact sx_g_top n
  · rw [Bool.and_eq_true] at h
    exact ⟨n, rfl, h1 (sx_le_iff.mp h.1) (sx_le_iff.mp h.2)⟩
theorem sx_bm {z : Int} (h1 : sx_min ≤ z) (h2 : z ≤ sx_max) : Int.bmod z 4294967296 = z := by
  have e1 : sx_min = -2147483648 := rfl
  have e2 : sx_max = 2147483647 := rfl
  exact Int.bmod_eq_of_le (by omega) (by omega)
theorem sx_add_ok {x y v : sx_V} {x' y' : Value} (hB : sx_gB ρ B) (hv : sx_add B x y = some v) (hx : sx_g ρ x x') (hy : sx_g ρ y y') : ∃ a b : Int32, x' = .int a ∧ y' = .int b ∧ sx_g ρ v (.int (a + b)) := by
  have gen : ∀ (t : Option (Nat × Int)) (p q : Int × Int), sx_iv B x = some p → sx_iv B y = some q → (∀ a b : Int32, x' = .int a → y' = .int b → ∀ k c, t = some (k, c) → a.toInt + b.toInt = (ρ k).toInt + c) → v = sx_mk (Int.add p.1 q.1) (Int.add p.2 q.2) t → ∃ a b : Int32, x' = .int a ∧ y' = .int b ∧ sx_g ρ v (.int (a + b)) := by
    intro t p q hp hq ht hv
    obtain ⟨a, ea, a1, a2⟩ := sx_g_int hB hx hp
    obtain ⟨b, eb, b1, b2⟩ := sx_g_int hB hy hq
    refine ⟨a, b, ea, eb, ?_⟩
    rw [hv]
    refine sx_mk_ok (fun h1 h2 => ?_)
    have e : (a + b).toInt = a.toInt + b.toInt := by
      rw [Int32.toInt_add]
      refine sx_bm ?_ ?_
      · have : p.1 + q.1 = Int.add p.1 q.1 := rfl
        omega
      · have : p.2 + q.2 = Int.add p.2 q.2 := rfl
        omega
    rw [e]
    refine ⟨?_, ?_, fun k c h => ht a b ea eb k c h⟩
    · show p.1 + q.1 ≤ _; omega
    · show _ ≤ p.2 + q.2; omega
  match x, y, hv, hx, hy, gen with
  | .inl a, .inl b, hv, hx, hy, gen =>
    obtain ⟨a', ea, ha⟩ := hx
    obtain ⟨b', eb, hb⟩ := hy
    simp only [sx_add] at hv
    cases hv
    refine ⟨a', b', ea, eb, _, rfl, ?_⟩
    rw [Int32.toInt_add, sx_w_eq, ha, hb]
    rfl
  | .inl a, .inr (.inl (lo, hi, none)), hv, hx, hy, gen =>
    simp only [sx_add, sx_iv] at hv
    cases hv
    exact gen _ _ _ rfl rfl (fun _ _ _ _ _ _ h => by cases h) rfl
  | .inl a, .inr (.inl (lo, hi, some (k, c))), hv, hx, hy, gen =>
    cases hq : sx_iv B (.inr (.inl (lo, hi, some (k, c)))) with
    | none => simp only [sx_add, hq] at hv; cases hv
    | some q =>
      simp only [sx_add, hq, sx_iv_c] at hv
      cases hv
      refine gen _ _ _ rfl hq (fun a' b' ea eb k' c' h => ?_) rfl
      cases h
      obtain ⟨a2, ea2, ha⟩ := hx
      obtain ⟨b2, eb2, -, -, hb⟩ := hy
      rw [ea] at ea2
      rw [eb] at eb2
      cases ea2
      cases eb2
      have := hb k c rfl
      show _ = _ + (c + a)
      omega
  | .inr (.inl (lo, hi, none)), .inl b, hv, hx, hy, gen =>
    simp only [sx_add, sx_iv] at hv
    cases hv
    exact gen _ _ _ rfl rfl (fun _ _ _ _ _ _ h => by cases h) rfl
  | .inr (.inl (lo, hi, some (k, c))), .inl b, hv, hx, hy, gen =>
    cases hq : sx_iv B (.inr (.inl (lo, hi, some (k, c)))) with
    | none => simp only [sx_add, hq] at hv; cases hv
    | some q =>
      simp only [sx_add, hq, sx_iv_c] at hv
      cases hv
      refine gen _ _ _ hq rfl (fun a' b' ea eb k' c' h => ?_) rfl
      cases h
      obtain ⟨a2, ea2, -, -, ha⟩ := hx
      obtain ⟨b2, eb2, hb⟩ := hy
      rw [ea] at ea2
      rw [eb] at eb2
      cases ea2
      cases eb2
      have := ha k c rfl
      show _ = _ + (c + b)
      omega
  | .inr (.inl (lo, hi, t)), .inr (.inl (lo', hi', t')), hv, hx, hy, gen =>
    cases hp : sx_iv B (.inr (.inl (lo, hi, t))) with
    | none => simp only [sx_add, hp] at hv; cases hv
    | some p =>
      cases hq : sx_iv B (.inr (.inl (lo', hi', t'))) with
      | none => simp only [sx_add, hp, hq] at hv; cases hv
      | some q =>
        simp only [sx_add, hp, hq] at hv
        have e : v = sx_mk (Int.add p.1 q.1) (Int.add p.2 q.2) none := by
          cases t with
          | none => cases hv; rfl
          | some t => cases hv; rfl
        exact gen _ _ _ hp hq (fun _ _ _ _ _ _ h => by cases h) e
  | .inr (.inr _), y, hv, hx, hy, gen =>
    rename_i z
    cases z <;> simp only [sx_add, sx_iv] at hv <;> cases hv
  | .inl _, .inr (.inr z), hv, hx, hy, gen => cases z <;> simp only [sx_add, sx_iv] at hv <;> cases hv
  | .inr (.inl z'), .inr (.inr z), hv, hx, hy, gen =>
    cases hp : sx_iv B (.inr (.inl z')) with
    | none => simp only [sx_add, hp] at hv; cases hv
    | some p => simp only [sx_add, hp, sx_iv_z] at hv; cases hv
theorem sx_sub_ok {x y v : sx_V} {x' y' : Value} (hB : sx_gB ρ B) (hv : sx_sub B x y = some v) (hx : sx_g ρ x x') (hy : sx_g ρ y y') : ∃ a b : Int32, x' = .int a ∧ y' = .int b ∧ sx_g ρ v (.int (a - b)) := by
  have gen : ∀ (t : Option (Nat × Int)) (p q : Int × Int), sx_iv B x = some p → sx_iv B y = some q → (∀ a b : Int32, x' = .int a → y' = .int b → ∀ k c, t = some (k, c) → a.toInt - b.toInt = (ρ k).toInt + c) → v = sx_mk (Int.sub p.1 q.2) (Int.sub p.2 q.1) t → ∃ a b : Int32, x' = .int a ∧ y' = .int b ∧ sx_g ρ v (.int (a - b)) := by
    intro t p q hp hq ht hv
    obtain ⟨a, ea, a1, a2⟩ := sx_g_int hB hx hp
    obtain ⟨b, eb, b1, b2⟩ := sx_g_int hB hy hq
    refine ⟨a, b, ea, eb, ?_⟩
    rw [hv]
    refine sx_mk_ok (fun h1 h2 => ?_)
    have e : (a - b).toInt = a.toInt - b.toInt := by
      rw [Int32.toInt_sub]
      refine sx_bm ?_ ?_
      · have : p.1 - q.2 = Int.sub p.1 q.2 := rfl
        omega
      · have : p.2 - q.1 = Int.sub p.2 q.1 := rfl
        omega
    rw [e]
    refine ⟨?_, ?_, fun k c h => ht a b ea eb k c h⟩
    · show p.1 - q.2 ≤ _; omega
    · show _ ≤ p.2 - q.1; omega
  match x, y, hv, hx, hy, gen with
  | .inl a, .inl b, hv, hx, hy, gen =>
    obtain ⟨a', ea, ha⟩ := hx
    obtain ⟨b', eb, hb⟩ := hy
    simp only [sx_sub] at hv
    cases hv
    refine ⟨a', b', ea, eb, _, rfl, ?_⟩
    rw [Int32.toInt_sub, sx_w_eq, ha, hb]
    rfl
  | .inl a, .inr (.inl z), hv, hx, hy, gen =>
    cases hq : sx_iv B (.inr (.inl z)) with
    | none => simp only [sx_sub, hq, sx_iv_c] at hv; cases hv
    | some q =>
      simp only [sx_sub, hq, sx_iv_c] at hv
      cases hv
      exact gen _ _ _ rfl hq (fun _ _ _ _ _ _ h => by cases h) rfl
  | .inr (.inl (lo, hi, none)), .inl b, hv, hx, hy, gen =>
    simp only [sx_sub, sx_iv] at hv
    cases hv
    exact gen _ _ _ rfl rfl (fun _ _ _ _ _ _ h => by cases h) rfl
  | .inr (.inl (lo, hi, some (k, c))), .inl b, hv, hx, hy, gen =>
    cases hq : sx_iv B (.inr (.inl (lo, hi, some (k, c)))) with
    | none => simp only [sx_sub, hq] at hv; cases hv
    | some q =>
      simp only [sx_sub, hq, sx_iv_c] at hv
      cases hv
      refine gen _ _ _ hq rfl (fun a' b' ea eb k' c' h => ?_) rfl
      cases h
      obtain ⟨a2, ea2, -, -, ha⟩ := hx
      obtain ⟨b2, eb2, hb⟩ := hy
      rw [ea] at ea2
      rw [eb] at eb2
      cases ea2
      cases eb2
      have := ha k c rfl
      show _ = _ + (c - b)
      omega
  | .inr (.inl (lo, hi, t)), .inr (.inl (lo', hi', t')), hv, hx, hy, gen =>
    cases hp : sx_iv B (.inr (.inl (lo, hi, t))) with
    | none => simp only [sx_sub, hp] at hv; cases hv
    | some p =>
      cases hq : sx_iv B (.inr (.inl (lo', hi', t'))) with
      | none => simp only [sx_sub, hp, hq] at hv; cases hv
      | some q =>
        simp only [sx_sub, hp, hq] at hv
        have e : v = sx_mk (Int.sub p.1 q.2) (Int.sub p.2 q.1) none := by
          cases t with
          | none => cases hv; rfl
          | some t => cases hv; rfl
        exact gen _ _ _ hp hq (fun _ _ _ _ _ _ h => by cases h) e
  | .inr (.inr _), y, hv, hx, hy, gen =>
    rename_i z
    cases z <;> simp only [sx_sub, sx_iv] at hv <;> cases hv
  | .inl _, .inr (.inr z), hv, hx, hy, gen => cases z <;> simp only [sx_sub, sx_iv] at hv <;> cases hv
  | .inr (.inl z'), .inr (.inr z), hv, hx, hy, gen =>
    cases hp : sx_iv B (.inr (.inl z')) with
    | none => simp only [sx_sub, hp] at hv; cases hv
    | some p => simp only [sx_sub, hp, sx_iv_z] at hv; cases hv
theorem sx_op_ok {f : Int32 → Int32 → Int32} {x y v : sx_V} {x' y' : Value} (hB : sx_gB ρ B) (hv : sx_op B f x y = some v) (hx : sx_g ρ x x') (hy : sx_g ρ y y') : ∃ a b : Int32, x' = .int a ∧ y' = .int b ∧ sx_g ρ v (.int (f a b)) := by
  unfold sx_op at hv
  split at hv
  · rename_i a b ha hb
    obtain ⟨a', ea, ha⟩ := sx_g_con hB hx ha
    obtain ⟨b', eb, hb⟩ := sx_g_con hB hy hb
    cases hv
    exact ⟨a', b', ea, eb, _, rfl, by rw [sx_of ha, sx_of hb]⟩
  · split at hv
    · rename_i p q hp hq
      obtain ⟨a', ea, -⟩ := sx_g_int hB hx hp
      obtain ⟨b', eb, -⟩ := sx_g_int hB hy hq
      cases hv
      exact ⟨a', b', ea, eb, sx_g_top _⟩
    · cases hv
theorem sx_op1_ok {f : Int32 → Int32} {x v : sx_V} {x' : Value} (hB : sx_gB ρ B) (hv : sx_op1 B f x = some v) (hx : sx_g ρ x x') : ∃ a : Int32, x' = .int a ∧ sx_g ρ v (.int (f a)) := by
  unfold sx_op1 at hv
  split at hv
  · rename_i a ha
    obtain ⟨a', ea, ha⟩ := sx_g_con hB hx ha
    cases hv
    exact ⟨a', ea, _, rfl, by rw [sx_of ha]⟩
  · split at hv
    · rename_i p hp
      obtain ⟨a', ea, -⟩ := sx_g_int hB hx hp
      cases hv
      exact ⟨a', ea, sx_g_top _⟩
    · cases hv
theorem sx_mc_ok {c : Int} {p : Int × Int} {a b : Int32} (ha : a.toInt = c) (h1 : p.1 ≤ b.toInt) (h2 : b.toInt ≤ p.2) : sx_g ρ (sx_mc c p) (.int (a * b)) := by
  unfold sx_mc
  cases h0 : sx_le 0 c
  · exact sx_g_top _
  · have hc := sx_le_iff.mp h0
    refine sx_mk_ok (fun l1 l2 => ?_)
    have m1 : c * p.1 ≤ c * b.toInt := Int.mul_le_mul_of_nonneg_left h1 hc
    have m2 : c * b.toInt ≤ c * p.2 := Int.mul_le_mul_of_nonneg_left h2 hc
    have e1 : c * p.1 = Int.mul c p.1 := rfl
    have e2 : c * p.2 = Int.mul c p.2 := rfl
    have e : (a * b).toInt = c * b.toInt := by
      rw [Int32.toInt_mul, ha]
      exact sx_bm (by omega) (by omega)
    rw [e]
    exact ⟨by omega, by omega, fun _ _ h => by cases h⟩
theorem sx_mul_ok {x y v : sx_V} {x' y' : Value} (hB : sx_gB ρ B) (hv : sx_mul B x y = some v) (hx : sx_g ρ x x') (hy : sx_g ρ y y') : ∃ a b : Int32, x' = .int a ∧ y' = .int b ∧ sx_g ρ v (.int (a * b)) := by
  unfold sx_mul at hv
  split at hv
  case h_2 => cases hv
  rename_i p q hp hq
  obtain ⟨a, ea, a1, a2⟩ := sx_g_int hB hx hp
  obtain ⟨b, eb, b1, b2⟩ := sx_g_int hB hy hq
  refine ⟨a, b, ea, eb, ?_⟩
  cases e1 : sx_eq p.1 p.2 with
  | true =>
    have f1 := sx_eq_iff.mp e1
    rw [e1] at hv
    cases e2 : sx_eq q.1 q.2 with
    | true =>
      have f2 := sx_eq_iff.mp e2
      rw [e2] at hv
      cases hv
      refine ⟨_, rfl, ?_⟩
      rw [Int32.toInt_mul, sx_w_eq, show a.toInt = p.1 by omega, show b.toInt = q.1 by omega]
      rfl
    | false =>
      rw [e2] at hv
      cases e3 : sx_eq p.1 0 with
      | true =>
        have f3 := sx_eq_iff.mp e3
        rw [e3] at hv
        cases hv
        refine ⟨_, rfl, ?_⟩
        rw [Int32.toInt_mul, show a.toInt = 0 by omega, Int.zero_mul]
        rfl
      | false =>
        rw [e3] at hv
        cases hv
        exact sx_mc_ok (by omega) b1 b2
  | false =>
    rw [e1] at hv
    cases e2 : sx_eq q.1 q.2 with
    | true =>
      have f2 := sx_eq_iff.mp e2
      rw [e2] at hv
      cases e3 : sx_eq q.1 0 with
      | true =>
        have f3 := sx_eq_iff.mp e3
        rw [e3] at hv
        cases hv
        refine ⟨_, rfl, ?_⟩
        rw [Int32.toInt_mul, show b.toInt = 0 by omega, Int.mul_zero]
        rfl
      | false =>
        rw [e3] at hv
        cases hv
        rw [Int32.mul_comm a b]
        exact sx_mc_ok (by omega) a1 a2
    | false =>
      rw [e2] at hv
      cases hv
      exact sx_g_top _
theorem sx_of64 {n : Int64} {c : Int} (h : n.toInt = c) : n = Int64.ofInt c := by rw [← h, Int64.ofInt_toInt]
theorem sx_opj_ok {f : Int64 → Int64 → Int64} {x y v : sx_V} {x' y' : Value} (hv : sx_opj f x y = some v) (hx : sx_g ρ x x') (hy : sx_g ρ y y') : ∃ a b : Int64, x' = .long a ∧ y' = .long b ∧ sx_g ρ v (.long (f a b)) := by
  unfold sx_opj at hv
  split at hv
  · rename_i a b
    obtain ⟨a', ea, ha⟩ := hx
    obtain ⟨b', eb, hb⟩ := hy
    cases hv
    refine ⟨a', b', ea, eb, _, rfl, fun c h => ?_⟩
    cases h
    rw [sx_of64 (ha a rfl), sx_of64 (hb b rfl)]
  · obtain ⟨a', ea, ha⟩ := hx
    obtain ⟨b', eb, hb⟩ := hy
    cases hv
    exact ⟨a', b', ea, eb, _, rfl, fun c h => by cases h⟩
  · cases hv
theorem sx_cmp_ok {x y v : sx_V} {x' y' : Value} (hv : sx_cmp x y = some v) (hx : sx_g ρ x x') (hy : sx_g ρ y y') : ∃ a b : Int64, x' = .long a ∧ y' = .long b ∧ sx_g ρ v (.int (lg_cmp a b)) := by
  unfold sx_cmp at hv
  split at hv
  · rename_i a b
    obtain ⟨a', ea, ha⟩ := hx
    obtain ⟨b', eb, hb⟩ := hy
    cases hv
    refine ⟨a', b', ea, eb, _, rfl, ?_⟩
    rw [sx_of64 (ha a rfl), sx_of64 (hb b rfl)]
  · obtain ⟨a', ea, ha⟩ := hx
    obtain ⟨b', eb, hb⟩ := hy
    cases hv
    refine ⟨a', b', ea, eb, _, rfl, ?_, ?_, fun _ _ h => by cases h⟩
    · unfold lg_cmp
      split
      · decide
      · split <;> decide
    · unfold lg_cmp
      split
      · decide
      · split <;> decide
  · cases hv
theorem sx_i2l_ok {x v : sx_V} {x' : Value} (hB : sx_gB ρ B) (hv : sx_i2l B x = some v) (hx : sx_g ρ x x') : ∃ a : Int32, x' = .int a ∧ sx_g ρ v (.long a.toInt64) := by
  unfold sx_i2l at hv
  split at hv
  · rename_i a ha
    obtain ⟨a', ea, ha⟩ := sx_g_con hB hx ha
    cases hv
    refine ⟨a', ea, _, rfl, fun c h => ?_⟩
    cases h
    rw [Int32.toInt_toInt64, ha]
  · split at hv
    · rename_i p hp
      obtain ⟨a', ea, -⟩ := sx_g_int hB hx hp
      cases hv
      exact ⟨a', ea, _, rfl, fun c h => by cases h⟩
    · cases hv
theorem sx_l2i_ok {x v : sx_V} {x' : Value} (hv : sx_l2i x = some v) (hx : sx_g ρ x x') : ∃ a : Int64, x' = .long a ∧ sx_g ρ v (.int a.toInt32) := by
  unfold sx_l2i at hv
  split at hv
  · rename_i a
    obtain ⟨a', ea, ha⟩ := hx
    cases hv
    exact ⟨a', ea, _, rfl, by rw [sx_of64 (ha a rfl)]⟩
  · obtain ⟨a', ea, ha⟩ := hx
    cases hv
    exact ⟨a', ea, sx_g_top _⟩
  · cases hv
/-! comparisons -/
def sx_holds (c : ClassFile.Cond) (a b : Int) : Prop := match c with
  | .eq => a = b
  | .ne => ¬ a = b
  | .lt => a < b
  | .ge => b ≤ a
  | .gt => b < a
  | .le => a ≤ b
theorem sx_lt_ok {p q : Int × Int} {a b : Int} {r : Bool} (h : sx_lt p q = some r) (a1 : p.1 ≤ a) (a2 : a ≤ p.2) (b1 : q.1 ≤ b) (b2 : b ≤ q.2) : (r = true ↔ a < b) := by
  unfold sx_lt at h
  cases h1 : sx_le q.1 p.2 with
  | false =>
    rw [h1] at h
    cases h
    have := sx_le_neg h1
    simp only [true_iff]
    omega
  | true =>
    rw [h1] at h
    cases h2 : sx_le q.2 p.1 with
    | false => rw [h2] at h; cases h
    | true =>
      rw [h2] at h
      cases h
      have := sx_le_iff.mp h2
      simp only [Bool.false_eq_true, false_iff]
      omega
theorem sx_ev_ok {p q : Int × Int} {a b : Int} {r : Bool} (h : sx_ev p q = some r) (a1 : p.1 ≤ a) (a2 : a ≤ p.2) (b1 : q.1 ≤ b) (b2 : b ≤ q.2) : (r = true ↔ a = b) := by
  unfold sx_ev at h
  cases h1 : (sx_le q.1 p.2 && sx_le p.1 q.2) with
  | false =>
    rw [h1] at h
    cases h
    rw [Bool.and_eq_false_iff] at h1
    simp only [Bool.false_eq_true, false_iff]
    rcases h1 with h1 | h1
    · have := sx_le_neg h1; omega
    · have := sx_le_neg h1; omega
  | true =>
    rw [h1] at h
    cases h2 : (sx_eq p.1 p.2 && (sx_eq q.1 q.2 && sx_eq p.1 q.1)) with
    | false => rw [h2] at h; cases h
    | true =>
      rw [h2] at h
      cases h
      simp only [Bool.and_eq_true, sx_eq_iff] at h2
      simp only [true_iff]
      omega
theorem sx_map_not {o : Option Bool} {r : Bool} (h : o.map not = some r) : o = some (!r) := by
  cases o with
  | none => cases h
  | some b => cases h; simp
theorem sx_dec_ok {c : ClassFile.Cond} {p q : Int × Int} {a b : Int} {r : Bool} (h : sx_dec c p q = some r) (a1 : p.1 ≤ a) (a2 : a ≤ p.2) (b1 : q.1 ≤ b) (b2 : b ≤ q.2) : (r = true ↔ sx_holds c a b) := by
  unfold sx_dec at h
  unfold sx_holds
  cases c with
  | eq => exact sx_ev_ok h a1 a2 b1 b2
  | ne =>
    have := sx_ev_ok (sx_map_not h) a1 a2 b1 b2
    cases r <;> simp_all
  | lt => exact sx_lt_ok h a1 a2 b1 b2
  | ge =>
    have := sx_lt_ok (sx_map_not h) a1 a2 b1 b2
    cases r <;> simp_all <;> omega
  | gt => exact sx_lt_ok h b1 b2 a1 a2
  | le =>
    have := sx_lt_ok (sx_map_not h) b1 b2 a1 a2
    cases r <;> simp_all <;> omega
theorem sx_holds_neg {c : ClassFile.Cond} {a b : Int} (h : ¬ sx_holds c a b) : sx_holds (sx_neg c) a b := by
  cases c <;> simp only [sx_holds, sx_neg] at * <;> omega
theorem sx_holds_flip {c : ClassFile.Cond} {a b : Int} (h : sx_holds c a b) : sx_holds (sx_flip c) b a := by
  cases c <;> simp only [sx_holds, sx_flip] at * <;> omega
theorem sx_box_ok {k : Nat} {lo hi : Int} {p : Int × Int} (hB : sx_gB ρ B) (hk : B[k]? = some p) (h1 : lo ≤ (ρ k).toInt) (h2 : (ρ k).toInt ≤ hi) : ∃ b ∈ sx_box k lo hi B, sx_gB ρ b := by
  unfold sx_box
  rw [show sx_le lo hi = true from sx_le_iff.mpr (by omega)]
  refine ⟨_, List.mem_singleton.mpr rfl, fun j q hj => ?_⟩
  by_cases e : j = k
  · subst e
    rw [List.getElem?_set_self (List.getElem?_eq_some_iff.mp hk).1] at hj
    cases hj
    exact ⟨h1, h2⟩
  · rw [List.getElem?_set_ne (Ne.symm e)] at hj
    exact hB j q hj
theorem sx_ref_ok {c : ClassFile.Cond} {k : Nat} {cc b : Int} {q : Int × Int} (hB : sx_gB ρ B) (b1 : q.1 ≤ b) (b2 : b ≤ q.2) (h : sx_holds c ((ρ k).toInt + cc) b) : ∃ B' ∈ sx_ref c k cc q B, sx_gB ρ B' := by
  unfold sx_ref
  cases hk : B[k]? with
  | none => exact ⟨B, List.mem_singleton.mpr rfl, hB⟩
  | some p =>
    obtain ⟨p1, p2⟩ := hB k p hk
    have s1 : Int.sub (Int.sub q.2 1) cc = q.2 - 1 - cc := rfl
    have s2 : Int.sub q.2 cc = q.2 - cc := rfl
    have s3 : Int.sub (Int.add q.1 1) cc = q.1 + 1 - cc := rfl
    have s4 : Int.sub q.1 cc = q.1 - cc := rfl
    cases c with
    | lt => exact sx_box_ok hB hk p1 (sx_mn_le p2 (by simp only [sx_holds] at h; omega))
    | le => exact sx_box_ok hB hk p1 (sx_mn_le p2 (by simp only [sx_holds] at h; omega))
    | gt => exact sx_box_ok hB hk (sx_mx_le p1 (by simp only [sx_holds] at h; omega)) p2
    | ge => exact sx_box_ok hB hk (sx_mx_le p1 (by simp only [sx_holds] at h; omega)) p2
    | eq => exact sx_box_ok hB hk (sx_mx_le p1 (by simp only [sx_holds] at h; omega)) (sx_mn_le p2 (by simp only [sx_holds] at h; omega))
    | ne =>
      simp only [sx_holds] at h
      show ∃ B' ∈ (bif sx_eq q.1 q.2 then _ else _), _
      cases he : sx_eq q.1 q.2 with
      | false => exact ⟨B, List.mem_singleton.mpr rfl, hB⟩
      | true =>
        have e := sx_eq_iff.mp he
        simp only [cond_true]
        by_cases hl : (ρ k).toInt + cc < b
        · obtain ⟨b', m, g⟩ := sx_box_ok (lo := p.1) (hi := sx_mn p.2 (Int.sub (Int.sub q.2 1) cc)) hB hk p1 (sx_mn_le p2 (by omega))
          exact ⟨b', List.mem_append_left _ m, g⟩
        · obtain ⟨b', m, g⟩ := sx_box_ok (lo := sx_mx p.1 (Int.sub (Int.add q.1 1) cc)) (hi := p.2) hB hk (sx_mx_le p1 (by omega)) p2
          exact ⟨b', List.mem_append_right _ m, g⟩
theorem sx_tag_ok {v : sx_V} {w : Value} {k : Nat} {c : Int} (hg : sx_g ρ v w) (h : sx_tag v = some (k, c)) : ∃ n : Int32, w = .int n ∧ n.toInt = (ρ k).toInt + c := by
  match v, hg, h with
  | .inr (.inl (_, _, some (k', c'))), hg, h =>
    cases h
    obtain ⟨n, e, -, -, h3⟩ := hg
    exact ⟨n, e, h3 _ _ rfl⟩
theorem sx_br_ok {c : ClassFile.Cond} {x y : sx_V} {x' y' : Value} {bs : List (Bool × sx_B)} (hB : sx_gB ρ B) (h : sx_br c x y B = some bs) (hx : sx_g ρ x x') (hy : sx_g ρ y y') :
    ∃ a b : Int32, x' = .int a ∧ y' = .int b ∧ ∃ q ∈ bs, sx_gB ρ q.2 ∧ (q.1 = true ↔ sx_holds c a.toInt b.toInt) := by
  unfold sx_br at h
  split at h
  case h_2 => cases h
  rename_i p q hp hq
  obtain ⟨a, ea, a1, a2⟩ := sx_g_int hB hx hp
  obtain ⟨b, eb, b1, b2⟩ := sx_g_int hB hy hq
  refine ⟨a, b, ea, eb, ?_⟩
  have pick : ∀ {L R : List sx_B}, (sx_holds c a.toInt b.toInt → ∃ B' ∈ L, sx_gB ρ B') → (¬ sx_holds c a.toInt b.toInt → ∃ B' ∈ R, sx_gB ρ B') → ∃ z ∈ L.map (fun b => (true, b)) ++ R.map (fun b => (false, b)), sx_gB ρ z.2 ∧ (z.1 = true ↔ sx_holds c a.toInt b.toInt) := by
    intro L R hL hR
    by_cases hh : sx_holds c a.toInt b.toInt
    · obtain ⟨b', m, g⟩ := hL hh
      exact ⟨(true, b'), List.mem_append_left _ (List.mem_map.mpr ⟨b', m, rfl⟩), g, by simp [hh]⟩
    · obtain ⟨b', m, g⟩ := hR hh
      exact ⟨(false, b'), List.mem_append_right _ (List.mem_map.mpr ⟨b', m, rfl⟩), g, by simp [hh]⟩
  split at h
  · rename_i r hr
    cases h
    exact ⟨_, List.mem_singleton.mpr rfl, hB, sx_dec_ok hr a1 a2 b1 b2⟩
  · split at h
    · rename_i k cc ht
      cases h
      obtain ⟨a', ea', ha⟩ := sx_tag_ok hx ht
      rw [ea] at ea'
      cases ea'
      exact pick (fun hh => sx_ref_ok hB b1 b2 (by rw [← ha]; exact hh)) (fun hh => sx_ref_ok hB b1 b2 (by rw [← ha]; exact sx_holds_neg hh))
    · split at h
      · rename_i k cc ht
        cases h
        obtain ⟨b', eb', hb⟩ := sx_tag_ok hy ht
        rw [eb] at eb'
        cases eb'
        exact pick (fun hh => sx_ref_ok hB a1 a2 (by rw [← hb]; exact sx_holds_flip hh)) (fun hh => sx_ref_ok hB a1 a2 (by rw [← hb]; exact sx_holds_flip (sx_holds_neg hh)))
      · cases h
        by_cases hh : sx_holds c a.toInt b.toInt
        · exact ⟨(true, B), List.mem_cons_self, hB, by simp [hh]⟩
        · exact ⟨(false, B), List.mem_cons_of_mem _ List.mem_cons_self, hB, by simp [hh]⟩
end SX2
end
section
/-! the heap's words, and the instructions -/
theorem sx_hget_set (i j : Nat) (e : sx_E) (H : sx_H) : sx_hget (sx_hset i e H) j = if j = i then some e else sx_hget H j := by
  obtain ⟨a, b, n⟩ := H
  simp only [sx_hget, sx_hset, sx_get_put]
  by_cases h : j = i
  · rw [if_pos h, if_pos h]
  · rw [if_neg h, if_neg h]
section SX3
variable {ρ : Nat → Int32} {B : sx_B} {tt : List (List FieldType)} {h0 : am_H} {H : sx_H} {h : am_H}
theorem sx_gH_set {i : Nat} {e0 e : sx_E} {x : am_E} (hH : sx_gH tt ρ h0 H h) (hi : sx_hget H i = some e0) (hx : sx_gE tt ρ e x) : sx_gH tt ρ h0 (sx_hset i e H) (h.set i x) := by
  obtain ⟨h1, h2, h3, h4⟩ := hH
  obtain ⟨x0, hx0, -⟩ := h3 i e0 hi
  have hl : i < h.length := (List.getElem?_eq_some_iff.mp hx0).1
  refine ⟨?_, by rw [List.length_set]; exact h2, fun j e' hj => ?_, fun j hj hn => ?_⟩
  · rw [List.length_set, h1]
    obtain ⟨a, b, n⟩ := H
    rfl
  · rw [sx_hget_set] at hj
    by_cases hji : j = i
    · subst hji
      rw [if_pos rfl] at hj
      cases hj
      exact ⟨x, List.getElem?_set_self hl, hx⟩
    · rw [if_neg hji] at hj
      rw [List.getElem?_set_ne (Ne.symm hji)]
      exact h3 j e' hj
  · obtain ⟨a, b, n⟩ := H
    simp only [sx_hset, sx_get_put] at hn
    by_cases hji : j = i
    · rw [if_pos hji] at hn; cases hn
    · rw [if_neg hji] at hn
      rw [List.getElem?_set_ne (Ne.symm hji)]
      exact h4 j hj hn
theorem sx_gH_push {e : sx_E} {x : am_E} (hH : sx_gH tt ρ h0 H h) (hlt : H.2.2 < 999999999) (hx : sx_gE tt ρ e x) : sx_gH tt ρ h0 (sx_hpush e H) (h ++ [x]) := by
  obtain ⟨a, b, n⟩ := H
  obtain ⟨h1, h2, h3, h4⟩ := hH
  have hlt' : n < 999999999 := hlt
  have hn : h.length = n := by
    have h1' := h1
    simp only at h1'
    rw [if_neg (by omega)] at h1'
    exact h1'
  have ep : sx_hpush e (a, b, n) = ((n, e) :: a, b, n + 1) := by simp only [sx_hpush, sx_N_eq]
  rw [ep]
  refine ⟨by rw [List.length_append, hn, if_neg (by show ¬ 1000000000 ≤ n + 1; omega)]; rfl, by simp; omega, fun j e' hj => ?_, fun j hj hg => ?_⟩
  · simp only [sx_hget, sx_get] at hj
    cases hb : Nat.beq n j with
    | true =>
      have := Nat.eq_of_beq_eq_true hb
      subst this
      simp only [hb, cond_true] at hj
      cases hj
      refine ⟨x, ?_, hx⟩
      rw [← hn]
      simp
    | false =>
      simp only [hb, cond_false] at hj
      obtain ⟨y, hy, gy⟩ := h3 j e' hj
      exact ⟨y, by rw [List.getElem?_append_left (List.getElem?_eq_some_iff.mp hy).1]; exact hy, gy⟩
  · simp only [sx_get] at hg
    cases hb : Nat.beq n j with
    | true => simp only [hb, cond_true] at hg; cases hg
    | false =>
      simp only [hb, cond_false] at hg
      rw [List.getElem?_append_left (by omega)]
      exact h4 j hj hg
theorem sx_in_ok {v : sx_V} {w : Value} {n j : Nat} (hB : sx_gB ρ B) (hg : sx_g ρ v w) (hi : sx_in B v n = some j) : ∃ i : Int32, w = .int i ∧ ¬ (i < 0 ∨ n ≤ i.toNatClampNeg) ∧ i.toNatClampNeg = j ∧ j < n := by
  unfold sx_in at hi
  split at hi
  case h_2 => cases hi
  rename_i c hc
  match c, hc, hi with
  | .negSucc m, hc, hi => cases hi
  | .ofNat m, hc, hi =>
    cases hb : Nat.blt m n with
    | false => simp only [hb, cond_false] at hi; cases hi
    | true =>
      simp only [hb, cond_true] at hi
      cases hi
      obtain ⟨i, e, he⟩ := sx_g_con hB hg hc
      have hk : j < n := by
        have := hb
        simp only [Nat.blt_eq] at this
        exact this
      have e1 : i.toNatClampNeg = j := by
        show i.toInt.toNat = j
        rw [he]
        rfl
      refine ⟨i, e, ?_, e1, hk⟩
      rw [e1]
      rintro (h | h)
      · have := Int32.lt_iff_toInt_lt.mp h
        rw [he] at this
        have z : (0 : Int32).toInt = 0 := rfl
        have : (Int.ofNat j) = (j : Int) := rfl
        omega
      · omega
theorem sx_inn_ok {v : sx_V} {w : Value} {n : Nat} (hB : sx_gB ρ B) (hg : sx_g ρ v w) (hi : sx_inn B v n = true) : ∃ i : Int32, w = .int i ∧ ¬ (i < 0 ∨ n ≤ i.toNatClampNeg) ∧ i.toNatClampNeg < n := by
  unfold sx_inn at hi
  split at hi
  case h_2 => cases hi
  rename_i p hp
  obtain ⟨i, e, h1, h2⟩ := sx_g_int hB hg hp
  rw [Bool.and_eq_true, sx_le_iff, sx_le_iff] at hi
  have a1 : Int.add p.2 1 = p.2 + 1 := rfl
  have a2 : (Int.ofNat n) = (n : Int) := rfl
  have e1 : i.toNatClampNeg = i.toInt.toNat := rfl
  have hlt : i.toNatClampNeg < n := by rw [e1]; omega
  refine ⟨i, e, ?_, hlt⟩
  rintro (h | h)
  · have := Int32.lt_iff_toInt_lt.mp h
    have z : (0 : Int32).toInt = 0 := rfl
    omega
  · omega
/-- constants: rows by address, the script's elements and its length as symbols, the texts, a reference that is only handed on -/
def sx_gK (ρ : Nat → Int32) (K : sx_K) (cst : am_K) : Prop :=
  (∀ a r, sx_get a K = some r → a ≠ 4 ∧ ((a < 4 ∧ ∃ L : List Int32, cst.1[a]? = some L ∧ L.map Int32.toInt = r) ∨ (12 ≤ a ∧ ∃ L : List Int32, cst.2.1[a - 12]? = some L ∧ L.map Int32.toInt = r))) ∧
  (∃ L : List Int32, cst.1[4]? = some L ∧ L.length ≤ 7 ∧ (ρ 7).toInt = (L.length : Int) ∧ ∀ k, k < L.length → L.getD k 0 = ρ k) ∧ cst.2.1.length = 4 ∧ (cst.2.2 = .ref 7 ∨ cst.2.2 = .null)
variable {cst : am_K} {cl : List vw_C} {K : sx_K} {I : Instr} {X : am_X} {pc pc1 : Nat} {l l1 : sx_L} {l' : am_L} {st : List sx_V} {st' : List Value} {h' : am_H} {ss : List sx_S}
/-- one of the states behind an instruction is as the abstract machine's -/
def sx_ok1 (cst : am_K) (cl : List vw_C) (tt : List (List FieldType)) (ρ : Nat → Int32) (h0 : am_H) (I : Instr) (X : am_X) (pc : Nat) (l' : am_L) (st' : List Value) (h' : am_H) (ss : List sx_S) : Prop :=
  ∃ q ∈ ss, ∃ F, am_s cst cl tt I X pc l' st' h' = some F ∧ sx_gB ρ q.1 ∧ q.2.1 = F.1 ∧ sx_gL ρ q.2.2.1 F.2.1 ∧ sx_gS ρ q.2.2.2.1 F.2.2.1 ∧ sx_gH tt ρ h0 q.2.2.2.2 F.2.2.2
theorem sx_one_ok {H1 : sx_H} {s1 : List sx_V} {m1 : am_L} {t1 : List Value} {k1 : am_H} (e : am_s cst cl tt I X pc l' st' h' = some (pc1, m1, t1, k1)) (gB : sx_gB ρ B) (gL : sx_gL ρ l1 m1) (gS : sx_gS ρ s1 t1) (gH : sx_gH tt ρ h0 H1 k1) : sx_ok1 cst cl tt ρ h0 I X pc l' st' h' [(B, pc1, l1, s1, H1)] :=
  ⟨_, List.mem_singleton.mpr rfl, _, e, gB, rfl, gL, gS, gH⟩
theorem sx_psh_ok {o : Option sx_V} {st1 : List Value} (hf : sx_psh B pc1 l o st H = some ss) (gB : sx_gB ρ B) (gL : sx_gL ρ l l') (gS : sx_gS ρ st st1) (gH : sx_gH tt ρ h0 H h')
    (k : ∀ v, o = some v → ∃ w, sx_g ρ v w ∧ am_s cst cl tt I X pc l' st' h' = some (pc1, l', w :: st1, h')) : sx_ok1 cst cl tt ρ h0 I X pc l' st' h' ss := by
  unfold sx_psh at hf
  cases o with
  | none => cases hf
  | some v =>
    simp only [sx_vf_eq] at hf
    cases hf
    obtain ⟨w, hw, e⟩ := k v rfl
    exact sx_one_ok e gB gL ⟨hw, gS⟩ gH
theorem sx_bin_ok {f : sx_V → sx_V → Option sx_V} (hf : sx_bin B pc l f st H = some ss) (gB : sx_gB ρ B) (gL : sx_gL ρ l l') (gS : sx_gS ρ st st') (gH : sx_gH tt ρ h0 H h')
    (k : ∀ x y v x' y', f x y = some v → sx_g ρ x x' → sx_g ρ y y' → ∃ w, sx_g ρ v w ∧ ∀ t, am_s cst cl tt I X pc l' (y' :: x' :: t) h' = some (pc + 1, l', w :: t, h')) : sx_ok1 cst cl tt ρ h0 I X pc l' st' h' ss := by
  unfold sx_bin at hf
  split at hf
  case h_2 => cases hf
  rename_i y x st0
  obtain ⟨y', t1, rfl, gy, gS⟩ := sx_gS_cons gS
  obtain ⟨x', t2, rfl, gx, gS⟩ := sx_gS_cons gS
  refine sx_psh_ok hf gB gL gS gH (fun v hv => ?_)
  obtain ⟨w, hw, e⟩ := k x y v x' y' hv gx gy
  exact ⟨w, hw, e t2⟩
theorem sx_un_ok {f : sx_V → Option sx_V} (hf : sx_un B pc l f st H = some ss) (gB : sx_gB ρ B) (gL : sx_gL ρ l l') (gS : sx_gS ρ st st') (gH : sx_gH tt ρ h0 H h')
    (k : ∀ x v x', f x = some v → sx_g ρ x x' → ∃ w, sx_g ρ v w ∧ ∀ t, am_s cst cl tt I X pc l' (x' :: t) h' = some (pc + 1, l', w :: t, h')) : sx_ok1 cst cl tt ρ h0 I X pc l' st' h' ss := by
  unfold sx_un at hf
  split at hf
  case h_2 => cases hf
  rename_i x st0
  obtain ⟨x', t2, rfl, gx, gS⟩ := sx_gS_cons gS
  refine sx_psh_ok hf gB gL gS gH (fun v hv => ?_)
  obtain ⟨w, hw, e⟩ := k x v x' hv gx
  exact ⟨w, hw, e t2⟩
theorem sx_load_ok {f : sx_V → Bool} {i : Nat} (hf : sx_psh B pc1 l (sx_load f i l) st H = some ss) (gB : sx_gB ρ B) (gL : sx_gL ρ l l') (gS : sx_gS ρ st st') (gH : sx_gH tt ρ h0 H h')
    (k : ∀ v w, f v = true → sx_g ρ v w → am_ld i l' = some w → am_s cst cl tt I X pc l' st' h' = some (pc1, l', w :: st', h')) : sx_ok1 cst cl tt ρ h0 I X pc l' st' h' ss := by
  refine sx_psh_ok hf gB gL gS gH (fun v hv => ?_)
  unfold sx_load at hv
  split at hv
  case h_2 => cases hv
  rename_i v' hg
  cases hc : f v' with
  | false => rw [hc] at hv; cases hv
  | true =>
    rw [hc] at hv
    cases hv
    obtain ⟨w, e, g⟩ := sx_gL_get i gL _ hg
    exact ⟨w, g, k _ w hc g e⟩
theorem sx_sto_ok {f : sx_V → Bool} {g : sx_V → sx_L} {g' : Value → am_L} (hf : sx_sto f B pc1 g st H = some ss) (gB : sx_gB ρ B) (gS : sx_gS ρ st st') (gH : sx_gH tt ρ h0 H h') (gg : ∀ v w, sx_g ρ v w → sx_gL ρ (g v) (g' w))
    (k : ∀ v w t, f v = true → sx_g ρ v w → am_s cst cl tt I X pc l' (w :: t) h' = some (pc1, g' w, t, h')) : sx_ok1 cst cl tt ρ h0 I X pc l' st' h' ss := by
  unfold sx_sto at hf
  split at hf
  case h_2 => cases hf
  rename_i v st0
  obtain ⟨w, t, rfl, gv, gS⟩ := sx_gS_cons gS
  cases hc : f v with
  | false => rw [hc] at hf; cases hf
  | true =>
    rw [hc] at hf
    cases hf
    exact sx_one_ok (k v w t hc gv) gB (gg v w gv) gS gH
theorem sx_jump_ok {off : Int} (h : sx_jump pc off = true) : am_j pc off = some (sx_to pc off) := by
  have := sx_le_iff.mp h
  unfold am_j sx_to
  have e : Int.add (Int.ofNat pc) off = (pc : Int) + off := rfl
  rw [e] at this ⊢
  rw [if_pos this]
theorem sx_fork_ok {o : Option (List (Bool × sx_B))} {off : Int} {b : Prop} [Decidable b] {t1 : List Value} (hf : sx_fork o pc off l st H = some ss) (gL : sx_gL ρ l l') (gS : sx_gS ρ st t1) (gH : sx_gH tt ρ h0 H h')
    (k : ∀ bs, o = some bs → am_s cst cl tt I X pc l' st' h' = am_br b pc off l' t1 h' ∧ ∃ q ∈ bs, sx_gB ρ q.2 ∧ (q.1 = true ↔ b)) : sx_ok1 cst cl tt ρ h0 I X pc l' st' h' ss := by
  unfold sx_fork at hf
  cases hj : sx_jump pc off with
  | false => rw [hj] at hf; cases hf
  | true =>
    rw [hj] at hf
    simp only [cond_true] at hf
    split at hf
    case h_2 => cases hf
    rename_i bs
    cases hf
    obtain ⟨e, q, hq, gB, hb⟩ := k bs rfl
    refine ⟨_, List.mem_map.mpr ⟨q, hq, rfl⟩, ?_⟩
    unfold am_br at e
    rw [sx_jump_ok hj] at e
    by_cases hbb : b
    · simp only [if_pos hbb] at e
      refine ⟨_, e, gB, ?_, gL, gS, gH⟩
      rw [hb.mpr hbb]
      rfl
    · simp only [if_neg hbb] at e
      refine ⟨_, e, gB, ?_, gL, gS, gH⟩
      have : q.1 = false := by
        cases hq1 : q.1 with
        | false => rfl
        | true => exact absurd (hb.mp hq1) hbb
      rw [this]
      rfl
theorem sx_isrow_ok {f : FieldType → Bool} {e : sx_E} {r : FieldType × Nat × sx_V × sx_L} (h : sx_isrow f e = some r) : e = .inl r ∧ f r.1 = true := by
  unfold sx_isrow at h
  split at h
  · rename_i e'
    cases hc : f e'.1 with
    | false => rw [hc] at h; cases h
    | true =>
      rw [hc] at h
      cases h
      exact ⟨rfl, hc⟩
  · cases h
theorem sx_elt_nil (d : sx_V) (j : Nat) : sx_elt d [] j = d := rfl
theorem sx_aload_ok {f : FieldType → Bool} {low : Nat → sx_V → Option sx_V} (hf : sx_aload f low B pc l st H = some ss) (gB : sx_gB ρ B) (gL : sx_gL ρ l l') (gS : sx_gS ρ st st') (gH : sx_gH tt ρ h0 H h')
    (k7 : ∀ i, low 7 i = none)
    (kl : ∀ a i v i' t, a < 16 → low a i = some v → sx_g ρ i i' → ∃ w, sx_g ρ v w ∧ am_s cst cl tt I X pc l' (i' :: .ref a :: t) h' = some (pc + 1, l', w :: t, h'))
    (kh : ∀ a (e : FieldType × Nat × sx_V × sx_L) x (i : Int32) t, ¬ a < 16 → f e.1 = true → h'[a - 16]? = some x → sx_gE tt ρ (.inl e) x → ¬ (i < 0 ∨ e.2.1 ≤ i.toNatClampNeg) → i.toNatClampNeg < e.2.1 → ∃ w, sx_g ρ (sx_elt e.2.2.1 e.2.2.2 i.toNatClampNeg) w ∧ am_s cst cl tt I X pc l' (.int i :: .ref a :: t) h' = some (pc + 1, l', w :: t, h')) : sx_ok1 cst cl tt ρ h0 I X pc l' st' h' ss := by
  unfold sx_aload at hf
  split at hf
  case h_2 => cases hf
  rename_i i a st0
  obtain ⟨i', t1, rfl, gi, gS1⟩ := sx_gS_cons gS
  obtain ⟨a', t2, rfl, ga, gS2⟩ := sx_gS_cons gS1
  cases ha : Nat.blt a 16 with
  | true =>
    rw [ha] at hf
    simp only [Nat.blt_eq] at ha
    refine sx_psh_ok (o := low a i) hf gB gL gS2 gH (fun v hv => ?_)
    rcases ga with rfl | ⟨rfl, -⟩
    · exact kl a i v i' t2 ha hv gi
    · rw [k7] at hv; cases hv
  | false =>
    have ha' : ¬ a < 16 := fun h => by
      rw [show Nat.blt a 16 = true by simp only [Nat.blt_eq]; exact h] at ha
      cases ha
    rw [ha] at hf
    simp only [cond_false] at hf
    split at hf
    case h_2 => cases hf
    rename_i e0 he0
    split at hf
    case h_2 => cases hf
    rename_i e he
    obtain ⟨rfl, hfe⟩ := sx_isrow_ok he
    obtain ⟨x, hx, gx⟩ := gH.2.2.1 _ _ he0
    have ea : a' = .ref a := by
      rcases ga with e | ⟨e, -⟩
      · exact e
      · omega
    subst ea
    split at hf
    · rename_i j hj
      obtain ⟨i2, rfl, hi, ej, hlt⟩ := sx_in_ok gB gi hj
      refine sx_psh_ok hf gB gL gS2 gH (fun v hv => ?_)
      cases hv
      obtain ⟨w, gw, e⟩ := kh a e x i2 t2 ha' hfe hx gx hi (by omega)
      rw [ej] at gw
      exact ⟨w, gw, e⟩
    · cases hc : (e.2.2.2.isEmpty && sx_inn B i e.2.1) with
      | false => rw [hc] at hf; cases hf
      | true =>
        rw [hc] at hf
        simp only [cond_true] at hf
        rw [Bool.and_eq_true] at hc
        obtain ⟨i2, rfl, hi, hlt⟩ := sx_inn_ok gB gi hc.2
        refine sx_psh_ok hf gB gL gS2 gH (fun v hv => ?_)
        cases hv
        obtain ⟨w, gw, e⟩ := kh a e x i2 t2 ha' hfe hx gx hi hlt
        rw [List.isEmpty_iff.mp hc.1, sx_elt_nil] at gw
        exact ⟨w, gw, e⟩
theorem sx_same_eq {v w : sx_V} (h : sx_same v w = true) : v = w := by
  unfold sx_same at h
  split at h
  · rw [sx_eq_iff.mp h]
  · rw [Bool.and_eq_true] at h
    rw [sx_eq_iff.mp h.1, sx_eq_iff.mp h.2]
  · simp only [Bool.and_eq_true] at h
    rw [sx_eq_iff.mp h.1, sx_eq_iff.mp h.2.1, Nat.eq_of_beq_eq_true h.2.2.1, sx_eq_iff.mp h.2.2.2]
  · rw [sx_eq_iff.mp h]
  · rfl
  · rw [Nat.eq_of_beq_eq_true h]
  · rfl
  · cases h
theorem sx_wr_elt (d : sx_V) (j k : Nat) (v : sx_V) (ov : sx_L) : sx_elt d (sx_wr d j v ov) k = if k = j then v else sx_elt d ov k := by
  unfold sx_wr
  cases h : sx_same v (sx_elt d ov j) with
  | true =>
    have e := sx_same_eq h
    simp only [cond_true]
    by_cases hk : k = j
    · rw [if_pos hk, hk, ← e]
    · rw [if_neg hk]
  | false =>
    simp only [cond_false]
    unfold sx_elt
    rw [sx_get_put]
    by_cases hk : k = j
    · rw [if_pos hk, if_pos hk]
    · rw [if_neg hk, if_neg hk]
theorem sx_istop_eq {v : sx_V} (h : sx_istop v = true) : v = sx_top := by
  unfold sx_istop at h
  split at h
  · rw [Bool.and_eq_true] at h
    rw [sx_eq_iff.mp h.1, sx_eq_iff.mp h.2]
  · cases h
theorem sx_astore_ok {f : FieldType → Bool} {g : FieldType → sx_V → Option sx_V} (hf : sx_astore f g B pc l st H = some ss) (gB : sx_gB ρ B) (gL : sx_gL ρ l l') (gS : sx_gS ρ st st') (gH : sx_gH tt ρ h0 H h')
    (kh : ∀ a (e : FieldType × Nat × sx_V × sx_L) x v v1 w (i : Int32) t, ¬ a < 16 → f e.1 = true → h'[a - 16]? = some x → sx_gE tt ρ (.inl e) x → g e.1 v = some v1 → sx_g ρ v w → ¬ (i < 0 ∨ e.2.1 ≤ i.toNatClampNeg) → i.toNatClampNeg < e.2.1 →
      ∃ x1, am_s cst cl tt I X pc l' (w :: .int i :: .ref a :: t) h' = some (pc + 1, l', t, h'.set (a - 16) x1) ∧ sx_gE tt ρ (.inl (e.1, e.2.1, e.2.2.1, sx_wr e.2.2.1 i.toNatClampNeg v1 e.2.2.2)) x1 ∧ (e.2.2.2 = [] → e.2.2.1 = sx_top → sx_isI v1 = true → sx_gE tt ρ (.inl e) x1)) : sx_ok1 cst cl tt ρ h0 I X pc l' st' h' ss := by
  unfold sx_astore at hf
  split at hf
  case h_2 => cases hf
  rename_i v i a st0
  obtain ⟨w, t0, rfl, gv, gS0⟩ := sx_gS_cons gS
  obtain ⟨i', t1, rfl, gi, gS1⟩ := sx_gS_cons gS0
  obtain ⟨a', t2, rfl, ga, gS2⟩ := sx_gS_cons gS1
  cases ha : Nat.blt a 16 with
  | true => rw [ha] at hf; cases hf
  | false =>
    have ha' : ¬ a < 16 := fun h => by
      rw [show Nat.blt a 16 = true by simp only [Nat.blt_eq]; exact h] at ha
      cases ha
    rw [ha] at hf
    simp only [cond_false] at hf
    split at hf
    case h_2 => cases hf
    rename_i e0 he0
    split at hf
    case h_2 => cases hf
    rename_i e he
    obtain ⟨rfl, hfe⟩ := sx_isrow_ok he
    obtain ⟨x, hx, gx⟩ := gH.2.2.1 _ _ he0
    have ea : a' = .ref a := by
      rcases ga with e | ⟨e, -⟩
      · exact e
      · omega
    subst ea
    split at hf
    · rename_i j v1 hj hv1
      obtain ⟨i2, rfl, hi, ej, hlt⟩ := sx_in_ok gB gi hj
      obtain ⟨x1, e1, g1, -⟩ := kh a e x v v1 w i2 t2 ha' hfe hx gx hv1 gv hi (by omega)
      rw [ej] at g1
      cases hf
      exact sx_one_ok e1 gB gL gS2 (sx_gH_set gH he0 g1)
    · rename_i v1 hj hv1
      cases hc : (e.2.2.2.isEmpty && (sx_istop e.2.2.1 && (sx_isI v1 && sx_inn B i e.2.1))) with
      | false => rw [hc] at hf; cases hf
      | true =>
        rw [hc] at hf
        simp only [cond_true] at hf
        simp only [Bool.and_eq_true] at hc
        obtain ⟨c1, c2, c3, c4⟩ := hc
        obtain ⟨i2, rfl, hi, hlt⟩ := sx_inn_ok gB gi c4
        obtain ⟨x1, e1, -, g1⟩ := kh a e x v v1 w i2 t2 ha' hfe hx gx hv1 gv hi hlt
        cases hf
        exact sx_one_ok e1 gB gL gS2 (sx_gH_set gH he0 (g1 (List.isEmpty_iff.mp c1) (sx_istop_eq c2) c3))
    · cases hf
end SX3
end
section
/-! every instruction of the interval machine is the abstract machine's -/
section SX4
variable {ρ : Nat → Int32} {B : sx_B} {tt : List (List FieldType)} {h0 : am_H} {H : sx_H} {h : am_H}
variable {cst : am_K} {cl : List vw_C} {K : sx_K} {I : Instr} {X : am_X} {pc pc1 : Nat} {l l1 : sx_L} {l' : am_L} {st : List sx_V} {st' : List Value} {h' : am_H} {ss : List sx_S}
theorem sx_blt {a b : Nat} : Nat.blt a b = true ↔ a < b := by rw [Nat.blt_eq]
theorem sx_blt_neg {a b : Nat} (h : Nat.blt a b = false) : ¬ a < b := fun hl => by
  rw [sx_blt.mpr hl] at h
  cases h
theorem sx_ble {a b : Nat} : Nat.ble a b = true ↔ a ≤ b := by rw [Nat.ble_eq]
theorem sx_beqn {a b : Nat} : Nat.beq a b = true ↔ a = b := ⟨Nat.eq_of_beq_eq_true, fun e => by subst e; simp⟩
theorem sx_beq_neg {a b : Nat} (h : Nat.beq a b = false) : ¬ a = b := fun e => by
  rw [sx_beqn.mpr e] at h
  cases h
def sx_hp (c : ClassFile.Cond) (a b : Int32) : Prop := match c with
  | .eq => a = b
  | .ne => ¬ a = b
  | .lt => a < b
  | .ge => b ≤ a
  | .gt => b < a
  | .le => a ≤ b
theorem sx_hp_iff {c : ClassFile.Cond} {a b : Int32} : sx_holds c a.toInt b.toInt ↔ sx_hp c a b := by
  cases c <;> simp only [sx_holds, sx_hp, Int32.lt_iff_toInt_lt, Int32.le_iff_toInt_le, ← Int32.toInt_inj]
theorem sx_low_ok {a : Nat} {i v : sx_V} {i' : Value} (gK : sx_gK ρ K cst) (gB : sx_gB ρ B) (h : sx_low K B a i = some v) (gi : sx_g ρ i i') :
    ∃ (x : Int32) (L : List Int32), i' = .int x ∧ ((a < 8 ∧ cst.1[a]? = some L) ∨ (12 ≤ a ∧ cst.2.1[a - 12]? = some L)) ∧ ¬ (x < 0 ∨ L.length ≤ x.toNatClampNeg) ∧ sx_g ρ v (.int (L.getD x.toNatClampNeg 0)) := by
  obtain ⟨k1, ⟨S, s1, s2, s3, s4⟩, -, -⟩ := gK
  have idx : ∀ {m : Nat} {n : Nat}, sx_con B i = some (.ofNat m) → m < n → ∃ x : Int32, i' = .int x ∧ x.toNatClampNeg = m ∧ ¬ (x < 0 ∨ n ≤ x.toNatClampNeg) := by
    intro m n hc hl
    obtain ⟨x, e, he⟩ := sx_g_con gB gi hc
    have e1 : x.toNatClampNeg = m := by
      show x.toInt.toNat = m
      rw [he]
      rfl
    refine ⟨x, e, e1, ?_⟩
    rw [e1]
    rintro (hq | hq)
    · have := Int32.lt_iff_toInt_lt.mp hq
      rw [he] at this
      have z : (0 : Int32).toInt = 0 := rfl
      have : (Int.ofNat m) = (m : Int) := rfl
      omega
    · omega
  unfold sx_low at h
  cases ha : Nat.beq a 4 with
  | true =>
    have ea := sx_beqn.mp ha
    subst ea
    simp only [ha, cond_true] at h
    split at h
    case h_2 => cases h
    rename_i p hp
    split at h
    case h_2 => cases h
    rename_i m hm
    cases hc : (sx_le (.ofNat (m + 1)) p.1 && Nat.blt m 7) with
    | false => simp only [hc, cond_false] at h; cases h
    | true =>
      simp only [hc, cond_true] at h
      rw [Bool.and_eq_true] at hc
      have c1 := sx_le_iff.mp hc.1
      have b7 := gB 7 p hp
      have e0 : (Int.ofNat (m + 1)) = ((m + 1 : Nat) : Int) := rfl
      have hl : m < S.length := by
        rw [e0] at c1
        omega
      obtain ⟨x, ex, e1, e2⟩ := idx hm hl
      refine ⟨x, S, ex, Or.inl ⟨by decide, s1⟩, e2, ?_⟩
      rw [e1, s4 m hl]
      split at h
      case h_2 => cases h
      rename_i q hq
      obtain ⟨q1, q2⟩ := gB m q hq
      cases hqe : sx_eq q.1 q.2 with
      | true =>
        simp only [hqe, cond_true] at h
        cases h
        have := sx_eq_iff.mp hqe
        exact ⟨_, rfl, by omega⟩
      | false =>
        simp only [hqe, cond_false] at h
        cases h
        have t := sx_g_top (ρ := ρ) (ρ m)
        obtain ⟨n, en, t1, t2, -⟩ := t
        cases en
        refine ⟨_, rfl, t1, t2, fun k c hk => ?_⟩
        cases hk
        omega
  | false =>
    simp only [ha, cond_false] at h
    split at h
    case h_2 => cases h
    rename_i r hr
    split at h
    case h_2 => cases h
    rename_i m hm
    split at h
    case h_2 => cases h
    rename_i c hc
    cases h
    obtain ⟨-, h8 | h12⟩ := k1 a r hr
    · obtain ⟨l8, L, e, em⟩ := h8
      rw [← em, List.getElem?_map] at hc
      cases hL : L[m]? with
      | none => rw [hL] at hc; cases hc
      | some n =>
        rw [hL] at hc
        cases hc
        have hl : m < L.length := (List.getElem?_eq_some_iff.mp hL).1
        obtain ⟨x, ex, e1, e2⟩ := idx hm hl
        refine ⟨x, L, ex, Or.inl ⟨by omega, e⟩, e2, ?_⟩
        rw [e1, List.getD_eq_getElem?_getD, hL]
        exact ⟨n, rfl, rfl⟩
    · obtain ⟨l12, L, e, em⟩ := h12
      rw [← em, List.getElem?_map] at hc
      cases hL : L[m]? with
      | none => rw [hL] at hc; cases hc
      | some n =>
        rw [hL] at hc
        cases hc
        have hl : m < L.length := (List.getElem?_eq_some_iff.mp hL).1
        obtain ⟨x, ex, e1, e2⟩ := idx hm hl
        refine ⟨x, L, ex, Or.inr ⟨l12, e⟩, e2, ?_⟩
        rw [e1, List.getD_eq_getElem?_getD, hL]
        exact ⟨n, rfl, rfl⟩
theorem sx_fit_ok {t : FieldType} {v : sx_V} {w : Value} (gB : sx_gB ρ B) (h : sx_fit t B v = true) (g : sx_g ρ v w) : am_fit t w = true := by
  unfold sx_fit at h
  split at h
  · obtain ⟨n, rfl, -⟩ := g; rfl
  · obtain ⟨n, rfl⟩ := sx_g_isI g rfl; rfl
  · obtain ⟨n, rfl⟩ := sx_g_isJ g rfl; rfl
  · split at h
    case h_2 => cases h
    rename_i p hp
    obtain ⟨n, rfl, h1, h2⟩ := sx_g_int gB g hp
    rw [Bool.and_eq_true, sx_le_iff, sx_le_iff] at h
    have : n.toInt = 0 ∨ n.toInt = 1 := by omega
    simp only [am_fit, Bool.or_eq_true, beq_iff_eq]
    rcases this with e | e
    · exact Or.inl (Int32.toInt_inj.mp e)
    · exact Or.inr (Int32.toInt_inj.mp e)
  · rcases sx_g_isA g rfl with ⟨a, rfl⟩ | rfl <;> rfl
  · rcases sx_g_isA g rfl with ⟨a, rfl⟩ | rfl <;> rfl
  · cases h
theorem sx_fld_put {ci j k : Nat} {v : sx_V} {ov : sx_L} {bs : List (List sx_V)} : sx_fld tt ci k (sx_put j v ov) bs = if k = j then some v else sx_fld tt ci k ov bs := by
  unfold sx_fld
  rw [sx_get_put]
  by_cases hk : k = j
  · rw [if_pos hk, if_pos hk]
  · rw [if_neg hk, if_neg hk]
theorem sx_nar_ok {t : FieldType} {v v1 : sx_V} {w : Value} (gB : sx_gB ρ B) (h : sx_nar B t v = some v1) (g : sx_g ρ v w) : ∃ n : Int32, w = .int n ∧ sx_g ρ v1 (.int (vp_nar t n)) := by
  unfold sx_nar at h
  split at h
  · rename_i c hc
    obtain ⟨n, e, he⟩ := sx_g_con gB g hc
    cases h
    exact ⟨n, e, _, rfl, by rw [sx_of he]⟩
  · split at h
    case h_2 => cases h
    rename_i p hp
    obtain ⟨n, e, -⟩ := sx_g_int gB g hp
    cases h
    exact ⟨n, e, sx_g_top _⟩
theorem sx_rowI {n j : Nat} {d v1 : sx_V} {ov : sx_L} {f : Nat → Int32} {z : Int32} (hf : ∀ k, k < n → sx_g ρ (sx_elt d ov k) (.int (f k))) (hv : sx_g ρ v1 (.int z)) : (∀ k, k < n → sx_g ρ (sx_elt d (sx_wr d j v1 ov) k) (.int (upd f j z k))) ∧ (ov = [] → d = sx_top → ∀ k, k < n → sx_g ρ (sx_elt d ov k) (.int (upd f j z k))) := by
  refine ⟨fun k hk => ?_, fun e1 e2 k hk => ?_⟩
  · rw [sx_wr_elt]
    unfold upd
    by_cases e : k = j
    · rw [if_pos e, if_pos e]; exact hv
    · rw [if_neg e, if_neg e]; exact hf k hk
  · rw [e1, e2, sx_elt_nil]
    exact sx_g_top _
theorem sx_rowJ {n j : Nat} {d v1 : sx_V} {ov : sx_L} {f : Nat → Int64} {z : Int64} (hf : ∀ k, k < n → sx_g ρ (sx_elt d ov k) (.long (f k))) (hv : sx_g ρ v1 (.long z)) : ∀ k, k < n → sx_g ρ (sx_elt d (sx_wr d j v1 ov) k) (.long (vp_updL f j z k)) := by
  intro k hk
  rw [sx_wr_elt]
  unfold vp_updL
  by_cases e : k = j
  · rw [if_pos e, if_pos e]; exact hv
  · rw [if_neg e, if_neg e]; exact hf k hk
theorem sx_ofNat {n : Nat} (h : n ≤ 60000000) : (Int32.ofNat n).toInt = (n : Int) := Int32.toInt_ofNat_of_lt (by omega)
theorem sx_fork_ok2 {o : Option (List (Bool × sx_B))} {off : Int} {t1 : List Value} (hf : sx_fork o pc off l st H = some ss) (gL : sx_gL ρ l l') (gS : sx_gS ρ st t1) (gH : sx_gH tt ρ h0 H h')
    (k : ∀ bs, o = some bs → ∃ (b : Prop) (_ : Decidable b), am_s cst cl tt I X pc l' st' h' = am_br b pc off l' t1 h' ∧ ∃ q ∈ bs, sx_gB ρ q.2 ∧ (q.1 = true ↔ b)) : sx_ok1 cst cl tt ρ h0 I X pc l' st' h' ss := by
  cases ho : o with
  | none =>
    rw [ho] at hf
    unfold sx_fork at hf
    cases hj : sx_jump pc off with
    | false => rw [hj] at hf; cases hf
    | true => rw [hj] at hf; cases hf
  | some bs =>
    obtain ⟨b, i, e, z⟩ := k bs ho
    exact sx_fork_ok (b := b) hf gL gS gH (fun bs' h => by
      rw [ho] at h
      cases h
      exact ⟨e, z⟩)
theorem sx_refv {a : Nat} {w : Value} (g : sx_g ρ (sx_a a) w) (h : a ≠ 7) : w = .ref a := by
  rcases g with e | ⟨e, -⟩
  · exact e
  · exact absurd e h
set_option maxHeartbeats 4000000 in
theorem sx_s_ok {f : sx_Hd} (hs : sx_s I = some f) (hf : f K tt X pc B l st H = some ss) (gK : sx_gK ρ K cst) (gB : sx_gB ρ B) (gL : sx_gL ρ l l') (gS : sx_gS ρ st st') (gH : sx_gH tt ρ h0 H h') : sx_ok1 cst cl tt ρ h0 I X pc l' st' h' ss := by
  cases I with
  | iconst n =>
    cases hs
    exact sx_psh_ok hf gB gL gS gH (fun v hv => by
      cases hv
      exact ⟨_, ⟨_, rfl, by rw [Int32.toInt_ofInt, sx_w_eq]⟩, rfl⟩)
  | bipush n =>
    cases hs
    refine sx_psh_ok hf gB gL gS gH (fun v hv => ?_)
    cases hc : (sx_le (-128) n && sx_le n 127) with
    | false => rw [hc] at hv; cases hv
    | true =>
      rw [hc] at hv
      cases hv
      rw [Bool.and_eq_true, sx_le_iff, sx_le_iff] at hc
      refine ⟨_, ⟨_, rfl, ?_⟩, rfl⟩
      rw [Int8.toInt_toInt32, Int8.toInt_ofInt]
      exact Int.bmod_eq_of_le (by show -((256 : Int) / 2) ≤ n; omega) (by show n < ((256 : Int) + 1) / 2; omega)
  | sipush n =>
    cases hs
    refine sx_psh_ok hf gB gL gS gH (fun v hv => ?_)
    cases hc : (sx_le (-32768) n && sx_le n 32767) with
    | false => rw [hc] at hv; cases hv
    | true =>
      rw [hc] at hv
      cases hv
      rw [Bool.and_eq_true, sx_le_iff, sx_le_iff] at hc
      refine ⟨_, ⟨_, rfl, ?_⟩, rfl⟩
      rw [Int16.toInt_toInt32, Int16.toInt_ofInt]
      exact Int.bmod_eq_of_le (by show -((65536 : Int) / 2) ≤ n; omega) (by show n < ((65536 : Int) + 1) / 2; omega)
  | lconst n =>
    cases hs
    refine sx_psh_ok hf gB gL gS gH (fun v hv => ?_)
    cases hv
    refine ⟨_, ⟨_, rfl, fun c hc => ?_⟩, rfl⟩
    cases hc
    match n with
    | 0 => rfl
    | 1 => rfl
  | aconst_null =>
    cases hs
    exact sx_psh_ok hf gB gL gS gH (fun v hv => by cases hv; exact ⟨_, rfl, rfl⟩)
  | ldc i =>
    cases hs
    refine sx_psh_ok hf gB gL gS gH (fun v hv => ?_)
    cases h0' : Nat.beq X.1 0 with
    | true =>
      rw [h0'] at hv
      cases hv
      refine ⟨.int (Int32.ofInt X.2.2), ⟨_, rfl, by rw [Int32.toInt_ofInt, sx_w_eq]⟩, ?_⟩
      simp only [am_s, if_pos (sx_beqn.mp h0')]
    | false =>
      rw [h0'] at hv
      cases h1 : Nat.blt X.2.1 16 with
      | false => rw [h1] at hv; cases hv
      | true =>
        rw [h1] at hv
        cases hv
        refine ⟨.ref X.2.1, Or.inl rfl, ?_⟩
        simp only [am_s, if_neg (sx_beq_neg h0'), if_pos (sx_blt.mp h1)]
  | ldc_w i =>
    cases hs
    refine sx_psh_ok hf gB gL gS gH (fun v hv => ?_)
    cases h0' : Nat.beq X.1 0 with
    | true =>
      rw [h0'] at hv
      cases hv
      refine ⟨.int (Int32.ofInt X.2.2), ⟨_, rfl, by rw [Int32.toInt_ofInt, sx_w_eq]⟩, ?_⟩
      simp only [am_s, if_pos (sx_beqn.mp h0')]
    | false =>
      rw [h0'] at hv
      cases h1 : Nat.blt X.2.1 16 with
      | false => rw [h1] at hv; cases hv
      | true =>
        rw [h1] at hv
        cases hv
        refine ⟨.ref X.2.1, Or.inl rfl, ?_⟩
        simp only [am_s, if_neg (sx_beq_neg h0'), if_pos (sx_blt.mp h1)]
  | ldc2_w i =>
    cases hs
    exact sx_psh_ok hf gB gL gS gH (fun v hv => by
      cases hv
      exact ⟨_, ⟨_, rfl, fun c hc => by cases hc; rfl⟩, rfl⟩)
  | getstatic i =>
    cases hs
    refine sx_psh_ok hf gB gL gS gH (fun v hv => ?_)
    cases hv
    obtain ⟨-, -, -, kf⟩ := gK
    cases h8 : Nat.blt X.2.1 8 with
    | true =>
      have := sx_blt.mp h8
      refine ⟨.ref X.2.1, Or.inl rfl, ?_⟩
      simp only [am_s, am_sv, if_pos this, am_lowv, decide_eq_true_eq, if_pos (show X.2.1 < 16 by omega)]
    | false =>
      have h8' := sx_blt_neg h8
      cases h9 : Nat.beq X.2.1 8 with
      | true =>
        have := sx_beqn.mp h9
        refine ⟨.int 1, ⟨1, rfl, rfl⟩, ?_⟩
        simp only [am_s, am_sv, if_neg h8', if_pos this, am_lowv, if_true]
      | false =>
        have h9' := sx_beq_neg h9
        refine ⟨cst.2.2, ?_, ?_⟩
        · rcases kf with e | e
          · exact Or.inl e
          · exact Or.inr ⟨rfl, e⟩
        · have hl : am_lowv cst.2.2 = true := by
            rcases kf with e | e
            · rw [e]; rfl
            · rw [e]; rfl
          simp only [am_s, am_sv, if_neg h8', if_neg h9', hl, if_true]
  | iload i =>
    cases hs
    exact sx_load_ok hf gB gL gS gH (fun v w hv g e => by
      obtain ⟨n, rfl⟩ := sx_g_isI g hv
      simp only [am_s, e])
  | iload_n i =>
    cases hs
    exact sx_load_ok hf gB gL gS gH (fun v w hv g e => by
      obtain ⟨n, rfl⟩ := sx_g_isI g hv
      simp only [am_s, e])
  | lload i =>
    cases hs
    exact sx_load_ok hf gB gL gS gH (fun v w hv g e => by
      obtain ⟨n, rfl⟩ := sx_g_isJ g hv
      simp only [am_s, e])
  | lload_n i =>
    cases hs
    exact sx_load_ok hf gB gL gS gH (fun v w hv g e => by
      obtain ⟨n, rfl⟩ := sx_g_isJ g hv
      simp only [am_s, e])
  | aload i =>
    cases hs
    exact sx_load_ok hf gB gL gS gH (fun v w hv g e => by
      rcases sx_g_isA g hv with ⟨a, rfl⟩ | rfl <;> simp only [am_s, e])
  | aload_n i =>
    cases hs
    exact sx_load_ok hf gB gL gS gH (fun v w hv g e => by
      rcases sx_g_isA g hv with ⟨a, rfl⟩ | rfl <;> simp only [am_s, e])
  | istore i =>
    cases hs
    exact sx_sto_ok (g' := fun w => am_st1 i w l') hf gB gS gH (fun v w g => sx_gL_st1 gL g) (fun v w t hv g => by
      obtain ⟨n, rfl⟩ := sx_g_isI g hv
      rfl)
  | istore_n i =>
    cases hs
    exact sx_sto_ok (g' := fun w => am_st1 i w l') hf gB gS gH (fun v w g => sx_gL_st1 gL g) (fun v w t hv g => by
      obtain ⟨n, rfl⟩ := sx_g_isI g hv
      rfl)
  | lstore i =>
    cases hs
    exact sx_sto_ok (g' := fun w => am_st2 i w l') hf gB gS gH (fun v w g => sx_gL_st2 gL g) (fun v w t hv g => by
      obtain ⟨n, rfl⟩ := sx_g_isJ g hv
      rfl)
  | lstore_n i =>
    cases hs
    exact sx_sto_ok (g' := fun w => am_st2 i w l') hf gB gS gH (fun v w g => sx_gL_st2 gL g) (fun v w t hv g => by
      obtain ⟨n, rfl⟩ := sx_g_isJ g hv
      rfl)
  | astore i =>
    cases hs
    exact sx_sto_ok (g' := fun w => am_st1 i w l') hf gB gS gH (fun v w g => sx_gL_st1 gL g) (fun v w t hv g => by
      rcases sx_g_isA g hv with ⟨a, rfl⟩ | rfl <;> rfl)
  | astore_n i =>
    cases hs
    exact sx_sto_ok (g' := fun w => am_st1 i w l') hf gB gS gH (fun v w g => sx_gL_st1 gL g) (fun v w t hv g => by
      rcases sx_g_isA g hv with ⟨a, rfl⟩ | rfl <;> rfl)
  | iinc i n =>
    cases hs
    simp only at hf
    split at hf
    case h_2 => cases hf
    rename_i x hx
    split at hf
    case h_2 => cases hf
    rename_i v hv
    rw [sx_vf_eq] at hf
    cases hf
    obtain ⟨w, e, gw⟩ := sx_gL_get i gL _ hx
    have gn : sx_g ρ (sx_c (sx_w n)) (.int (Int32.ofInt n)) := ⟨_, rfl, by rw [Int32.toInt_ofInt, sx_w_eq]⟩
    obtain ⟨a, b, rfl, eb, g⟩ := sx_add_ok gB hv gw gn
    cases eb
    exact sx_one_ok (by simp only [am_s, e]) gB (sx_gL_st1 gL g) gS gH
  | iadd => cases hs; exact sx_bin_ok hf gB gL gS gH (fun x y v x' y' hv gx gy => by obtain ⟨a, b, rfl, rfl, g⟩ := sx_add_ok gB hv gx gy; exact ⟨_, g, fun t => rfl⟩)
  | isub => cases hs; exact sx_bin_ok hf gB gL gS gH (fun x y v x' y' hv gx gy => by obtain ⟨a, b, rfl, rfl, g⟩ := sx_sub_ok gB hv gx gy; exact ⟨_, g, fun t => rfl⟩)
  | imul => cases hs; exact sx_bin_ok hf gB gL gS gH (fun x y v x' y' hv gx gy => by obtain ⟨a, b, rfl, rfl, g⟩ := sx_mul_ok gB hv gx gy; exact ⟨_, g, fun t => rfl⟩)
  | idiv =>
    cases hs
    refine sx_bin_ok hf gB gL gS gH (fun x y v x' y' hv gx gy => ?_)
    split at hv
    case h_2 => cases hv
    rename_i c hc
    cases h0' : sx_eq c 0 with
    | true => rw [h0'] at hv; cases hv
    | false =>
      rw [h0'] at hv
      simp only [cond_false] at hv
      obtain ⟨b', eb', hb'⟩ := sx_g_con gB gy hc
      obtain ⟨a, b, ea, eb, g⟩ := sx_op_ok (f := fun x y => x / y) gB hv gx gy
      subst ea
      rw [eb'] at eb
      subst eb'
      cases eb
      have hn : ¬ b' = 0 := fun e => by
        subst e
        have : c = 0 := by rw [← hb']; rfl
        rw [sx_eq_iff.mpr this] at h0'
        cases h0'
      exact ⟨_, g, fun t => by simp only [am_s, if_neg hn]⟩
  | irem =>
    cases hs
    refine sx_bin_ok hf gB gL gS gH (fun x y v x' y' hv gx gy => ?_)
    split at hv
    case h_2 => cases hv
    rename_i c hc
    cases h0' : sx_eq c 0 with
    | true => rw [h0'] at hv; cases hv
    | false =>
      rw [h0'] at hv
      simp only [cond_false] at hv
      obtain ⟨b', eb', hb'⟩ := sx_g_con gB gy hc
      obtain ⟨a, b, ea, eb, g⟩ := sx_op_ok (f := fun x y => x - x / y * y) gB hv gx gy
      subst ea
      rw [eb'] at eb
      subst eb'
      cases eb
      have hn : ¬ b' = 0 := fun e => by
        subst e
        have : c = 0 := by rw [← hb']; rfl
        rw [sx_eq_iff.mpr this] at h0'
        cases h0'
      exact ⟨_, g, fun t => by simp only [am_s, if_neg hn]⟩
  | iand => cases hs; exact sx_bin_ok hf gB gL gS gH (fun x y v x' y' hv gx gy => by obtain ⟨a, b, rfl, rfl, g⟩ := sx_op_ok gB hv gx gy; exact ⟨_, g, fun t => rfl⟩)
  | ior => cases hs; exact sx_bin_ok hf gB gL gS gH (fun x y v x' y' hv gx gy => by obtain ⟨a, b, rfl, rfl, g⟩ := sx_op_ok gB hv gx gy; exact ⟨_, g, fun t => rfl⟩)
  | ixor => cases hs; exact sx_bin_ok hf gB gL gS gH (fun x y v x' y' hv gx gy => by obtain ⟨a, b, rfl, rfl, g⟩ := sx_op_ok gB hv gx gy; exact ⟨_, g, fun t => rfl⟩)
  | ishl => cases hs; exact sx_bin_ok hf gB gL gS gH (fun x y v x' y' hv gx gy => by obtain ⟨a, b, rfl, rfl, g⟩ := sx_op_ok gB hv gx gy; exact ⟨_, g, fun t => rfl⟩)
  | ishr => cases hs; exact sx_bin_ok hf gB gL gS gH (fun x y v x' y' hv gx gy => by obtain ⟨a, b, rfl, rfl, g⟩ := sx_op_ok gB hv gx gy; exact ⟨_, g, fun t => rfl⟩)
  | iushr => cases hs; exact sx_bin_ok hf gB gL gS gH (fun x y v x' y' hv gx gy => by obtain ⟨a, b, rfl, rfl, g⟩ := sx_op_ok gB hv gx gy; exact ⟨_, g, fun t => rfl⟩)
  | ladd => cases hs; exact sx_bin_ok hf gB gL gS gH (fun x y v x' y' hv gx gy => by obtain ⟨a, b, rfl, rfl, g⟩ := sx_opj_ok hv gx gy; exact ⟨_, g, fun t => rfl⟩)
  | lsub => cases hs; exact sx_bin_ok hf gB gL gS gH (fun x y v x' y' hv gx gy => by obtain ⟨a, b, rfl, rfl, g⟩ := sx_opj_ok hv gx gy; exact ⟨_, g, fun t => rfl⟩)
  | lmul => cases hs; exact sx_bin_ok hf gB gL gS gH (fun x y v x' y' hv gx gy => by obtain ⟨a, b, rfl, rfl, g⟩ := sx_opj_ok hv gx gy; exact ⟨_, g, fun t => rfl⟩)
  | lcmp => cases hs; exact sx_bin_ok hf gB gL gS gH (fun x y v x' y' hv gx gy => by obtain ⟨a, b, rfl, rfl, g⟩ := sx_cmp_ok hv gx gy; exact ⟨_, g, fun t => rfl⟩)
  | i2l => cases hs; exact sx_un_ok hf gB gL gS gH (fun x v x' hv gx => by obtain ⟨a, rfl, g⟩ := sx_i2l_ok gB hv gx; exact ⟨_, g, fun t => rfl⟩)
  | l2i => cases hs; exact sx_un_ok hf gB gL gS gH (fun x v x' hv gx => by obtain ⟨a, rfl, g⟩ := sx_l2i_ok hv gx; exact ⟨_, g, fun t => rfl⟩)
  | i2c => cases hs; exact sx_un_ok hf gB gL gS gH (fun x v x' hv gx => by obtain ⟨a, rfl, g⟩ := sx_op1_ok gB hv gx; exact ⟨_, g, fun t => rfl⟩)
  | i2b => cases hs; exact sx_un_ok hf gB gL gS gH (fun x v x' hv gx => by obtain ⟨a, rfl, g⟩ := sx_op1_ok gB hv gx; exact ⟨_, g, fun t => rfl⟩)
  | pop =>
    cases hs
    simp only at hf
    split at hf
    case h_2 => cases hf
    rename_i v st0
    obtain ⟨w, t, rfl, gv, gS1⟩ := sx_gS_cons gS
    cases hc : Nat.beq (sx_cat v) 1 with
    | false => rw [hc] at hf; cases hf
    | true =>
      rw [hc] at hf
      cases hf
      exact sx_one_ok (by simp only [am_s, sx_g_cat gv, sx_beqn.mp hc, if_true]) gB gL gS1 gH
  | dup =>
    cases hs
    simp only at hf
    split at hf
    case h_2 => cases hf
    rename_i v st0
    obtain ⟨w, t, rfl, gv, gS1⟩ := sx_gS_cons gS
    cases hc : Nat.beq (sx_cat v) 1 with
    | false => rw [hc] at hf; cases hf
    | true =>
      rw [hc] at hf
      cases hf
      exact sx_one_ok (t1 := w :: w :: t) (by simp only [am_s, sx_g_cat gv, sx_beqn.mp hc, if_true]) gB gL ⟨gv, gv, gS1⟩ gH
  | dup2 =>
    cases hs
    simp only at hf
    split at hf
    case h_2 => cases hf
    rename_i v v2 st0
    obtain ⟨w, t, rfl, gv, gS1⟩ := sx_gS_cons gS
    obtain ⟨w2, t2, rfl, gv2, gS2⟩ := sx_gS_cons gS1
    cases hc : (Nat.beq (sx_cat v) 1 && Nat.beq (sx_cat v2) 1) with
    | false => rw [hc] at hf; cases hf
    | true =>
      rw [hc] at hf
      cases hf
      rw [Bool.and_eq_true] at hc
      exact sx_one_ok (t1 := w :: w2 :: w :: w2 :: t2) (by simp only [am_s, sx_g_cat gv, sx_g_cat gv2, sx_beqn.mp hc.1, sx_beqn.mp hc.2, and_self, if_true]) gB gL ⟨gv, gv2, gv, gv2, gS2⟩ gH
  | goto off =>
    cases hs
    simp only at hf
    cases hj : sx_jump pc off with
    | false => rw [hj] at hf; cases hf
    | true =>
      rw [hj] at hf
      cases hf
      exact sx_one_ok (by simp only [am_s, sx_jump_ok hj]) gB gL gS gH
  | ifCond c off =>
    cases hs
    simp only at hf
    split at hf
    case h_2 => cases hf
    rename_i x st0
    obtain ⟨x', t, rfl, gx, gS1⟩ := sx_gS_cons gS
    have g0 : sx_g ρ (sx_c 0) (.int 0) := ⟨0, rfl, rfl⟩
    refine sx_fork_ok2 hf gL gS1 gH (fun bs hb => ?_)
    obtain ⟨a, b, rfl, e0, q, hq, gq, hh⟩ := sx_br_ok gB hb gx g0
    cases e0
    have hh := hh.trans sx_hp_iff
    cases c
    · exact ⟨a = 0, inferInstance, rfl, q, hq, gq, hh⟩
    · exact ⟨¬ a = 0, inferInstance, rfl, q, hq, gq, hh⟩
    · exact ⟨a < 0, inferInstance, rfl, q, hq, gq, hh⟩
    · exact ⟨0 ≤ a, inferInstance, rfl, q, hq, gq, hh⟩
    · exact ⟨0 < a, inferInstance, rfl, q, hq, gq, hh⟩
    · exact ⟨a ≤ 0, inferInstance, rfl, q, hq, gq, hh⟩
  | if_icmp c off =>
    cases hs
    simp only at hf
    split at hf
    case h_2 => cases hf
    rename_i y x st0
    obtain ⟨y', t, rfl, gy, gS1⟩ := sx_gS_cons gS
    obtain ⟨x', t2, rfl, gx, gS2⟩ := sx_gS_cons gS1
    refine sx_fork_ok2 hf gL gS2 gH (fun bs hb => ?_)
    obtain ⟨a, b, rfl, rfl, q, hq, gq, hh⟩ := sx_br_ok gB hb gx gy
    have hh := hh.trans sx_hp_iff
    cases c
    · exact ⟨a = b, inferInstance, rfl, q, hq, gq, hh⟩
    · exact ⟨¬ a = b, inferInstance, rfl, q, hq, gq, hh⟩
    · exact ⟨a < b, inferInstance, rfl, q, hq, gq, hh⟩
    · exact ⟨b ≤ a, inferInstance, rfl, q, hq, gq, hh⟩
    · exact ⟨b < a, inferInstance, rfl, q, hq, gq, hh⟩
    · exact ⟨a ≤ b, inferInstance, rfl, q, hq, gq, hh⟩
  | ifnull off =>
    cases hs
    simp only at hf
    split at hf
    · rename_i a st0
      obtain ⟨w, t, rfl, gv, gS1⟩ := sx_gS_cons gS
      cases h7 : Nat.beq a 7 with
      | true => rw [h7] at hf; cases hf
      | false =>
        rw [h7] at hf
        cases hf
        rcases gv with rfl | ⟨e, -⟩
        · exact sx_one_ok rfl gB gL gS1 gH
        · exact absurd e (sx_beq_neg h7)
    · rename_i st0
      obtain ⟨w, t, rfl, gv, gS1⟩ := sx_gS_cons gS
      cases hj : sx_jump pc off with
      | false => rw [hj] at hf; cases hf
      | true =>
        rw [hj] at hf
        cases hf
        rw [show w = .null from gv]
        exact sx_one_ok (by simp only [am_s, sx_jump_ok hj]) gB gL gS1 gH
    · cases hf
  | ifnonnull off =>
    cases hs
    simp only at hf
    split at hf
    · rename_i st0
      obtain ⟨w, t, rfl, gv, gS1⟩ := sx_gS_cons gS
      cases hf
      rw [show w = .null from gv]
      exact sx_one_ok rfl gB gL gS1 gH
    · rename_i a st0
      obtain ⟨w, t, rfl, gv, gS1⟩ := sx_gS_cons gS
      cases h7 : Nat.beq a 7 with
      | true => rw [h7] at hf; cases hf
      | false =>
        rw [h7] at hf
        cases hj : sx_jump pc off with
        | false => rw [hj] at hf; cases hf
        | true =>
          rw [hj] at hf
          cases hf
          rcases gv with rfl | ⟨e, -⟩
          · exact sx_one_ok (by simp only [am_s, sx_jump_ok hj]) gB gL gS1 gH
          · exact absurd e (sx_beq_neg h7)
    · cases hf
  | tableswitch dflt lo hi offs =>
    cases hs
    simp only at hf
    split at hf
    case h_2 => cases hf
    rename_i x st0
    obtain ⟨x', t, rfl, gx, gS1⟩ := sx_gS_cons gS
    split at hf
    case h_2 =>
      split at hf
      case h_2 => cases hf
      rename_i p hp
      obtain ⟨n, rfl, n1, n2⟩ := sx_g_int gB gx hp
      cases hr : ((sx_le (Int.add p.2 1) lo || sx_le (Int.add hi 1) p.1) && sx_jump pc dflt) with
      | false => rw [hr] at hf; cases hf
      | true =>
        rw [hr] at hf
        cases hf
        rw [Bool.and_eq_true, Bool.or_eq_true, sx_le_iff, sx_le_iff] at hr
        have a1 : Int.add p.2 1 = p.2 + 1 := rfl
        have a2 : Int.add hi 1 = hi + 1 := rfl
        refine sx_one_ok ?_ gB gL gS1 gH
        have e1 : n.toInt < lo ∨ hi < n.toInt := by omega
        simp only [am_s, if_pos e1, sx_jump_ok hr.2]
    rename_i c hc
    obtain ⟨n, rfl, hn⟩ := sx_g_con gB gx hc
    cases hr : (sx_le lo c && sx_le c hi) with
    | true =>
      simp only [hr, cond_true] at hf
      rw [Bool.and_eq_true, sx_le_iff, sx_le_iff] at hr
      split at hf
      case h_2 => cases hf
      rename_i off hoff
      cases hj : sx_jump pc off with
      | false => rw [hj] at hf; cases hf
      | true =>
        rw [hj] at hf
        cases hf
        refine sx_one_ok ?_ gB gL gS1 gH
        have e1 : ¬ (n.toInt < lo ∨ hi < n.toInt) := by omega
        have e2 : offs[(n.toInt - lo).toNat]? = some off := by
          rw [hn, ← Array.getElem?_toList]
          exact hoff
        simp only [am_s, if_neg e1, e2, sx_jump_ok hj]
    | false =>
      simp only [hr, cond_false] at hf
      cases hj : sx_jump pc dflt with
      | false => rw [hj] at hf; cases hf
      | true =>
        rw [hj] at hf
        cases hf
        refine sx_one_ok ?_ gB gL gS1 gH
        have e1 : n.toInt < lo ∨ hi < n.toInt := by
          rw [Bool.and_eq_false_iff] at hr
          rcases hr with hr | hr
          · have := sx_le_neg hr; omega
          · have := sx_le_neg hr; omega
        simp only [am_s, if_pos e1, sx_jump_ok hj]
  | getfield i =>
    cases hs
    simp only at hf
    split at hf
    case h_2 => cases hf
    rename_i a st0
    obtain ⟨w, t, rfl, gv, gS1⟩ := sx_gS_cons gS
    cases ha : Nat.blt a 16 with
    | true =>
      have ha' := sx_blt.mp ha
      simp only [ha, cond_true] at hf
      cases hb : (Nat.ble 8 a && Nat.blt a 12) with
      | false => simp only [hb, cond_false] at hf; cases hf
      | true =>
        simp only [hb, cond_true] at hf
        rw [Bool.and_eq_true, sx_ble, sx_blt] at hb
        have ew := sx_refv gv (by omega)
        subst ew
        have hlen := gK.2.2.1
        have hcond : 8 ≤ a ∧ a < 12 ∧ a - 8 < cst.2.1.length := ⟨hb.1, hb.2, by omega⟩
        cases h1 : sx_eq X.2.2 1 with
        | true =>
          simp only [h1, cond_true] at hf
          have e1 := sx_eq_iff.mp h1
          refine sx_psh_ok hf gB gL gS1 gH (fun v hv => ?_)
          cases hv
          exact ⟨.ref (a + 4), Or.inl rfl, by simp only [am_s, if_pos ha', if_pos hcond, if_pos e1]⟩
        | false =>
          simp only [h1, cond_false] at hf
          have e1 : ¬ X.2.2 = 1 := fun e => by
            rw [sx_eq_iff.mpr e] at h1
            cases h1
          cases h2 : sx_eq X.2.2 2 with
          | false => simp only [h2, cond_false] at hf; cases hf
          | true =>
            simp only [h2, cond_true] at hf
            have e2 := sx_eq_iff.mp h2
            refine sx_psh_ok hf gB gL gS1 gH (fun v hv => ?_)
            cases hv
            exact ⟨.int 0, ⟨0, rfl, rfl⟩, by simp only [am_s, if_pos ha', if_pos hcond, if_neg e1, if_pos e2]⟩
    | false =>
      have ha' := sx_blt_neg ha
      simp only [ha, cond_false] at hf
      have ew := sx_refv gv (by omega)
      subst ew
      split at hf
      case h_2 => cases hf
      rename_i e he
      obtain ⟨ci, ov, bs⟩ := e
      obtain ⟨x, hx, gx⟩ := gH.2.2.1 _ _ he
      obtain ⟨fs, rfl, hlen, hfs⟩ := gx
      cases hc : (Nat.beq ci X.1 && sx_eq X.2.2 0) with
      | false => simp only [hc, cond_false] at hf; cases hf
      | true =>
        simp only [hc, cond_true] at hf
        rw [Bool.and_eq_true, sx_beqn, sx_eq_iff] at hc
        refine sx_psh_ok hf gB gL gS1 gH (fun v hv => ?_)
        obtain ⟨w, hw, gw⟩ := hfs _ v hv
        exact ⟨w, gw, by simp only [am_s, if_neg ha', hx, if_pos hc, hw]⟩
  | putfield i =>
    cases hs
    simp only at hf
    split at hf
    case h_2 => cases hf
    rename_i v a st0
    obtain ⟨w, t, rfl, gv, gS1⟩ := sx_gS_cons gS
    obtain ⟨r, t2, rfl, ga, gS2⟩ := sx_gS_cons gS1
    cases ha : Nat.blt a 16 with
    | true => simp only [ha, cond_true] at hf; cases hf
    | false =>
      have ha' := sx_blt_neg ha
      simp only [ha, cond_false] at hf
      have ew := sx_refv ga (by omega)
      subst ew
      split at hf
      case h_2 => cases hf
      rename_i e he
      obtain ⟨ci, ov, bs⟩ := e
      obtain ⟨x, hx, gx⟩ := gH.2.2.1 _ _ he
      obtain ⟨fs, rfl, hlen, hfs⟩ := gx
      cases hc : Nat.beq ci X.1 with
      | false => simp only [hc, cond_false] at hf; cases hf
      | true =>
        simp only [hc, cond_true] at hf
        have ec := sx_beqn.mp hc
        split at hf
        case h_2 => cases hf
        rename_i ty hty
        cases hfit : sx_fit ty B v with
        | false => simp only [hfit, cond_false] at hf; cases hf
        | true =>
          simp only [hfit, cond_true] at hf
          cases hf
          have hl : X.2.1 < fs.length := by
            rw [hlen]
            exact (List.getElem?_eq_some_iff.mp hty).1
          have hgd : (tt.getD ci []).getD X.2.1 .char = ty := by
            rw [List.getD_eq_getElem?_getD, hty]
            rfl
          refine sx_one_ok (k1 := h'.set (a - 16) (.inr (ci, fs.set X.2.1 w))) ?_ gB gL gS2 (sx_gH_set gH he ?_)
          · simp only [am_s, if_neg ha', hx, if_pos (And.intro ec hl), hgd, sx_fit_ok gB hfit gv, if_true]
          · refine ⟨fs.set X.2.1 w, rfl, by rw [List.length_set]; exact hlen, fun j v' hv' => ?_⟩
            rw [sx_fld_put] at hv'
            by_cases ej : j = X.2.1
            · rw [if_pos ej] at hv'
              cases hv'
              rw [ej]
              exact ⟨w, List.getElem?_set_self hl, gv⟩
            · rw [if_neg ej] at hv'
              obtain ⟨w', hw', gw'⟩ := hfs j v' hv'
              exact ⟨w', by rw [List.getElem?_set_ne (Ne.symm ej)]; exact hw', gw'⟩
  | arraylength =>
    cases hs
    simp only at hf
    split at hf
    case h_2 => cases hf
    rename_i a st0
    obtain ⟨w, t, rfl, gv, gS1⟩ := sx_gS_cons gS
    obtain ⟨k1, ⟨S, s1, s2, s3, s4⟩, -, -⟩ := gK
    cases ha : Nat.blt a 16 with
    | true =>
      have ha' := sx_blt.mp ha
      simp only [ha, cond_true] at hf
      cases h4 : Nat.beq a 4 with
      | true =>
        have e4 := sx_beqn.mp h4
        subst e4
        simp only [h4, cond_true] at hf
        have ew := sx_refv gv (by decide)
        subst ew
        refine sx_psh_ok hf gB gL gS1 gH (fun v hv => ?_)
        cases hv
        have el : (Int32.ofNat S.length).toInt = (S.length : Int) := sx_ofNat (by omega)
        refine ⟨.int (Int32.ofNat S.length), ⟨_, rfl, ?_, ?_, fun k c hk => ?_⟩, ?_⟩
        · rw [el]; omega
        · rw [el]
          have : sx_max = 2147483647 := rfl
          omega
        · cases hk
          rw [el]
          omega
        · have e12 : ¬ 12 ≤ 4 := by decide
          simp only [am_s, if_pos ha', if_neg e12, s1]
      | false =>
        simp only [h4, cond_false] at hf
        split at hf
        case h_2 => cases hf
        rename_i r hr
        cases hb : Nat.ble r.length 60000000 with
        | false => simp only [hb, cond_false] at hf; cases hf
        | true =>
          simp only [hb, cond_true] at hf
          have hb' := sx_ble.mp hb
          have fin : ∀ L : List Int32, L.map Int32.toInt = r → sx_g ρ (sx_c (.ofNat r.length)) (.int (Int32.ofNat L.length)) := by
            intro L e
            have : L.length = r.length := by rw [← e, List.length_map]
            rw [this]
            exact ⟨_, rfl, sx_ofNat hb'⟩
          refine sx_psh_ok hf gB gL gS1 gH (fun v hv => ?_)
          cases hv
          obtain ⟨-, ⟨l8, L, e, em⟩ | ⟨l12, L, e, em⟩⟩ := k1 a r hr
          · rcases gv with rfl | ⟨e7, rfl⟩
            · have e12 : ¬ 12 ≤ a := by omega
              exact ⟨_, fin L em, by simp only [am_s, if_pos ha', if_neg e12, e]⟩
            · omega
          · have ew := sx_refv gv (by omega)
            subst ew
            exact ⟨_, fin L em, by simp only [am_s, if_pos ha', if_pos l12, e]⟩
    | false =>
      have ha' := sx_blt_neg ha
      simp only [ha, cond_false] at hf
      have ew := sx_refv gv (by omega)
      subst ew
      split at hf
      case h_2 => cases hf
      rename_i e he
      obtain ⟨ty, n, d, ov⟩ := e
      obtain ⟨x, hx, gx⟩ := gH.2.2.1 _ _ he
      obtain ⟨c, rfl, -⟩ := gx
      cases hb : Nat.ble n 60000000 with
      | false => simp only [hb, cond_false] at hf; cases hf
      | true =>
        simp only [hb, cond_true] at hf
        refine sx_psh_ok hf gB gL gS1 gH (fun v hv => ?_)
        cases hv
        exact ⟨.int (Int32.ofNat n), ⟨_, rfl, sx_ofNat (sx_ble.mp hb)⟩, by simp only [am_s, if_neg ha', hx]⟩
  | iaload =>
    cases hs
    refine sx_aload_ok hf gB gL gS gH (fun i => ?_) (fun a i v i' t ha hv gi => ?_) (fun a e x i t ha hfe hx gx hi hlt => ?_)
    · show sx_low K B 7 i = none
      cases h7 : sx_get 7 K with
      | none => simp only [sx_low, h7]; rfl
      | some r =>
        obtain ⟨-, ⟨l4, -⟩ | ⟨l12, -⟩⟩ := gK.1 7 r h7 <;> omega
    · cases h8 : Nat.blt a 8 with
      | false => rw [h8] at hv; cases hv
      | true =>
        rw [h8] at hv
        have h8' := sx_blt.mp h8
        obtain ⟨x, L, rfl, hL, hx, g⟩ := sx_low_ok gK gB hv gi
        rcases hL with ⟨-, e⟩ | ⟨e12, -⟩
        · exact ⟨_, g, by simp only [am_s, if_pos ha, e, if_neg hx]⟩
        · omega
    · obtain ⟨ty, n, d, ov⟩ := e
      obtain ⟨c, rfl, hc⟩ := gx
      cases ty <;> simp only [sx_tI, Bool.false_eq_true] at hfe
      obtain ⟨f, rfl, hf'⟩ := hc
      exact ⟨_, hf' _ hlt, by simp only [am_s, if_neg ha, hx, if_neg hi]⟩
  | laload =>
    cases hs
    refine sx_aload_ok hf gB gL gS gH (fun i => rfl) (fun a i v i' t ha hv gi => by cases hv) (fun a e x i t ha hfe hx gx hi hlt => ?_)
    obtain ⟨ty, n, d, ov⟩ := e
    obtain ⟨c, rfl, hc⟩ := gx
    cases ty <;> simp only [sx_tJ, Bool.false_eq_true] at hfe
    obtain ⟨f, rfl, hf'⟩ := hc
    exact ⟨_, hf' _ hlt, by simp only [am_s, if_neg ha, hx, if_neg hi]⟩
  | baload =>
    cases hs
    refine sx_aload_ok hf gB gL gS gH (fun i => rfl) (fun a i v i' t ha hv gi => ?_) (fun a e x i t ha hfe hx gx hi hlt => ?_)
    · cases h12 : Nat.ble 12 a with
      | false => rw [h12] at hv; cases hv
      | true =>
        rw [h12] at hv
        have h12' := sx_ble.mp h12
        obtain ⟨x, L, rfl, hL, hx, g⟩ := sx_low_ok gK gB hv gi
        rcases hL with ⟨e8, -⟩ | ⟨-, e⟩
        · omega
        · exact ⟨_, g, by simp only [am_s, if_pos ha, if_pos h12', e, if_neg hx]⟩
    · obtain ⟨ty, n, d, ov⟩ := e
      obtain ⟨c, rfl, hc⟩ := gx
      cases ty <;> simp only [sx_tB, Bool.false_eq_true] at hfe
      · obtain ⟨f, rfl, hf'⟩ := hc
        exact ⟨_, hf' _ hlt, by simp only [am_s, if_neg ha, hx, if_neg hi]⟩
      · obtain ⟨f, rfl, hf'⟩ := hc
        exact ⟨_, hf' _ hlt, by simp only [am_s, if_neg ha, hx, if_neg hi]⟩
  | iastore =>
    cases hs
    refine sx_astore_ok hf gB gL gS gH (fun a e x v v1 w i t ha hfe hx gx hg gv hi hlt => ?_)
    obtain ⟨ty, n, d, ov⟩ := e
    obtain ⟨c, rfl, hc⟩ := gx
    cases ty <;> simp only [sx_tI, Bool.false_eq_true] at hfe
    obtain ⟨f, rfl, hf'⟩ := hc
    cases hv : sx_isI v with
    | false => simp only [hv, cond_false] at hg; cases hg
    | true =>
      simp only [hv, cond_true] at hg
      cases hg
      obtain ⟨z, rfl⟩ := sx_g_isI gv hv
      obtain ⟨r1, r2⟩ := sx_rowI (j := i.toNatClampNeg) hf' gv
      exact ⟨_, by simp only [am_s, if_neg ha, hx, if_neg hi], ⟨_, rfl, _, rfl, r1⟩, fun e1 e2 _ => ⟨_, rfl, _, rfl, r2 e1 e2⟩⟩
  | lastore =>
    cases hs
    refine sx_astore_ok hf gB gL gS gH (fun a e x v v1 w i t ha hfe hx gx hg gv hi hlt => ?_)
    obtain ⟨ty, n, d, ov⟩ := e
    obtain ⟨c, rfl, hc⟩ := gx
    cases ty <;> simp only [sx_tJ, Bool.false_eq_true] at hfe
    obtain ⟨f, rfl, hf'⟩ := hc
    cases hv : sx_isJ v with
    | false => simp only [hv, cond_false] at hg; cases hg
    | true =>
      simp only [hv, cond_true] at hg
      cases hg
      obtain ⟨z, rfl⟩ := sx_g_isJ gv hv
      exact ⟨_, by simp only [am_s, if_neg ha, hx, if_neg hi], ⟨_, rfl, _, rfl, sx_rowJ hf' gv⟩, fun _ _ e3 => by
        obtain ⟨n, e⟩ := sx_g_isI gv e3
        cases e⟩
  | bastore =>
    cases hs
    refine sx_astore_ok hf gB gL gS gH (fun a e x v v1 w i t ha hfe hx gx hg gv hi hlt => ?_)
    obtain ⟨ty, n, d, ov⟩ := e
    obtain ⟨c, rfl, hc⟩ := gx
    obtain ⟨z, rfl, gz⟩ := sx_nar_ok gB hg gv
    cases ty <;> simp only [sx_tB, Bool.false_eq_true] at hfe
    · obtain ⟨f, rfl, hf'⟩ := hc
      obtain ⟨r1, r2⟩ := sx_rowI (j := i.toNatClampNeg) hf' gz
      exact ⟨_, by simp only [am_s, if_neg ha, hx, if_neg hi], ⟨_, rfl, _, rfl, r1⟩, fun e1 e2 _ => ⟨_, rfl, _, rfl, r2 e1 e2⟩⟩
    · obtain ⟨f, rfl, hf'⟩ := hc
      obtain ⟨r1, r2⟩ := sx_rowI (j := i.toNatClampNeg) hf' gz
      exact ⟨_, by simp only [am_s, if_neg ha, hx, if_neg hi], ⟨_, rfl, _, rfl, r1⟩, fun e1 e2 _ => ⟨_, rfl, _, rfl, r2 e1 e2⟩⟩
  | _ => cases hs
end SX4
end
section
/-! a run of the interval machine, all of whose ends are good, is a run of the abstract machine for every script of its box -/
abbrev sx_Cf : Type := am_M × Nat × am_L × List Value
def sx_bi : Nat → List Value → am_H → am_Q → Prop := fun _ _ _ _ => False
def sx_Fin (cst : am_K) (cl : List vw_C) (tt : List (List FieldType)) (P : List am_M) (strs : List Nat) (Φ : am_Q → Prop) : List sx_Cf → Nat → sx_Cf → am_H → Nat → Nat → Prop
  | [], d, f, h, c, s => ∃ n r, am_Go cst cl tt P strs (am_Run cst cl tt P strs sx_bi d) f.1 n f.2.1 f.2.2.1 f.2.2.2 h r ∧ Φ (r.1, r.2.1, c + r.2.2.1, s + r.2.2.2)
  | g :: fs, d, f, h, c, s => ∃ n r, am_Go cst cl tt P strs (am_Run cst cl tt P strs sx_bi d) f.1 n f.2.1 f.2.2.1 f.2.2.2 h r ∧ sx_Fin cst cl tt P strs Φ fs (d + 1) (g.1, g.2.1, g.2.2.1, r.1.toList ++ g.2.2.2) r.2.1 (c + r.2.2.1) (s + r.2.2.2)
section SX5
variable {cst : am_K} {cl : List vw_C} {tt : List (List FieldType)} {P PL : List am_M} {strs : List Nat} {Φ : am_Q → Prop} {K : sx_K} {ρ : Nat → Int32} {h0 : am_H} {B : sx_B}
theorem sx_Fin_pre {fs : List sx_Cf} {d : Nat} {f f1 : sx_Cf} {h h1 : am_H} {c s dc ds : Nat}
    (k : ∀ n r, am_Go cst cl tt P strs (am_Run cst cl tt P strs sx_bi d) f1.1 n f1.2.1 f1.2.2.1 f1.2.2.2 h1 r → ∃ n', am_Go cst cl tt P strs (am_Run cst cl tt P strs sx_bi d) f.1 n' f.2.1 f.2.2.1 f.2.2.2 h (r.1, r.2.1, dc + r.2.2.1, ds + r.2.2.2))
    (hF : sx_Fin cst cl tt P strs Φ fs d f1 h1 (c + dc) (s + ds)) : sx_Fin cst cl tt P strs Φ fs d f h c s := by
  cases fs with
  | nil =>
    obtain ⟨n, r, hgo, hφ⟩ := hF
    obtain ⟨n', hn⟩ := k n r hgo
    refine ⟨n', _, hn, ?_⟩
    rw [← Nat.add_assoc, ← Nat.add_assoc]
    exact hφ
  | cons g fs =>
    obtain ⟨n, r, hgo, hφ⟩ := hF
    obtain ⟨n', hn⟩ := k n r hgo
    refine ⟨n', _, hn, ?_⟩
    rw [← Nat.add_assoc, ← Nat.add_assoc]
    exact hφ
/-- a method's words are the abstract machine's -/
def sx_mok (PL : List am_M) (m : sx_M) (M : am_M) : Prop := PL[m.1]? = some M ∧ M.2.2.2.1 = m.2.2.2.1 ∧ ∀ pc q, sx_find pc m.2.2.2.2 = some q → am_find pc M.2.2.2.2 = some q
def sx_gF (ρ : Nat → Int32) (PL : List am_M) (f : sx_F) (f' : sx_Cf) : Prop := sx_mok PL f.1 f'.1 ∧ f.2.1 = f'.2.1 ∧ sx_gL ρ f.2.2.1 f'.2.2.1 ∧ sx_gS ρ f.2.2.2 f'.2.2.2
def sx_gFs (ρ : Nat → Int32) (PL : List am_M) : List sx_F → List sx_Cf → Prop
  | [], [] => True
  | f :: fs, g :: gs => sx_gF ρ PL f g ∧ sx_gFs ρ PL fs gs
  | _, _ => False
def sx_gO (ρ : Nat → Int32) : Option sx_V → Option Value → Prop
  | none, none => True
  | some v, some w => sx_g ρ v w
  | _, _ => False
def sx_tok (cl : List vw_C) (P PL : List am_M) (T : List (List sx_M)) : Prop :=
  ∀ mi m, sx_ch 16 mi T = some m → m.1 = mi → ∃ M, P[mi]? = some M ∧ sx_mok PL m M ∧ m.2.2.1 = M.2.2.1 ∧ (m.2.1 < 98 → ∃ r : vw_C, cl[m.2.1]? = some r ∧ r.1 = M.1.cls) ∧ (m.2.1 = 99 → M.1.cls = "java/lang/String")
theorem sx_new_ok {I : Instr} {X : am_X} {pc pc1 k : Nat} {l' : am_L} {st st1 : List sx_V} {st' : List Value} {H H1 : sx_H} {h' : am_H} (gB : sx_gB ρ B) (gS : sx_gS ρ st st') (gH : sx_gH tt ρ h0 H h') (h : sx_new cl tt I X pc B st H = some (pc1, st1, H1, k)) :
    ∃ F, am_a cl tt I X pc l' st' h' = some (F, k) ∧ F.1 = pc1 ∧ F.2.1 = l' ∧ sx_gS ρ st1 F.2.2.1 ∧ sx_gH tt ρ h0 H1 F.2.2.2 := by
  unfold sx_new at h
  cases hbl : Nat.blt H.2.2 999999999 with
  | false => rw [hbl] at h; cases h
  | true =>
    rw [hbl] at h
    simp only [cond_true] at h
    have hlt := sx_blt.mp hbl
    have hl : H.2.2 = h'.length := by
      have := gH.1
      rw [if_neg (by omega)] at this
      exact this.symm
    have idx : ∀ {v : sx_V} {w : Value} {n : Nat}, sx_g ρ v w → sx_in B v 60000001 = some n → ∃ i : Int32, w = .int i ∧ ¬ (i < 0 ∨ 60000000 < i.toNatClampNeg) ∧ i.toNatClampNeg = n := by
      intro v w n g hi
      obtain ⟨i, e, h1, h2, h3⟩ := sx_in_ok gB g hi
      exact ⟨i, e, fun hq => h1 (hq.imp id fun q => by omega), h2⟩
    have row : ∀ {ty : FieldType} {n : Nat} {d : sx_V} {c}, (match ty with
      | .long => ∃ f, c = .inr (.inl f) ∧ ∀ j, j < n → sx_g ρ (sx_elt d [] j) (.long (f j))
      | .object _ => ∃ f, c = .inr (.inr (.inr (.inr f))) ∧ ∀ j, j < n → sx_g ρ (sx_elt d [] j) (va_rf (f j))
      | _ => ∃ f, c = .inl f ∧ ∀ j, j < n → sx_g ρ (sx_elt d [] j) (.int (f j))) → sx_gH tt ρ h0 (sx_hpush (.inl (ty, n, d, [])) H) (h' ++ [.inl (ty, n, c)]) := by
      intro ty n d c hc
      exact sx_gH_push gH hlt ⟨c, rfl, hc⟩
    have z32 : (0 : Int32).toInt = 0 := rfl
    cases I with
    | new i =>
      simp only at h
      split at h
      case h_2 => cases h
      rename_i r hr
      cases hb : Nat.beq (tt.getD X.1 []).length r.2.2 with
      | false => rw [hb] at h; cases h
      | true =>
        rw [hb] at h
        cases h
        have e := sx_beqn.mp hb
        refine ⟨(pc + 3, l', .ref (16 + h'.length) :: st', h' ++ [.inr (X.1, (tt.getD X.1 []).map defaultValue)]), ?_, rfl, rfl, ⟨Or.inl (by rw [hl]), gS⟩, sx_gH_push gH hlt ⟨_, rfl, by rw [List.length_map], fun j v hv => ?_⟩⟩
        · simp only [am_a, hr, if_pos e]
        · simp only [sx_fld, sx_get] at hv
          split at hv
          case h_2 => cases hv
          rename_i t ht
          refine ⟨defaultValue t, by rw [List.getElem?_map, ht]; rfl, ?_⟩
          unfold sx_zero at hv
          split at hv <;> cases hv
          · exact ⟨0, rfl, rfl⟩
          · exact ⟨0, rfl, rfl⟩
          · exact ⟨0, rfl, fun c hc => by cases hc; rfl⟩
          · rfl
          · rfl
    | newarray t =>
      simp only at h
      split at h
      case h_2 => cases h
      rename_i v st0
      obtain ⟨w, t0, rfl, gv, gS1⟩ := sx_gS_cons gS
      split at h
      case h_2 => cases h
      rename_i n hn
      obtain ⟨i, rfl, hi, e⟩ := idx gv hn
      subst e
      split at h <;> cases h
      · exact ⟨(pc + 2, l', .ref (16 + h'.length) :: t0, h' ++ [.inl (.int, i.toNatClampNeg, .inl (fun _ => 0))]), by simp only [am_a, if_neg hi], rfl, rfl, ⟨Or.inl (by rw [hl]), gS1⟩, row (ty := .int) (d := sx_c 0) ⟨fun _ => 0, rfl, fun j _ => ⟨0, rfl, rfl⟩⟩⟩
      · exact ⟨(pc + 2, l', .ref (16 + h'.length) :: t0, h' ++ [.inl (.long, i.toNatClampNeg, .inr (.inl (fun _ => 0)))]), by simp only [am_a, if_neg hi], rfl, rfl, ⟨Or.inl (by rw [hl]), gS1⟩, row (ty := .long) (d := sx_j (some 0)) ⟨fun _ => 0, rfl, fun j _ => ⟨0, rfl, fun c hc => by cases hc; rfl⟩⟩⟩
      · exact ⟨(pc + 2, l', .ref (16 + h'.length) :: t0, h' ++ [.inl (.byte, i.toNatClampNeg, .inl (fun _ => 0))]), by simp only [am_a, if_neg hi], rfl, rfl, ⟨Or.inl (by rw [hl]), gS1⟩, row (ty := .byte) (d := sx_c 0) ⟨fun _ => 0, rfl, fun j _ => ⟨0, rfl, rfl⟩⟩⟩
      · exact ⟨(pc + 2, l', .ref (16 + h'.length) :: t0, h' ++ [.inl (.boolean, i.toNatClampNeg, .inl (fun _ => 0))]), by simp only [am_a, if_neg hi], rfl, rfl, ⟨Or.inl (by rw [hl]), gS1⟩, row (ty := .boolean) (d := sx_c 0) ⟨fun _ => 0, rfl, fun j _ => ⟨0, rfl, rfl⟩⟩⟩
    | anewarray i0 =>
      simp only at h
      split at h
      case h_2 => cases h
      rename_i v st0
      obtain ⟨w, t0, rfl, gv, gS1⟩ := sx_gS_cons gS
      split at h
      case h_2 => cases h
      rename_i n r hn hr
      obtain ⟨i, rfl, hi, e⟩ := idx gv hn
      subst e
      cases h
      exact ⟨(pc + 3, l', .ref (16 + h'.length) :: t0, h' ++ [.inl (.object r.1, i.toNatClampNeg, .inr (.inr (.inr (.inr (fun _ => none)))))]), by simp only [am_a, if_neg hi, hr], rfl, rfl, ⟨Or.inl (by rw [hl]), gS1⟩, row (ty := .object r.1) (d := sx_n) ⟨fun _ => none, rfl, fun j _ => rfl⟩⟩
    | _ => cases h
theorem sx_r_ok {ret : Option FieldType} {I : Instr} {st : List sx_V} {st' : List Value} {v : Option sx_V} (gB : sx_gB ρ B) (gS : sx_gS ρ st st') (h : sx_r ret I B st = some v) : ∃ v', am_r ret I st' = some v' ∧ sx_gO ρ v v' := by
  unfold sx_r at h
  split at h
  · rename_i v
    obtain ⟨w, t, rfl, gv, gt⟩ := sx_gS_cons gS
    cases sx_gS_nil gt
    cases hc : sx_isI v with
    | false => rw [hc] at h; cases h
    | true =>
      rw [hc] at h
      cases h
      obtain ⟨n, rfl⟩ := sx_g_isI gv hc
      exact ⟨_, rfl, gv⟩
  · rename_i v
    obtain ⟨w, t, rfl, gv, gt⟩ := sx_gS_cons gS
    cases sx_gS_nil gt
    split at h
    case h_2 => cases h
    rename_i p hp
    cases hc : (sx_le 0 p.1 && sx_le p.2 1) with
    | false => rw [hc] at h; cases h
    | true =>
      rw [hc] at h
      cases h
      rw [Bool.and_eq_true, sx_le_iff, sx_le_iff] at hc
      obtain ⟨n, rfl, h1, h2⟩ := sx_g_int gB gv hp
      have e : n = 0 ∨ n = 1 := by
        have : n.toInt = 0 ∨ n.toInt = 1 := by omega
        rcases this with e | e
        · exact Or.inl (Int32.toInt_inj.mp e)
        · exact Or.inr (Int32.toInt_inj.mp e)
      exact ⟨some (.int n), by simp only [am_r, if_pos e], gv⟩
  · rename_i v
    obtain ⟨w, t, rfl, gv, gt⟩ := sx_gS_cons gS
    cases sx_gS_nil gt
    split at h
    case h_2 => cases h
    rename_i c hc
    obtain ⟨n, rfl, hn⟩ := sx_g_con gB gv hc
    cases hd : decide ((Int32.ofInt c).toInt8.toInt32 = Int32.ofInt c) with
    | false => rw [hd] at h; cases h
    | true =>
      rw [hd] at h
      cases h
      have e := of_decide_eq_true hd
      rw [← sx_of hn] at e
      exact ⟨some (.int n), by simp only [am_r, if_pos e], gv⟩
  · rename_i v
    obtain ⟨w, t, rfl, gv, gt⟩ := sx_gS_cons gS
    cases sx_gS_nil gt
    split at h
    case h_2 => cases h
    rename_i c hc
    obtain ⟨n, rfl, hn⟩ := sx_g_con gB gv hc
    cases hd : decide ((Int32.ofInt c).toUInt32.toUInt16.toUInt32.toInt32 = Int32.ofInt c) with
    | false => rw [hd] at h; cases h
    | true =>
      rw [hd] at h
      cases h
      have e := of_decide_eq_true hd
      rw [← sx_of hn] at e
      exact ⟨some (.int n), by simp only [am_r, if_pos e], gv⟩
  · rename_i v
    obtain ⟨w, t, rfl, gv, gt⟩ := sx_gS_cons gS
    cases sx_gS_nil gt
    cases hc : sx_isJ v with
    | false => rw [hc] at h; cases h
    | true =>
      rw [hc] at h
      cases h
      obtain ⟨n, rfl⟩ := sx_g_isJ gv hc
      exact ⟨some (.long n), by simp only [am_r, if_true], gv⟩
  · rename_i v
    obtain ⟨w, t, rfl, gv, gt⟩ := sx_gS_cons gS
    cases sx_gS_nil gt
    cases hc : sx_isA v with
    | false => rw [hc] at h; cases h
    | true =>
      rw [hc] at h
      cases h
      rcases sx_g_isA gv hc with ⟨a, rfl⟩ | rfl
      · exact ⟨_, rfl, gv⟩
      · exact ⟨_, rfl, gv⟩
  · rename_i v
    obtain ⟨w, t, rfl, gv, gt⟩ := sx_gS_cons gS
    cases sx_gS_nil gt
    cases hc : sx_isA v with
    | false => rw [hc] at h; cases h
    | true =>
      rw [hc] at h
      cases h
      rcases sx_g_isA gv hc with ⟨a, rfl⟩ | rfl
      · exact ⟨_, rfl, gv⟩
      · exact ⟨_, rfl, gv⟩
  · cases sx_gS_nil gS
    cases h
    exact ⟨none, by simp only [am_r, if_true], trivial⟩
  · cases h
theorem sx_isref_ok {v : sx_V} {w : Value} (h : sx_isref v = true) (g : sx_g ρ v w) : ∃ a, w = .ref a := by
  match v, h, g with
  | .inr (.inr (.inr (some a))), h, g =>
    have : a ≠ 7 := fun e => by subst e; cases h
    exact ⟨a, sx_refv g this⟩
theorem sx_obj_ok {I : Instr} {X : am_X} {st st1 : List sx_V} {st' : List Value} (gS : sx_gS ρ st st') (h : sx_obj I X st = some st1) : ∃ st1', am_obj I X st' = some st1' ∧ sx_gS ρ st1 st1' := by
  unfold sx_obj at h
  split at h
  case h_2 => cases h
  rename_i i v st0
  obtain ⟨w, t, rfl, gv, gt⟩ := sx_gS_cons gS
  cases hc : (sx_eq X.2.2 1 && sx_isref v && Nat.ble (sx_cats st0) 8) with
  | false => rw [hc] at h; cases h
  | true =>
    rw [hc] at h
    cases h
    simp only [Bool.and_eq_true, sx_eq_iff, sx_ble] at hc
    obtain ⟨a, rfl⟩ := sx_isref_ok hc.1.2 gv
    have hs : (t.map fun v => v.category).sum ≤ 8 := by rw [sx_gS_cats gt]; exact hc.2
    exact ⟨t, by simp only [am_obj, if_pos hc.1.1, if_pos hs], gt⟩
theorem sx_cell_ok {H : sx_H} {h' : am_H} {v : sx_V} {w : Value} {i : Nat} {e : sx_E} (gH : sx_gH tt ρ h0 H h') (g : sx_g ρ v w) (h : sx_cell H v = some (i, e)) : ∃ a x, w = .ref a ∧ ¬ a < 16 ∧ i = a - 16 ∧ sx_hget H i = some e ∧ h'[i]? = some x ∧ sx_gE tt ρ e x := by
  match v, h, g with
  | .inr (.inr (.inr (some a))), h, g =>
    simp only [sx_cell] at h
    cases ha : Nat.blt a 16 with
    | true => rw [ha] at h; cases h
    | false =>
      have ha' := sx_blt_neg ha
      rw [ha] at h
      simp only [cond_false] at h
      split at h
      case h_2 => cases h
      rename_i e' he
      cases h
      obtain ⟨x, hx, gx⟩ := gH.2.2.1 _ _ he
      exact ⟨a, x, sx_refv g (by omega), ha', rfl, he, hx, gx⟩
theorem sx_copy_ok {I : Instr} {X : am_X} {st st1 : List sx_V} {st' : List Value} {H H1 : sx_H} {h' : am_H} (gB : sx_gB ρ B) (gS : sx_gS ρ st st') (gH : sx_gH tt ρ h0 H h') (h : sx_copy I X B st H = some (st1, H1)) :
    ∃ st1' h1', am_copy I X st' h' = some (st1', h1') ∧ sx_gS ρ st1 st1' ∧ sx_gH tt ρ h0 H1 h1' := by
  unfold sx_copy at h
  split at h
  case h_2 => cases h
  rename_i i n dp b sp a st0
  obtain ⟨n', t1, rfl, gn, gS1⟩ := sx_gS_cons gS
  obtain ⟨dp', t2, rfl, gdp, gS2⟩ := sx_gS_cons gS1
  obtain ⟨b', t3, rfl, gb, gS3⟩ := sx_gS_cons gS2
  obtain ⟨sp', t4, rfl, gsp, gS4⟩ := sx_gS_cons gS3
  obtain ⟨a', t5, rfl, ga, gS5⟩ := sx_gS_cons gS4
  cases hc : (sx_eq X.2.2 2 && Nat.ble (sx_cats st0) 8) with
  | false => rw [hc] at h; cases h
  | true =>
    rw [hc] at h
    simp only [cond_true] at h
    rw [Bool.and_eq_true, sx_eq_iff, sx_ble] at hc
    split at h
    case h_2 => cases h
    rename_i n dp sp i1 x j y hn hdp hsp ha hb
    cases hd : (sx_tI x.1 && sx_tI y.1 && Nat.beq n x.2.1 && Nat.beq n y.2.1 && Nat.beq dp 0 && Nat.beq sp 0) with
    | false => rw [hd] at h; cases h
    | true =>
      rw [hd] at h
      cases h
      simp only [Bool.and_eq_true, sx_beqn] at hd
      obtain ⟨⟨⟨⟨⟨d1, d2⟩, d3⟩, d4⟩, d5⟩, d6⟩ := hd
      obtain ⟨nn, rfl, en⟩ := sx_g_con gB gn hn
      obtain ⟨nd, rfl, ed⟩ := sx_g_con gB gdp hdp
      obtain ⟨ns, rfl, es⟩ := sx_g_con gB gsp hsp
      obtain ⟨aa, xa, rfl, la, ea, hea, hxa, gxa⟩ := sx_cell_ok gH ga ha
      obtain ⟨ab, xb, rfl, lb, eb, heb, hxb, gxb⟩ := sx_cell_ok gH gb hb
      obtain ⟨tx, nx, dx, ox⟩ := x
      obtain ⟨ty, ny, dy, oy⟩ := y
      obtain ⟨cx, rfl, hcx⟩ := gxa
      obtain ⟨cy, rfl, hcy⟩ := gxb
      cases tx <;> simp only [sx_tI, Bool.false_eq_true] at d1
      cases ty <;> simp only [sx_tI, Bool.false_eq_true] at d2
      obtain ⟨f, rfl, hf⟩ := hcx
      obtain ⟨g, rfl, hg⟩ := hcy
      simp only at d3 d4
      subst d5
      subst d6
      subst ea
      subst eb
      have q1 : nn.toNatClampNeg = n := by
        show nn.toInt.toNat = n
        rw [en]; rfl
      have q2 : nd.toNatClampNeg = 0 := by
        show nd.toInt.toNat = 0
        rw [ed]; rfl
      have q3 : ns.toNatClampNeg = 0 := by
        show ns.toInt.toNat = 0
        rw [es]; rfl
      have z : (0 : Int32).toInt = 0 := rfl
      have neg : ∀ {q : Int32} {m : Nat}, q.toInt = Int.ofNat m → ¬ q < 0 := by
        intro q m e hq
        have := Int32.lt_iff_toInt_lt.mp hq
        rw [e] at this
        have : (Int.ofNat m) = (m : Int) := rfl
        omega
      have hs : (t5.map fun v => v.category).sum ≤ 8 := by rw [sx_gS_cats gS5]; exact hc.2
      have hneg : ¬ (aa < 16 ∨ ab < 16 ∨ nn < 0 ∨ nd < 0 ∨ ns < 0 ∨ ¬ (t5.map fun v => v.category).sum ≤ 8) := by
        rintro (h | h | h | h | h | h)
        · exact la h
        · exact lb h
        · exact neg en h
        · exact neg ed h
        · exact neg es h
        · exact h hs
      have hr : ns.toNatClampNeg + nn.toNatClampNeg ≤ nx ∧ nd.toNatClampNeg + nn.toNatClampNeg ≤ ny := by
        rw [q1, q2, q3]
        omega
      refine ⟨t5, h'.set (ab - 16) (.inl (.int, ny, .inl (va_cpy f g ns.toNatClampNeg nd.toNatClampNeg nn.toNatClampNeg))), by simp only [am_copy, if_pos hc.1, if_neg hneg, hxa, hxb, if_pos hr], gS5, sx_gH_set gH heb ?_⟩
      have enx : ny = nx := by omega
      refine ⟨_, by rw [enx], _, rfl, fun j hj => ?_⟩
      rw [q1, q2, q3]
      have : va_cpy f g 0 0 n j = f j := by
        unfold va_cpy
        rw [if_pos (by omega)]
        congr 1
        omega
      rw [this]
      exact hf j hj
end SX5
end
section
/-! steps and runs -/
def sx_gI : List Value → List (Int × Int) → Prop
  | [], [] => True
  | w :: ws, q :: qs => (∃ n : Int32, w = .int n ∧ q.1 ≤ n.toInt ∧ n.toInt ≤ q.2) ∧ sx_gI ws qs
  | _, _ => False
section SX6
variable {cst : am_K} {cl : List vw_C} {tt : List (List FieldType)} {P PL : List am_M} {strs : List Nat} {Φ : am_Q → Prop} {K : sx_K} {ρ : Nat → Int32} {h0 : am_H} {B : sx_B}
theorem sx_Go_mono {call call' : Nat → List Value → am_H → am_Q → Prop} (hc : ∀ a b c d, call a b c d → call' a b c d) {M : am_M} : ∀ (n pc : Nat) (l : am_L) (st : List Value) (h : am_H) (r : am_Q), am_Go cst cl tt P strs call M n pc l st h r → am_Go cst cl tt P strs call' M n pc l st h r := by
  intro n
  induction n with
  | zero => intro pc l st h r hg; exact hg
  | succ n ih =>
    rintro pc l st h r ⟨I, X, hf, hg⟩
    refine ⟨I, X, hf, ?_⟩
    rcases hg with ⟨F, e, hg⟩ | ⟨F, k, r1, e, hg, er⟩ | hg | ⟨r1, r2, hq, hcall, hg, er⟩ | ⟨st1, e, hg⟩ | ⟨st1, h1, e, hg⟩
    · exact Or.inl ⟨F, e, ih _ _ _ _ _ hg⟩
    · exact Or.inr (Or.inl ⟨F, k, r1, e, ih _ _ _ _ _ hg, er⟩)
    · exact Or.inr (Or.inr (Or.inl hg))
    · exact Or.inr (Or.inr (Or.inr (Or.inl ⟨r1, r2, hq, hc _ _ _ _ hcall, ih _ _ _ _ _ hg, er⟩)))
    · exact Or.inr (Or.inr (Or.inr (Or.inr (Or.inl ⟨st1, e, ih _ _ _ _ _ hg⟩))))
    · exact Or.inr (Or.inr (Or.inr (Or.inr (Or.inr ⟨st1, h1, e, ih _ _ _ _ _ hg⟩))))
theorem sx_Run_succ : ∀ (d mi : Nat) (av : List Value) (h : am_H) (r : am_Q), am_Run cst cl tt P strs sx_bi d mi av h r → am_Run cst cl tt P strs sx_bi (d + 1) mi av h r := by
  intro d
  induction d with
  | zero => intro mi av h r hr; exact hr.elim
  | succ d ih =>
    rintro mi av h r (⟨-, hb⟩ | ⟨M, n, hM, hsl, hgo⟩)
    · exact hb.elim
    · exact Or.inr ⟨M, n, hM, hsl, sx_Go_mono ih n _ _ _ _ _ hgo⟩
theorem sx_Run_le {d d' mi : Nat} {av : List Value} {h : am_H} {r : am_Q} (hd : d ≤ d') (hr : am_Run cst cl tt P strs sx_bi d mi av h r) : am_Run cst cl tt P strs sx_bi d' mi av h r := by
  induction hd with
  | refl => exact hr
  | step _ ih => exact sx_Run_succ _ _ _ _ _ ih
/-- what is known of a method's effect holds -/
def sx_Yok (cst : am_K) (cl : List vw_C) (tt : List (List FieldType)) (P : List am_M) (strs : List Nat) (ρ : Nat → Int32) (d0 : Nat) (y : sx_Y) : Prop :=
  ∀ (h' : am_H) (ws : List Value), (∀ q ∈ y.2.2.2.1, ∃ x, h'[q.1]? = some x ∧ sx_gE tt ρ q.2 x) → sx_gI ws y.2.2.1 → ∃ r : am_Q, am_Run cst cl tt P strs sx_bi d0 y.1 (.ref y.2.1 :: ws) h' r ∧ r.1 = none ∧ r.2.2 = (0, 0) ∧ r.2.1.length = h'.length ∧ (∀ i, sx_get i y.2.2.2.2 = none → r.2.1[i]? = h'[i]?) ∧ ∀ i e, sx_get i y.2.2.2.2 = some e → ∃ x, r.2.1[i]? = some x ∧ sx_gE tt ρ e x
theorem sx_get_mem {α : Type} {i : Nat} {v : α} : ∀ {l : List (Nat × α)}, sx_get i l = some v → (i, v) ∈ l
  | [], h => by cases h
  | q :: l, h => by
    unfold sx_get at h
    cases hq : Nat.beq q.1 i with
    | true =>
      simp only [hq, cond_true] at h
      cases h
      rw [← sx_beqn.mp hq]
      exact List.mem_cons_self
    | false =>
      simp only [hq, cond_false] at h
      exact List.mem_cons_of_mem _ (sx_get_mem h)
theorem sx_subE_ok {x e : sx_E} {y : am_E} (h : sx_subE tt x e = true) (g : sx_gE tt ρ x y) : sx_gE tt ρ e y := by
  match x, e, h, g with
  | .inl (t, n, d, ov), .inl (t', n', d', ov'), h, g =>
    simp only [sx_subE, Bool.and_eq_true, decide_eq_true_eq, sx_beqn] at h
    obtain ⟨rfl, rfl, h⟩ := h
    obtain ⟨c, rfl, hc⟩ := g
    refine ⟨c, rfl, ?_⟩
    cases h1 : (sx_istop d' && (ov'.isEmpty && sx_tI t)) with
    | true =>
      simp only [Bool.and_eq_true] at h1
      have e1 := sx_istop_eq h1.1
      have e2 := List.isEmpty_iff.mp h1.2.1
      have e3 := h1.2.2
      cases t <;> simp only [sx_tI, Bool.false_eq_true] at e3
      obtain ⟨f, rfl, hf⟩ := hc
      refine ⟨f, rfl, fun j hj => ?_⟩
      rw [e1, e2, sx_elt_nil]
      exact sx_g_top _
    | false =>
      rw [h1] at h
      simp only [cond_false] at h
      have key : ∀ j, j < n → sx_elt d ov j = sx_elt d' ov' j := by
        cases h2 : (ov.isEmpty && ov'.isEmpty) with
        | true =>
          rw [h2] at h
          simp only [cond_true] at h
          rw [Bool.and_eq_true] at h2
          intro j _
          rw [List.isEmpty_iff.mp h2.1, List.isEmpty_iff.mp h2.2, sx_elt_nil, sx_elt_nil]
          exact sx_same_eq h
        | false =>
          rw [h2] at h
          simp only [cond_false] at h
          intro j hj
          exact sx_same_eq (List.all_eq_true.mp h j (List.mem_range.mpr hj))
      cases t <;> (obtain ⟨f, rfl, hf⟩ := hc; exact ⟨f, rfl, fun j hj => by rw [← key j hj]; exact hf j hj⟩)
  | .inr (ci, ov, bs), .inr (ci', ov', bs'), h, g =>
    simp only [sx_subE, Bool.and_eq_true, sx_beqn] at h
    obtain ⟨rfl, h⟩ := h
    obtain ⟨fs, rfl, hl, hfs⟩ := g
    refine ⟨fs, rfl, hl, fun j v hv => ?_⟩
    split at h
    · cases h
    · have hg : sx_get j ov' = some v := by
        unfold sx_fld at hv
        cases hg : sx_get j ov' with
        | some v' => rw [hg] at hv; cases hv; rfl
        | none =>
          rw [hg] at hv
          simp only [sx_ch] at hv
          split at hv
          · rename_i r hr
            have : r = [] := by
              have := List.mem_of_getElem? hr
              simpa using this
            rw [this] at hv
            simp at hv
          · cases hv
      have := List.all_eq_true.mp h _ (sx_get_mem hg)
      simp only at this
      split at this
      · rename_i v' hv'
        have e := sx_same_eq this
        subst e
        exact hfs j _ hv'
      · cases this
    · rename_i hb1 hb2
      rw [Bool.and_eq_true] at h
      have eo := List.isEmpty_iff.mp h.1
      subst eo
      have hj : j < 8 * bs'.length := by
        unfold sx_fld at hv
        simp only [sx_get] at hv
        unfold sx_ch at hv
        split at hv
        · rename_i r hr
          have := (List.getElem?_eq_some_iff.mp hr).1
          omega
        · cases hv
      have := List.all_eq_true.mp h.2 j (List.mem_range.mpr hj)
      simp only [hv] at this
      split at this
      · rename_i v' hv'
        have e := sx_same_eq this
        subst e
        exact hfs j _ hv'
      · cases this
theorem sx_pre_ok {H : sx_H} {h' : am_H} {L : List (Nat × sx_E)} (gH : sx_gH tt ρ h0 H h') (h : sx_pre tt H L = true) : ∀ q ∈ L, ∃ x, h'[q.1]? = some x ∧ sx_gE tt ρ q.2 x := by
  intro q hq
  have := List.all_eq_true.mp h q hq
  split at this
  · rename_i e he
    obtain ⟨x, hx, gx⟩ := gH.2.2.1 _ _ he
    exact ⟨x, hx, sx_subE_ok this gx⟩
  · cases this
theorem sx_ivs_ok (gB : sx_gB ρ B) : ∀ {vs : List sx_V} {qs : List (Int × Int)} {ws : List Value}, sx_ivs B vs qs = true → sx_gS ρ vs ws → sx_gI ws qs
  | [], [], [], _, _ => trivial
  | v :: vs, q :: qs, w :: ws, h, g => by
    simp only [sx_ivs, Bool.and_eq_true] at h
    refine ⟨?_, sx_ivs_ok gB h.2 g.2⟩
    have h1 := h.1
    split at h1
    · rename_i p hp
      rw [Bool.and_eq_true, sx_le_iff, sx_le_iff] at h1
      obtain ⟨n, e, n1, n2⟩ := sx_g_int gB g.1 hp
      exact ⟨n, e, by omega, by omega⟩
    · cases h1
theorem sx_hget_sets (i : Nat) (H : sx_H) : ∀ L : List (Nat × sx_E), sx_hget (sx_hsets L H) i = match sx_get i L with
    | some e => some e
    | none => sx_hget H i
  | [] => rfl
  | q :: L => by
    unfold sx_hsets
    rw [sx_hget_set, sx_hget_sets i H L]
    have e : sx_get i (q :: L) = bif Nat.beq q.1 i then some q.2 else sx_get i L := rfl
    rw [e]
    by_cases hq : i = q.1
    · rw [if_pos hq, sx_beqn.mpr hq.symm]
      rfl
    · rw [if_neg hq]
      cases hb : Nat.beq q.1 i with
      | true => exact absurd (sx_beqn.mp hb).symm hq
      | false => rfl
theorem sx_get_sets (i : Nat) (H : sx_H) : ∀ L : List (Nat × sx_E), sx_get i (sx_hsets L H).1 = none → sx_get i L = none ∧ sx_get i H.1 = none
  | [], h => ⟨rfl, h⟩
  | q :: L, h => by
    unfold sx_hsets at h
    cases hz : sx_hsets L H with
    | mk a z =>
      obtain ⟨b, n⟩ := z
      rw [hz] at h
      simp only [sx_hset, sx_get_put] at h
      by_cases hq : i = q.1
      · rw [if_pos hq] at h; cases h
      · rw [if_neg hq] at h
        have ih := sx_get_sets i H L (by rw [hz]; exact h)
        refine ⟨?_, ih.2⟩
        unfold sx_get
        cases hb : Nat.beq q.1 i with
        | true => exact absurd (sx_beqn.mp hb).symm hq
        | false => exact ih.1
theorem sx_hsets_len (H : sx_H) : ∀ L : List (Nat × sx_E), (sx_hsets L H).2.2 = H.2.2
  | [] => rfl
  | q :: L => by
    unfold sx_hsets
    have := sx_hsets_len H L
    cases hz : sx_hsets L H with
    | mk a z =>
      rw [hz] at this
      exact this
theorem sx_cats_sl : ∀ {vs : List sx_V} {ws : List Value}, sx_gS ρ vs ws → (lg_sl ws).length = sx_cats vs
  | [], [], _ => rfl
  | v :: vs, w :: ws, g => by
    have ih := sx_cats_sl g.2
    unfold lg_sl at ih ⊢
    rw [List.flatMap_cons, List.length_append, ih]
    show _ = sx_cat v + sx_cats vs
    congr 1
    rw [sx_g_cat g.1]
    match v with
    | .inl _ => rfl
    | .inr (.inl _) => rfl
    | .inr (.inr (.inl _)) => rfl
    | .inr (.inr (.inr _)) => rfl
theorem sx_rcvs_ok {I : Instr} {X : am_X} {H : sx_H} {h' : am_H} {m : sx_M} {M : am_M} {st : List sx_V} {st' : List Value} (hstr : ∀ a, 8 ≤ a → a < 12 → a ∈ strs) (gS : sx_gS ρ st st') (gH : sx_gH tt ρ h0 H h')
    (hM : P[X.1]? = some M) (h98 : m.2.1 < 98 → ∃ r : vw_C, cl[m.2.1]? = some r ∧ r.1 = M.1.cls) (h99 : m.2.1 = 99 → M.1.cls = "java/lang/String") (hx0 : X.2.2 = 0) (hle : X.2.1 ≤ st.length) (hcat : sx_cats (st.drop X.2.1) ≤ 8) (h : sx_rcvs I H m (st.take X.2.1).reverse = true) : am_c cl P strs I X st' h' := by
  have g1 := sx_gS_rev (sx_gS_take X.2.1 gS)
  refine ⟨by rw [sx_gS_len gS]; exact hle, by rw [sx_gS_cats (sx_gS_drop X.2.1 gS)]; exact hcat, hx0, ?_⟩
  unfold sx_rcvs at h
  split at h
  · trivial
  · rename_i i
    split at h
    · rename_i v As hAs
      rw [hAs] at g1
      obtain ⟨w, ws, e, gv, -⟩ := sx_gS_cons g1
      refine ⟨w, ws, M, e, hM, ?_⟩
      unfold sx_rcv at h
      split at h
      · rename_i a
        cases ha : Nat.blt a 16 with
        | true =>
          rw [ha] at h
          simp only [cond_true, Bool.and_eq_true, sx_beqn, sx_ble, sx_blt] at h
          have ew := sx_refv gv (by omega)
          exact ⟨a, ew, Or.inr ⟨sx_blt.mp ha, hstr a h.2.1 h.2.2, h99 h.1⟩⟩
        | false =>
          have ha' := sx_blt_neg ha
          rw [ha] at h
          simp only [cond_false] at h
          have ew := sx_refv gv (by omega)
          split at h
          · rename_i e' he'
            obtain ⟨ci, ov, bs⟩ := e'
            simp only [Bool.and_eq_true, sx_beqn, sx_blt] at h
            obtain ⟨x, hx, gx⟩ := gH.2.2.1 _ _ he'
            obtain ⟨fs, rfl, -⟩ := gx
            obtain ⟨r, hr, hr1⟩ := h98 h.2
            refine ⟨a, ew, Or.inl ⟨ha', ci, fs, r, hx, ?_, hr1⟩⟩
            rw [h.1]
            exact hr
          · cases h
      · cases h
    · cases h
  · rename_i i
    split at h
    · rename_i v As hAs
      rw [hAs] at g1
      obtain ⟨w, ws, e, gv, -⟩ := sx_gS_cons g1
      obtain ⟨a, rfl⟩ := sx_isref_ok h gv
      exact ⟨a, ws, e⟩
    · cases h
  · cases h
theorem sx_Fin_step {fs : List sx_Cf} {d : Nat} {M : am_M} {pc : Nat} {l : am_L} {st : List Value} {f1 : sx_Cf} {h h1 : am_H} {c s : Nat} (e1 : f1.1 = M)
    (k : ∀ n r, am_Go cst cl tt P strs (am_Run cst cl tt P strs sx_bi d) M n f1.2.1 f1.2.2.1 f1.2.2.2 h1 r → am_Go cst cl tt P strs (am_Run cst cl tt P strs sx_bi d) M (n + 1) pc l st h r)
    (hF : sx_Fin cst cl tt P strs Φ fs d f1 h1 c s) : sx_Fin cst cl tt P strs Φ fs d (M, pc, l, st) h c s := by
  refine sx_Fin_pre (dc := 0) (ds := 0) (f1 := f1) (h1 := h1) (fun n r hgo => ⟨n + 1, ?_⟩) hF
  rw [Nat.zero_add, Nat.zero_add]
  subst e1
  exact k n r hgo
end SX6
end
section
section SX7
variable {cst : am_K} {cl : List vw_C} {tt : List (List FieldType)} {P PL : List am_M} {strs : List Nat} {Φ : am_Q → Prop} {K : sx_K} {ρ : Nat → Int32} {h0 : am_H}
variable {T : List (List sx_M)} {sp sm d0 : Nat} {stop : sx_G → Bool} {Y : List sx_Y} {fin : Option sx_V → sx_H → Nat → Nat → Bool}
/-- one of the points behind a step, and what it gives of the run from here -/
def sx_next (cst : am_K) (cl : List vw_C) (tt : List (List FieldType)) (P PL : List am_M) (strs : List Nat) (Φ : am_Q → Prop) (ρ : Nat → Int32) (h0 : am_H) (gs : List sx_G) (goal : Prop) : Prop :=
  ∃ g1 ∈ gs, ∃ (f1 : sx_Cf) (fs1 : List sx_Cf) (h1 : am_H), sx_gB ρ g1.2.2.2.2.1 ∧ sx_gF ρ PL g1.2.1 f1 ∧ sx_gFs ρ PL g1.2.2.1 fs1 ∧ sx_gH tt ρ h0 g1.2.2.2.1 h1 ∧ (sx_Fin cst cl tt P strs Φ fs1 g1.1 f1 h1 g1.2.2.2.2.2.1 g1.2.2.2.2.2.2 → goal)
theorem sx_steps_ok {I : Instr} {X : am_X} {f : sx_Hd} {pc d c s : Nat} {m : sx_M} {M : am_M} {l : sx_L} {st : List sx_V} {fs : List sx_F} {h : sx_H} {B : sx_B} {gs : List sx_G} {l' : am_L} {st' : List Value} {fs' : List sx_Cf} {h' : am_H}
    (hK : sx_gK ρ K cst) (hm : sx_mok PL m M) (hfind : am_find pc M.2.2.2.2 = some (I, X)) (gB : sx_gB ρ B) (gL : sx_gL ρ l l') (gS : sx_gS ρ st st') (gFs : sx_gFs ρ PL fs fs') (gH : sx_gH tt ρ h0 h h') (hI : sx_s I = some f)
    (hs : sx_steps K tt f X pc d m l st fs h B c s = some gs) : sx_next cst cl tt P PL strs Φ ρ h0 gs (sx_Fin cst cl tt P strs Φ fs' d (M, pc, l', st') h' c s) := by
  unfold sx_steps at hs
  split at hs
  case h_2 => cases hs
  rename_i ss hss
  cases hs
  obtain ⟨q, hq, F, e, gB1, epc, gL1, gS1, gH1⟩ := sx_s_ok (cl := cl) hI hss hK gB gL gS gH
  refine ⟨_, List.mem_map.mpr ⟨q, hq, rfl⟩, (M, F.1, F.2.1, F.2.2.1), fs', F.2.2.2, gB1, ⟨hm, epc, gL1, gS1⟩, gFs, gH1, fun hF => ?_⟩
  exact sx_Fin_step rfl (fun n r hgo => ⟨I, X, hfind, Or.inl ⟨F, e, hgo⟩⟩) hF
theorem sx_stepn_ok {I : Instr} {X : am_X} {pc d c s : Nat} {m : sx_M} {M : am_M} {l : sx_L} {st : List sx_V} {fs : List sx_F} {h : sx_H} {B : sx_B} {gs : List sx_G} {l' : am_L} {st' : List Value} {fs' : List sx_Cf} {h' : am_H}
    (hm : sx_mok PL m M) (hfind : am_find pc M.2.2.2.2 = some (I, X)) (gB : sx_gB ρ B) (gL : sx_gL ρ l l') (gS : sx_gS ρ st st') (gFs : sx_gFs ρ PL fs fs') (gH : sx_gH tt ρ h0 h h')
    (hs : sx_stepn tt cl I X pc d m l st fs h B c s = some gs) : sx_next cst cl tt P PL strs Φ ρ h0 gs (sx_Fin cst cl tt P strs Φ fs' d (M, pc, l', st') h' c s) := by
  unfold sx_stepn at hs
  split at hs
  case h_2 => cases hs
  rename_i pc1 st1 h1 k hk
  cases hs
  obtain ⟨F, e, epc, el, gS1, gH1⟩ := sx_new_ok (l' := l') gB gS gH hk
  refine ⟨_, List.mem_singleton.mpr rfl, (M, F.1, F.2.1, F.2.2.1), fs', F.2.2.2, gB, ⟨hm, epc.symm, by rw [el]; exact gL, gS1⟩, gFs, gH1, fun hF => ?_⟩
  exact sx_Fin_pre (dc := 1) (ds := k) (f1 := (M, F.1, F.2.1, F.2.2.1)) (fun n r hgo => ⟨n + 1, I, X, hfind, Or.inr (Or.inl ⟨F, k, r, e, hgo, rfl⟩)⟩) hF
theorem sx_stepr_ok {I : Instr} {X : am_X} {pc d c s : Nat} {m : sx_M} {M : am_M} {st : List sx_V} {fs : List sx_F} {h : sx_H} {B : sx_B} {gs : List sx_G} {l' : am_L} {st' : List Value} {fs' : List sx_Cf} {h' : am_H}
    (hfin : ∀ v H c s v' h', fin v H c s = true → sx_gO ρ v v' → sx_gH tt ρ h0 H h' → Φ (v', h', c, s))
    (hm : sx_mok PL m M) (hfind : am_find pc M.2.2.2.2 = some (I, X)) (gB : sx_gB ρ B) (gS : sx_gS ρ st st') (gFs : sx_gFs ρ PL fs fs') (gH : sx_gH tt ρ h0 h h')
    (hs : sx_stepr fin I d m st fs h B c s = some gs) : sx_Fin cst cl tt P strs Φ fs' d (M, pc, l', st') h' c s ∨ sx_next cst cl tt P PL strs Φ ρ h0 gs (sx_Fin cst cl tt P strs Φ fs' d (M, pc, l', st') h' c s) := by
  unfold sx_stepr at hs
  split at hs
  case h_2 => cases hs
  rename_i v hv
  obtain ⟨v', er, gv⟩ := sx_r_ok gB gS hv
  rw [← hm.2.1] at er
  have hgo : am_Go cst cl tt P strs (am_Run cst cl tt P strs sx_bi d) M 1 pc l' st' h' (v', h', 0, 0) := ⟨I, X, hfind, Or.inr (Or.inr (Or.inl ⟨v', er, rfl⟩))⟩
  match fs, fs', gFs, hs with
  | [], [], _, hs =>
    simp only at hs
    cases hc : fin v h c s with
    | false => rw [hc] at hs; cases hs
    | true => exact Or.inl ⟨1, _, hgo, hfin v h c s v' h' hc gv gH⟩
  | g :: fs, g' :: fs', gFs, hs =>
    cases hs
    obtain ⟨⟨gm, gpc, gl, gst⟩, gfs⟩ := gFs
    refine Or.inr ⟨_, List.mem_singleton.mpr rfl, (g'.1, g'.2.1, g'.2.2.1, v'.toList ++ g'.2.2.2), fs', h', gB, ⟨gm, gpc, gl, ?_⟩, gfs, gH, fun hF => ⟨1, _, hgo, hF⟩⟩
    refine sx_gS_app ?_ gst
    match v, v', gv with
    | none, none, _ => exact trivial
    | some v, some v', gv => exact ⟨gv, trivial⟩
theorem sx_stepc_ok {I : Instr} {X : am_X} {pc d c s : Nat} {m : sx_M} {M : am_M} {l : sx_L} {st : List sx_V} {fs : List sx_F} {h : sx_H} {B : sx_B} {gs : List sx_G} {l' : am_L} {st' : List Value} {fs' : List sx_Cf} {h' : am_H}
    (hT : sx_tok cl P PL T) (hstr : ∀ a, 8 ≤ a → a < 12 → a ∈ strs) (hY : ∀ y ∈ Y, sx_Yok cst cl tt P strs ρ d0 y)
    (hm : sx_mok PL m M) (hfind : am_find pc M.2.2.2.2 = some (I, X)) (gB : sx_gB ρ B) (gL : sx_gL ρ l l') (gS : sx_gS ρ st st') (gFs : sx_gFs ρ PL fs fs') (gH : sx_gH tt ρ h0 h h')
    (hs : sx_stepc T tt Y d0 I X pc d m l st fs h B c s = some gs) : sx_next cst cl tt P PL strs Φ ρ h0 gs (sx_Fin cst cl tt P strs Φ fs' d (M, pc, l', st') h' c s) := by
  unfold sx_stepc at hs
  cases hx0 : sx_eq X.2.2 0 with
  | true =>
    have ex0 := sx_eq_iff.mp hx0
    rw [hx0] at hs
    simp only [cond_true] at hs
    split at hs
    · rename_i y hy
      split at hs
      case h_2 => cases hs
      rename_i m' hm'
      cases hc : (Nat.beq m'.1 X.1 && (Nat.ble d0 d && (Nat.ble X.2.1 st.length && (sx_rcvs I h m' (st.take X.2.1).reverse && (Nat.ble (sx_cats (st.drop X.2.1)) 8 && sx_yok tt B h y (st.take X.2.1).reverse))))) with
      | false => rw [hc] at hs; cases hs
      | true =>
        rw [hc] at hs
        cases hs
        simp only [Bool.and_eq_true, sx_beqn, sx_ble] at hc
        obtain ⟨c0, c1, c2, c3, c4, c5⟩ := hc
        obtain ⟨M', hM', hmok, -, h98, h99⟩ := hT _ _ hm' c0
        have hcc := sx_rcvs_ok hstr gS gH hM' h98 h99 ex0 c2 c4 c3
        have g1 := sx_gS_rev (sx_gS_take X.2.1 gS)
        have ey : y.1 = X.1 := sx_beqn.mp (by simpa using List.find?_some hy)
        have hyY := hY y (List.mem_of_find?_eq_some hy)
        unfold sx_yok at c5
        split at c5
        case h_2 => cases c5
        rename_i v As hAs
        simp only [Bool.and_eq_true] at c5
        obtain ⟨e1, e0, e2, e3⟩ := c5
        rw [hAs] at g1
        obtain ⟨w, ws, ews, gv, gws⟩ := sx_gS_cons g1
        rw [sx_same_eq e1] at gv
        obtain ⟨r, hrun, r1, r2, r3, r4, r5⟩ := hyY h' ws (sx_pre_ok gH e3) (sx_ivs_ok gB e2 gws)
        have ew : w = .ref y.2.1 := sx_refv gv (fun e7 => by rw [e7] at e0; cases e0)
        subst ew
        have hrun' : am_Run cst cl tt P strs sx_bi d X.1 (st'.take X.2.1).reverse h' r := by
          rw [ews, ← ey]
          exact sx_Run_le c1 hrun
        refine ⟨_, List.mem_singleton.mpr rfl, (M, pc + 3, l', st'.drop X.2.1), fs', r.2.1, gB, ⟨hm, rfl, gL, sx_gS_drop _ gS⟩, gFs, ?_, fun hF => ?_⟩
        · obtain ⟨g1, g2, g3, g4⟩ := gH
          refine ⟨?_, by rw [r3]; exact g2, fun i e he => ?_, fun i hi hn => ?_⟩
          · show r.2.1.length = (if 1000000000 ≤ (sx_hsets y.2.2.2.2 h).2.2 then h0.length else (sx_hsets y.2.2.2.2 h).2.2)
            rw [r3, sx_hsets_len, g1]
          · rw [sx_hget_sets] at he
            cases hg : sx_get i y.2.2.2.2 with
            | some e' =>
              rw [hg] at he
              cases he
              exact r5 i _ hg
            | none =>
              rw [hg] at he
              rw [r4 i hg]
              exact g3 i e he
          · obtain ⟨n1, n2⟩ := sx_get_sets i h y.2.2.2.2 hn
            rw [r4 i n1]
            exact g4 i hi n2
        · refine sx_Fin_step rfl (fun n q hgo => ?_) hF
          obtain ⟨ra, rb, rc, rd⟩ := r
          simp only at r1 r2
          subst r1
          cases r2
          refine ⟨I, X, hfind, Or.inr (Or.inr (Or.inr (Or.inl ⟨(none, rb, 0, 0), q, hcc, hrun', hgo, ?_⟩)))⟩
          simp only [Nat.zero_add]
    · split at hs
      case h_2 => cases hs
      rename_i d m' hm'
      cases hc : (Nat.beq m'.1 X.1 && (Nat.ble X.2.1 st.length && (sx_rcvs I h m' (st.take X.2.1).reverse && (Nat.ble (sx_cats (st.drop X.2.1)) 8 && Nat.ble (sx_cats (st.take X.2.1).reverse) m'.2.2.1)))) with
      | false => rw [hc] at hs; cases hs
      | true =>
        rw [hc] at hs
        cases hs
        simp only [Bool.and_eq_true, sx_beqn, sx_ble] at hc
        obtain ⟨c0, c2, c3, c4, c5⟩ := hc
        obtain ⟨M', hM', hmok, hml, h98, h99⟩ := hT _ _ hm' c0
        have hcc := sx_rcvs_ok hstr gS gH hM' h98 h99 ex0 c2 c4 c3
        have g1 := sx_gS_rev (sx_gS_take X.2.1 gS)
        refine ⟨_, List.mem_singleton.mpr rfl, (M', 0, lv_args 0 (st'.take X.2.1).reverse, []), (M, pc + 3, l', st'.drop X.2.1) :: fs', h', gB, ⟨hmok, rfl, sx_gL_args 0 g1, trivial⟩, ⟨⟨hm, rfl, gL, sx_gS_drop _ gS⟩, gFs⟩, gH, fun hF => ?_⟩
        obtain ⟨n, r, hgo, hF⟩ := hF
        refine sx_Fin_pre (dc := r.2.2.1) (ds := r.2.2.2) (f1 := (M, pc + 3, l', r.1.toList ++ st'.drop X.2.1)) (fun n2 q hgo2 => ⟨n2 + 1, I, X, hfind, Or.inr (Or.inr (Or.inr (Or.inl ⟨r, q, hcc, ?_, hgo2, rfl⟩)))⟩) hF
        exact Or.inr ⟨M', n, hM', by rw [sx_cats_sl g1, ← hml]; exact c5, hgo⟩
  | false =>
    rw [hx0] at hs
    simp only [cond_false] at hs
    cases hx1 : sx_eq X.2.2 1 with
    | true =>
      rw [hx1] at hs
      simp only [cond_true] at hs
      split at hs
      case h_2 => cases hs
      rename_i st1 hst
      cases hs
      obtain ⟨st1', e, g1⟩ := sx_obj_ok gS hst
      exact ⟨_, List.mem_singleton.mpr rfl, (M, pc + 3, l', st1'), fs', h', gB, ⟨hm, rfl, gL, g1⟩, gFs, gH, fun hF => sx_Fin_step rfl (fun n r hgo => ⟨I, X, hfind, Or.inr (Or.inr (Or.inr (Or.inr (Or.inl ⟨st1', e, hgo⟩))))⟩) hF⟩
    | false =>
      rw [hx1] at hs
      simp only [cond_false] at hs
      split at hs
      case h_2 => cases hs
      rename_i st1 h1 hst
      cases hs
      obtain ⟨st1', h1', e, g1, gH1⟩ := sx_copy_ok gB gS gH hst
      exact ⟨_, List.mem_singleton.mpr rfl, (M, pc + 3, l', st1'), fs', h1', gB, ⟨hm, rfl, gL, g1⟩, gFs, gH1, fun hF => sx_Fin_step rfl (fun n r hgo => ⟨I, X, hfind, Or.inr (Or.inr (Or.inr (Or.inr (Or.inr ⟨st1', h1', e, hgo⟩))))⟩) hF⟩
/-- a run all of whose ends are good -/
theorem sx_run_ok (hK : sx_gK ρ K cst) (hT : sx_tok cl P PL T) (hstr : ∀ a, 8 ≤ a → a < 12 → a ∈ strs) (hY : ∀ y ∈ Y, sx_Yok cst cl tt P strs ρ d0 y)
    (hstop : ∀ (g : sx_G) (f' : sx_Cf) (fs' : List sx_Cf) (h' : am_H), stop g = true → g.2.1.2.1 = sp → g.2.1.1.1 = sm → sx_gB ρ g.2.2.2.2.1 → sx_gF ρ PL g.2.1 f' → sx_gFs ρ PL g.2.2.1 fs' → sx_gH tt ρ h0 g.2.2.2.1 h' → sx_Fin cst cl tt P strs Φ fs' g.1 f' h' g.2.2.2.2.2.1 g.2.2.2.2.2.2)
    (hfin : ∀ v H c s v' h', fin v H c s = true → sx_gO ρ v v' → sx_gH tt ρ h0 H h' → Φ (v', h', c, s)) :
    ∀ (n : Nat) (g : sx_G) (f' : sx_Cf) (fs' : List sx_Cf) (h' : am_H), sx_run T K tt cl sp sm stop Y d0 fin n g = true → sx_gB ρ g.2.2.2.2.1 → sx_gF ρ PL g.2.1 f' → sx_gFs ρ PL g.2.2.1 fs' → sx_gH tt ρ h0 g.2.2.2.1 h' → sx_Fin cst cl tt P strs Φ fs' g.1 f' h' g.2.2.2.2.2.1 g.2.2.2.2.2.2 := by
  intro n
  induction n with
  | zero => intro g f' fs' h' hr; cases hr
  | succ n ih =>
    intro g f' fs' h' hr gB gF gFs gH
    unfold sx_run at hr
    split at hr
    case h_2 => cases hr
    rename_i gs hgs
    have fini : sx_Fin cst cl tt P strs Φ fs' g.1 f' h' g.2.2.2.2.2.1 g.2.2.2.2.2.2 ∨ sx_next cst cl tt P PL strs Φ ρ h0 gs (sx_Fin cst cl tt P strs Φ fs' g.1 f' h' g.2.2.2.2.2.1 g.2.2.2.2.2.2) := by
      obtain ⟨d, ⟨m, pc, l, st⟩, fs, h, B, c, s⟩ := g
      obtain ⟨M, pc', l', st'⟩ := f'
      obtain ⟨hm, epc, gL, gS⟩ := gF
      simp only at epc gL gS
      subst epc
      simp only [sx_step, sx_N_eq] at hgs
      cases hst : (Nat.beq pc sp && Nat.beq m.1 sm) with
      | true =>
        rw [hst] at hgs
        rw [Bool.and_eq_true, sx_beqn, sx_beqn] at hst
        obtain ⟨rfl, hsm⟩ := hst
        cases hstp : stop (d, (m, pc, l, st), fs, h, B, c, s) with
        | false => simp only [hstp] at hgs; cases hgs
        | true => exact Or.inl (hstop (d, (m, pc, l, st), fs, h, B, c, s) _ _ _ hstp rfl hsm gB ⟨hm, rfl, gL, gS⟩ gFs gH)
      | false =>
        rw [hst] at hgs
        simp only [cond_false] at hgs
        split at hgs
        case h_1 => cases hgs
        rename_i q hq
        have hfind := hm.2.2 _ _ hq
        unfold sx_stepi at hgs
        split at hgs
        · rename_i f hf
          exact Or.inr (sx_steps_ok hK hm hfind gB gL gS gFs gH hf hgs)
        · cases hc : sx_isc q.1 with
          | true =>
            rw [hc] at hgs
            exact Or.inr (sx_stepc_ok hT hstr hY hm hfind gB gL gS gFs gH hgs)
          | false =>
            rw [hc] at hgs
            cases hrr : sx_isr q.1 with
            | true =>
              rw [hrr] at hgs
              exact sx_stepr_ok hfin hm hfind gB gS gFs gH hgs
            | false =>
              rw [hrr] at hgs
              exact Or.inr (sx_stepn_ok hm hfind gB gL gS gFs gH hgs)
    rcases fini with h1 | ⟨g1, hg1, f1, fs1, h1, b1, b2, b3, b4, k⟩
    · exact h1
    · exact k (ih g1 f1 fs1 h1 (List.all_eq_true.mp hr g1 hg1) b1 b2 b3 b4)
end SX7
end
section
/-! a machine of linear words beside the abstract machine: an int is a number and symbols with factors; symbols lie between bounds, words are known to be at least 0; cells have kinds that never change, ints in cells lie in the bounds of their kind; what was read last of a cell is known -/
abbrev ly_e : Type := Int × List (Nat × Int)
/-- an int, a long, null or a place, a cell of a matter -/
abbrev ly_V : Type := ly_e ⊕ Unit ⊕ Option Nat ⊕ (Nat × ly_e)
abbrev ly_B : Type := List (Nat × Int × Int)
abbrev ly_L : Type := List (Nat × ly_V)
/-- a region, an index in it, what stands there -/
abbrev ly_K : Type := List (Nat × ly_e × ly_e)
/-- the next symbol, bounds, words that are at least 0, what is known of cells -/
abbrev ly_Z : Type := Nat × ly_B × List ly_e × ly_K
/-- kinds of fields: an int, a long, null or a fixed place, a cell of the same matter -/
abbrev ly_F : Type := (Int × Int) ⊕ Unit ⊕ Option Nat ⊕ Nat
/-- kinds of cells: a row, an object with its fields by eight -/
abbrev ly_T : Type := (FieldType × Nat × Int × Int) ⊕ (Nat × List (List ly_F))
abbrev ly_R : Type := ly_V ⊕ (Int × Int)
abbrev ly_S : Type := ly_Z × Nat × ly_L × List ly_V
def ly_I {α : Type} (z : Int) (k : Int → α) : α := match z with
  | .ofNat n => sx_N n fun n => k (.ofNat n)
  | .negSucc n => sx_N n fun n => k (.negSucc n)
def ly_fl {α : Type} : List (Nat × Int) → (List (Nat × Int) → α) → α
  | [], k => k []
  | q :: ts, k => sx_N q.1 fun i => ly_I q.2 fun a => ly_fl ts fun ts => k ((i, a) :: ts)
def ly_fe {α : Type} (e : ly_e) (k : ly_e → α) : α := ly_I e.1 fun c => ly_fl e.2 fun ts => k (c, ts)
def ly_vf {α : Type} (v : ly_V) (k : ly_V → α) : α := match v with
  | .inl e => ly_fe e fun e => k (.inl e)
  | v => k v
def ly_ins (k : Nat) (a : Int) : List (Nat × Int) → List (Nat × Int)
  | [] => [(k, a)]
  | q :: ts => bif Nat.blt k q.1 then (k, a) :: q :: ts else bif Nat.beq k q.1 then (bif sx_eq (Int.add a q.2) 0 then ts else (k, Int.add a q.2) :: ts) else q :: ly_ins k a ts
def ly_mrg : List (Nat × Int) → List (Nat × Int) → List (Nat × Int)
  | [], t => t
  | q :: s, t => ly_ins q.1 q.2 (ly_mrg s t)
def ly_add (a b : ly_e) : ly_e := (Int.add a.1 b.1, ly_mrg a.2 b.2)
def ly_scl (c : Int) (a : ly_e) : ly_e := bif sx_eq c 0 then (0, []) else (Int.mul c a.1, a.2.map fun q => (q.1, Int.mul c q.2))
def ly_neg (a : ly_e) : ly_e := ly_scl (-1) a
def ly_sub (a b : ly_e) : ly_e := ly_add a (ly_neg b)
def ly_sym (n : Nat) : ly_e := (0, [(n, 1)])
def ly_teq : List (Nat × Int) → List (Nat × Int) → Bool
  | [], [] => true
  | p :: s, q :: t => bif Nat.beq p.1 q.1 && sx_eq p.2 q.2 then ly_teq s t else false
  | _, _ => false
def ly_eq (a b : ly_e) : Bool := bif sx_eq a.1 b.1 then ly_teq a.2 b.2 else false
def ly_lo (B : ly_B) : List (Nat × Int) → Int → Option Int
  | [], c => some c
  | q :: ts, c => match sx_get q.1 B with
    | some p => (match q.2 with
      | .ofNat a => ly_lo B ts (Int.add c (Int.mul (.ofNat a) p.1))
      | .negSucc a => ly_lo B ts (Int.add c (Int.mul (.negSucc a) p.2)))
    | none => none
def ly_hi (B : ly_B) : List (Nat × Int) → Int → Option Int
  | [], c => some c
  | q :: ts, c => match sx_get q.1 B with
    | some p => (match q.2 with
      | .ofNat a => ly_hi B ts (Int.add c (Int.mul (.ofNat a) p.2))
      | .negSucc a => ly_hi B ts (Int.add c (Int.mul (.negSucc a) p.1)))
    | none => none
def ly_iv (B : ly_B) (e : ly_e) : Option (Int × Int) := match ly_lo B e.2 e.1, ly_hi B e.2 e.1 with
  | some a, some b => some (a, b)
  | _, _ => none
def ly_con (B : ly_B) (e : ly_e) : Option Int := match e.2 with
  | [] => some e.1
  | _ => match ly_iv B e with
    | some p => bif sx_eq p.1 p.2 then some p.1 else none
    | none => none
/-- at least 0, by bounds alone -/
def ly_nn (B : ly_B) (e : ly_e) : Bool := match ly_lo B e.2 e.1 with
  | some z => sx_le 0 z
  | none => false
/-- at least 0, by bounds and at most two of the words that are -/
def ly_ge (B : ly_B) (F : List ly_e) (e : ly_e) : Bool := bif ly_nn B e then true else bif F.any (fun f => ly_nn B (ly_sub e f)) then true else F.any fun f => F.any fun g => ly_nn B (ly_sub (ly_sub e f) g)
/-- what is known when a word is at least 0; none: it can't be -/
def ly_as (Z : ly_Z) (e : ly_e) : Option ly_Z := match Z with
  | (n, B, F, K) => match ly_hi B e.2 e.1 with
    | none => some (n, B, F, K)
    | some z => bif sx_le 0 z then (bif ly_nn B e then some (n, B, F, K) else match e.2 with
      | [(k, a)] => (match sx_get k B with
        | none => some (n, B, F, K)
        | some p => bif sx_eq a 1 then (ly_I (sx_mx p.1 (Int.neg e.1)) fun lo => bif sx_le lo p.2 then some (n, (k, lo, p.2) :: B, F, K) else none) else bif sx_eq a (-1) then (ly_I (sx_mn p.2 e.1) fun hi => bif sx_le p.1 hi then some (n, (k, p.1, hi) :: B, F, K) else none) else ly_fe e fun e => some (n, B, e :: F, K))
      | _ => bif ly_ge B F (ly_sub (-1, []) e) then none else ly_fe e fun e => some (n, B, e :: F, K)) else none
/-- what is known when a word is not 0 -/
def ly_ne (Z : ly_Z) (e : ly_e) : Option ly_Z := match Z with
  | (n, B, F, K) => match e.2 with
    | [] => bif sx_eq e.1 0 then none else some (n, B, F, K)
    | [(k, a)] => (match sx_get k B with
      | none => some (n, B, F, K)
      | some p => bif sx_eq a 1 || sx_eq a (-1) then (ly_I (bif sx_eq a 1 then Int.neg e.1 else e.1) fun v => bif sx_eq v p.1 then (ly_I (Int.add v 1) fun lo => bif sx_le lo p.2 then some (n, (k, lo, p.2) :: B, F, K) else none) else bif sx_eq v p.2 then (ly_I (Int.sub v 1) fun hi => bif sx_le p.1 hi then some (n, (k, p.1, hi) :: B, F, K) else none) else some (n, B, F, K)) else some (n, B, F, K))
    | _ => bif ly_ge B F e then ly_as (n, B, F, K) (ly_add (-1, []) e) else bif ly_ge B F (ly_neg e) then ly_as (n, B, F, K) (ly_sub (-1, []) e) else some (n, B, F, K)
/-- what is known when a word stands so to 0 -/
def ly_cn (c : ClassFile.Cond) (Z : ly_Z) (e : ly_e) : Option ly_Z := match c with
  | .eq => (match ly_as Z e with
    | some Z => ly_as Z (ly_neg e)
    | none => none)
  | .ne => ly_ne Z e
  | .lt => ly_as Z (ly_sub (-1, []) e)
  | .ge => ly_as Z e
  | .gt => ly_as Z (ly_add (-1, []) e)
  | .le => ly_as Z (ly_neg e)
def ly_goto (o : Option ly_Z) (pc : Nat) (l : ly_L) (st : List ly_V) : List ly_S := match o with
  | some Z => [(Z, pc, l, st)]
  | none => []
def ly_fork (c : ClassFile.Cond) (e : ly_e) (Z : ly_Z) (pc : Nat) (off : Int) (l : ly_L) (st : List ly_V) : Option (List ly_S) := bif sx_jump pc off then ly_fe e fun e => some (ly_goto (ly_cn c Z e) (sx_to pc off) l st ++ ly_goto (ly_cn (sx_neg c) Z e) (pc + 3) l st) else none
def ly_sw (x : ly_e) (Z : ly_Z) (pc : Nat) (l : ly_L) (st : List ly_V) : List Int → Int → List ly_S
  | [], _ => []
  | off :: offs, lo => ly_goto (ly_cn .eq Z (ly_sub x (lo, []))) (sx_to pc off) l st ++ ly_sw x Z pc l st offs (Int.add lo 1)
/-- a sum that stays an int, or any int -/
def ly_ex (B : ly_B) (e : ly_e) : ly_R := match ly_iv B e with
  | some p => bif sx_le sx_min p.1 && sx_le p.2 sx_max then .inl (.inl e) else .inr (sx_min, sx_max)
  | none => .inr (sx_min, sx_max)
def ly_mul (B : ly_B) (a b : ly_e) : ly_R := match ly_con B a with
  | some c => ly_ex B (ly_scl c b)
  | none => match ly_con B b with
    | some c => ly_ex B (ly_scl c a)
    | none => .inr (sx_min, sx_max)
/-- an operation on two ints: by itself where both are known, else within bounds -/
def ly_op (f : Int32 → Int32 → Int32) (g : Int × Int → Int × Int → Int × Int) (B : ly_B) (a b : ly_e) : ly_R := match ly_con B a, ly_con B b with
  | some x, some y => .inl (.inl ((f (Int32.ofInt x) (Int32.ofInt y)).toInt, []))
  | _, _ => match ly_iv B a, ly_iv B b with
    | some p, some q => .inr (g p q)
    | _, _ => .inr (sx_min, sx_max)
def ly_op1 (f : Int32 → Int32) (lo hi : Int) (B : ly_B) (a : ly_e) : ly_R := match ly_con B a with
  | some x => .inl (.inl ((f (Int32.ofInt x)).toInt, []))
  | none => match ly_iv B a with
    | some p => bif sx_le lo p.1 && sx_le p.2 hi then .inl (.inl a) else .inr (lo, hi)
    | none => .inr (lo, hi)
def ly_gtop (_ _ : Int × Int) : Int × Int := (sx_min, sx_max)
def ly_gand (p q : Int × Int) : Int × Int := bif sx_le 0 p.1 then (bif sx_le 0 q.1 then (0, sx_mn p.2 q.2) else (0, p.2)) else bif sx_le 0 q.1 then (0, q.2) else (sx_min, sx_max)
def ly_gshr (p _ : Int × Int) : Int × Int := bif sx_le 0 p.1 then (0, p.2) else (sx_min, sx_max)
def ly_gdiv (p q : Int × Int) : Int × Int := bif sx_le 1 q.1 then (bif sx_le 0 p.1 then (bif sx_eq q.1 q.2 then (Int.ediv p.1 q.1, Int.ediv p.2 q.1) else (0, p.2)) else (sx_mn p.1 0, sx_mx p.2 0)) else (sx_min, sx_max)
def ly_grem (p q : Int × Int) : Int × Int := bif sx_le 1 q.1 then (bif sx_le 0 p.1 then (0, Int.sub q.2 1) else (Int.sub 1 q.2, Int.sub q.2 1)) else (sx_min, sx_max)
def ly_psh (Z : ly_Z) (pc : Nat) (l : ly_L) (o : Option ly_R) (st : List ly_V) : Option (List ly_S) := match o with
  | some (.inl v) => ly_vf v fun v => some [(Z, pc, l, v :: st)]
  | some (.inr p) => ly_I p.1 fun lo => ly_I p.2 fun hi => bif sx_eq lo hi then some [(Z, pc, l, .inl (lo, []) :: st)] else (match Z with
    | (n, B, F, K) => sx_N n fun n => some [((n + 1, (n, lo, hi) :: B, F, K), pc, l, .inl (ly_sym n) :: st)])
  | none => none
def ly_kget (r : Nat) (i : ly_e) : ly_K → Option ly_e
  | [] => none
  | q :: K => bif Nat.beq q.1 r && ly_eq q.2.1 i then some q.2.2 else ly_kget r i K
/-- what stands in a region: as it is known, or a new symbol -/
def ly_rv (Z : ly_Z) (r : Nat) (i : ly_e) (p : Int × Int) : ly_Z × ly_e := match Z with
  | (n, B, F, K) => match ly_kget r i K with
    | some v => ((n, B, F, K), v)
    | none => sx_N n fun n => ly_fe i fun i => ((n + 1, (n, p) :: B, F, (r, i, ly_sym n) :: K), ly_sym n)
def ly_rd (Z : ly_Z) (r : Nat) (i : ly_e) (p : Int × Int) (pc : Nat) (l : ly_L) (st : List ly_V) : Option (List ly_S) := match ly_rv Z r i p with
  | (Z, v) => some [(Z, pc, l, .inl v :: st)]
/-- two words that are never even -/
def ly_dif (B : ly_B) (a b : ly_e) : Bool := bif ly_nn B (ly_add (-1, []) (ly_sub a b)) then true else ly_nn B (ly_add (-1, []) (ly_sub b a))
def ly_has (r : Nat) (L : List Nat) : Bool := L.any fun q => Nat.beq q r
/-- a write: within its bounds, in a region that may change -/
def ly_wr (mods : List Nat) (Z : ly_Z) (r : Nat) (i : ly_e) (p : Int × Int) (v : ly_e) : Option ly_Z := match Z with
  | (n, B, F, K) => bif ly_has r mods && (ly_ge B F (ly_add (Int.neg p.1, []) v) && ly_ge B F (ly_sub (p.2, []) v)) then ly_fe i fun i => ly_fe v fun v => some (n, B, F, (r, i, v) :: K.filter fun q => bif Nat.beq q.1 r then ly_dif B q.2.1 i else true) else none
/-- a region that changes in ways that nobody follows -/
def ly_drop (mods : List Nat) (Z : ly_Z) (r : Nat) : Option ly_Z := match Z with
  | (n, B, F, K) => bif ly_has r mods then some (n, B, F, K.filter fun q => !(Nat.beq q.1 r)) else none
def ly_ths (TH : List (List ly_T)) (i : Nat) : Option ly_T := bif Nat.blt i 177 then sx_ch 16 i TH else none
def ly_thm (TH : List (List ly_T)) (j : Nat) : Option ly_T := bif Nat.blt j 19 then sx_ch 16 (177 + j) TH else none
def ly_idx (Z : ly_Z) (i : ly_V) (n : Nat) : Option ly_e := match i, Z with
  | .inl e, (_, B, F, _) => bif ly_ge B F e && ly_ge B F (ly_sub (Int.sub (.ofNat n) 1, []) e) then some e else none
  | _, _ => none
def ly_cat : ly_V → Nat
  | .inr (.inl _) => 2
  | _ => 1
def ly_st1 (i : Nat) (v : ly_V) (l : ly_L) : ly_L := (i, v) :: l.filter (fun q => !(Nat.beq q.1 i) && !(Nat.beq (q.1 + 1) i && Nat.beq (ly_cat q.2) 2))
def ly_st2 (i : Nat) (v : ly_V) (l : ly_L) : ly_L := (i, v) :: l.filter (fun q => !(Nat.beq q.1 i) && (!(Nat.beq q.1 (i + 1)) && !(Nat.beq (q.1 + 1) i && Nat.beq (ly_cat q.2) 2)))
def ly_isI : ly_V → Bool
  | .inl _ => true
  | _ => false
def ly_isJ : ly_V → Bool
  | .inr (.inl _) => true
  | _ => false
def ly_isA : ly_V → Bool
  | .inr (.inr _) => true
  | _ => false
def ly_load (f : ly_V → Bool) (i : Nat) (l : ly_L) : Option ly_R := match sx_get i l with
  | some v => bif f v then some (.inl v) else none
  | none => none
def ly_sto (f : ly_V → Bool) (Z : ly_Z) (pc : Nat) (g : ly_V → ly_L) (st : List ly_V) : Option (List ly_S) := match st with
  | v :: st => bif f v then some [(Z, pc, g v, st)] else none
  | [] => none
def ly_bin (f : ly_B → ly_e → ly_e → ly_R) (Z : ly_Z) (pc : Nat) (l : ly_L) (st : List ly_V) : Option (List ly_S) := match st with
  | .inl y :: .inl x :: st => ly_psh Z (pc + 1) l (some (f Z.2.1 x y)) st
  | _ => none
def ly_un (f : ly_B → ly_e → ly_R) (Z : ly_Z) (pc : Nat) (l : ly_L) (st : List ly_V) : Option (List ly_S) := match st with
  | .inl x :: st => ly_psh Z (pc + 1) l (some (f Z.2.1 x)) st
  | _ => none
def ly_binj (Z : ly_Z) (pc : Nat) (l : ly_L) (st : List ly_V) : Option (List ly_S) := match st with
  | .inr (.inl _) :: .inr (.inl _) :: st => some [(Z, pc + 1, l, .inr (.inl ()) :: st)]
  | _ => none
def ly_rmin : List Int → Int
  | [] => sx_max
  | a :: r => sx_mn a (ly_rmin r)
def ly_rmax : List Int → Int
  | [] => sx_min
  | a :: r => sx_mx a (ly_rmax r)
/-- an element of a constant row, or of the script -/
def ly_low (K : sx_K) (a : Nat) (i : ly_V) (Z : ly_Z) (pc : Nat) (l : ly_L) (st : List ly_V) : Option (List ly_S) := bif Nat.beq a 4 then (match ly_kget 60000 (0, []) Z.2.2.2, i with
    | some n, .inl e => bif ly_ge Z.2.1 Z.2.2.1 e && ly_ge Z.2.1 Z.2.2.1 (ly_add (-1, []) (ly_sub n e)) then ly_rd Z 60001 e (sx_min, sx_max) pc l st else none
    | _, _ => none) else match sx_get a K with
  | some r => (match ly_idx Z i r.length with
    | some e => (match ly_con Z.2.1 e with
      | some (.ofNat j) => (match r[j]? with
        | some c => ly_psh Z pc l (some (.inl (.inl (c, [])))) st
        | none => none)
      | _ => ly_psh Z pc l (some (.inr (ly_rmin r, ly_rmax r))) st)
    | none => none)
  | none => none
/-- a row of this sort at a place, and whether it is the constructors' -/
def ly_row (f : FieldType → Bool) (TH : List (List ly_T)) (v : ly_V) : Option (Option Nat × FieldType × Nat × Int × Int) := match v with
  | .inr (.inr (.inl (some a))) => bif Nat.blt a 16 then none else (match ly_ths TH (a - 16) with
    | some (.inl r) => bif f r.1 then some (some (a - 16), r) else none
    | _ => none)
  | .inr (.inr (.inr (j, _))) => (match ly_thm TH j with
    | some (.inl r) => bif f r.1 then some (none, r) else none
    | _ => none)
  | _ => none
/-- an object at a place: its region, the index in it, class and fields -/
def ly_ob (TH : List (List ly_T)) (v : ly_V) : Option (Nat × ly_e × Nat × List (List ly_F)) := match v with
  | .inr (.inr (.inl (some a))) => bif Nat.blt a 16 then none else (match ly_ths TH (a - 16) with
    | some (.inr r) => some (a - 16, (0, []), r)
    | _ => none)
  | .inr (.inr (.inr (j, e))) => (match ly_thm TH j with
    | some (.inr r) => some (177 + j, e, r)
    | _ => none)
  | _ => none
def ly_rload (f : FieldType → Bool) (K : sx_K) (lows : Nat → Bool) (TH : List (List ly_T)) (Z : ly_Z) (pc : Nat) (l : ly_L) (st : List ly_V) : Option (List ly_S) := match st with
  | i :: v :: st => (match ly_row f TH v with
    | some (some c, _, n, p) => (match ly_idx Z i n with
      | some e => ly_rd Z (256 * c) e p (pc + 1) l st
      | none => none)
    | some (none, _, n, p) => (match ly_idx Z i n with
      | some _ => ly_psh Z (pc + 1) l (some (.inr p)) st
      | none => none)
    | none => (match v with
      | .inr (.inr (.inl (some a))) => bif Nat.blt a 16 && lows a then ly_low K a i Z (pc + 1) l st else none
      | _ => none))
  | _ => none
def ly_tO : FieldType → Bool
  | .object _ => true
  | _ => false
abbrev ly_Hd : Type := sx_K → List (List FieldType) → List (List ly_T) → List Nat → List vw_C → am_X → Nat → ly_Z → ly_L → List ly_V → Option (List ly_S)
def ly_s (I : Instr) : Option ly_Hd :=
  match I with
  | .iconst n => some fun K tt TH mods cl X pc Z l st => ly_psh Z (pc + 1) l (some (.inl (.inl (sx_w n, [])))) st
  | .bipush n => some fun K tt TH mods cl X pc Z l st => ly_psh Z (pc + 2) l (bif sx_le (-128) n && sx_le n 127 then some (.inl (.inl (n, []))) else none) st
  | .sipush n => some fun K tt TH mods cl X pc Z l st => ly_psh Z (pc + 3) l (bif sx_le (-32768) n && sx_le n 32767 then some (.inl (.inl (n, []))) else none) st
  | .lconst n => some fun K tt TH mods cl X pc Z l st => some [(Z, pc + 1, l, .inr (.inl ()) :: st)]
  | .aconst_null => some fun K tt TH mods cl X pc Z l st => some [(Z, pc + 1, l, .inr (.inr (.inl none)) :: st)]
  | .ldc _ => some fun K tt TH mods cl X pc Z l st => bif Nat.beq X.1 0 then ly_psh Z (pc + 2) l (some (.inl (.inl (sx_w X.2.2, [])))) st else bif Nat.blt X.2.1 16 then some [(Z, pc + 2, l, .inr (.inr (.inl (some X.2.1))) :: st)] else none
  | .ldc_w _ => some fun K tt TH mods cl X pc Z l st => bif Nat.beq X.1 0 then ly_psh Z (pc + 3) l (some (.inl (.inl (sx_w X.2.2, [])))) st else bif Nat.blt X.2.1 16 then some [(Z, pc + 3, l, .inr (.inr (.inl (some X.2.1))) :: st)] else none
  | .ldc2_w _ => some fun K tt TH mods cl X pc Z l st => some [(Z, pc + 3, l, .inr (.inl ()) :: st)]
  | .getstatic _ => some fun K tt TH mods cl X pc Z l st => some [(Z, pc + 3, l, (bif Nat.blt X.2.1 8 then .inr (.inr (.inl (some X.2.1))) else bif Nat.beq X.2.1 8 then .inl (1, []) else .inr (.inr (.inl (some 7)))) :: st)]
  | .iload i => some fun K tt TH mods cl X pc Z l st => ly_psh Z (pc + 2) l (ly_load ly_isI i l) st
  | .iload_n i => some fun K tt TH mods cl X pc Z l st => ly_psh Z (pc + 1) l (ly_load ly_isI i.val l) st
  | .lload i => some fun K tt TH mods cl X pc Z l st => ly_psh Z (pc + 2) l (ly_load ly_isJ i l) st
  | .lload_n i => some fun K tt TH mods cl X pc Z l st => ly_psh Z (pc + 1) l (ly_load ly_isJ i.val l) st
  | .aload i => some fun K tt TH mods cl X pc Z l st => ly_psh Z (pc + 2) l (ly_load ly_isA i l) st
  | .aload_n i => some fun K tt TH mods cl X pc Z l st => ly_psh Z (pc + 1) l (ly_load ly_isA i.val l) st
  | .istore i => some fun K tt TH mods cl X pc Z l st => ly_sto ly_isI Z (pc + 2) (fun v => ly_st1 i v l) st
  | .istore_n i => some fun K tt TH mods cl X pc Z l st => ly_sto ly_isI Z (pc + 1) (fun v => ly_st1 i.val v l) st
  | .lstore i => some fun K tt TH mods cl X pc Z l st => ly_sto ly_isJ Z (pc + 2) (fun v => ly_st2 i v l) st
  | .lstore_n i => some fun K tt TH mods cl X pc Z l st => ly_sto ly_isJ Z (pc + 1) (fun v => ly_st2 i.val v l) st
  | .astore i => some fun K tt TH mods cl X pc Z l st => ly_sto ly_isA Z (pc + 2) (fun v => ly_st1 i v l) st
  | .astore_n i => some fun K tt TH mods cl X pc Z l st => ly_sto ly_isA Z (pc + 1) (fun v => ly_st1 i.val v l) st
  | .iinc i n => some fun K tt TH mods cl X pc Z l st => (match sx_get i l with
    | some (.inl x) => (match ly_psh Z (pc + 3) l (some (ly_ex Z.2.1 (ly_add x (sx_w n, [])))) [] with
      | some [(Z, pc, l, [v])] => some [(Z, pc, ly_st1 i v l, st)]
      | _ => none)
    | _ => none)
  | .iadd => some fun K tt TH mods cl X pc Z l st => ly_bin (fun B x y => ly_ex B (ly_add x y)) Z pc l st
  | .isub => some fun K tt TH mods cl X pc Z l st => ly_bin (fun B x y => ly_ex B (ly_sub x y)) Z pc l st
  | .imul => some fun K tt TH mods cl X pc Z l st => ly_bin ly_mul Z pc l st
  | .idiv => some fun K tt TH mods cl X pc Z l st => (match st with
    | .inl y :: _ => (match ly_iv Z.2.1 y with
      | some q => bif sx_le 1 q.1 then ly_bin (ly_op (fun x y => x / y) ly_gdiv) Z pc l st else none
      | none => none)
    | _ => none)
  | .irem => some fun K tt TH mods cl X pc Z l st => (match st with
    | .inl y :: _ => (match ly_iv Z.2.1 y with
      | some q => bif sx_le 1 q.1 then ly_bin (ly_op (fun x y => x - x / y * y) ly_grem) Z pc l st else none
      | none => none)
    | _ => none)
  | .iand => some fun K tt TH mods cl X pc Z l st => ly_bin (ly_op (fun x y => x &&& y) ly_gand) Z pc l st
  | .ior => some fun K tt TH mods cl X pc Z l st => ly_bin (ly_op (fun x y => x ||| y) ly_gtop) Z pc l st
  | .ixor => some fun K tt TH mods cl X pc Z l st => ly_bin (ly_op (fun x y => x ^^^ y) ly_gtop) Z pc l st
  | .ishl => some fun K tt TH mods cl X pc Z l st => ly_bin (ly_op (fun x y => x <<< (y &&& 31)) ly_gtop) Z pc l st
  | .ishr => some fun K tt TH mods cl X pc Z l st => ly_bin (ly_op (fun x y => x >>> (y &&& 31)) ly_gshr) Z pc l st
  | .iushr => some fun K tt TH mods cl X pc Z l st => ly_bin (ly_op (fun x y => (x.toUInt32 >>> (y.toUInt32 &&& Int32.toUInt32 31)).toInt32) ly_gtop) Z pc l st
  | .ladd => some fun K tt TH mods cl X pc Z l st => ly_binj Z pc l st
  | .lsub => some fun K tt TH mods cl X pc Z l st => ly_binj Z pc l st
  | .lmul => some fun K tt TH mods cl X pc Z l st => ly_binj Z pc l st
  | .lcmp => some fun K tt TH mods cl X pc Z l st => (match st with
    | .inr (.inl _) :: .inr (.inl _) :: st => ly_psh Z (pc + 1) l (some (.inr (-1, 1))) st
    | _ => none)
  | .i2l => some fun K tt TH mods cl X pc Z l st => (match st with
    | .inl _ :: st => some [(Z, pc + 1, l, .inr (.inl ()) :: st)]
    | _ => none)
  | .l2i => some fun K tt TH mods cl X pc Z l st => (match st with
    | .inr (.inl _) :: st => ly_psh Z (pc + 1) l (some (.inr (sx_min, sx_max))) st
    | _ => none)
  | .i2c => some fun K tt TH mods cl X pc Z l st => ly_un (ly_op1 (fun x => (x.toUInt32 % 65536).toInt32) 0 65535) Z pc l st
  | .i2b => some fun K tt TH mods cl X pc Z l st => ly_un (ly_op1 (fun x => x.toInt8.toInt32) (-128) 127) Z pc l st
  | .pop => some fun K tt TH mods cl X pc Z l st => (match st with
    | v :: st => bif Nat.beq (ly_cat v) 1 then some [(Z, pc + 1, l, st)] else none
    | _ => none)
  | .dup => some fun K tt TH mods cl X pc Z l st => (match st with
    | v :: st => bif Nat.beq (ly_cat v) 1 then some [(Z, pc + 1, l, v :: v :: st)] else none
    | _ => none)
  | .dup2 => some fun K tt TH mods cl X pc Z l st => (match st with
    | v :: w :: st => bif Nat.beq (ly_cat v) 1 && Nat.beq (ly_cat w) 1 then some [(Z, pc + 1, l, v :: w :: v :: w :: st)] else none
    | _ => none)
  | .goto off => some fun K tt TH mods cl X pc Z l st => bif sx_jump pc off then some [(Z, sx_to pc off, l, st)] else none
  | .ifCond c off => some fun K tt TH mods cl X pc Z l st => (match st with
    | .inl x :: st => ly_fork c x Z pc off l st
    | _ => none)
  | .if_icmp c off => some fun K tt TH mods cl X pc Z l st => (match st with
    | .inl y :: .inl x :: st => ly_fork c (ly_sub x y) Z pc off l st
    | _ => none)
  | .ifnull off => some fun K tt TH mods cl X pc Z l st => (match st with
    | .inr (.inr (.inl (some a))) :: st => bif Nat.beq a 7 then none else some [(Z, pc + 3, l, st)]
    | .inr (.inr (.inr _)) :: st => some [(Z, pc + 3, l, st)]
    | .inr (.inr (.inl none)) :: st => bif sx_jump pc off then some [(Z, sx_to pc off, l, st)] else none
    | _ => none)
  | .ifnonnull off => some fun K tt TH mods cl X pc Z l st => (match st with
    | .inr (.inr (.inl none)) :: st => some [(Z, pc + 3, l, st)]
    | .inr (.inr (.inr _)) :: st => bif sx_jump pc off then some [(Z, sx_to pc off, l, st)] else none
    | .inr (.inr (.inl (some a))) :: st => bif Nat.beq a 7 then none else bif sx_jump pc off then some [(Z, sx_to pc off, l, st)] else none
    | _ => none)
  | .tableswitch dflt lo hi offs => some fun K tt TH mods cl X pc Z l st => (match st with
    | .inl x :: st => bif sx_jump pc dflt && (offs.toList.all (sx_jump pc) && sx_eq (Int.add lo (.ofNat offs.toList.length)) (Int.add hi 1)) then some (ly_sw x Z pc l st offs.toList lo ++ (ly_goto (ly_cn .lt Z (ly_sub x (lo, []))) (sx_to pc dflt) l st ++ ly_goto (ly_cn .gt Z (ly_sub x (hi, []))) (sx_to pc dflt) l st)) else none
    | _ => none)
  | .getfield _ => some fun K tt TH mods cl X pc Z l st => (match st with
    | v :: st => (match ly_ob TH v with
      | some (c, i, ci, fs) => bif Nat.beq ci X.1 && (sx_eq X.2.2 0 && Nat.blt X.2.1 256) then (match sx_ch 8 X.2.1 fs with
        | some (.inl p) => ly_rd Z (256 * c + X.2.1) i p (pc + 3) l st
        | some (.inr (.inl _)) => some [(Z, pc + 3, l, .inr (.inl ()) :: st)]
        | some (.inr (.inr (.inl o))) => some [(Z, pc + 3, l, .inr (.inr (.inl o)) :: st)]
        | some (.inr (.inr (.inr j))) => (match v with
          | .inr (.inr (.inr (_, e))) => bif Nat.blt j 19 then some [(Z, pc + 3, l, .inr (.inr (.inr (j, e))) :: st)] else none
          | _ => none)
        | none => none) else none
      | none => (match v with
        | .inr (.inr (.inl (some a))) => bif Nat.ble 8 a && Nat.blt a 12 then (bif sx_eq X.2.2 1 then some [(Z, pc + 3, l, .inr (.inr (.inl (some (a + 4)))) :: st)] else bif sx_eq X.2.2 2 then some [(Z, pc + 3, l, .inl (0, []) :: st)] else none) else none
        | _ => none))
    | [] => none)
  | .putfield _ => some fun K tt TH mods cl X pc Z l st => (match st with
    | v :: a :: st => (match ly_ob TH a with
      | some (c, i, ci, fs) => bif Nat.beq ci X.1 && Nat.blt X.2.1 256 then (match sx_ch 8 X.2.1 fs, v with
        | some (.inl p), .inl e => bif (match (tt.getD ci [])[X.2.1]? with
          | some .int => true
          | some .boolean => sx_le 0 p.1 && sx_le p.2 1
          | _ => false) then (match ly_wr mods Z (256 * c + X.2.1) i p e with
            | some Z => some [(Z, pc + 3, l, st)]
            | none => none) else none
        | some (.inr (.inl _)), .inr (.inl _) => (match (tt.getD ci [])[X.2.1]? with
          | some .long => some [(Z, pc + 3, l, st)]
          | _ => none)
        | _, _ => none) else none
      | none => none)
    | _ => none)
  | .arraylength => some fun K tt TH mods cl X pc Z l st => (match st with
    | v :: st => (match ly_row (fun _ => true) TH v with
      | some (_, _, n, _) => bif Nat.ble n 60000000 then ly_psh Z (pc + 1) l (some (.inl (.inl (.ofNat n, [])))) st else none
      | none => (match v with
        | .inr (.inr (.inl (some a))) => bif Nat.beq a 4 then ly_rd Z 60000 (0, []) (0, 3584) (pc + 1) l st else (match sx_get a K with
          | some r => bif Nat.ble r.length 60000000 then ly_psh Z (pc + 1) l (some (.inl (.inl (.ofNat r.length, [])))) st else none
          | none => none)
        | _ => none))
    | [] => none)
  | .iaload => some fun K tt TH mods cl X pc Z l st => ly_rload sx_tI K (fun a => Nat.blt a 8) TH Z pc l st
  | .baload => some fun K tt TH mods cl X pc Z l st => ly_rload sx_tB K (fun a => Nat.ble 12 a) TH Z pc l st
  | .laload => some fun K tt TH mods cl X pc Z l st => (match st with
    | i :: a :: st => (match ly_row sx_tJ TH a with
      | some r => (match ly_idx Z i r.2.2.1 with
        | some _ => some [(Z, pc + 1, l, .inr (.inl ()) :: st)]
        | none => none)
      | none => none)
    | _ => none)
  | .aaload => some fun K tt TH mods cl X pc Z l st => (match st with
    | i :: v :: st => (match ly_row ly_tO TH v with
      | some (some _, _, n, _) => (match ly_idx Z i n with
        | some e => some [(Z, pc + 1, l, .inr (.inr (.inl none)) :: st), (Z, pc + 1, l, .inr (.inr (.inr (0, e))) :: st)]
        | none => none)
      | _ => none)
    | _ => none)
  | .iastore => some fun K tt TH mods cl X pc Z l st => (match st with
    | .inl v :: i :: a :: st => (match ly_row sx_tI TH a with
      | some (some c, _, n, p) => (match ly_idx Z i n with
        | some e => (match ly_wr mods Z (256 * c) e p v with
          | some Z => some [(Z, pc + 1, l, st)]
          | none => none)
        | none => none)
      | some (none, _, n, p) => (match ly_idx Z i n with
        | some _ => bif ly_ge Z.2.1 Z.2.2.1 (ly_add (Int.neg p.1, []) v) && ly_ge Z.2.1 Z.2.2.1 (ly_sub (p.2, []) v) then some [(Z, pc + 1, l, st)] else none
        | none => none)
      | none => none)
    | _ => none)
  | .bastore => some fun K tt TH mods cl X pc Z l st => (match st with
    | .inl _ :: i :: a :: st => (match ly_row sx_tB TH a with
      | some (some c, t, n, p) => (match ly_idx Z i n with
        | some _ => bif (match t with
          | .byte => sx_le p.1 (-128) && sx_le 127 p.2
          | _ => sx_le p.1 0 && sx_le 1 p.2) then (match ly_drop mods Z (256 * c) with
            | some Z => some [(Z, pc + 1, l, st)]
            | none => none) else none
        | none => none)
      | _ => none)
    | _ => none)
  | .lastore => some fun K tt TH mods cl X pc Z l st => (match st with
    | .inr (.inl _) :: i :: a :: st => (match ly_row sx_tJ TH a with
      | some r => (match ly_idx Z i r.2.2.1 with
        | some _ => some [(Z, pc + 1, l, st)]
        | none => none)
      | none => none)
    | _ => none)
  | .aastore => some fun K tt TH mods cl X pc Z l st => (match st with
    | .inr (.inr (.inr (0, e'))) :: i :: v :: st => (match ly_row ly_tO TH v, ly_thm TH 0 with
      | some (some _, .object C, n, _), some (.inr (ci, _)) => (match ly_idx Z i n, cl[ci]? with
        | some e, some r => bif ly_eq e e' && decide (C = r.1) then some [(Z, pc + 1, l, st)] else none
        | _, _ => none)
      | _, _ => none)
    | _ => none)
  | _ => none
end
section
/-! states at points, contracts, steps and runs of the machine of linear words -/
/-- where a symbol of a state is found: a local, a place on the stack, a region -/
abbrev ly_Q : Type := Nat × Nat × ly_e
/-- a state: where its symbols are found, how many they are, bounds, words, locals, stack, what is known of cells -/
abbrev ly_P : Type := List ly_Q × Nat × ly_B × List ly_e × ly_L × List ly_V × ly_K
/-- a contract: the state at the entry, states at the end, regions that may change, the depth, cells and slots -/
abbrev ly_C : Type := ly_P × List ly_P × List Nat × ly_e × Nat × Nat
def ly_sbt (θ : List ly_e) : List (Nat × Int) → Option ly_e
  | [] => some (0, [])
  | q :: ts => match θ[q.1]?, ly_sbt θ ts with
    | some t, some r => some (ly_add (ly_scl q.2 t) r)
    | _, _ => none
def ly_sb (θ : List ly_e) (e : ly_e) : Option ly_e := match ly_sbt θ e.2 with
  | some r => ly_fe (ly_add (e.1, []) r) some
  | none => none
def ly_sv (θ : List ly_e) : ly_V → Option ly_V
  | .inl e => (match ly_sb θ e with
    | some e => some (.inl e)
    | none => none)
  | .inr (.inl u) => some (.inr (.inl u))
  | .inr (.inr (.inl o)) => some (.inr (.inr (.inl o)))
  | .inr (.inr (.inr (j, e))) => (match ly_sb θ e with
    | some e => some (.inr (.inr (.inr (j, e))))
    | none => none)
def ly_sbs (θ : List ly_e) : List ly_e → Option (List ly_e)
  | [] => some []
  | e :: es => match ly_sb θ e, ly_sbs θ es with
    | some e, some es => some (e :: es)
    | _, _ => none
def ly_svs (θ : List ly_e) : List ly_V → Option (List ly_V)
  | [] => some []
  | e :: es => match ly_sv θ e, ly_svs θ es with
    | some e, some es => some (e :: es)
    | _, _ => none
def ly_sks (θ : List ly_e) : ly_K → Option ly_K
  | [] => some []
  | q :: es => match ly_sb θ q.2.1, ly_sb θ q.2.2, ly_sks θ es with
    | some i, some v, some es => some ((q.1, i, v) :: es)
    | _, _, _ => none
def ly_ix : ly_V → Option ly_e
  | .inl e => some e
  | .inr (.inr (.inr (_, e))) => some e
  | _ => none
def ly_so (TH : List (List ly_T)) (Z : ly_Z) (l : ly_L) (st : List ly_V) (θ : List ly_e) (q : ly_Q) : Option (ly_Z × ly_e) := bif Nat.beq q.1 0 then (match sx_get q.2.1 l with
    | some v => (match ly_ix v with
      | some e => some (Z, e)
      | none => none)
    | none => none) else bif Nat.beq q.1 1 then (match st[q.2.1]? with
    | some v => (match ly_ix v with
      | some e => some (Z, e)
      | none => none)
    | none => none) else (match ly_sb θ q.2.2 with
    | some x => (match ly_kget q.2.1 x Z.2.2.2 with
      | some v => some (Z, v)
      | none => (match ly_ths TH (q.2.1 / 256) with
        | some (.inr (_, fs)) => (match sx_ch 8 (q.2.1 % 256) fs with
          | some (.inl p) => bif ly_eq x (0, []) then some (ly_rv Z q.2.1 x p) else none
          | _ => none)
        | some (.inl (t, n, p)) => bif Nat.beq (q.2.1 % 256) 0 && (sx_tI t || sx_tB t) then (match ly_idx Z (.inl x) n with
          | some _ => some (ly_rv Z q.2.1 x p)
          | none => none) else none
        | _ => none))
    | none => none)
def ly_sos (TH : List (List ly_T)) (l : ly_L) (st : List ly_V) : List ly_Q → ly_Z → List ly_e → Option (ly_Z × List ly_e)
  | [], Z, θ => some (Z, θ)
  | q :: qs, Z, θ => match ly_so TH Z l st θ q with
    | some (Z, e) => ly_sos TH l st qs Z (θ ++ [e])
    | none => none
def ly_on : Option Nat → Option Nat → Bool
  | none, none => true
  | some a, some b => Nat.beq a b
  | _, _ => false
/-- a value that is as a state says -/
def ly_vm (θ : List ly_e) (v w : ly_V) : Bool := match v, w with
  | .inl e, .inl t => (match ly_sb θ t with
    | some t => ly_eq e t
    | none => false)
  | .inr (.inl _), .inr (.inl _) => true
  | .inr (.inr (.inl a)), .inr (.inr (.inl b)) => ly_on a b
  | .inr (.inr (.inr (j, e))), .inr (.inr (.inr (i, t))) => bif Nat.beq j i then (match ly_sb θ t with
    | some t => ly_eq e t
    | none => false) else false
  | _, _ => false
def ly_vms (θ : List ly_e) : List ly_V → List ly_V → Bool
  | [], [] => true
  | v :: vs, w :: ws => bif ly_vm θ v w then ly_vms θ vs ws else false
  | _, _ => false
def ly_mB (Z : ly_Z) (θ : List ly_e) (B : ly_B) : Bool := B.all fun q => match θ[q.1]? with
  | some t => ly_ge Z.2.1 Z.2.2.1 (ly_add (Int.neg q.2.1, []) t) && ly_ge Z.2.1 Z.2.2.1 (ly_sub (q.2.2, []) t)
  | none => false
def ly_mF (Z : ly_Z) (θ : List ly_e) (F : List ly_e) : Bool := F.all fun f => match ly_sb θ f with
  | some f => ly_ge Z.2.1 Z.2.2.1 f
  | none => false
def ly_mL (θ : List ly_e) (l L : ly_L) : Bool := L.all fun q => match sx_get q.1 l with
  | some v => ly_vm θ v q.2
  | none => false
def ly_mK (θ : List ly_e) (K K' : ly_K) : Bool := K'.all fun q => match ly_sb θ q.2.1, ly_sb θ q.2.2 with
  | some i, some v => (match ly_kget q.1 i K with
    | some w => ly_eq w v
    | none => false)
  | _, _ => false
/-- whether what is known makes a state, and its symbols in words -/
def ly_mt (TH : List (List ly_T)) (Z : ly_Z) (l : ly_L) (st : List ly_V) (θ : List ly_e) (p : ly_P) : Option (ly_Z × List ly_e) := match p with
  | (qs, n, B, F, L, St, K) => match ly_sos TH l st qs Z θ with
    | none => none
    | some (Z, θ) => bif Nat.beq θ.length n && (ly_mB Z θ B && (ly_mF Z θ F && (ly_mL θ l L && (ly_vms θ st St && ly_mK θ Z.2.2.2 K)))) then some (Z, θ) else none
def ly_id : Nat → List ly_e
  | 0 => []
  | n + 1 => ly_id n ++ [ly_sym n]
def ly_fresh : Nat → Nat → List ly_e
  | _, 0 => []
  | n, c + 1 => ly_sym n :: ly_fresh (n + 1) c
def ly_shB (n0 n : Nat) (B : ly_B) : ly_B := (B.filter fun q => Nat.ble n0 q.1).map fun q => (n + (q.1 - n0), q.2)
/-- what is known behind a call that ends so -/
def ly_app (mods : List Nat) (Z : ly_Z) (θ : List ly_e) (p : ly_P) : Option (ly_Z × List ly_V) := match Z, p with
  | (n, B, F, K), (_, nx, Bx, Fx, _, Sx, Kx) => match ly_sbs (θ ++ ly_fresh n (nx - θ.length)) Fx, ly_svs (θ ++ ly_fresh n (nx - θ.length)) Sx, ly_sks (θ ++ ly_fresh n (nx - θ.length)) Kx with
    | some Fx, some Sx, some Kx => sx_N (n + (nx - θ.length)) fun m => some ((m, ly_shB θ.length n Bx ++ B, Fx ++ F, Kx ++ K.filter fun q => !(ly_has q.1 mods)), Sx)
    | _, _, _ => none
abbrev ly_Fr : Type := sx_M × Nat × ly_L × List ly_V
abbrev ly_G : Type := Nat × ly_Fr × List ly_Fr × ly_Z × Nat × Nat
def ly_args : Nat → List ly_V → ly_L
  | _, [] => []
  | i, v :: vs => (i, v) :: ly_args (i + ly_cat v) vs
def ly_cats : List ly_V → Nat
  | [] => 0
  | v :: st => ly_cat v + ly_cats st
def ly_isref : ly_V → Bool
  | .inr (.inr (.inl (some a))) => !(Nat.beq a 7)
  | .inr (.inr (.inr _)) => true
  | _ => false
def ly_rcv (TH : List (List ly_T)) (m : sx_M) (v : ly_V) : Bool := match v with
  | .inr (.inr (.inl (some a))) => bif Nat.blt a 16 then Nat.beq m.2.1 99 && (Nat.ble 8 a && Nat.blt a 12) else (match ly_ths TH (a - 16) with
    | some (.inr (ci, _)) => Nat.beq ci m.2.1 && Nat.blt m.2.1 98
    | _ => false)
  | .inr (.inr (.inr (j, _))) => (match ly_thm TH j with
    | some (.inr (ci, _)) => Nat.beq ci m.2.1 && Nat.blt m.2.1 98
    | _ => false)
  | _ => false
def ly_rcvs (I : Instr) (TH : List (List ly_T)) (m : sx_M) (As : List ly_V) : Bool := match I with
  | .invokestatic _ => true
  | .invokevirtual _ => (match As with
    | v :: _ => ly_rcv TH m v
    | [] => false)
  | .invokespecial _ => (match As with
    | v :: _ => ly_isref v
    | [] => false)
  | _ => false
/-- a row of ints that is copied whole -/
def ly_copy (TH : List (List ly_T)) (mods : List Nat) (I : Instr) (X : am_X) (Z : ly_Z) (st : List ly_V) : Option (ly_Z × List ly_V) := match I, st with
  | .invokestatic _, .inl n :: .inl dp :: .inr (.inr (.inl (some b))) :: .inl sp :: .inr (.inr (.inl (some a))) :: st => bif sx_eq X.2.2 2 && (Nat.ble (ly_cats st) 8 && (Nat.ble 16 a && Nat.ble 16 b)) then (match ly_con Z.2.1 n, ly_con Z.2.1 dp, ly_con Z.2.1 sp, ly_ths TH (a - 16), ly_ths TH (b - 16) with
    | some (.ofNat n), some (.ofNat dp), some (.ofNat sp), some (.inl (.int, na, pa)), some (.inl (.int, nb, pb)) => bif Nat.beq n na && (Nat.beq n nb && (Nat.beq dp 0 && (Nat.beq sp 0 && (sx_le pb.1 pa.1 && sx_le pa.2 pb.2)))) then (match ly_drop mods Z (256 * (b - 16)) with
      | some Z => some (Z, st)
      | none => none) else none
    | _, _, _, _, _ => none) else none
  | _, _ => none
/-- a return's value -/
def ly_r (ret : Option FieldType) (I : Instr) (Z : ly_Z) (st : List ly_V) : Option (Option ly_V) :=
  match I, ret, st with
  | .ireturn, some .int, [.inl e] => some (some (.inl e))
  | .ireturn, some .boolean, [.inl e] => (match ly_iv Z.2.1 e with
    | some p => bif sx_le 0 p.1 && sx_le p.2 1 then some (some (.inl e)) else none
    | none => none)
  | .ireturn, some .byte, [.inl e] => (match ly_iv Z.2.1 e with
    | some p => bif sx_le (-128) p.1 && sx_le p.2 127 then some (some (.inl e)) else none
    | none => none)
  | .ireturn, some .char, [.inl e] => (match ly_iv Z.2.1 e with
    | some p => bif sx_le 0 p.1 && sx_le p.2 65535 then some (some (.inl e)) else none
    | none => none)
  | .lreturn, some .long, [.inr (.inl u)] => some (some (.inr (.inl u)))
  | .areturn, some (.object _), [.inr (.inr v)] => some (some (.inr (.inr v)))
  | .areturn, some (.array _), [.inr (.inr v)] => some (some (.inr (.inr v)))
  | .return_, none, [] => some none
  | _, _, _ => none
section LY0
variable (T : List (List sx_M)) (K0 : sx_K) (tt : List (List FieldType)) (cl : List vw_C) (TH : List (List ly_T)) (Y : List (List (List ly_C))) (mods : List Nat) (De : ly_e) (n0 : Nat) (pts : List (Nat × ly_P × ly_e)) (exs : List ly_P) (mu : Option ly_e) (mi cc cs pcc pcs : Nat)
def ly_try (k : Nat) (Z : ly_Z) (L : ly_L) : List ly_C → Option (ly_Z × List ly_e × ly_C)
  | [] => none
  | y :: ys => match ly_mt TH Z L [] [] y.1 with
    | some (Z', θ) => (match ly_sb θ y.2.2.2.1 with
      | some d => bif ly_ge Z'.2.1 Z'.2.2.1 (ly_sub (ly_add (Int.sub (-1) (.ofNat k), []) De) d) && y.2.2.1.all (fun r => ly_has r mods) then some (Z', θ, y) else ly_try k Z L ys
      | none => ly_try k Z L ys)
    | none => ly_try k Z L ys
def ly_outs (k : Nat) (m : sx_M) (pc : Nat) (l : ly_L) (st : List ly_V) (fs : List ly_Fr) (ms : List Nat) (Z : ly_Z) (θ : List ly_e) (c s : Nat) : List ly_P → Option (List ly_G)
  | [] => some []
  | p :: ps => match ly_app ms Z θ p, ly_outs k m pc l st fs ms Z θ c s ps with
    | some (Z', vs), some gs => some ((k, (m, pc, l, vs ++ st), fs, Z', c, s) :: gs)
    | _, _ => none
def ly_stepc (I : Instr) (X : am_X) (pc k : Nat) (m : sx_M) (l : ly_L) (st : List ly_V) (fs : List ly_Fr) (Z : ly_Z) (c s : Nat) : Option (List ly_G) :=
  bif sx_eq X.2.2 0 then (match sx_ch 16 X.1 T with
    | some m' => bif Nat.beq m'.1 X.1 && (Nat.ble X.2.1 st.length && (ly_rcvs I TH m' (st.take X.2.1).reverse && (Nat.ble (ly_cats (st.drop X.2.1)) 8 && Nat.ble (ly_cats (st.take X.2.1).reverse) m'.2.2.1))) then
        (match ly_try TH mods De k Z (ly_args 0 (st.take X.2.1).reverse) ((sx_ch 16 X.1 Y).getD []) with
        | some (Z', θ, y) => ly_outs k m (pc + 3) l (st.drop X.2.1) fs y.2.2.1 Z' θ (c + y.2.2.2.2.1) (s + y.2.2.2.2.2) y.2.1
        | none => bif ly_ge Z.2.1 Z.2.2.1 (ly_add (Int.sub (-2) (.ofNat k), []) De) then
          some [(k + 1, (m', 0, ly_args 0 (st.take X.2.1).reverse, []), (m, pc + 3, l, st.drop X.2.1) :: fs, Z, c, s)] else none) else none
    | none => none) else (match ly_copy TH mods I X Z st with
    | some (Z, st) => some [(k, (m, pc + 3, l, st), fs, Z, c, s)]
    | none => none)
def ly_stepr (I : Instr) (k : Nat) (m : sx_M) (st : List ly_V) (fs : List ly_Fr) (Z : ly_Z) (c s : Nat) : Option (List ly_G) :=
  match ly_r m.2.2.2.1 I Z st with
  | some v => (match fs with
    | [] => bif Nat.ble c cc && (Nat.ble s cs && exs.any fun p => (ly_mt TH Z [] v.toList (ly_id n0) p).isSome) then some [] else none
    | g :: fs => some [(k - 1, (g.1, g.2.1, g.2.2.1, v.toList ++ g.2.2.2), fs, Z, c, s)])
  | none => none
def ly_stepi (q : Instr × am_X) (pc k : Nat) (m : sx_M) (l : ly_L) (st : List ly_V) (fs : List ly_Fr) (Z : ly_Z) (c s : Nat) : Option (List ly_G) :=
  match ly_s q.1 with
  | some f => (match f K0 tt TH mods cl q.2 pc Z l st with
    | some ss => some (ss.map fun q => (k, (m, q.2.1, q.2.2.1, q.2.2.2), fs, q.1, c, s))
    | none => none)
  | none => bif sx_isc q.1 then ly_stepc T TH Y mods De q.1 q.2 pc k m l st fs Z c s else ly_stepr TH n0 exs cc cs q.1 k m st fs Z c s
def ly_at (Z : ly_Z) (l : ly_L) (st : List ly_V) (p : ly_P × ly_e) : Bool := match ly_mt TH Z l st (ly_id n0) p.1 with
  | some (Z', θ) => (match ly_sb θ p.2 with
    | some e => bif ly_ge Z'.2.1 Z'.2.2.1 e then (match mu with
      | some e0 => ly_ge Z'.2.1 Z'.2.2.1 (ly_sub (ly_add (-1, []) e0) e)
      | none => true) else false
    | none => false)
  | none => false
/-- a step; at a point that is known the run ends -/
def ly_step0 (g : ly_G) : Option (List ly_G) := match g with
  | (k, (m, pc, l, st), fs, Z, c, s) => sx_N pc fun pc => match sx_find pc m.2.2.2.2 with
    | none => none
    | some q => ly_stepi T K0 tt cl TH Y mods De n0 exs cc cs q pc k m l st fs Z c s
def ly_step (g : ly_G) : Option (List ly_G) := match g with
  | (k, (m, pc, l, st), fs, Z, c, s) => bif fs.isEmpty && pts.any (fun p => Nat.beq p.1 pc) then (bif Nat.beq m.1 mi && (Nat.ble c pcc && (Nat.ble s pcs && pts.any fun p => Nat.beq p.1 pc && ly_at TH n0 mu Z l st p.2)) then some [] else none) else ly_step0 T K0 tt cl TH Y mods De n0 exs cc cs (k, (m, pc, l, st), fs, Z, c, s)
def ly_run : Nat → ly_G → Bool
  | 0, _ => false
  | n + 1, g => match ly_step T K0 tt cl TH Y mods De n0 pts exs mu mi cc cs pcc pcs g with
    | some gs => gs.all (ly_run n)
    | none => false
/-- a run that begins with a step -/
def ly_run0 (n : Nat) (g : ly_G) : Bool := match ly_step0 T K0 tt cl TH Y mods De n0 exs cc cs g with
  | some gs => gs.all (ly_run T K0 tt cl TH Y mods De n0 pts exs mu mi cc cs pcc pcs n)
  | none => false
end LY0
/-- a method that keeps its contract, over those of the others -/
def ly_chk (T : List (List sx_M)) (K0 : sx_K) (tt : List (List FieldType)) (cl : List vw_C) (TH : List (List ly_T)) (Y : List (List (List ly_C))) (mi fuel : Nat) (pts : List (Nat × ly_P × ly_e)) (y : ly_C) : Bool := match sx_ch 16 mi T, y with
  | some m, ((_, n, B, F, L, _, K), exs, mods, De, cc, cs) => Nat.beq m.1 mi && (ly_nn B (ly_add (-1, []) De) && ((List.range n).all (fun k => (sx_get k B).isSome) && (ly_run0 T K0 tt cl TH Y mods De n pts exs none mi cc cs 0 0 fuel (0, (m, 0, L, []), [], (n, B, F, K), 0, 0) &&
      pts.all fun p => match p with
        | (pc, (_, n1, B1, F1, L1, S1, K1), e) => ly_run0 T K0 tt cl TH Y mods De n pts exs (some e) mi cc cs 0 0 fuel (0, (m, pc, L1, S1), [], (n1, B1, F1, K1), 0, 0))))
  | none, _ => false
end
section
/-! what the words of the linear machine mean -/
abbrev ly_N : Type := Nat → Option Int
def ly_evt (ν : ly_N) : List (Nat × Int) → Option Int
  | [] => some 0
  | q :: ts => match ν q.1, ly_evt ν ts with
    | some z, some s => some (q.2 * z + s)
    | _, _ => none
def ly_ev (ν : ly_N) (e : ly_e) : Option Int := match ly_evt ν e.2 with
  | some s => some (e.1 + s)
  | none => none
def ly_le (ν ν' : ly_N) : Prop := ∀ k z, ν k = some z → ν' k = some z
theorem ly_le_rf (ν : ly_N) : ly_le ν ν := fun _ _ h => h
theorem ly_le_tr {a b c : ly_N} (h1 : ly_le a b) (h2 : ly_le b c) : ly_le a c := fun k z h => h2 k z (h1 k z h)
theorem ly_evt_cons {ν : ly_N} {q : Nat × Int} {ts : List (Nat × Int)} {s : Int} : ly_evt ν (q :: ts) = some s ↔ ∃ z t, ν q.1 = some z ∧ ly_evt ν ts = some t ∧ s = q.2 * z + t := by
  constructor
  · intro h
    unfold ly_evt at h
    split at h
    · rename_i z t hz ht
      cases h
      exact ⟨z, t, hz, ht, rfl⟩
    · cases h
  · rintro ⟨z, t, hz, ht, rfl⟩
    unfold ly_evt
    simp only [hz, ht]
theorem ly_ev_iff {ν : ly_N} {e : ly_e} {z : Int} : ly_ev ν e = some z ↔ ∃ s, ly_evt ν e.2 = some s ∧ z = e.1 + s := by
  unfold ly_ev
  constructor
  · intro h
    split at h
    · rename_i s hs
      cases h
      exact ⟨s, hs, rfl⟩
    · cases h
  · rintro ⟨s, hs, rfl⟩
    simp only [hs]
theorem ly_ev_c (ν : ly_N) (c : Int) : ly_ev ν (c, []) = some c := by simp [ly_ev, ly_evt]
theorem ly_ev_sym {ν : ly_N} {n : Nat} {z : Int} (h : ν n = some z) : ly_ev ν (ly_sym n) = some z := by simp [ly_ev, ly_evt, ly_sym, h]
theorem ly_evt_le {ν ν' : ly_N} (hl : ly_le ν ν') : ∀ {ts : List (Nat × Int)} {s : Int}, ly_evt ν ts = some s → ly_evt ν' ts = some s
  | [], _, h => h
  | q :: ts, s, h => by
    obtain ⟨z, t, hz, ht, e⟩ := ly_evt_cons.mp h
    exact ly_evt_cons.mpr ⟨z, t, hl _ _ hz, ly_evt_le hl ht, e⟩
theorem ly_ev_le {ν ν' : ly_N} (hl : ly_le ν ν') {e : ly_e} {z : Int} (h : ly_ev ν e = some z) : ly_ev ν' e = some z := by
  obtain ⟨s, hs, e1⟩ := ly_ev_iff.mp h
  exact ly_ev_iff.mpr ⟨s, ly_evt_le hl hs, e1⟩
theorem ly_I_eq {α : Type} (z : Int) (k : Int → α) : ly_I z k = k z := by
  cases z <;> simp only [ly_I, sx_N_eq]
theorem ly_fl_eq {α : Type} : ∀ (ts : List (Nat × Int)) (k : List (Nat × Int) → α), ly_fl ts k = k ts
  | [], _ => rfl
  | q :: ts, k => by
    simp only [ly_fl, sx_N_eq, ly_I_eq]
    rw [ly_fl_eq ts]
theorem ly_fe_eq {α : Type} (e : ly_e) (k : ly_e → α) : ly_fe e k = k e := by
  simp only [ly_fe, ly_I_eq, ly_fl_eq]
theorem ly_vf_eq {α : Type} (v : ly_V) (k : ly_V → α) : ly_vf v k = k v := by
  unfold ly_vf
  split
  · rw [ly_fe_eq]
  · rfl
theorem ly_ins_ok {ν : ly_N} {k : Nat} {a z : Int} (hk : ν k = some z) : ∀ {ts : List (Nat × Int)} {s : Int}, ly_evt ν ts = some s → ly_evt ν (ly_ins k a ts) = some (a * z + s)
  | [], s, h => by
    cases h
    exact ly_evt_cons.mpr ⟨z, 0, hk, rfl, rfl⟩
  | q :: ts, s, h => by
    unfold ly_ins
    cases h1 : Nat.blt k q.1 with
    | true =>
      simp only [cond_true]
      exact ly_evt_cons.mpr ⟨z, s, hk, h, rfl⟩
    | false =>
      simp only [cond_false]
      obtain ⟨y, t, hy, ht, e⟩ := ly_evt_cons.mp h
      cases h2 : Nat.beq k q.1 with
      | true =>
        simp only [cond_true]
        have ek := Nat.eq_of_beq_eq_true h2
        rw [← ek, hk] at hy
        cases hy
        have ea : Int.add a q.2 = a + q.2 := rfl
        cases h3 : sx_eq (Int.add a q.2) 0 with
        | true =>
          simp only [cond_true]
          have := sx_eq_iff.mp h3
          rw [ea] at this
          rw [ht, e, ← Int.add_assoc, ← Int.add_mul, this, Int.zero_mul, Int.zero_add]
        | false =>
          simp only [cond_false]
          refine ly_evt_cons.mpr ⟨z, t, hk, ht, ?_⟩
          rw [e, ea, Int.add_mul, Int.add_assoc]
      | false =>
        simp only [cond_false]
        refine ly_evt_cons.mpr ⟨y, _, hy, ly_ins_ok hk ht, ?_⟩
        rw [e]
        omega
theorem ly_mrg_ok {ν : ly_N} : ∀ {a b : List (Nat × Int)} {x y : Int}, ly_evt ν a = some x → ly_evt ν b = some y → ly_evt ν (ly_mrg a b) = some (x + y)
  | [], b, x, y, ha, hb => by
    cases ha
    rw [Int.zero_add]
    exact hb
  | q :: a, b, x, y, ha, hb => by
    obtain ⟨z, t, hz, ht, e⟩ := ly_evt_cons.mp ha
    unfold ly_mrg
    rw [ly_ins_ok hz (ly_mrg_ok ht hb), e, Int.add_assoc]
theorem ly_add_ok {ν : ly_N} {a b : ly_e} {x y : Int} (ha : ly_ev ν a = some x) (hb : ly_ev ν b = some y) : ly_ev ν (ly_add a b) = some (x + y) := by
  obtain ⟨s, hs, e⟩ := ly_ev_iff.mp ha
  obtain ⟨t, ht, e'⟩ := ly_ev_iff.mp hb
  refine ly_ev_iff.mpr ⟨s + t, ly_mrg_ok hs ht, ?_⟩
  show x + y = (a.1 + b.1) + (s + t)
  omega
theorem ly_map_ok {ν : ly_N} {c : Int} : ∀ {a : List (Nat × Int)} {x : Int}, ly_evt ν a = some x → ly_evt ν (a.map fun q => (q.1, Int.mul c q.2)) = some (c * x)
  | [], x, h => by
    cases h
    simp [ly_evt]
  | q :: a, x, h => by
    obtain ⟨z, t, hz, ht, e⟩ := ly_evt_cons.mp h
    rw [List.map_cons]
    refine ly_evt_cons.mpr ⟨z, c * t, hz, ly_map_ok ht, ?_⟩
    show c * x = c * q.2 * z + c * t
    rw [e, Int.mul_add, Int.mul_assoc]
theorem ly_scl_ok {ν : ly_N} {c : Int} {a : ly_e} {x : Int} (ha : ly_ev ν a = some x) : ly_ev ν (ly_scl c a) = some (c * x) := by
  unfold ly_scl
  cases h0 : sx_eq c 0 with
  | true =>
    simp only [cond_true]
    rw [sx_eq_iff.mp h0, Int.zero_mul]
    exact ly_ev_c ν 0
  | false =>
    simp only [cond_false]
    obtain ⟨s, hs, e⟩ := ly_ev_iff.mp ha
    refine ly_ev_iff.mpr ⟨c * s, ly_map_ok hs, ?_⟩
    show c * x = c * a.1 + c * s
    rw [e, Int.mul_add]
theorem ly_neg_ok {ν : ly_N} {a : ly_e} {x : Int} (ha : ly_ev ν a = some x) : ly_ev ν (ly_neg a) = some (-x) := by
  have := ly_scl_ok (c := -1) ha
  unfold ly_neg
  rw [this]
  congr 1
  omega
theorem ly_sub_ok {ν : ly_N} {a b : ly_e} {x y : Int} (ha : ly_ev ν a = some x) (hb : ly_ev ν b = some y) : ly_ev ν (ly_sub a b) = some (x - y) := by
  have := ly_add_ok ha (ly_neg_ok hb)
  rw [show x - y = x + -y by omega]
  exact this
theorem ly_teq_eq : ∀ {a b : List (Nat × Int)}, ly_teq a b = true → a = b
  | [], [], _ => rfl
  | p :: s, q :: t, h => by
    unfold ly_teq at h
    cases hc : (Nat.beq p.1 q.1 && sx_eq p.2 q.2) with
    | false => rw [hc] at h; cases h
    | true =>
      rw [hc] at h
      simp only [cond_true] at h
      rw [Bool.and_eq_true] at hc
      have e1 := Nat.eq_of_beq_eq_true hc.1
      have e2 := sx_eq_iff.mp hc.2
      rw [ly_teq_eq h]
      congr 1
      exact Prod.ext e1 e2
  | [], _ :: _, h => by cases h
  | _ :: _, [], h => by cases h
theorem ly_eq_eq {a b : ly_e} (h : ly_eq a b = true) : a = b := by
  unfold ly_eq at h
  cases hc : sx_eq a.1 b.1 with
  | false => rw [hc] at h; cases h
  | true =>
    rw [hc] at h
    exact Prod.ext (sx_eq_iff.mp hc) (ly_teq_eq h)
def ly_gB (ν : ly_N) (B : ly_B) : Prop := ∀ q ∈ B, ∃ z, ν q.1 = some z ∧ q.2.1 ≤ z ∧ z ≤ q.2.2
def ly_gF (ν : ly_N) (F : List ly_e) : Prop := ∀ f ∈ F, ∃ z, ly_ev ν f = some z ∧ 0 ≤ z
theorem ly_gB_get {ν : ly_N} {B : ly_B} (h : ly_gB ν B) {k : Nat} {p : Int × Int} (hg : sx_get k B = some p) : ∃ z, ν k = some z ∧ p.1 ≤ z ∧ z ≤ p.2 := h (k, p) (sx_get_mem hg)
theorem ly_gB_le {ν ν' : ly_N} (hl : ly_le ν ν') {B : ly_B} (h : ly_gB ν B) : ly_gB ν' B := fun q hq => by
  obtain ⟨z, hz, h1⟩ := h q hq
  exact ⟨z, hl _ _ hz, h1⟩
theorem ly_gF_le {ν ν' : ly_N} (hl : ly_le ν ν') {F : List ly_e} (h : ly_gF ν F) : ly_gF ν' F := fun q hq => by
  obtain ⟨z, hz, h1⟩ := h q hq
  exact ⟨z, ly_ev_le hl hz, h1⟩
section LY1
variable {ν : ly_N} {B : ly_B} {F : List ly_e}
theorem ly_lo_ok (hB : ly_gB ν B) : ∀ {ts : List (Nat × Int)} {c z : Int}, ly_lo B ts c = some z → ∃ s, ly_evt ν ts = some s ∧ z ≤ c + s
  | [], c, z, h => by
    cases h
    exact ⟨0, rfl, by omega⟩
  | q :: ts, c, z, h => by
    unfold ly_lo at h
    split at h
    case h_2 => cases h
    rename_i p hp
    obtain ⟨y, hy, b1, b2⟩ := ly_gB_get hB hp
    split at h
    · rename_i a ha
      obtain ⟨s, hs, hz⟩ := ly_lo_ok hB h
      refine ⟨q.2 * y + s, ly_evt_cons.mpr ⟨y, s, hy, hs, rfl⟩, ?_⟩
      have m : (Int.ofNat a) * p.1 ≤ (Int.ofNat a) * y := Int.mul_le_mul_of_nonneg_left b1 (Int.natCast_nonneg a)
      have e : Int.add c (Int.mul (Int.ofNat a) p.1) = c + (Int.ofNat a) * p.1 := rfl
      rw [e] at hz
      rw [ha]
      omega
    · rename_i a ha
      obtain ⟨s, hs, hz⟩ := ly_lo_ok hB h
      refine ⟨q.2 * y + s, ly_evt_cons.mpr ⟨y, s, hy, hs, rfl⟩, ?_⟩
      have m : (Int.negSucc a) * p.2 ≤ (Int.negSucc a) * y := Int.mul_le_mul_of_nonpos_left (Int.le_of_lt (Int.negSucc_lt_zero a)) b2
      have e : Int.add c (Int.mul (Int.negSucc a) p.2) = c + (Int.negSucc a) * p.2 := rfl
      rw [e] at hz
      rw [ha]
      omega
theorem ly_hi_ok (hB : ly_gB ν B) : ∀ {ts : List (Nat × Int)} {c z : Int}, ly_hi B ts c = some z → ∃ s, ly_evt ν ts = some s ∧ c + s ≤ z
  | [], c, z, h => by
    cases h
    exact ⟨0, rfl, by omega⟩
  | q :: ts, c, z, h => by
    unfold ly_hi at h
    split at h
    case h_2 => cases h
    rename_i p hp
    obtain ⟨y, hy, b1, b2⟩ := ly_gB_get hB hp
    split at h
    · rename_i a ha
      obtain ⟨s, hs, hz⟩ := ly_hi_ok hB h
      refine ⟨q.2 * y + s, ly_evt_cons.mpr ⟨y, s, hy, hs, rfl⟩, ?_⟩
      have m : (Int.ofNat a) * y ≤ (Int.ofNat a) * p.2 := Int.mul_le_mul_of_nonneg_left b2 (Int.natCast_nonneg a)
      have e : Int.add c (Int.mul (Int.ofNat a) p.2) = c + (Int.ofNat a) * p.2 := rfl
      rw [e] at hz
      rw [ha]
      omega
    · rename_i a ha
      obtain ⟨s, hs, hz⟩ := ly_hi_ok hB h
      refine ⟨q.2 * y + s, ly_evt_cons.mpr ⟨y, s, hy, hs, rfl⟩, ?_⟩
      have m : (Int.negSucc a) * y ≤ (Int.negSucc a) * p.1 := Int.mul_le_mul_of_nonpos_left (Int.le_of_lt (Int.negSucc_lt_zero a)) b1
      have e : Int.add c (Int.mul (Int.negSucc a) p.1) = c + (Int.negSucc a) * p.1 := rfl
      rw [e] at hz
      rw [ha]
      omega
theorem ly_iv_ok (hB : ly_gB ν B) {e : ly_e} {p : Int × Int} (h : ly_iv B e = some p) : ∃ z, ly_ev ν e = some z ∧ p.1 ≤ z ∧ z ≤ p.2 := by
  unfold ly_iv at h
  split at h
  case h_2 => cases h
  rename_i a b ha hb
  cases h
  obtain ⟨s, hs, h1⟩ := ly_lo_ok hB ha
  obtain ⟨s', hs', h2⟩ := ly_hi_ok hB hb
  rw [hs] at hs'
  cases hs'
  exact ⟨e.1 + s, ly_ev_iff.mpr ⟨s, hs, rfl⟩, h1, h2⟩
theorem ly_con_ok (hB : ly_gB ν B) {e : ly_e} {c : Int} (h : ly_con B e = some c) : ly_ev ν e = some c := by
  unfold ly_con at h
  split at h
  · rename_i he
    cases h
    exact ly_ev_iff.mpr ⟨0, by rw [he]; rfl, by omega⟩
  · split at h
    case h_2 => cases h
    rename_i p hp
    cases hc : sx_eq p.1 p.2 with
    | false => rw [hc] at h; cases h
    | true =>
      rw [hc] at h
      cases h
      obtain ⟨z, hz, h1, h2⟩ := ly_iv_ok hB hp
      have := sx_eq_iff.mp hc
      rw [hz]
      congr 1
      omega
theorem ly_nn_ok (hB : ly_gB ν B) {e : ly_e} (h : ly_nn B e = true) : ∃ z, ly_ev ν e = some z ∧ 0 ≤ z := by
  unfold ly_nn at h
  split at h
  case h_2 => cases h
  rename_i z hz
  obtain ⟨s, hs, h1⟩ := ly_lo_ok hB hz
  have := sx_le_iff.mp h
  exact ⟨e.1 + s, ly_ev_iff.mpr ⟨s, hs, rfl⟩, by omega⟩
theorem ly_ge_ok (hB : ly_gB ν B) (hF : ly_gF ν F) {e : ly_e} {z : Int} (h : ly_ge B F e = true) (he : ly_ev ν e = some z) : 0 ≤ z := by
  unfold ly_ge at h
  cases h1 : ly_nn B e with
  | true =>
    obtain ⟨y, hy, h2⟩ := ly_nn_ok hB h1
    rw [he] at hy
    cases hy
    exact h2
  | false =>
    rw [h1] at h
    simp only [cond_false] at h
    cases h2 : F.any (fun f => ly_nn B (ly_sub e f)) with
    | true =>
      obtain ⟨f, hf, h3⟩ := List.any_eq_true.mp h2
      obtain ⟨x, hx, x0⟩ := hF f hf
      obtain ⟨y, hy, y0⟩ := ly_nn_ok hB h3
      rw [ly_sub_ok he hx] at hy
      cases hy
      omega
    | false =>
      rw [h2] at h
      simp only [cond_false] at h
      obtain ⟨f, hf, h3⟩ := List.any_eq_true.mp h
      obtain ⟨g, hg, h4⟩ := List.any_eq_true.mp h3
      obtain ⟨x, hx, x0⟩ := hF f hf
      obtain ⟨w, hw, w0⟩ := hF g hg
      obtain ⟨y, hy, y0⟩ := ly_nn_ok hB h4
      rw [ly_sub_ok (ly_sub_ok he hx) hw] at hy
      cases hy
      omega
end LY1
end
section
/-! values, regions, heaps of the linear machine -/
def ly_g (ν : ly_N) (len : Nat) : ly_V → Value → Prop
  | .inl e, w => ∃ x : Int32, w = .int x ∧ ly_ev ν e = some x.toInt
  | .inr (.inl _), w => ∃ x : Int64, w = .long x
  | .inr (.inr (.inl none)), w => w = .null
  | .inr (.inr (.inl (some a))), w => w = .ref a ∨ (a = 7 ∧ w = .null)
  | .inr (.inr (.inr (j, e))), w => j < 19 ∧ ∃ z : Nat, ly_ev ν e = some (z : Int) ∧ w = .ref (16 + (177 + 19 * z + j)) ∧ 177 + 19 * (z + 1) ≤ len
def ly_gS (ν : ly_N) (len : Nat) : List ly_V → List Value → Prop
  | [], [] => True
  | v :: vs, w :: ws => ly_g ν len v w ∧ ly_gS ν len vs ws
  | _, _ => False
def ly_gL (ν : ly_N) (len : Nat) (l : ly_L) (l' : am_L) : Prop := ∀ q ∈ l, ∃ w, am_ld q.1 l' = some w ∧ ly_g ν len q.2 w
def ly_hs (x : Option am_E) (k : Nat) (i : Int) : Option Int := match x with
  | some (.inr (_, fs)) => if i = 0 then (match fs[k]? with
    | some (.int x) => some x.toInt
    | _ => none) else none
  | some (.inl (_, n, .inl f)) => if k = 0 ∧ 0 ≤ i ∧ i.toNat < n then some (f i.toNat).toInt else none
  | _ => none
def ly_hm (x : Option am_E) (k : Nat) : Option Int := match x with
  | some (.inr (_, fs)) => (match fs[k]? with
    | some (.int x) => some x.toInt
    | _ => none)
  | _ => none
/-- the script's length and its elements -/
def ly_hk (cst : am_K) (r : Nat) (i : Int) : Option Int := match cst.1[4]? with
  | some L => if r = 60000 then (if i = 0 then some (L.length : Int) else none) else if r = 60001 ∧ 0 ≤ i then (match L[i.toNat]? with
    | some x => some x.toInt
    | none => none) else none
  | none => none
/-- what stands in a region at an index -/
def ly_hv (cst : am_K) (h : am_H) (r : Nat) (i : Int) : Option Int :=
  if r / 256 < 177 then ly_hs h[r / 256]? (r % 256) i
  else if r / 256 < 196 then (if 0 ≤ i then ly_hm h[177 + 19 * i.toNat + (r / 256 - 177)]? (r % 256) else none)
  else ly_hk cst r i
def ly_gK (cst : am_K) (ν : ly_N) (h : am_H) (K : ly_K) : Prop := ∀ q ∈ K, ∃ i v, ly_ev ν q.2.1 = some i ∧ ly_ev ν q.2.2 = some v ∧ ly_hv cst h q.1 i = some v
def ly_gZ (cst : am_K) (ν : ly_N) (Z : ly_Z) (h : am_H) : Prop := (∀ k, Z.1 ≤ k → ν k = none) ∧ ly_gB ν Z.2.1 ∧ ly_gF ν Z.2.2.1 ∧ ly_gK cst ν h Z.2.2.2
/-- a field, a cell, a heap of its kind -/
def ly_gf (b : Nat) : ly_F → Value → Prop
  | .inl p, w => ∃ x : Int32, w = .int x ∧ p.1 ≤ x.toInt ∧ x.toInt ≤ p.2
  | .inr (.inl _), w => ∃ x : Int64, w = .long x
  | .inr (.inr (.inl none)), w => w = .null
  | .inr (.inr (.inl (some a))), w => w = .ref a
  | .inr (.inr (.inr j)), w => w = .ref (16 + (b + j))
def ly_gT (tt : List (List FieldType)) (len b : Nat) : ly_T → am_E → Prop
  | .inl (ty, n, lo, hi), x => ∃ c, x = .inl (ty, n, c) ∧ (match ty with
    | .long => ∃ f, c = .inr (.inl f)
    | .object _ => ∃ f, c = .inr (.inr (.inr (.inr f))) ∧ ∀ j, j < n → f j = none ∨ (f j = some (16 + (177 + 19 * j)) ∧ 177 + 19 * (j + 1) ≤ len)
    | _ => ∃ f, c = .inl f ∧ ∀ j, j < n → lo ≤ (f j).toInt ∧ (f j).toInt ≤ hi)
  | .inr (ci, fs), x => ∃ vs : List Value, x = .inr (ci, vs) ∧ vs.length = (tt.getD ci []).length ∧ ∀ k f, sx_ch 8 k fs = some f → ∃ w, vs[k]? = some w ∧ ly_gf b f w
def ly_hy (tt : List (List FieldType)) (TH : List (List ly_T)) (h : am_H) : Prop :=
  177 ≤ h.length ∧ (∀ i t, ly_ths TH i = some t → ∃ x, h[i]? = some x ∧ ly_gT tt h.length 0 t x) ∧ ∀ e j t, 177 + 19 * (e + 1) ≤ h.length → ly_thm TH j = some t → ∃ x, h[177 + 19 * e + j]? = some x ∧ ly_gT tt h.length (177 + 19 * e) t x
/-- other regions than these stand as they stood -/
def ly_fr (cst : am_K) (mods : List Nat) (h h' : am_H) : Prop := ∀ r i v, ly_has r mods = false → ly_hv cst h r i = some v → ly_hv cst h' r i = some v
theorem ly_fr_rf {cst : am_K} {mods : List Nat} (h : am_H) : ly_fr cst mods h h := fun _ _ _ _ e => e
theorem ly_fr_tr {cst : am_K} {mods : List Nat} {a b c : am_H} (h1 : ly_fr cst mods a b) (h2 : ly_fr cst mods b c) : ly_fr cst mods a c := fun r i v hr e => h2 r i v hr (h1 r i v hr e)
section LY2
variable {ν ν' : ly_N} {len len' : Nat}
theorem ly_g_le (hl : ly_le ν ν') (hn : len ≤ len') : ∀ {v : ly_V} {w : Value}, ly_g ν len v w → ly_g ν' len' v w
  | .inl e, w, h => by
    obtain ⟨x, e1, e2⟩ := h
    exact ⟨x, e1, ly_ev_le hl e2⟩
  | .inr (.inl _), w, h => h
  | .inr (.inr (.inl none)), w, h => h
  | .inr (.inr (.inl (some a))), w, h => h
  | .inr (.inr (.inr (j, e))), w, h => by
    obtain ⟨hj, z, e1, e2, e3⟩ := h
    exact ⟨hj, z, ly_ev_le hl e1, e2, by omega⟩
theorem ly_gS_le (hl : ly_le ν ν') (hn : len ≤ len') : ∀ {vs : List ly_V} {ws : List Value}, ly_gS ν len vs ws → ly_gS ν' len' vs ws
  | [], [], _ => trivial
  | _ :: _, _ :: _, h => ⟨ly_g_le hl hn h.1, ly_gS_le hl hn h.2⟩
  | [], _ :: _, h => h.elim
  | _ :: _, [], h => h.elim
theorem ly_gL_le (hl : ly_le ν ν') (hn : len ≤ len') {l : ly_L} {l' : am_L} (h : ly_gL ν len l l') : ly_gL ν' len' l l' := fun q hq => by
  obtain ⟨w, e, g⟩ := h q hq
  exact ⟨w, e, ly_g_le hl hn g⟩
theorem ly_gK_le {cst : am_K} {h : am_H} (hl : ly_le ν ν') {K : ly_K} (g : ly_gK cst ν h K) : ly_gK cst ν' h K := fun q hq => by
  obtain ⟨i, v, e1, e2, e3⟩ := g q hq
  exact ⟨i, v, ly_ev_le hl e1, ly_ev_le hl e2, e3⟩
theorem ly_g_cat : ∀ {v : ly_V} {w : Value}, ly_g ν len v w → w.category = ly_cat v
  | .inl e, w, h => by obtain ⟨x, e1, -⟩ := h; rw [e1]; rfl
  | .inr (.inl _), w, h => by obtain ⟨x, e1⟩ := h; rw [e1]; rfl
  | .inr (.inr (.inl none)), w, h => by rw [show w = .null from h]; rfl
  | .inr (.inr (.inl (some a))), w, h => by rcases h with e | ⟨-, e⟩ <;> rw [e] <;> rfl
  | .inr (.inr (.inr (j, e))), w, h => by obtain ⟨-, z, -, e2, -⟩ := h; rw [e2]; rfl
theorem ly_g_isI {v : ly_V} {w : Value} (hg : ly_g ν len v w) (h : ly_isI v = true) : ∃ x : Int32, w = .int x := by
  match v, hg, h with
  | .inl e, hg, _ => obtain ⟨x, e1, -⟩ := hg; exact ⟨x, e1⟩
theorem ly_g_isJ {v : ly_V} {w : Value} (hg : ly_g ν len v w) (h : ly_isJ v = true) : ∃ x : Int64, w = .long x := by
  match v, hg, h with
  | .inr (.inl _), hg, _ => exact hg
theorem ly_g_isA {v : ly_V} {w : Value} (hg : ly_g ν len v w) (h : ly_isA v = true) : (∃ a, w = .ref a) ∨ w = .null := by
  match v, hg, h with
  | .inr (.inr (.inl none)), hg, _ => exact Or.inr hg
  | .inr (.inr (.inl (some a))), hg, _ =>
    rcases hg with e | ⟨-, e⟩
    · exact Or.inl ⟨a, e⟩
    · exact Or.inr e
  | .inr (.inr (.inr (j, e))), hg, _ => obtain ⟨-, z, -, e2, -⟩ := hg; exact Or.inl ⟨_, e2⟩
theorem ly_g_ref {a : Nat} {w : Value} (g : ly_g ν len (.inr (.inr (.inl (some a)))) w) (h : a ≠ 7) : w = .ref a := by
  rcases g with e | ⟨e, -⟩
  · exact e
  · exact absurd e h
theorem ly_gS_cons {v : ly_V} {vs : List ly_V} {ws : List Value} (h : ly_gS ν len (v :: vs) ws) : ∃ w ws', ws = w :: ws' ∧ ly_g ν len v w ∧ ly_gS ν len vs ws' := by
  match ws, h with
  | w :: ws', h => exact ⟨w, ws', rfl, h.1, h.2⟩
theorem ly_gS_nil {ws : List Value} (h : ly_gS ν len [] ws) : ws = [] := by
  match ws, h with
  | [], _ => rfl
theorem ly_gS_len : ∀ {vs : List ly_V} {ws : List Value}, ly_gS ν len vs ws → ws.length = vs.length
  | [], [], _ => rfl
  | _ :: _, _ :: _, h => by simp [ly_gS_len h.2]
theorem ly_gS_take (n : Nat) : ∀ {vs : List ly_V} {ws : List Value}, ly_gS ν len vs ws → ly_gS ν len (vs.take n) (ws.take n) := by
  induction n with
  | zero => intro vs ws _; simp [ly_gS]
  | succ n ih =>
    intro vs ws h
    match vs, ws, h with
    | [], [], _ => simp [ly_gS]
    | v :: vs, w :: ws, h => exact ⟨h.1, ih h.2⟩
theorem ly_gS_drop (n : Nat) : ∀ {vs : List ly_V} {ws : List Value}, ly_gS ν len vs ws → ly_gS ν len (vs.drop n) (ws.drop n) := by
  induction n with
  | zero => intro vs ws h; exact h
  | succ n ih =>
    intro vs ws h
    match vs, ws, h with
    | [], [], _ => simp [ly_gS]
    | v :: vs, w :: ws, h => exact ih h.2
theorem ly_gS_app : ∀ {vs : List ly_V} {ws : List Value} {vs' : List ly_V} {ws' : List Value}, ly_gS ν len vs ws → ly_gS ν len vs' ws' → ly_gS ν len (vs ++ vs') (ws ++ ws')
  | [], [], _, _, _, h => h
  | _ :: _, _ :: _, _, _, h, h' => ⟨h.1, ly_gS_app h.2 h'⟩
theorem ly_gS_rev : ∀ {vs : List ly_V} {ws : List Value}, ly_gS ν len vs ws → ly_gS ν len vs.reverse ws.reverse
  | [], [], _ => trivial
  | v :: vs, w :: ws, h => by
    rw [List.reverse_cons, List.reverse_cons]
    exact ly_gS_app (ly_gS_rev h.2) ⟨h.1, trivial⟩
theorem ly_gS_cats : ∀ {vs : List ly_V} {ws : List Value}, ly_gS ν len vs ws → (ws.map fun v => v.category).sum = ly_cats vs
  | [], [], _ => rfl
  | v :: vs, w :: ws, h => by
    simp only [List.map_cons, List.sum_cons, ly_cats]
    rw [ly_gS_cats h.2, ly_g_cat h.1]
theorem ly_gS_get {i : Nat} {v : ly_V} : ∀ {vs : List ly_V} {ws : List Value}, ly_gS ν len vs ws → vs[i]? = some v → ∃ w, ws[i]? = some w ∧ ly_g ν len v w := by
  induction i with
  | zero =>
    intro vs ws h hv
    match vs, ws, h with
    | v' :: vs, w :: ws, h => simp only [List.getElem?_cons_zero, Option.some.injEq] at hv; subst hv; exact ⟨w, rfl, h.1⟩
  | succ i ih =>
    intro vs ws h hv
    match vs, ws, h with
    | v' :: vs, w :: ws, h => simp only [List.getElem?_cons_succ] at hv ⊢; exact ih h.2 hv
theorem ly_cat_12 (v : ly_V) : ly_cat v = 1 ∨ ly_cat v = 2 := by
  match v with
  | .inl _ => exact Or.inl rfl
  | .inr (.inl _) => exact Or.inr rfl
  | .inr (.inr (.inl _)) => exact Or.inl rfl
  | .inr (.inr (.inr _)) => exact Or.inl rfl
theorem ly_cats_sl : ∀ {vs : List ly_V} {ws : List Value}, ly_gS ν len vs ws → (lg_sl ws).length = ly_cats vs
  | [], [], _ => rfl
  | v :: vs, w :: ws, g => by
    have ih := ly_cats_sl g.2
    unfold lg_sl at ih ⊢
    rw [List.flatMap_cons, List.length_append, ih]
    show _ = ly_cat v + ly_cats vs
    congr 1
    rw [ly_g_cat g.1]
    rcases ly_cat_12 v with e | e <;> rw [e] <;> rfl
theorem ly_ld_filter {p : Nat × Value → Bool} {i : Nat} {w : Value} : ∀ {l : am_L}, am_ld i l = some w → p (i, w) = true → am_ld i (l.filter p) = some w
  | [], h, _ => by cases h
  | q :: l, h, hp => by
    unfold am_ld at h
    by_cases hq : q.1 = i
    · rw [if_pos hq] at h
      cases h
      have : p q = true := by
        have e : q = (i, q.2) := Prod.ext hq rfl
        rw [e]
        exact hp
      rw [List.filter_cons, if_pos this]
      unfold am_ld
      rw [if_pos hq]
    · rw [if_neg hq] at h
      have ih := ly_ld_filter h hp
      rw [List.filter_cons]
      by_cases hpq : p q = true
      · rw [if_pos hpq]
        unfold am_ld
        rw [if_neg hq]
        exact ih
      · rw [if_neg hpq]
        exact ih
theorem ly_gL_get {i : Nat} {v : ly_V} {l : ly_L} {l' : am_L} (g : ly_gL ν len l l') (h : sx_get i l = some v) : ∃ w, am_ld i l' = some w ∧ ly_g ν len v w := g (i, v) (sx_get_mem h)
theorem ly_gL_st1 {i : Nat} {v : ly_V} {w : Value} {l : ly_L} {l' : am_L} (hl : ly_gL ν len l l') (hg : ly_g ν len v w) : ly_gL ν len (ly_st1 i v l) (am_st1 i w l') := by
  intro q hq
  unfold ly_st1 at hq
  rcases List.mem_cons.mp hq with rfl | hq
  · exact ⟨w, by simp [am_st1, am_ld], hg⟩
  · obtain ⟨hq, hp⟩ := List.mem_filter.mp hq
    obtain ⟨w', e, g⟩ := hl q hq
    refine ⟨w', ?_, g⟩
    unfold am_st1 am_ld
    simp only [Bool.and_eq_true, Bool.not_eq_true'] at hp
    have hne : ¬ i = q.1 := fun e => by
      have := sx_beq_neg hp.1
      exact this e.symm
    rw [if_neg hne]
    refine ly_ld_filter e ?_
    rw [Bool.and_eq_true]
    refine ⟨by rw [sx_beq, hp.1]; rfl, ?_⟩
    rw [sx_beq, sx_beq, ly_g_cat g, hp.2]
    rfl
theorem ly_gL_st2 {i : Nat} {v : ly_V} {w : Value} {l : ly_L} {l' : am_L} (hl : ly_gL ν len l l') (hg : ly_g ν len v w) : ly_gL ν len (ly_st2 i v l) (am_st2 i w l') := by
  intro q hq
  unfold ly_st2 at hq
  rcases List.mem_cons.mp hq with rfl | hq
  · exact ⟨w, by simp [am_st2, am_ld], hg⟩
  · obtain ⟨hq, hp⟩ := List.mem_filter.mp hq
    obtain ⟨w', e, g⟩ := hl q hq
    refine ⟨w', ?_, g⟩
    unfold am_st2 am_ld
    simp only [Bool.and_eq_true, Bool.not_eq_true'] at hp
    have hne : ¬ i = q.1 := fun e => by
      have := sx_beq_neg hp.1
      exact this e.symm
    rw [if_neg hne]
    refine ly_ld_filter e ?_
    rw [Bool.and_eq_true, Bool.and_eq_true]
    refine ⟨by rw [sx_beq, hp.1]; rfl, by rw [sx_beq, hp.2.1]; rfl, ?_⟩
    rw [sx_beq, sx_beq, ly_g_cat g, hp.2.2]
    rfl
theorem ly_ld_args : ∀ {vs : List ly_V} {ws : List Value} {i : Nat} {q : Nat × ly_V}, ly_gS ν len vs ws → q ∈ ly_args i vs → i ≤ q.1 ∧ ∃ w, am_ld q.1 (lv_args i ws) = some w ∧ ly_g ν len q.2 w
  | [], [], i, q, _, h => by cases h
  | v :: vs, w :: ws, i, q, g, h => by
    unfold ly_args at h
    unfold lv_args am_ld
    rcases List.mem_cons.mp h with rfl | h
    · exact ⟨Nat.le_refl _, w, by rw [if_pos rfl], g.1⟩
    · have e : (if w.category = 2 then i + 2 else i + 1) = i + ly_cat v := by
        rw [ly_g_cat g.1]
        rcases ly_cat_12 v with e | e <;> rw [e] <;> rfl
      obtain ⟨hi, w', e', g'⟩ := ly_ld_args g.2 h
      have h12 := ly_cat_12 v
      refine ⟨by omega, w', ?_, g'⟩
      rw [if_neg (show ¬ i = q.1 by omega), e]
      exact e'
theorem ly_gL_args {vs : List ly_V} {ws : List Value} (i : Nat) (g : ly_gS ν len vs ws) : ly_gL ν len (ly_args i vs) (lv_args i ws) := fun _ hq => (ly_ld_args g hq).2
end LY2
end
section
/-! what is taken for granted behind a branch, new symbols, reads and writes -/
section LY3
variable {cst : am_K} {ν : ly_N} {Z : ly_Z} {h : am_H}
theorem ly_gZ_B {n : Nat} {B : ly_B} {F : List ly_e} {K : ly_K} {q : Nat × Int × Int} {z : Int} (g : ly_gZ cst ν (n, B, F, K) h) (hz : ν q.1 = some z) (h1 : q.2.1 ≤ z) (h2 : z ≤ q.2.2) : ly_gZ cst ν (n, q :: B, F, K) h :=
  ⟨g.1, fun r hr => by
    rcases List.mem_cons.mp hr with rfl | hr
    · exact ⟨z, hz, h1, h2⟩
    · exact g.2.1 r hr, g.2.2⟩
theorem ly_gZ_F {n : Nat} {B : ly_B} {F : List ly_e} {K : ly_K} {e : ly_e} {z : Int} (g : ly_gZ cst ν (n, B, F, K) h) (hz : ly_ev ν e = some z) (h1 : 0 ≤ z) : ly_gZ cst ν (n, B, e :: F, K) h :=
  ⟨g.1, g.2.1, fun r hr => by
    rcases List.mem_cons.mp hr with rfl | hr
    · exact ⟨z, hz, h1⟩
    · exact g.2.2.1 r hr, g.2.2.2⟩
theorem ly_ev_one {c : Int} {k : Nat} {a z : Int} (h : ly_ev ν (c, [(k, a)]) = some z) : ∃ y, ν k = some y ∧ z = c + a * y := by
  obtain ⟨s, hs, e⟩ := ly_ev_iff.mp h
  obtain ⟨y, t, hy, ht, e'⟩ := ly_evt_cons.mp hs
  cases ht
  exact ⟨y, hy, by simp only at e e'; omega⟩
theorem ly_as_ok {e : ly_e} {z : Int} (g : ly_gZ cst ν Z h) (he : ly_ev ν e = some z) (hz : 0 ≤ z) : ∃ Z', ly_as Z e = some Z' ∧ ly_gZ cst ν Z' h := by
  obtain ⟨n, B, F, K⟩ := Z
  unfold ly_as
  simp only
  split
  · exact ⟨_, rfl, g⟩
  · rename_i y hy
    obtain ⟨s, hs, h1⟩ := ly_hi_ok g.2.1 hy
    obtain ⟨s', hs', e1⟩ := ly_ev_iff.mp he
    rw [hs] at hs'
    cases hs'
    have : sx_le 0 y = true := sx_le_iff.mpr (by omega)
    rw [this]
    simp only [cond_true]
    cases h2 : ly_nn B e with
    | true => exact ⟨_, rfl, g⟩
    | false =>
      simp only [cond_false]
      obtain ⟨c, ts⟩ := e
      simp only
      split
      · rename_i k a
        obtain ⟨x, hx, ez⟩ := ly_ev_one he
        split
        · exact ⟨_, rfl, g⟩
        · rename_i p hp
          obtain ⟨x', hx', p1, p2⟩ := ly_gB_get g.2.1 hp
          rw [hx] at hx'
          cases hx'
          cases ha : sx_eq a 1 with
          | true =>
            have := sx_eq_iff.mp ha
            subst this
            simp only [cond_true, ly_I_eq]
            have m : sx_mx p.1 (Int.neg c) ≤ x := sx_mx_le p1 (by show -c ≤ x; omega)
            rw [sx_le_iff.mpr (show sx_mx p.1 (Int.neg c) ≤ p.2 by omega)]
            exact ⟨_, rfl, ly_gZ_B g hx m p2⟩
          | false =>
            simp only [cond_false]
            cases hb : sx_eq a (-1) with
            | true =>
              have := sx_eq_iff.mp hb
              subst this
              simp only [cond_true, ly_I_eq]
              have m : x ≤ sx_mn p.2 c := sx_mn_le p2 (by omega)
              rw [sx_le_iff.mpr (show p.1 ≤ sx_mn p.2 c by omega)]
              exact ⟨_, rfl, ly_gZ_B g hx p1 m⟩
            | false =>
              simp only [cond_false, ly_fe_eq]
              exact ⟨_, rfl, ly_gZ_F g he hz⟩
      · cases h3 : ly_ge B F (ly_sub (-1, []) (c, ts)) with
        | true =>
          have := ly_ge_ok g.2.1 g.2.2.1 h3 (ly_sub_ok (ly_ev_c ν (-1)) he)
          omega
        | false =>
          simp only [cond_false, ly_fe_eq]
          exact ⟨_, rfl, ly_gZ_F g he hz⟩
theorem ly_ne_ok {e : ly_e} {z : Int} (g : ly_gZ cst ν Z h) (he : ly_ev ν e = some z) (hz : z ≠ 0) : ∃ Z', ly_ne Z e = some Z' ∧ ly_gZ cst ν Z' h := by
  obtain ⟨n, B, F, K⟩ := Z
  obtain ⟨c, ts⟩ := e
  unfold ly_ne
  simp only
  split
  · rw [ly_ev_c] at he
    cases he
    cases h0 : sx_eq z 0 with
    | true => exact absurd (sx_eq_iff.mp h0) hz
    | false => exact ⟨_, rfl, g⟩
  · rename_i k a
    obtain ⟨x, hx, ez⟩ := ly_ev_one he
    split
    · exact ⟨_, rfl, g⟩
    · rename_i p hp
      obtain ⟨x', hx', p1, p2⟩ := ly_gB_get g.2.1 hp
      rw [hx] at hx'
      cases hx'
      have key : ∀ v : Int, v ≠ x → ∃ Z', (ly_I v fun v => bif sx_eq v p.1 then (ly_I (Int.add v 1) fun lo => bif sx_le lo p.2 then some (n, (k, lo, p.2) :: B, F, K) else none) else bif sx_eq v p.2 then (ly_I (Int.sub v 1) fun hi => bif sx_le p.1 hi then some (n, (k, p.1, hi) :: B, F, K) else none) else some (n, B, F, K)) = some Z' ∧ ly_gZ cst ν Z' h := by
        intro v hv
        simp only [ly_I_eq]
        cases h1 : sx_eq v p.1 with
        | true =>
          have := sx_eq_iff.mp h1
          have m : Int.add v 1 ≤ x := by show v + 1 ≤ x; omega
          simp only [cond_true]
          rw [sx_le_iff.mpr (show Int.add v 1 ≤ p.2 by omega)]
          exact ⟨_, rfl, ly_gZ_B g hx m p2⟩
        | false =>
          simp only [cond_false]
          cases h2 : sx_eq v p.2 with
          | true =>
            have := sx_eq_iff.mp h2
            have m : x ≤ Int.sub v 1 := by show x ≤ v - 1; omega
            simp only [cond_true]
            rw [sx_le_iff.mpr (show p.1 ≤ Int.sub v 1 by omega)]
            exact ⟨_, rfl, ly_gZ_B g hx p1 m⟩
          | false => exact ⟨_, rfl, g⟩
      cases h1 : sx_eq a 1 with
      | true =>
        have := sx_eq_iff.mp h1
        subst this
        simp only [Bool.true_or, cond_true]
        exact key _ (by show -c ≠ x; omega)
      | false =>
        cases h2 : sx_eq a (-1) with
        | true =>
          have := sx_eq_iff.mp h2
          subst this
          simp only [Bool.or_true, cond_true, cond_false]
          exact key _ (by omega)
        | false => exact ⟨_, rfl, g⟩
  · cases h1 : ly_ge B F (c, ts) with
    | true =>
      have := ly_ge_ok g.2.1 g.2.2.1 h1 he
      simp only [cond_true]
      exact ly_as_ok g (ly_add_ok (ly_ev_c ν (-1)) he) (by omega)
    | false =>
      simp only [cond_false]
      cases h2 : ly_ge B F (ly_neg (c, ts)) with
      | true =>
        have := ly_ge_ok g.2.1 g.2.2.1 h2 (ly_neg_ok he)
        simp only [cond_true]
        exact ly_as_ok g (ly_sub_ok (ly_ev_c ν (-1)) he) (by omega)
      | false => exact ⟨_, rfl, g⟩
theorem ly_cn_ok {c : ClassFile.Cond} {e : ly_e} {z : Int} (g : ly_gZ cst ν Z h) (he : ly_ev ν e = some z) (hz : sx_holds c z 0) : ∃ Z', ly_cn c Z e = some Z' ∧ ly_gZ cst ν Z' h := by
  cases c with
  | eq =>
    have hz : z = 0 := hz
    obtain ⟨Z1, e1, g1⟩ := ly_as_ok g he (by omega)
    simp only [ly_cn, e1]
    exact ly_as_ok g1 (ly_neg_ok he) (by omega)
  | ne => exact ly_ne_ok g he hz
  | lt =>
    have hz : z < 0 := hz
    exact ly_as_ok g (ly_sub_ok (ly_ev_c ν (-1)) he) (by omega)
  | ge =>
    have hz : 0 ≤ z := hz
    exact ly_as_ok g he hz
  | gt =>
    have hz : 0 < z := hz
    exact ly_as_ok g (ly_add_ok (ly_ev_c ν (-1)) he) (by omega)
  | le =>
    have hz : z ≤ 0 := hz
    exact ly_as_ok g (ly_neg_ok he) (by omega)
theorem ly_holds_neg {c : ClassFile.Cond} {a b : Int} (hn : ¬ sx_holds c a b) : sx_holds (sx_neg c) a b := by
  cases c <;> simp only [sx_holds, sx_neg] at hn ⊢ <;> omega
/-- a new symbol -/
def ly_up (ν : ly_N) (n : Nat) (z : Int) : ly_N := fun k => if k = n then some z else ν k
theorem ly_up_le {n : Nat} {z : Int} (hn : ν n = none) : ly_le ν (ly_up ν n z) := fun k y hy => by
  unfold ly_up
  by_cases e : k = n
  · subst e; rw [hn] at hy; cases hy
  · rw [if_neg e]; exact hy
theorem ly_up_n (n : Nat) (z : Int) : ly_up ν n z n = some z := if_pos rfl
theorem ly_gZ_up {n : Nat} {B : ly_B} {F : List ly_e} {K : ly_K} {p : Int × Int} {z : Int} (g : ly_gZ cst ν (n, B, F, K) h) (h1 : p.1 ≤ z) (h2 : z ≤ p.2) : ly_gZ cst (ly_up ν n z) (n + 1, (n, p) :: B, F, K) h := by
  have hl : ly_le ν (ly_up ν n z) := ly_up_le (g.1 n (Nat.le_refl n))
  refine ⟨fun k hk => ?_, fun q hq => ?_, ly_gF_le hl g.2.2.1, ly_gK_le hl g.2.2.2⟩
  · unfold ly_up
    have hk : n + 1 ≤ k := hk
    rw [if_neg (by omega)]
    exact g.1 k (by show n ≤ k; omega)
  · rcases List.mem_cons.mp hq with rfl | hq
    · exact ⟨z, ly_up_n n z, h1, h2⟩
    · exact ly_gB_le hl g.2.1 q hq
theorem ly_kget_mem {r : Nat} {i v : ly_e} : ∀ {K : ly_K}, ly_kget r i K = some v → (r, i, v) ∈ K
  | [], hk => by cases hk
  | q :: K, hk => by
    unfold ly_kget at hk
    cases hc : (Nat.beq q.1 r && ly_eq q.2.1 i) with
    | true =>
      rw [hc] at hk
      cases hk
      rw [Bool.and_eq_true] at hc
      rw [← Nat.eq_of_beq_eq_true hc.1, ← ly_eq_eq hc.2]
      exact List.mem_cons_self
    | false =>
      rw [hc] at hk
      exact List.mem_cons_of_mem _ (ly_kget_mem hk)
theorem ly_rv_ok {r : Nat} {i v : ly_e} {p : Int × Int} {Z' : ly_Z} {zi zv : Int} (g : ly_gZ cst ν Z h) (hi : ly_ev ν i = some zi) (hv : ly_hv cst h r zi = some zv) (h1 : p.1 ≤ zv) (h2 : zv ≤ p.2) (e : ly_rv Z r i p = (Z', v)) : ∃ ν', ly_le ν ν' ∧ ly_gZ cst ν' Z' h ∧ ly_ev ν' v = some zv := by
  obtain ⟨n, B, F, K⟩ := Z
  unfold ly_rv at e
  simp only at e
  split at e
  · rename_i v' hk
    cases e
    obtain ⟨i', w, e1, e2, e3⟩ := g.2.2.2 _ (ly_kget_mem hk)
    simp only at e1 e2 e3
    rw [hi] at e1
    cases e1
    rw [hv] at e3
    cases e3
    exact ⟨ν, ly_le_rf ν, g, e2⟩
  · rw [sx_N_eq, ly_fe_eq] at e
    cases e
    have hl : ly_le ν (ly_up ν n zv) := ly_up_le (g.1 n (Nat.le_refl n))
    have g1 := ly_gZ_up (p := p) g h1 h2
    refine ⟨ly_up ν n zv, hl, ⟨g1.1, g1.2.1, g1.2.2.1, fun q hq => ?_⟩, ly_ev_sym (ly_up_n n zv)⟩
    rcases List.mem_cons.mp hq with rfl | hq
    · exact ⟨zi, zv, ly_ev_le hl hi, ly_ev_sym (ly_up_n n zv), hv⟩
    · exact g1.2.2.2 q hq
theorem ly_dif_ok {B : ly_B} {a b : ly_e} {x y : Int} (hB : ly_gB ν B) (hd : ly_dif B a b = true) (ha : ly_ev ν a = some x) (hb : ly_ev ν b = some y) : x ≠ y := by
  unfold ly_dif at hd
  cases h1 : ly_nn B (ly_add (-1, []) (ly_sub a b)) with
  | true =>
    obtain ⟨z, hz, z0⟩ := ly_nn_ok hB h1
    rw [ly_add_ok (ly_ev_c ν (-1)) (ly_sub_ok ha hb)] at hz
    cases hz
    omega
  | false =>
    rw [h1] at hd
    simp only [cond_false] at hd
    obtain ⟨z, hz, z0⟩ := ly_nn_ok hB hd
    rw [ly_add_ok (ly_ev_c ν (-1)) (ly_sub_ok hb ha)] at hz
    cases hz
    omega
theorem ly_wr_ok {mods : List Nat} {r : Nat} {i v : ly_e} {p : Int × Int} {Z' : ly_Z} {zi zv : Int} (g : ly_gZ cst ν Z h) (hi : ly_ev ν i = some zi) (hv : ly_ev ν v = some zv) (e : ly_wr mods Z r i p v = some Z') :
    (p.1 ≤ zv ∧ zv ≤ p.2) ∧ ∀ h' : am_H, ly_hv cst h' r zi = some zv → (∀ r' i', r' ≠ r ∨ i' ≠ zi → ly_hv cst h' r' i' = ly_hv cst h r' i') → ly_gZ cst ν Z' h' ∧ ly_fr cst mods h h' := by
  obtain ⟨n, B, F, K⟩ := Z
  unfold ly_wr at e
  simp only at e
  cases hc : (ly_has r mods && (ly_ge B F (ly_add (Int.neg p.1, []) v) && ly_ge B F (ly_sub (p.2, []) v))) with
  | false => rw [hc] at e; cases e
  | true =>
    rw [hc] at e
    simp only [cond_true, ly_fe_eq] at e
    cases e
    rw [Bool.and_eq_true, Bool.and_eq_true] at hc
    have b1 := ly_ge_ok g.2.1 g.2.2.1 hc.2.1 (ly_add_ok (ly_ev_c ν _) hv)
    have b2 := ly_ge_ok g.2.1 g.2.2.1 hc.2.2 (ly_sub_ok (ly_ev_c ν _) hv)
    have en : Int.neg p.1 = -p.1 := rfl
    rw [en] at b1
    refine ⟨⟨by omega, by omega⟩, fun h' e1 e2 => ⟨⟨g.1, g.2.1, g.2.2.1, fun q hq => ?_⟩, fun r' i' v' hr' ev => ?_⟩⟩
    · rcases List.mem_cons.mp hq with rfl | hq
      · exact ⟨zi, zv, hi, hv, e1⟩
      · obtain ⟨hq, hp⟩ := List.mem_filter.mp hq
        obtain ⟨i', w, f1, f2, f3⟩ := g.2.2.2 q hq
        refine ⟨i', w, f1, f2, ?_⟩
        rw [e2]
        · exact f3
        · cases hb : Nat.beq q.1 r with
          | true =>
            rw [hb] at hp
            exact Or.inr (ly_dif_ok g.2.1 hp f1 hi)
          | false => exact Or.inl (sx_beq_neg hb)
    · rw [e2]
      · exact ev
      · refine Or.inl fun er => ?_
        rw [er, hc.1] at hr'
        cases hr'
theorem ly_drop_ok {mods : List Nat} {r : Nat} {Z' : ly_Z} (g : ly_gZ cst ν Z h) (e : ly_drop mods Z r = some Z') (h' : am_H) (e2 : ∀ r' i', r' ≠ r → ly_hv cst h' r' i' = ly_hv cst h r' i') : ly_gZ cst ν Z' h' ∧ ly_fr cst mods h h' := by
  obtain ⟨n, B, F, K⟩ := Z
  unfold ly_drop at e
  simp only at e
  cases hc : ly_has r mods with
  | false => rw [hc] at e; cases e
  | true =>
    rw [hc] at e
    cases e
    refine ⟨⟨g.1, g.2.1, g.2.2.1, fun q hq => ?_⟩, fun r' i' v' hr' ev => ?_⟩
    · obtain ⟨hq, hp⟩ := List.mem_filter.mp hq
      obtain ⟨i', w, f1, f2, f3⟩ := g.2.2.2 q hq
      refine ⟨i', w, f1, f2, ?_⟩
      rw [e2]
      · exact f3
      · refine fun er => ?_
        rw [sx_beqn.mpr er] at hp
        cases hp
    · rw [e2]
      · exact ev
      · refine fun er => ?_
        rw [er, hc] at hr'
        cases hr'
/-- a heap whose regions stand as they stood -/
theorem ly_gZ_same {h' : am_H} (g : ly_gZ cst ν Z h) (e2 : ∀ r' i', ly_hv cst h' r' i' = ly_hv cst h r' i') : ly_gZ cst ν Z h' :=
  ⟨g.1, g.2.1, g.2.2.1, fun q hq => by
    obtain ⟨i', w, f1, f2, f3⟩ := g.2.2.2 q hq
    exact ⟨i', w, f1, f2, by rw [e2]; exact f3⟩⟩
theorem ly_idx_ok {i : ly_V} {n : Nat} {e : ly_e} {len : Nat} {w : Value} (g : ly_gZ cst ν Z h) (gi : ly_g ν len i w) (hi : ly_idx Z i n = some e) : i = .inl e ∧ ∃ x : Int32, w = .int x ∧ ¬ (x < 0 ∨ n ≤ x.toNatClampNeg) ∧ x.toNatClampNeg < n ∧ ly_ev ν e = some (x.toNatClampNeg : Int) := by
  obtain ⟨m, B, F, K⟩ := Z
  unfold ly_idx at hi
  split at hi
  · rename_i e' z B' F' K' heq
    cases heq
    cases hc : (ly_ge B F e' && ly_ge B F (ly_sub (Int.sub (.ofNat n) 1, []) e')) with
    | false => rw [hc] at hi; cases hi
    | true =>
      rw [hc] at hi
      cases hi
      obtain ⟨x, ew, ex⟩ := gi
      rw [Bool.and_eq_true] at hc
      have b1 := ly_ge_ok g.2.1 g.2.2.1 hc.1 ex
      have b2 := ly_ge_ok g.2.1 g.2.2.1 hc.2 (ly_sub_ok (ly_ev_c ν _) ex)
      have en : Int.sub (Int.ofNat n) 1 = (n : Int) - 1 := rfl
      rw [en] at b2
      have e1 : x.toNatClampNeg = x.toInt.toNat := rfl
      refine ⟨rfl, x, ew, ?_, by rw [e1]; omega, by rw [ex, e1]; congr 1; omega⟩
      rintro (hq | hq)
      · have := Int32.lt_iff_toInt_lt.mp hq
        have z : (0 : Int32).toInt = 0 := rfl
        omega
      · rw [e1] at hq; omega
  · cases hi
end LY3
end
section
/-! arithmetic of the linear machine, and what a write does to regions and kinds -/
section LY4
variable {cst : am_K} {ν : ly_N} {B : ly_B} {len : Nat}
/-- what a result says: a value, or bounds -/
def ly_gR (ν : ly_N) (len : Nat) : ly_R → Value → Prop
  | .inl v, w => ly_g ν len v w
  | .inr p, w => ∃ x : Int32, w = .int x ∧ p.1 ≤ x.toInt ∧ x.toInt ≤ p.2
theorem ly_top (x : Int32) : sx_min ≤ x.toInt ∧ x.toInt ≤ sx_max := by
  have h1 := Int32.le_toInt x
  have h2 := Int32.toInt_lt x
  have e1 : sx_min = -2147483648 := rfl
  have e2 : sx_max = 2147483647 := rfl
  omega
theorem ly_gR_top (x : Int32) : ly_gR ν len (.inr (sx_min, sx_max)) (.int x) := ⟨x, rfl, ly_top x⟩
theorem ly_ex_ok {e : ly_e} {x : Int32} {z : Int} (hB : ly_gB ν B) (he : ly_ev ν e = some z) (hx : x.toInt = Int.bmod z 4294967296) : ly_gR ν len (ly_ex B e) (.int x) := by
  unfold ly_ex
  split
  · rename_i p hp
    cases hc : (sx_le sx_min p.1 && sx_le p.2 sx_max) with
    | false => exact ly_gR_top x
    | true =>
      rw [Bool.and_eq_true, sx_le_iff, sx_le_iff] at hc
      obtain ⟨y, hy, h1, h2⟩ := ly_iv_ok hB hp
      rw [he] at hy
      cases hy
      refine ⟨x, rfl, ?_⟩
      rw [he, hx, sx_bm (by omega) (by omega)]
  · exact ly_gR_top x
theorem ly_add_r {a b : ly_e} {x y : Int32} (hB : ly_gB ν B) (ha : ly_ev ν a = some x.toInt) (hb : ly_ev ν b = some y.toInt) : ly_gR ν len (ly_ex B (ly_add a b)) (.int (x + y)) :=
  ly_ex_ok hB (ly_add_ok ha hb) (by rw [Int32.toInt_add])
theorem ly_sub_r {a b : ly_e} {x y : Int32} (hB : ly_gB ν B) (ha : ly_ev ν a = some x.toInt) (hb : ly_ev ν b = some y.toInt) : ly_gR ν len (ly_ex B (ly_sub a b)) (.int (x - y)) :=
  ly_ex_ok hB (ly_sub_ok ha hb) (by rw [Int32.toInt_sub])
theorem ly_mul_r {a b : ly_e} {x y : Int32} (hB : ly_gB ν B) (ha : ly_ev ν a = some x.toInt) (hb : ly_ev ν b = some y.toInt) : ly_gR ν len (ly_mul B a b) (.int (x * y)) := by
  unfold ly_mul
  split
  · rename_i c hc
    have := ly_con_ok hB hc
    rw [ha] at this
    cases this
    exact ly_ex_ok hB (ly_scl_ok hb) (by rw [Int32.toInt_mul])
  · split
    · rename_i c hc
      have := ly_con_ok hB hc
      rw [hb] at this
      cases this
      exact ly_ex_ok hB (ly_scl_ok ha) (by rw [Int32.toInt_mul, Int.mul_comm])
    · exact ly_gR_top _
theorem ly_op_r {f : Int32 → Int32 → Int32} {gg : Int × Int → Int × Int → Int × Int} {a b : ly_e} {x y : Int32} (hB : ly_gB ν B) (ha : ly_ev ν a = some x.toInt) (hb : ly_ev ν b = some y.toInt)
    (hg : ∀ p q : Int × Int, p.1 ≤ x.toInt → x.toInt ≤ p.2 → q.1 ≤ y.toInt → y.toInt ≤ q.2 → (gg p q).1 ≤ (f x y).toInt ∧ (f x y).toInt ≤ (gg p q).2) : ly_gR ν len (ly_op f gg B a b) (.int (f x y)) := by
  unfold ly_op
  split
  · rename_i u v hu hv
    have e1 := ly_con_ok hB hu
    have e2 := ly_con_ok hB hv
    rw [ha] at e1
    rw [hb] at e2
    cases e1
    cases e2
    refine ⟨_, rfl, ?_⟩
    rw [ly_ev_c, Int32.ofInt_toInt, Int32.ofInt_toInt]
  · split
    · rename_i p q hp hq
      obtain ⟨u, hu, p1, p2⟩ := ly_iv_ok hB hp
      obtain ⟨v, hv, q1, q2⟩ := ly_iv_ok hB hq
      rw [ha] at hu
      rw [hb] at hv
      cases hu
      cases hv
      exact ⟨_, rfl, hg p q p1 p2 q1 q2⟩
    · exact ly_gR_top _
theorem ly_op1_r {f : Int32 → Int32} {lo hi : Int} {a : ly_e} {x : Int32} (hB : ly_gB ν B) (ha : ly_ev ν a = some x.toInt) (h1 : lo ≤ (f x).toInt ∧ (f x).toInt ≤ hi) (h2 : lo ≤ x.toInt → x.toInt ≤ hi → f x = x) : ly_gR ν len (ly_op1 f lo hi B a) (.int (f x)) := by
  unfold ly_op1
  split
  · rename_i u hu
    have e1 := ly_con_ok hB hu
    rw [ha] at e1
    cases e1
    refine ⟨_, rfl, ?_⟩
    rw [ly_ev_c, Int32.ofInt_toInt]
  · split
    · rename_i p hp
      obtain ⟨u, hu, p1, p2⟩ := ly_iv_ok hB hp
      rw [ha] at hu
      cases hu
      cases hc : (sx_le lo p.1 && sx_le p.2 hi) with
      | false => exact ⟨_, rfl, h1⟩
      | true =>
        rw [Bool.and_eq_true, sx_le_iff, sx_le_iff] at hc
        refine ⟨_, rfl, ?_⟩
        rw [h2 (by omega) (by omega)]
        exact ha
    · exact ⟨_, rfl, h1⟩
theorem ly_nat {x : Int32} (h : 0 ≤ x.toInt) : x.toBitVec.msb = false ∧ x.toInt = (x.toBitVec.toNat : Int) := by
  have e : x.toInt = x.toBitVec.toInt := rfl
  rw [e] at h ⊢
  have hm : x.toBitVec.msb = false := by
    cases hb : x.toBitVec.msb with
    | false => rfl
    | true =>
      have := BitVec.toInt_neg_of_msb_true hb
      omega
  exact ⟨hm, BitVec.toInt_eq_toNat_of_msb hm⟩
theorem ly_and_le {x y : Int32} (h : 0 ≤ x.toInt) : 0 ≤ (x &&& y).toInt ∧ (x &&& y).toInt ≤ x.toInt := by
  obtain ⟨hm, hx⟩ := ly_nat h
  have e : (x &&& y).toInt = (x.toBitVec &&& y.toBitVec).toInt := rfl
  have hm2 : (x.toBitVec &&& y.toBitVec).msb = false := by rw [BitVec.msb_and, hm]; rfl
  rw [e, BitVec.toInt_eq_toNat_of_msb hm2, hx, BitVec.toNat_and]
  have := @Nat.and_le_left x.toBitVec.toNat y.toBitVec.toNat
  omega
theorem ly_and_r {x y : Int32} (p q : Int × Int) (p1 : p.1 ≤ x.toInt) (p2 : x.toInt ≤ p.2) (q1 : q.1 ≤ y.toInt) (q2 : y.toInt ≤ q.2) : (ly_gand p q).1 ≤ (x &&& y).toInt ∧ (x &&& y).toInt ≤ (ly_gand p q).2 := by
  have hy : 0 ≤ y.toInt → 0 ≤ (x &&& y).toInt ∧ (x &&& y).toInt ≤ y.toInt := fun h0 => by rw [Int32.and_comm]; exact ly_and_le h0
  unfold ly_gand
  cases h1 : sx_le 0 p.1 with
  | true =>
    have := sx_le_iff.mp h1
    have a1 := ly_and_le (y := y) (show 0 ≤ x.toInt by omega)
    simp only [cond_true]
    cases h2 : sx_le 0 q.1 with
    | true =>
      have := sx_le_iff.mp h2
      have a2 := hy (by omega)
      exact ⟨a1.1, sx_mn_le (by omega) (by omega)⟩
    | false => exact ⟨a1.1, by show _ ≤ p.2; omega⟩
  | false =>
    simp only [cond_false]
    cases h2 : sx_le 0 q.1 with
    | true =>
      have := sx_le_iff.mp h2
      have a2 := hy (by omega)
      exact ⟨a2.1, by show _ ≤ q.2; omega⟩
    | false => exact ly_top _
theorem ly_shr_r {x y : Int32} (p q : Int × Int) (p1 : p.1 ≤ x.toInt) (p2 : x.toInt ≤ p.2) : (ly_gshr p q).1 ≤ (x >>> (y &&& 31)).toInt ∧ (x >>> (y &&& 31)).toInt ≤ (ly_gshr p q).2 := by
  unfold ly_gshr
  cases h1 : sx_le 0 p.1 with
  | false => exact ly_top _
  | true =>
    have := sx_le_iff.mp h1
    obtain ⟨hm, hx⟩ := ly_nat (show 0 ≤ x.toInt by omega)
    have e : (x >>> (y &&& 31)).toInt = (x.toBitVec.sshiftRight' ((y &&& 31).toBitVec.smod 32)).toInt := rfl
    have e2 : x.toBitVec.sshiftRight' ((y &&& 31).toBitVec.smod 32) = x.toBitVec >>> ((y &&& 31).toBitVec.smod 32).toNat := by
      unfold BitVec.sshiftRight'
      exact BitVec.sshiftRight_eq_of_msb_false hm
    have le : (x.toBitVec >>> ((y &&& 31).toBitVec.smod 32).toNat).toNat ≤ x.toBitVec.toNat := by
      rw [BitVec.toNat_ushiftRight]
      exact Nat.shiftRight_le _ _
    have hm2 : (x.toBitVec >>> ((y &&& 31).toBitVec.smod 32).toNat).msb = false := by
      rw [BitVec.msb_eq_false_iff_two_mul_lt] at hm ⊢
      omega
    rw [e, e2, BitVec.toInt_eq_toNat_of_msb hm2]
    refine ⟨Int.natCast_nonneg _, ?_⟩
    show _ ≤ p.2
    omega
theorem ly_div_i {x y : Int32} (hy : 1 ≤ y.toInt) : (x / y).toInt = x.toInt.tdiv y.toInt := by
  refine Int32.toInt_div_of_ne_right x y (fun e => ?_)
  rw [e] at hy
  have : (-1 : Int32).toInt = -1 := rfl
  omega
theorem ly_tdiv_b {a b : Int} (hb : 1 ≤ b) : (0 ≤ a → 0 ≤ a.tdiv b ∧ a.tdiv b ≤ a) ∧ (a ≤ 0 → a ≤ a.tdiv b ∧ a.tdiv b ≤ 0) := by
  refine ⟨fun h => ⟨Int.tdiv_nonneg h (by omega), Int.tdiv_le_self b h⟩, fun h => ?_⟩
  have e : a.tdiv b = -((-a).tdiv b) := by rw [Int.neg_tdiv, Int.neg_neg]
  have h1 := Int.tdiv_nonneg (show 0 ≤ -a by omega) (show 0 ≤ b by omega)
  have h2 := Int.tdiv_le_self b (show 0 ≤ -a by omega)
  omega
theorem ly_div_r {x y : Int32} (p q : Int × Int) (p1 : p.1 ≤ x.toInt) (p2 : x.toInt ≤ p.2) (q1 : q.1 ≤ y.toInt) (q2 : y.toInt ≤ q.2) : (ly_gdiv p q).1 ≤ (x / y).toInt ∧ (x / y).toInt ≤ (ly_gdiv p q).2 := by
  unfold ly_gdiv
  cases h0 : sx_le 1 q.1 with
  | false => exact ly_top _
  | true =>
    have h0 := sx_le_iff.mp h0
    rw [ly_div_i (show 1 ≤ y.toInt by omega)]
    have b := ly_tdiv_b (a := x.toInt) (show 1 ≤ y.toInt by omega)
    simp only [cond_true]
    cases h1 : sx_le 0 p.1 with
    | true =>
      have h1 := sx_le_iff.mp h1
      simp only [cond_true]
      cases h2 : sx_eq q.1 q.2 with
      | true =>
        have h2 := sx_eq_iff.mp h2
        have ey : y.toInt = q.1 := by omega
        rw [ey, Int.tdiv_eq_ediv_of_nonneg (by omega)]
        exact ⟨Int.ediv_le_ediv (by omega) p1, Int.ediv_le_ediv (by omega) p2⟩
      | false =>
        have := b.1 (by omega)
        exact ⟨this.1, by show _ ≤ p.2; omega⟩
    | false =>
      simp only [cond_false]
      by_cases hs : 0 ≤ x.toInt
      · have := b.1 hs
        refine ⟨?_, ?_⟩
        · have : sx_mn p.1 0 ≤ 0 := by unfold sx_mn; cases hh : sx_le p.1 0 <;> simp only [cond_true, cond_false] <;> first | omega | exact sx_le_iff.mp hh
          omega
        · have : p.2 ≤ sx_mx p.2 0 := by unfold sx_mx; cases hh : sx_le p.2 0 <;> simp only [cond_true, cond_false] <;> first | omega | exact sx_le_iff.mp hh
          omega
      · have := b.2 (by omega)
        refine ⟨?_, ?_⟩
        · have : sx_mn p.1 0 ≤ p.1 := by unfold sx_mn; cases hh : sx_le p.1 0 <;> simp only [cond_true, cond_false] <;> first | omega | (have := sx_le_neg hh; omega)
          omega
        · have : 0 ≤ sx_mx p.2 0 := by unfold sx_mx; cases hh : sx_le p.2 0 <;> simp only [cond_true, cond_false] <;> first | omega | (have := sx_le_neg hh; omega)
          omega
theorem ly_rem_r {x y : Int32} (p q : Int × Int) (p1 : p.1 ≤ x.toInt) (q1 : q.1 ≤ y.toInt) (q2 : y.toInt ≤ q.2) : (ly_grem p q).1 ≤ (x - x / y * y).toInt ∧ (x - x / y * y).toInt ≤ (ly_grem p q).2 := by
  unfold ly_grem
  cases h0 : sx_le 1 q.1 with
  | false => exact ly_top _
  | true =>
    have h0 := sx_le_iff.mp h0
    have hy : 1 ≤ y.toInt := by omega
    have t := Int.mul_tdiv_add_tmod x.toInt y.toInt
    have lt := Int.tmod_lt_of_pos x.toInt (show 0 < y.toInt by omega)
    have gt : -y.toInt < x.toInt.tmod y.toInt := by
      by_cases hs : 0 ≤ x.toInt
      · have := Int.tmod_nonneg y.toInt hs
        omega
      · have := Int.tmod_lt_of_pos (-x.toInt) (show 0 < y.toInt by omega)
        rw [Int.neg_tmod] at this
        omega
    have tx := ly_top x
    have ty := ly_top y
    have e1 : sx_min = -2147483648 := rfl
    have e2 : sx_max = 2147483647 := rfl
    have hd := ly_div_i (x := x) hy
    have hm : (x / y * y).toInt = y.toInt * x.toInt.tdiv y.toInt := by
      rw [Int32.toInt_mul, hd, Int.mul_comm]
      refine sx_bm ?_ ?_
      · have b := ly_tdiv_b (a := x.toInt) hy
        by_cases hs : 0 ≤ x.toInt
        · have := Int.mul_nonneg (show 0 ≤ y.toInt by omega) (b.1 hs).1
          omega
        · have : x.toInt.tmod y.toInt ≤ 0 := by
            have := Int.tmod_nonneg y.toInt (show 0 ≤ -x.toInt by omega)
            rw [Int.neg_tmod] at this
            omega
          omega
      · by_cases hs : 0 ≤ x.toInt
        · have := Int.tmod_nonneg y.toInt hs
          omega
        · have b := ly_tdiv_b (a := x.toInt) hy
          have : y.toInt * x.toInt.tdiv y.toInt ≤ 0 := Int.mul_nonpos_of_nonneg_of_nonpos (by omega) (b.2 (by omega)).2
          omega
    have hr : (x - x / y * y).toInt = x.toInt.tmod y.toInt := by
      rw [Int32.toInt_sub, hm, show x.toInt - y.toInt * x.toInt.tdiv y.toInt = x.toInt.tmod y.toInt by omega]
      exact sx_bm (by omega) (by omega)
    rw [hr]
    simp only [cond_true]
    cases h1 : sx_le 0 p.1 with
    | true =>
      have h1 := sx_le_iff.mp h1
      refine ⟨Int.tmod_nonneg _ (by omega), ?_⟩
      show _ ≤ q.2 - 1
      omega
    | false =>
      refine ⟨?_, ?_⟩
      · show 1 - q.2 ≤ _
        omega
      · show _ ≤ q.2 - 1
        omega
theorem ly_i2b_r (x : Int32) : ((-128 : Int) ≤ x.toInt8.toInt32.toInt ∧ x.toInt8.toInt32.toInt ≤ 127) ∧ ((-128 : Int) ≤ x.toInt → x.toInt ≤ 127 → x.toInt8.toInt32 = x) := by
  have e : x.toInt8.toInt32.toInt = x.toInt8.toInt := Int8.toInt_toInt32 _
  refine ⟨?_, fun h1 h2 => ?_⟩
  · rw [e]
    have := Int8.le_toInt x.toInt8
    have := Int8.toInt_lt x.toInt8
    omega
  · refine Int32.toInt_inj.mp ?_
    rw [e, Int32.toInt_toInt8]
    exact Int.bmod_eq_of_le (by show -((256 : Int) / 2) ≤ _; omega) (by show _ < ((256 : Int) + 1) / 2; omega)
theorem ly_u16 (x : Int32) : (x.toUInt32 % 65536).toInt32.toInt = ((x.toUInt32.toNat % 65536 : Nat) : Int) := by
  have h : (x.toUInt32 % 65536).toNat = x.toUInt32.toNat % 65536 := rfl
  have e : (x.toUInt32 % 65536).toInt32.toInt = (x.toUInt32 % 65536).toBitVec.toInt := rfl
  have e2 : (x.toUInt32 % 65536).toBitVec.toNat = x.toUInt32.toNat % 65536 := h
  rw [e, BitVec.toInt_eq_toNat_of_msb, e2]
  rw [BitVec.msb_eq_false_iff_two_mul_lt, e2]
  have := Nat.mod_lt x.toUInt32.toNat (show 65536 > 0 by omega)
  omega
theorem ly_i2c_r (x : Int32) : ((0 : Int) ≤ (x.toUInt32 % 65536).toInt32.toInt ∧ (x.toUInt32 % 65536).toInt32.toInt ≤ 65535) ∧ ((0 : Int) ≤ x.toInt → x.toInt ≤ 65535 → (x.toUInt32 % 65536).toInt32 = x) := by
  refine ⟨?_, fun h1 h2 => ?_⟩
  · rw [ly_u16]
    have := Nat.mod_lt x.toUInt32.toNat (show 65536 > 0 by omega)
    omega
  · refine Int32.toInt_inj.mp ?_
    rw [ly_u16]
    obtain ⟨-, hx⟩ := ly_nat h1
    have e : x.toUInt32.toNat = x.toBitVec.toNat := rfl
    rw [e]
    omega
end LY4
end
section
/-! what a write does to regions and kinds -/
section LY5
variable {cst : am_K} {tt : List (List FieldType)} {TH : List (List ly_T)} {h : am_H} {ν : ly_N}
theorem ly_hv_set1 {c : Nat} {x x' : am_E} (hc : c < 177) (hx : h[c]? = some x) {r : Nat} {i : Int} (hs : r / 256 = c → ly_hs (some x') (r % 256) i = ly_hs (some x) (r % 256) i) : ly_hv cst (h.set c x') r i = ly_hv cst h r i := by
  have hl := (List.getElem?_eq_some_iff.mp hx).1
  unfold ly_hv
  by_cases h1 : r / 256 < 177
  · rw [if_pos h1, if_pos h1]
    by_cases h2 : r / 256 = c
    · rw [h2, List.getElem?_set_self hl, hx]
      exact hs h2
    · rw [List.getElem?_set_ne (Ne.symm h2)]
  · rw [if_neg h1, if_neg h1]
    by_cases h2 : r / 256 < 196
    · rw [if_pos h2, if_pos h2, List.getElem?_set_ne (by omega)]
    · rw [if_neg h2, if_neg h2]
theorem ly_hv_set2 {z j : Nat} {x x' : am_E} (hj : j < 19) (hx : h[177 + 19 * z + j]? = some x) {r : Nat} {i : Int} (hs : r / 256 = 177 + j → i = (z : Int) → ly_hm (some x') (r % 256) = ly_hm (some x) (r % 256)) : ly_hv cst (h.set (177 + 19 * z + j) x') r i = ly_hv cst h r i := by
  have hl := (List.getElem?_eq_some_iff.mp hx).1
  unfold ly_hv
  by_cases h1 : r / 256 < 177
  · rw [if_pos h1, if_pos h1, List.getElem?_set_ne (by omega)]
  · rw [if_neg h1, if_neg h1]
    by_cases h2 : r / 256 < 196
    · rw [if_pos h2, if_pos h2]
      by_cases h3 : 0 ≤ i
      · rw [if_pos h3, if_pos h3]
        by_cases h4 : 177 + 19 * i.toNat + (r / 256 - 177) = 177 + 19 * z + j
        · rw [h4, List.getElem?_set_self hl, hx]
          exact hs (by omega) (by omega)
        · rw [List.getElem?_set_ne (fun e => h4 e.symm)]
      · rw [if_neg h3, if_neg h3]
    · rw [if_neg h2, if_neg h2]
theorem ly_hv_of1 {c k : Nat} {i : Int} (hc : c < 177) (hk : k < 256) : ly_hv cst h (256 * c + k) i = ly_hs h[c]? k i := by
  unfold ly_hv
  have e1 : (256 * c + k) / 256 = c := by omega
  have e2 : (256 * c + k) % 256 = k := by omega
  rw [e1, e2, if_pos hc]
theorem ly_hv_of2 {z j k : Nat} (hj : j < 19) (hk : k < 256) : ly_hv cst h (256 * (177 + j) + k) (z : Int) = ly_hm h[177 + 19 * z + j]? k := by
  unfold ly_hv
  have e1 : (256 * (177 + j) + k) / 256 = 177 + j := by omega
  have e2 : (256 * (177 + j) + k) % 256 = k := by omega
  have e3 : 177 + j - 177 = j := by omega
  rw [e1, e2, if_neg (by omega), if_pos (by omega), if_pos (Int.natCast_nonneg z), e3]
  rfl
theorem ly_ths_lt {i : Nat} {t : ly_T} (e : ly_ths TH i = some t) : i < 177 := by
  unfold ly_ths at e
  cases hb : Nat.blt i 177 with
  | false => rw [hb] at e; cases e
  | true => exact sx_blt.mp hb
theorem ly_thm_lt {i : Nat} {t : ly_T} (e : ly_thm TH i = some t) : i < 19 := by
  unfold ly_thm at e
  cases hb : Nat.blt i 19 with
  | false => rw [hb] at e; cases e
  | true => exact sx_blt.mp hb
theorem ly_hy_set1 {c : Nat} {x' : am_E} (hy : ly_hy tt TH h) (hc : c < 177) (g : ∀ t, ly_ths TH c = some t → ly_gT tt h.length 0 t x') : ly_hy tt TH (h.set c x') := by
  obtain ⟨h0, h1, h2⟩ := hy
  refine ⟨by rw [List.length_set]; exact h0, fun i t e => ?_, fun z j t hz e => ?_⟩
  · rw [List.length_set]
    by_cases hi : i = c
    · subst hi
      exact ⟨x', List.getElem?_set_self (by omega), g t e⟩
    · obtain ⟨x, hx, gx⟩ := h1 i t e
      exact ⟨x, by rw [List.getElem?_set_ne (Ne.symm hi)]; exact hx, gx⟩
  · rw [List.length_set] at hz ⊢
    obtain ⟨x, hx, gx⟩ := h2 z j t hz e
    exact ⟨x, by rw [List.getElem?_set_ne (by omega)]; exact hx, gx⟩
theorem ly_hy_set2 {z j : Nat} {x' : am_E} (hy : ly_hy tt TH h) (hj : j < 19) (hz : 177 + 19 * (z + 1) ≤ h.length) (g : ∀ t, ly_thm TH j = some t → ly_gT tt h.length (177 + 19 * z) t x') : ly_hy tt TH (h.set (177 + 19 * z + j) x') := by
  obtain ⟨h0, h1, h2⟩ := hy
  refine ⟨by rw [List.length_set]; exact h0, fun i t e => ?_, fun z' j' t hz' e => ?_⟩
  · rw [List.length_set]
    have := ly_ths_lt e
    obtain ⟨x, hx, gx⟩ := h1 i t e
    exact ⟨x, by rw [List.getElem?_set_ne (by omega)]; exact hx, gx⟩
  · rw [List.length_set] at hz' ⊢
    have := ly_thm_lt e
    by_cases hi : 177 + 19 * z' + j' = 177 + 19 * z + j
    · have e1 : z' = z := by omega
      have e2 : j' = j := by omega
      subst e1
      subst e2
      exact ⟨x', List.getElem?_set_self (by omega), g t e⟩
    · obtain ⟨x, hx, gx⟩ := h2 z' j' t hz' e
      exact ⟨x, by rw [List.getElem?_set_ne (fun e => hi e.symm)]; exact hx, gx⟩
theorem ly_hm_set {ci : Nat} {vs vs' : List Value} {k m : Nat} (he : ∀ k', k' ≠ k → vs'[k']? = vs[k']?) (hm : m ≠ k) : ly_hm (some (.inr (ci, vs'))) m = ly_hm (some (.inr (ci, vs))) m := by
  simp only [ly_hm]
  rw [he m hm]
theorem ly_hs_set {ci : Nat} {vs vs' : List Value} {k m : Nat} {i : Int} (he : ∀ k', k' ≠ k → vs'[k']? = vs[k']?) (hm : m ≠ k ∨ i ≠ 0) : ly_hs (some (.inr (ci, vs'))) m i = ly_hs (some (.inr (ci, vs))) m i := by
  simp only [ly_hs]
  by_cases hi : i = 0
  · rw [if_pos hi, if_pos hi, he m (by omega)]
  · rw [if_neg hi, if_neg hi]
/-- an object, its fields, and what a write to one of them does -/
theorem ly_ob_ok {v : ly_V} {w : Value} {c ci : Nat} {i : ly_e} {fs : List (List ly_F)} (hy : ly_hy tt TH h) (g : ly_g ν h.length v w) (e : ly_ob TH v = some (c, i, ci, fs)) :
    ∃ (a b : Nat) (zi : Int) (vs : List Value), w = .ref (16 + a) ∧ ly_ev ν i = some zi ∧ h[a]? = some (.inr (ci, vs)) ∧ vs.length = (tt.getD ci []).length ∧ (∀ k f, sx_ch 8 k fs = some f → ∃ u, vs[k]? = some u ∧ ly_gf b f u) ∧
      (∀ k, k < 256 → ly_hv cst h (256 * c + k) zi = ly_hm (some (.inr (ci, vs))) k) ∧
      (∀ (k : Nat) (vs' : List Value), k < 256 → vs'.length = vs.length → (∀ k', k' ≠ k → vs'[k']? = vs[k']?) → (∀ f, sx_ch 8 k fs = some f → ∃ u, vs'[k]? = some u ∧ ly_gf b f u) →
        ly_hy tt TH (h.set a (.inr (ci, vs'))) ∧ ly_hv cst (h.set a (.inr (ci, vs'))) (256 * c + k) zi = ly_hm (some (.inr (ci, vs'))) k ∧ ∀ r' i', r' ≠ 256 * c + k ∨ i' ≠ zi → ly_hv cst (h.set a (.inr (ci, vs'))) r' i' = ly_hv cst h r' i') ∧
      (∀ j x, v = .inr (.inr (.inr (j, x))) → ∃ z : Nat, ly_ev ν x = some (z : Int) ∧ b = 177 + 19 * z ∧ 177 + 19 * (z + 1) ≤ h.length) := by
  unfold ly_ob at e
  split at e
  · rename_i a
    cases ha : Nat.blt a 16 with
    | true => rw [ha] at e; cases e
    | false =>
      have ha' := sx_blt_neg ha
      rw [ha] at e
      simp only [cond_false] at e
      split at e
      case h_2 => cases e
      rename_i r hr
      cases e
      have hlt := ly_ths_lt hr
      obtain ⟨x, hx, gx⟩ := hy.2.1 _ _ hr
      obtain ⟨vs, rfl, hlen, hfs⟩ := gx
      have hl := (List.getElem?_eq_some_iff.mp hx).1
      have ew := ly_g_ref g (by omega)
      have es : ∀ k (vs : List Value), ly_hs (some (.inr (ci, vs))) k 0 = ly_hm (some (.inr (ci, vs))) k := fun k vs => by simp only [ly_hs, ly_hm, if_true]
      refine ⟨a - 16, 0, 0, vs, by rw [ew, show 16 + (a - 16) = a by omega], ly_ev_c ν 0, hx, hlen, hfs, fun k hk => ?_, fun k vs' hk hl' he hf => ⟨?_, ?_, fun r' i' hr' => ?_⟩, fun j x hv => by cases hv⟩
      · rw [ly_hv_of1 hlt hk, hx, es]
      · refine ly_hy_set1 hy hlt (fun t ht => ?_)
        rw [hr] at ht
        cases ht
        refine ⟨vs', rfl, by rw [hl', hlen], fun k' f hf' => ?_⟩
        by_cases hkk : k' = k
        · subst hkk; exact hf f hf'
        · rw [he k' hkk]; exact hfs k' f hf'
      · rw [ly_hv_of1 hlt hk, List.getElem?_set_self hl, es]
      · refine ly_hv_set1 hlt hx (fun er => ly_hs_set he ?_)
        rcases hr' with hr' | hr'
        · exact Or.inl (fun em => hr' (by omega))
        · exact Or.inr hr'
  · rename_i j x
    split at e
    case h_2 => cases e
    rename_i r hr
    cases e
    obtain ⟨hj, z, ez, ew, hz⟩ := g
    obtain ⟨x', hx, gx⟩ := hy.2.2 z j _ hz hr
    obtain ⟨vs, rfl, hlen, hfs⟩ := gx
    have hl := (List.getElem?_eq_some_iff.mp hx).1
    refine ⟨177 + 19 * z + j, 177 + 19 * z, (z : Int), vs, ew, ez, hx, hlen, hfs, fun k hk => ?_, fun k vs' hk hl' he hf => ⟨?_, ?_, fun r' i' hr' => ?_⟩, fun j' x' hv => ?_⟩
    · rw [ly_hv_of2 hj hk, hx]
    · refine ly_hy_set2 hy hj hz (fun t ht => ?_)
      rw [hr] at ht
      cases ht
      refine ⟨vs', rfl, by rw [hl', hlen], fun k' f hf' => ?_⟩
      by_cases hkk : k' = k
      · subst hkk; exact hf f hf'
      · rw [he k' hkk]; exact hfs k' f hf'
    · rw [ly_hv_of2 hj hk, List.getElem?_set_self hl]
    · refine ly_hv_set2 hj hx (fun er ei => ly_hm_set he ?_)
      rcases hr' with hr' | hr'
      · exact fun em => hr' (by omega)
      · exact absurd ei hr'
    · cases hv
      exact ⟨z, ez, rfl, hz⟩
  · cases e
/-- a row, what it holds, and what a write to it does -/
theorem ly_row_ok {f : FieldType → Bool} {v : ly_V} {w : Value} {oc : Option Nat} {ty : FieldType} {n : Nat} {lo hi : Int} (hy : ly_hy tt TH h) (g : ly_g ν h.length v w) (e : ly_row f TH v = some (oc, ty, n, lo, hi)) :
    f ty = true ∧ ∃ a : Nat, ∃ c, w = .ref (16 + a) ∧ h[a]? = some (.inl (ty, n, c)) ∧ ly_gT tt h.length 0 (.inl (ty, n, lo, hi)) (.inl (ty, n, c)) ∧ (∀ c', ly_gT tt h.length 0 (.inl (ty, n, lo, hi)) (.inl (ty, n, c')) → ly_hy tt TH (h.set a (.inl (ty, n, c')))) ∧
      (∀ c0, oc = some c0 → c0 = a ∧ a < 177) ∧ (oc = none → ∀ c' r i, ly_hv cst (h.set a (.inl (ty, n, c'))) r i = ly_hv cst h r i) := by
  unfold ly_row at e
  split at e
  · rename_i a
    cases ha : Nat.blt a 16 with
    | true => rw [ha] at e; cases e
    | false =>
      have ha' := sx_blt_neg ha
      rw [ha] at e
      simp only [cond_false] at e
      split at e
      case h_2 => cases e
      rename_i r hr
      cases hf : f r.1 with
      | false => rw [hf] at e; cases e
      | true =>
        rw [hf] at e
        cases e
        have hlt := ly_ths_lt hr
        obtain ⟨x, hx, gx⟩ := hy.2.1 _ _ hr
        obtain ⟨c, rfl, gc⟩ := gx
        have ew := ly_g_ref g (by omega)
        refine ⟨hf, a - 16, c, by rw [ew, show 16 + (a - 16) = a by omega], hx, ⟨c, rfl, gc⟩, fun c' g' => ?_, fun c0 e0 => by cases e0; exact ⟨rfl, hlt⟩, fun e0 => by cases e0⟩
        refine ly_hy_set1 hy hlt (fun t ht => ?_)
        rw [hr] at ht
        cases ht
        exact g'
  · rename_i j x
    split at e
    case h_2 => cases e
    rename_i r hr
    cases hf : f r.1 with
    | false => rw [hf] at e; cases e
    | true =>
      rw [hf] at e
      cases e
      obtain ⟨hj, z, ez, ew, hz⟩ := g
      obtain ⟨x', hx, gx⟩ := hy.2.2 z j _ hz hr
      obtain ⟨c, rfl, gc⟩ := gx
      refine ⟨hf, 177 + 19 * z + j, c, ew, hx, ⟨c, rfl, gc⟩, fun c' g' => ?_, (fun c0 e0 => by cases e0), fun _ c' r i => ?_⟩
      · refine ly_hy_set2 hy hj hz (fun t ht => ?_)
        rw [hr] at ht
        cases ht
        exact g'
      · exact ly_hv_set2 hj hx (fun _ _ => rfl)
  · cases e
end LY5
end
section
/-! every instruction of the linear machine is the abstract machine's -/
/-- constants: rows by address, the script, the texts, a reference that is only handed on -/
def ly_gC (K : sx_K) (cst : am_K) : Prop :=
  (∀ a r, sx_get a K = some r → a ≠ 4 ∧ ((a < 4 ∧ ∃ L : List Int32, cst.1[a]? = some L ∧ L.map Int32.toInt = r) ∨ (12 ≤ a ∧ a < 16 ∧ ∃ L : List Int32, cst.2.1[a - 12]? = some L ∧ L.map Int32.toInt = r))) ∧
  (∃ L : List Int32, cst.1[4]? = some L ∧ L.length ≤ 3584) ∧ cst.2.1.length = 4 ∧ (cst.2.2 = .ref 7 ∨ cst.2.2 = .null)
section LY6
variable {cst : am_K} {cl : List vw_C} {tt : List (List FieldType)} {TH : List (List ly_T)} {mods : List Nat} {K : sx_K} {ν : ly_N} {I : Instr} {X : am_X} {pc pc1 : Nat} {Z : ly_Z} {l l1 : ly_L} {l' : am_L} {st : List ly_V} {st' : List Value} {h' : am_H} {ss : List ly_S}
/-- one of the states behind an instruction is as the abstract machine's -/
def ly_ok1 (cst : am_K) (cl : List vw_C) (tt : List (List FieldType)) (TH : List (List ly_T)) (mods : List Nat) (ν : ly_N) (I : Instr) (X : am_X) (pc : Nat) (l' : am_L) (st' : List Value) (h' : am_H) (ss : List ly_S) : Prop :=
  ∃ q ∈ ss, ∃ (ν1 : ly_N) (F : am_F), am_s cst cl tt I X pc l' st' h' = some F ∧ ly_le ν ν1 ∧ ly_gZ cst ν1 q.1 F.2.2.2 ∧ q.2.1 = F.1 ∧ ly_gL ν1 h'.length q.2.2.1 F.2.1 ∧ ly_gS ν1 h'.length q.2.2.2 F.2.2.1 ∧ ly_hy tt TH F.2.2.2 ∧ ly_fr cst mods h' F.2.2.2 ∧ F.2.2.2.length = h'.length
theorem ly_ok1_in {ss ss2 : List ly_S} (hsub : ∀ q ∈ ss, q ∈ ss2) (g : ly_ok1 cst cl tt TH mods ν I X pc l' st' h' ss) : ly_ok1 cst cl tt TH mods ν I X pc l' st' h' ss2 := by
  obtain ⟨q, hq, r⟩ := g
  exact ⟨q, hsub q hq, r⟩
theorem ly_one_ok {s1 : List ly_V} {m1 : am_L} {t1 : List Value} (e : am_s cst cl tt I X pc l' st' h' = some (pc1, m1, t1, h')) (gZ : ly_gZ cst ν Z h') (gL : ly_gL ν h'.length l1 m1) (gS : ly_gS ν h'.length s1 t1) (hy : ly_hy tt TH h') : ly_ok1 cst cl tt TH mods ν I X pc l' st' h' [(Z, pc1, l1, s1)] :=
  ⟨_, List.mem_singleton.mpr rfl, ν, _, e, ly_le_rf ν, gZ, rfl, gL, gS, hy, ly_fr_rf h', rfl⟩
theorem ly_two_ok {s1 : List ly_V} {t1 : List Value} {h1 : am_H} {Z1 : ly_Z} (e : am_s cst cl tt I X pc l' st' h' = some (pc1, l', t1, h1)) (gZ : ly_gZ cst ν Z1 h1) (gL : ly_gL ν h'.length l l') (gS : ly_gS ν h'.length s1 t1) (hy : ly_hy tt TH h1) (fr : ly_fr cst mods h' h1) (hl : h1.length = h'.length) : ly_ok1 cst cl tt TH mods ν I X pc l' st' h' [(Z1, pc1, l, s1)] :=
  ⟨_, List.mem_singleton.mpr rfl, ν, _, e, ly_le_rf ν, gZ, rfl, gL, gS, hy, fr, hl⟩
theorem ly_psh_ok {o : Option ly_R} {st1 : List Value} (hf : ly_psh Z pc1 l o st = some ss) (gZ : ly_gZ cst ν Z h') (gL : ly_gL ν h'.length l l') (gS : ly_gS ν h'.length st st1) (hy : ly_hy tt TH h')
    (k : ∀ r, o = some r → ∃ w, ly_gR ν h'.length r w ∧ am_s cst cl tt I X pc l' st' h' = some (pc1, l', w :: st1, h')) : ly_ok1 cst cl tt TH mods ν I X pc l' st' h' ss := by
  unfold ly_psh at hf
  split at hf
  · rename_i v
    rw [ly_vf_eq] at hf
    cases hf
    obtain ⟨w, gw, e⟩ := k _ rfl
    exact ly_one_ok e gZ gL ⟨gw, gS⟩ hy
  · rename_i p
    obtain ⟨w, gw, e⟩ := k _ rfl
    obtain ⟨x, rfl, p1, p2⟩ := gw
    simp only [ly_I_eq] at hf
    cases hc : sx_eq p.1 p.2 with
    | true =>
      rw [hc] at hf
      cases hf
      have := sx_eq_iff.mp hc
      refine ly_one_ok e gZ gL ⟨⟨x, rfl, ?_⟩, gS⟩ hy
      rw [ly_ev_c]
      congr 1
      omega
    | false =>
      rw [hc] at hf
      simp only [cond_false] at hf
      obtain ⟨n, B, F, K⟩ := Z
      simp only [sx_N_eq] at hf
      cases hf
      have hl : ly_le ν (ly_up ν n x.toInt) := ly_up_le (gZ.1 n (Nat.le_refl n))
      exact ⟨_, List.mem_singleton.mpr rfl, ly_up ν n x.toInt, _, e, hl, ly_gZ_up (p := (p.1, p.2)) gZ p1 p2, rfl, ly_gL_le hl (Nat.le_refl _) gL, ⟨⟨x, rfl, ly_ev_sym (ly_up_n n _)⟩, ly_gS_le hl (Nat.le_refl _) gS⟩, hy, ly_fr_rf h', rfl⟩
  · cases hf
theorem ly_rd_ok {r : Nat} {i : ly_e} {p : Int × Int} {st1 : List Value} {zi : Int} {x : Int32} (hf : ly_rd Z r i p pc1 l st = some ss) (gZ : ly_gZ cst ν Z h') (gL : ly_gL ν h'.length l l') (gS : ly_gS ν h'.length st st1) (hy : ly_hy tt TH h')
    (hi : ly_ev ν i = some zi) (hv : ly_hv cst h' r zi = some x.toInt) (p1 : p.1 ≤ x.toInt) (p2 : x.toInt ≤ p.2) (e : am_s cst cl tt I X pc l' st' h' = some (pc1, l', .int x :: st1, h')) : ly_ok1 cst cl tt TH mods ν I X pc l' st' h' ss := by
  unfold ly_rd at hf
  cases hr : ly_rv Z r i p with
  | mk Z1 v =>
    rw [hr] at hf
    cases hf
    obtain ⟨ν1, hl, gZ1, ev⟩ := ly_rv_ok gZ hi hv p1 p2 hr
    exact ⟨_, List.mem_singleton.mpr rfl, ν1, _, e, hl, gZ1, rfl, ly_gL_le hl (Nat.le_refl _) gL, ⟨⟨x, rfl, ev⟩, ly_gS_le hl (Nat.le_refl _) gS⟩, hy, ly_fr_rf h', rfl⟩
theorem ly_load_ok {f : ly_V → Bool} {i : Nat} (hf : ly_psh Z pc1 l (ly_load f i l) st = some ss) (gZ : ly_gZ cst ν Z h') (gL : ly_gL ν h'.length l l') (gS : ly_gS ν h'.length st st') (hy : ly_hy tt TH h')
    (k : ∀ v w, f v = true → ly_g ν h'.length v w → am_ld i l' = some w → am_s cst cl tt I X pc l' st' h' = some (pc1, l', w :: st', h')) : ly_ok1 cst cl tt TH mods ν I X pc l' st' h' ss := by
  refine ly_psh_ok hf gZ gL gS hy (fun r hr => ?_)
  unfold ly_load at hr
  split at hr
  case h_2 => cases hr
  rename_i v hv
  cases hc : f v with
  | false => rw [hc] at hr; cases hr
  | true =>
    rw [hc] at hr
    cases hr
    obtain ⟨w, e, g⟩ := ly_gL_get gL hv
    exact ⟨w, g, k v w hc g e⟩
theorem ly_sto_ok {f : ly_V → Bool} {g : ly_V → ly_L} {g' : Value → am_L} (hf : ly_sto f Z pc1 g st = some ss) (gZ : ly_gZ cst ν Z h') (gS : ly_gS ν h'.length st st') (hy : ly_hy tt TH h') (gg : ∀ v w, ly_g ν h'.length v w → ly_gL ν h'.length (g v) (g' w))
    (k : ∀ v w t, f v = true → ly_g ν h'.length v w → am_s cst cl tt I X pc l' (w :: t) h' = some (pc1, g' w, t, h')) : ly_ok1 cst cl tt TH mods ν I X pc l' st' h' ss := by
  unfold ly_sto at hf
  split at hf
  case h_2 => cases hf
  rename_i v st0
  obtain ⟨w, t, rfl, gv, gS⟩ := ly_gS_cons gS
  cases hc : f v with
  | false => rw [hc] at hf; cases hf
  | true =>
    rw [hc] at hf
    cases hf
    exact ly_one_ok (k v w t hc gv) gZ (gg v w gv) gS hy
theorem ly_bin_ok {f : ly_B → ly_e → ly_e → ly_R} {F : Int32 → Int32 → Int32} (hf : ly_bin f Z pc l st = some ss) (gZ : ly_gZ cst ν Z h') (gL : ly_gL ν h'.length l l') (gS : ly_gS ν h'.length st st') (hy : ly_hy tt TH h')
    (k : ∀ a b x y, ly_ev ν a = some x.toInt → ly_ev ν b = some y.toInt → ly_gR ν h'.length (f Z.2.1 a b) (.int (F x y)))
    (e : ∀ x y t, st' = .int y :: .int x :: t → am_s cst cl tt I X pc l' st' h' = some (pc + 1, l', .int (F x y) :: t, h')) : ly_ok1 cst cl tt TH mods ν I X pc l' st' h' ss := by
  unfold ly_bin at hf
  split at hf
  case h_2 => cases hf
  rename_i y x st0
  obtain ⟨y', t1, rfl, gy, gS1⟩ := ly_gS_cons gS
  obtain ⟨x', t2, rfl, gx, gS2⟩ := ly_gS_cons gS1
  obtain ⟨y0, rfl, ey⟩ := gy
  obtain ⟨x0, rfl, ex⟩ := gx
  refine ly_psh_ok hf gZ gL gS2 hy (fun r hr => ?_)
  cases hr
  exact ⟨_, k x y x0 y0 ex ey, e x0 y0 t2 rfl⟩
theorem ly_un_ok {f : ly_B → ly_e → ly_R} {F : Int32 → Int32} (hf : ly_un f Z pc l st = some ss) (gZ : ly_gZ cst ν Z h') (gL : ly_gL ν h'.length l l') (gS : ly_gS ν h'.length st st') (hy : ly_hy tt TH h')
    (k : ∀ a x, ly_ev ν a = some x.toInt → ly_gR ν h'.length (f Z.2.1 a) (.int (F x)))
    (e : ∀ x t, st' = .int x :: t → am_s cst cl tt I X pc l' st' h' = some (pc + 1, l', .int (F x) :: t, h')) : ly_ok1 cst cl tt TH mods ν I X pc l' st' h' ss := by
  unfold ly_un at hf
  split at hf
  case h_2 => cases hf
  rename_i x st0
  obtain ⟨x', t2, rfl, gx, gS1⟩ := ly_gS_cons gS
  obtain ⟨x0, rfl, ex⟩ := gx
  refine ly_psh_ok hf gZ gL gS1 hy (fun r hr => ?_)
  cases hr
  exact ⟨_, k x x0 ex, e x0 t2 rfl⟩
theorem ly_binj_ok {F : Int64 → Int64 → Int64} (hf : ly_binj Z pc l st = some ss) (gZ : ly_gZ cst ν Z h') (gL : ly_gL ν h'.length l l') (gS : ly_gS ν h'.length st st') (hy : ly_hy tt TH h')
    (e : ∀ x y t, st' = .long y :: .long x :: t → am_s cst cl tt I X pc l' st' h' = some (pc + 1, l', .long (F x y) :: t, h')) : ly_ok1 cst cl tt TH mods ν I X pc l' st' h' ss := by
  unfold ly_binj at hf
  split at hf
  case h_2 => cases hf
  rename_i st0
  obtain ⟨y', t1, rfl, gy, gS1⟩ := ly_gS_cons gS
  obtain ⟨x', t2, rfl, gx, gS2⟩ := ly_gS_cons gS1
  obtain ⟨y0, rfl⟩ := gy
  obtain ⟨x0, rfl⟩ := gx
  cases hf
  exact ly_one_ok (e x0 y0 t2 rfl) gZ gL ⟨⟨_, rfl⟩, gS2⟩ hy
theorem ly_goto_in {o : Option ly_Z} {Z1 : ly_Z} (e : o = some Z1) {q : ly_S} (hq : q ∈ [(Z1, pc1, l, st)]) : q ∈ ly_goto o pc1 l st := by
  rw [e]
  exact hq
theorem ly_fork_ok {c : ClassFile.Cond} {e : ly_e} {z : Int} {off : Int} {b : Prop} [hd : Decidable b] {t1 : List Value} (hf : ly_fork c e Z pc off l st = some ss) (gZ : ly_gZ cst ν Z h') (gL : ly_gL ν h'.length l l') (gS : ly_gS ν h'.length st t1) (hy : ly_hy tt TH h')
    (he : ly_ev ν e = some z) (hb : b ↔ sx_holds c z 0) (ea : am_s cst cl tt I X pc l' st' h' = am_br b pc off l' t1 h') : ly_ok1 cst cl tt TH mods ν I X pc l' st' h' ss := by
  unfold ly_fork at hf
  cases hj : sx_jump pc off with
  | false => rw [hj] at hf; cases hf
  | true =>
    rw [hj] at hf
    simp only [cond_true, ly_fe_eq] at hf
    cases hf
    unfold am_br at ea
    rw [sx_jump_ok hj] at ea
    by_cases hbb : b
    · simp only [if_pos hbb] at ea
      obtain ⟨Z1, e1, g1⟩ := ly_cn_ok gZ he (hb.mp hbb)
      exact ly_ok1_in (fun q hq => List.mem_append_left _ (ly_goto_in e1 hq)) (ly_one_ok ea g1 gL gS hy)
    · simp only [if_neg hbb] at ea
      obtain ⟨Z1, e1, g1⟩ := ly_cn_ok gZ he (ly_holds_neg (fun hh => hbb (hb.mpr hh)))
      exact ly_ok1_in (fun q hq => List.mem_append_right _ (ly_goto_in e1 hq)) (ly_one_ok ea g1 gL gS hy)
theorem ly_sw_in {x : ly_e} {q : ly_S} : ∀ {offs : List Int} {lo : Int} {k : Nat} {off : Int} {Z1 : ly_Z}, offs[k]? = some off → ly_cn .eq Z (ly_sub x (lo + (k : Int), [])) = some Z1 → q = (Z1, sx_to pc off, l, st) → q ∈ ly_sw x Z pc l st offs lo
  | [], _, _, _, _, h, _, _ => by simp at h
  | o :: offs, lo, 0, off, Z1, h, e, hq => by
    simp only [List.getElem?_cons_zero, Option.some.injEq] at h
    subst h
    unfold ly_sw
    refine List.mem_append_left _ (ly_goto_in (Z1 := Z1) ?_ (by rw [hq]; exact List.mem_singleton.mpr rfl))
    rw [← e]
    simp
  | o :: offs, lo, k + 1, off, Z1, h, e, hq => by
    simp only [List.getElem?_cons_succ] at h
    unfold ly_sw
    refine List.mem_append_right _ (ly_sw_in (k := k) h ?_ hq)
    rw [← e]
    have : Int.add lo 1 + (k : Int) = lo + ((k + 1 : Nat) : Int) := by
      show lo + 1 + (k : Int) = _
      omega
    rw [this]
end LY6
end
section
/-! loads of rows, and all instructions of the linear machine -/
section LY7
variable {cst : am_K} {cl : List vw_C} {tt : List (List FieldType)} {TH : List (List ly_T)} {mods : List Nat} {K : sx_K} {ν : ly_N} {I : Instr} {X : am_X} {pc pc1 : Nat} {Z : ly_Z} {l l1 : ly_L} {l' : am_L} {st : List ly_V} {st' : List Value} {h' : am_H} {ss : List ly_S}
theorem ly_rmin_le {c : Int} : ∀ {r : List Int}, c ∈ r → ly_rmin r ≤ c ∧ c ≤ ly_rmax r
  | [], hc => by cases hc
  | a :: r, hc => by
    unfold ly_rmin ly_rmax
    have e1 : sx_mn a (ly_rmin r) ≤ a ∧ sx_mn a (ly_rmin r) ≤ ly_rmin r := by
      unfold sx_mn
      cases hh : sx_le a (ly_rmin r) with
      | true => exact ⟨Int.le_refl _, sx_le_iff.mp hh⟩
      | false => exact ⟨Int.le_of_lt (sx_le_neg hh), Int.le_refl _⟩
    have e2 : a ≤ sx_mx a (ly_rmax r) ∧ ly_rmax r ≤ sx_mx a (ly_rmax r) := by
      unfold sx_mx
      cases hh : sx_le a (ly_rmax r) with
      | true => exact ⟨sx_le_iff.mp hh, Int.le_refl _⟩
      | false => exact ⟨Int.le_refl _, Int.le_of_lt (sx_le_neg hh)⟩
    rcases List.mem_cons.mp hc with rfl | hc
    · exact ⟨e1.1, e2.1⟩
    · have := ly_rmin_le hc
      omega
theorem ly_hv_len {L : List Int32} (hL : cst.1[4]? = some L) : ly_hv cst h' 60000 0 = some (L.length : Int) := by
  unfold ly_hv ly_hk
  rw [hL]
  simp
theorem ly_hv_elt {L : List Int32} (hL : cst.1[4]? = some L) {k : Nat} (hk : k < L.length) : ly_hv cst h' 60001 (k : Int) = some (L.getD k 0).toInt := by
  have e : L[k]? = some (L.getD k 0) := by rw [List.getD_eq_getElem?_getD, List.getElem?_eq_getElem hk]; rfl
  unfold ly_hv ly_hk
  rw [hL]
  simp only [Int.toNat_natCast, e]
  simp
theorem ly_low_ok {a : Nat} {i : ly_V} {i' : Value} {st1 : List Value} (hf : ly_low K a i Z pc1 l st = some ss) (gC : ly_gC K cst) (gZ : ly_gZ cst ν Z h') (gL : ly_gL ν h'.length l l') (gi : ly_g ν h'.length i i') (gS : ly_gS ν h'.length st st1) (hy : ly_hy tt TH h')
    (kl : ∀ (x : Int32) (L : List Int32), i' = .int x → ((a < 8 ∧ cst.1[a]? = some L) ∨ (12 ≤ a ∧ a < 16 ∧ cst.2.1[a - 12]? = some L)) → ¬ (x < 0 ∨ L.length ≤ x.toNatClampNeg) → am_s cst cl tt I X pc l' st' h' = some (pc1, l', .int (L.getD x.toNatClampNeg 0) :: st1, h')) : ly_ok1 cst cl tt TH mods ν I X pc l' st' h' ss := by
  obtain ⟨k1, ⟨S, s1, s2⟩, -, -⟩ := gC
  unfold ly_low at hf
  cases ha : Nat.beq a 4 with
  | true =>
    have ea := sx_beqn.mp ha
    subst ea
    rw [ha] at hf
    simp only [cond_true] at hf
    split at hf
    case h_2 => cases hf
    rename_i n e hn
    cases hc : (ly_ge Z.2.1 Z.2.2.1 e && ly_ge Z.2.1 Z.2.2.1 (ly_add (-1, []) (ly_sub n e))) with
    | false => rw [hc] at hf; cases hf
    | true =>
      rw [hc] at hf
      simp only [cond_true] at hf
      rw [Bool.and_eq_true] at hc
      obtain ⟨i0, v0, e1, e2, e3⟩ := gZ.2.2.2 _ (ly_kget_mem hn)
      simp only at e1 e2 e3
      rw [ly_ev_c] at e1
      cases e1
      rw [ly_hv_len s1] at e3
      cases e3
      obtain ⟨x, rfl, ex⟩ := gi
      have b1 := ly_ge_ok gZ.2.1 gZ.2.2.1 hc.1 ex
      have b2 := ly_ge_ok gZ.2.1 gZ.2.2.1 hc.2 (ly_add_ok (ly_ev_c ν _) (ly_sub_ok e2 ex))
      have en : x.toNatClampNeg = x.toInt.toNat := rfl
      have hlt : x.toNatClampNeg < S.length := by rw [en]; omega
      have hneg : ¬ (x < 0 ∨ S.length ≤ x.toNatClampNeg) := by
        rintro (hq | hq)
        · have := Int32.lt_iff_toInt_lt.mp hq
          have z : (0 : Int32).toInt = 0 := rfl
          omega
        · omega
      refine ly_rd_ok (zi := (x.toNatClampNeg : Int)) (x := S.getD x.toNatClampNeg 0) hf gZ gL gS hy (by rw [ex, en]; congr 1; omega) (ly_hv_elt s1 hlt) (ly_top _).1 (ly_top _).2 (kl x S rfl (Or.inl ⟨by omega, s1⟩) hneg)
  | false =>
    rw [ha] at hf
    simp only [cond_false] at hf
    split at hf
    case h_2 => cases hf
    rename_i r hr
    split at hf
    case h_2 => cases hf
    rename_i e he
    obtain ⟨rfl, x, rfl, hneg, hlt, ex⟩ := ly_idx_ok gZ gi he
    have key : ∃ L : List Int32, ((a < 8 ∧ cst.1[a]? = some L) ∨ (12 ≤ a ∧ a < 16 ∧ cst.2.1[a - 12]? = some L)) ∧ L.map Int32.toInt = r := by
      obtain ⟨-, ⟨l4, L, e, em⟩ | ⟨l12, l16, L, e, em⟩⟩ := k1 a r hr
      · exact ⟨L, Or.inl ⟨by omega, e⟩, em⟩
      · exact ⟨L, Or.inr ⟨l12, l16, e⟩, em⟩
    obtain ⟨L, hL, em⟩ := key
    have hll : L.length = r.length := by rw [← em, List.length_map]
    have e0 := kl x L rfl hL (by rw [hll]; exact hneg)
    have er : r[x.toNatClampNeg]? = some (L.getD x.toNatClampNeg 0).toInt := by
      rw [← em, List.getElem?_map, List.getD_eq_getElem?_getD, List.getElem?_eq_getElem (by omega)]
      rfl
    split at hf
    · rename_i j hj
      have := ly_con_ok gZ.2.1 hj
      rw [ex] at this
      have ej : x.toNatClampNeg = j := by
        simp only [Option.some.injEq] at this
        have h2 : ((x.toNatClampNeg : Nat) : Int) = (j : Int) := this
        omega
      split at hf
      case h_2 => cases hf
      rename_i c hc
      rw [← ej, er] at hc
      cases hc
      refine ly_psh_ok hf gZ gL gS hy (fun q hq => ?_)
      cases hq
      exact ⟨_, ⟨_, rfl, ly_ev_c ν _⟩, e0⟩
    · refine ly_psh_ok hf gZ gL gS hy (fun q hq => ?_)
      cases hq
      exact ⟨_, ⟨_, rfl, ly_rmin_le (List.mem_of_getElem? er)⟩, e0⟩
theorem ly_rload_ok {f : FieldType → Bool} {lows : Nat → Bool} (hf : ly_rload f K lows TH Z pc l st = some ss) (gC : ly_gC K cst) (gZ : ly_gZ cst ν Z h') (gL : ly_gL ν h'.length l l') (gS : ly_gS ν h'.length st st') (hy : ly_hy tt TH h')
    (hft : ∀ ty, f ty = true → ty = .int ∨ ty = .byte ∨ ty = .boolean)
    (h7 : lows 7 = true → sx_get 7 K = none)
    (kl : ∀ (a : Nat) (x : Int32) (L : List Int32) t, st' = .int x :: .ref a :: t → a < 16 → lows a = true → ((a < 8 ∧ cst.1[a]? = some L) ∨ (12 ≤ a ∧ a < 16 ∧ cst.2.1[a - 12]? = some L)) → ¬ (x < 0 ∨ L.length ≤ x.toNatClampNeg) → am_s cst cl tt I X pc l' st' h' = some (pc + 1, l', .int (L.getD x.toNatClampNeg 0) :: t, h'))
    (kh : ∀ (a : Nat) (ty : FieldType) (n : Nat) (f0 : Nat → Int32) (x : Int32) t, st' = .int x :: .ref (16 + a) :: t → f ty = true → h'[a]? = some (.inl (ty, n, .inl f0)) → ¬ (x < 0 ∨ n ≤ x.toNatClampNeg) → am_s cst cl tt I X pc l' st' h' = some (pc + 1, l', .int (f0 x.toNatClampNeg) :: t, h')) : ly_ok1 cst cl tt TH mods ν I X pc l' st' h' ss := by
  unfold ly_rload at hf
  split at hf
  case h_2 => cases hf
  rename_i i v st0
  obtain ⟨i', t1, e1, gi, gS1⟩ := ly_gS_cons gS
  obtain ⟨w, t2, e2, gv, gS2⟩ := ly_gS_cons gS1
  have row : ∀ {oc ty n lo hi}, ly_row f TH v = some (oc, ty, n, lo, hi) → f ty = true ∧ ∃ a f0, w = .ref (16 + a) ∧ h'[a]? = some (.inl (ty, n, .inl f0)) ∧ (∀ j, j < n → lo ≤ (f0 j).toInt ∧ (f0 j).toInt ≤ hi) ∧ ∀ c0, oc = some c0 → c0 = a ∧ a < 177 := by
    intro oc ty n lo hi hr
    obtain ⟨hty, a, c, ew, hx, gT, -, h1, -⟩ := ly_row_ok (cst := cst) hy gv hr
    obtain ⟨c', ec, gc⟩ := gT
    cases ec
    rcases hft ty hty with rfl | rfl | rfl <;> (obtain ⟨f0, rfl, b⟩ := gc; exact ⟨hty, a, f0, ew, hx, b, h1⟩)
  split at hf
  · rename_i c ty n p hr
    obtain ⟨hty, a, f0, ew, hx, b, h1⟩ := row (lo := p.1) (hi := p.2) hr
    obtain ⟨rfl, hlt⟩ := h1 c rfl
    split at hf
    case h_2 => cases hf
    rename_i e he
    obtain ⟨rfl, x, ei, hneg, hxn, ex⟩ := ly_idx_ok gZ gi he
    have bb := b _ hxn
    refine ly_rd_ok (zi := (x.toNatClampNeg : Int)) (x := f0 x.toNatClampNeg) hf gZ gL gS2 hy ex ?_ bb.1 bb.2 (kh c ty n f0 x t2 (by rw [e1, ei, e2, ew]) hty hx hneg)
    have := ly_hv_of1 (cst := cst) (h := h') (c := c) (k := 0) (i := (x.toNatClampNeg : Int)) hlt (by decide)
    rw [Nat.add_zero] at this
    rw [this, hx]
    simp only [ly_hs, Int.toNat_natCast]
    rw [if_pos ⟨trivial, Int.natCast_nonneg _, hxn⟩]
  · rename_i ty n p hr
    obtain ⟨hty, a, f0, ew, hx, b, -⟩ := row (lo := p.1) (hi := p.2) hr
    split at hf
    case h_2 => cases hf
    rename_i e he
    obtain ⟨rfl, x, ei, hneg, hxn, ex⟩ := ly_idx_ok gZ gi he
    refine ly_psh_ok hf gZ gL gS2 hy (fun r hr => ?_)
    cases hr
    exact ⟨_, ⟨_, rfl, b _ hxn⟩, kh a ty n f0 x t2 (by rw [e1, ei, e2, ew]) hty hx hneg⟩
  · split at hf
    case h_2 => cases hf
    rename_i a hrow
    cases hc : (Nat.blt a 16 && lows a) with
    | false => rw [hc] at hf; cases hf
    | true =>
      rw [hc] at hf
      simp only [cond_true] at hf
      rw [Bool.and_eq_true, sx_blt] at hc
      by_cases e7 : a = 7
      · subst e7
        unfold ly_low at hf
        rw [h7 hc.2] at hf
        cases hf
      · have ew := ly_g_ref gv e7
        exact ly_low_ok hf gC gZ gL gi gS2 hy (fun x L ei hL hneg => kl a x L t2 (by rw [e1, ei, e2, ew]) hc.1 hc.2 hL hneg)
theorem ly_nar_b (x : Int32) : (-128 : Int) ≤ (vp_nar .byte x).toInt ∧ (vp_nar .byte x).toInt ≤ 127 := (ly_i2b_r x).1
theorem ly_nar_z (x : Int32) : (0 : Int) ≤ (vp_nar .boolean x).toInt ∧ (vp_nar .boolean x).toInt ≤ 1 := by
  have e : vp_nar .boolean x = x &&& 1 := rfl
  rw [e, Int32.and_comm]
  have := ly_and_le (x := 1) (y := x) (by decide)
  have e1 : (1 : Int32).toInt = 1 := rfl
  omega
theorem ly_cmp_b (a b : Int64) : (-1 : Int) ≤ (lg_cmp a b).toInt ∧ (lg_cmp a b).toInt ≤ 1 := by
  unfold lg_cmp
  split
  · decide
  · split <;> decide
/-- a write to a row of ints -/
theorem ly_hv_row {a n j : Nat} {ty : FieldType} {f0 : Nat → Int32} {x : Int32} (hlt : a < 177) (hx : h'[a]? = some (.inl (ty, n, .inl f0))) (hj : j < n) :
    ly_hv cst (h'.set a (.inl (ty, n, .inl (upd f0 j x)))) (256 * a) (j : Int) = some x.toInt ∧ ∀ r' i', r' ≠ 256 * a ∨ i' ≠ (j : Int) → ly_hv cst (h'.set a (.inl (ty, n, .inl (upd f0 j x)))) r' i' = ly_hv cst h' r' i' := by
  have hl := (List.getElem?_eq_some_iff.mp hx).1
  refine ⟨?_, fun r' i' hr => ?_⟩
  · have := ly_hv_of1 (cst := cst) (h := h'.set a (.inl (ty, n, .inl (upd f0 j x)))) (c := a) (k := 0) (i := (j : Int)) hlt (by decide)
    rw [Nat.add_zero] at this
    rw [this, List.getElem?_set_self hl]
    simp only [ly_hs, Int.toNat_natCast]
    rw [if_pos ⟨trivial, Int.natCast_nonneg _, hj⟩]
    simp [upd]
  · refine ly_hv_set1 hlt hx (fun er => ?_)
    simp only [ly_hs]
    by_cases hc : r' % 256 = 0 ∧ 0 ≤ i' ∧ i'.toNat < n
    · rw [if_pos hc, if_pos hc]
      have : i'.toNat ≠ j := by
        rcases hr with hr | hr
        · omega
        · omega
      unfold upd
      rw [if_neg this]
    · rw [if_neg hc, if_neg hc]
end LY7
end
section
/-! all instructions of the linear machine -/
section LY8
variable {cst : am_K} {cl : List vw_C} {tt : List (List FieldType)} {TH : List (List ly_T)} {mods : List Nat} {K : sx_K} {ν : ly_N} {I : Instr} {X : am_X} {pc pc1 : Nat} {Z : ly_Z} {l l1 : ly_L} {l' : am_L} {st : List ly_V} {st' : List Value} {h' : am_H} {ss : List ly_S}
theorem ly_hp0 {c : ClassFile.Cond} {a : Int32} : sx_hp c a 0 ↔ sx_holds c a.toInt 0 := by
  rw [← sx_hp_iff]
  exact Iff.rfl
theorem ly_hp2 {c : ClassFile.Cond} {a b : Int32} : sx_hp c a b ↔ sx_holds c (a.toInt - b.toInt) 0 := by
  rw [← sx_hp_iff]
  cases c <;> simp only [sx_holds] <;> omega
set_option maxHeartbeats 8000000 in
theorem ly_s_ok {f : ly_Hd} (hs : ly_s I = some f) (hf : f K tt TH mods cl X pc Z l st = some ss) (gC : ly_gC K cst) (gZ : ly_gZ cst ν Z h') (gL : ly_gL ν h'.length l l') (gS : ly_gS ν h'.length st st') (hy : ly_hy tt TH h') : ly_ok1 cst cl tt TH mods ν I X pc l' st' h' ss := by
  have gB := gZ.2.1
  cases I with
  | iconst n =>
    cases hs
    exact ly_psh_ok hf gZ gL gS hy (fun v hv => by
      cases hv
      exact ⟨_, ⟨_, rfl, by rw [ly_ev_c, Int32.toInt_ofInt, sx_w_eq]⟩, rfl⟩)
  | bipush n =>
    cases hs
    refine ly_psh_ok hf gZ gL gS hy (fun v hv => ?_)
    cases hc : (sx_le (-128) n && sx_le n 127) with
    | false => rw [hc] at hv; cases hv
    | true =>
      rw [hc] at hv
      cases hv
      rw [Bool.and_eq_true, sx_le_iff, sx_le_iff] at hc
      refine ⟨_, ⟨_, rfl, ?_⟩, rfl⟩
      rw [ly_ev_c, Int8.toInt_toInt32, Int8.toInt_ofInt]
      congr 1
      exact (Int.bmod_eq_of_le (by show -((256 : Int) / 2) ≤ n; omega) (by show n < ((256 : Int) + 1) / 2; omega)).symm
  | sipush n =>
    cases hs
    refine ly_psh_ok hf gZ gL gS hy (fun v hv => ?_)
    cases hc : (sx_le (-32768) n && sx_le n 32767) with
    | false => rw [hc] at hv; cases hv
    | true =>
      rw [hc] at hv
      cases hv
      rw [Bool.and_eq_true, sx_le_iff, sx_le_iff] at hc
      refine ⟨_, ⟨_, rfl, ?_⟩, rfl⟩
      rw [ly_ev_c, Int16.toInt_toInt32, Int16.toInt_ofInt]
      congr 1
      exact (Int.bmod_eq_of_le (by show -((65536 : Int) / 2) ≤ n; omega) (by show n < ((65536 : Int) + 1) / 2; omega)).symm
  | lconst n =>
    cases hs
    cases hf
    exact ly_one_ok rfl gZ gL ⟨⟨_, rfl⟩, gS⟩ hy
  | aconst_null =>
    cases hs
    cases hf
    exact ly_one_ok (t1 := .null :: st') rfl gZ gL ⟨rfl, gS⟩ hy
  | ldc i =>
    cases hs
    simp only at hf
    cases h0' : Nat.beq X.1 0 with
    | true =>
      rw [h0'] at hf
      simp only [cond_true] at hf
      refine ly_psh_ok hf gZ gL gS hy (fun v hv => ?_)
      cases hv
      refine ⟨.int (Int32.ofInt X.2.2), ⟨_, rfl, by rw [ly_ev_c, Int32.toInt_ofInt, sx_w_eq]⟩, ?_⟩
      simp only [am_s, if_pos (sx_beqn.mp h0')]
    | false =>
      rw [h0'] at hf
      simp only [cond_false] at hf
      cases h1 : Nat.blt X.2.1 16 with
      | false => rw [h1] at hf; cases hf
      | true =>
        rw [h1] at hf
        cases hf
        exact ly_one_ok (t1 := .ref X.2.1 :: st') (by simp only [am_s, if_neg (sx_beq_neg h0'), if_pos (sx_blt.mp h1)]) gZ gL ⟨Or.inl rfl, gS⟩ hy
  | ldc_w i =>
    cases hs
    simp only at hf
    cases h0' : Nat.beq X.1 0 with
    | true =>
      rw [h0'] at hf
      simp only [cond_true] at hf
      refine ly_psh_ok hf gZ gL gS hy (fun v hv => ?_)
      cases hv
      refine ⟨.int (Int32.ofInt X.2.2), ⟨_, rfl, by rw [ly_ev_c, Int32.toInt_ofInt, sx_w_eq]⟩, ?_⟩
      simp only [am_s, if_pos (sx_beqn.mp h0')]
    | false =>
      rw [h0'] at hf
      simp only [cond_false] at hf
      cases h1 : Nat.blt X.2.1 16 with
      | false => rw [h1] at hf; cases hf
      | true =>
        rw [h1] at hf
        cases hf
        exact ly_one_ok (t1 := .ref X.2.1 :: st') (by simp only [am_s, if_neg (sx_beq_neg h0'), if_pos (sx_blt.mp h1)]) gZ gL ⟨Or.inl rfl, gS⟩ hy
  | ldc2_w i =>
    cases hs
    cases hf
    exact ly_one_ok rfl gZ gL ⟨⟨_, rfl⟩, gS⟩ hy
  | getstatic i =>
    cases hs
    cases hf
    obtain ⟨-, -, -, kf⟩ := gC
    cases h8 : Nat.blt X.2.1 8 with
    | true =>
      have := sx_blt.mp h8
      exact ly_one_ok (t1 := .ref X.2.1 :: st') (by simp only [am_s, am_sv, if_pos this, am_lowv, decide_eq_true_eq, if_pos (show X.2.1 < 16 by omega)]) gZ gL ⟨Or.inl rfl, gS⟩ hy
    | false =>
      have h8' := sx_blt_neg h8
      cases h9 : Nat.beq X.2.1 8 with
      | true =>
        have := sx_beqn.mp h9
        exact ly_one_ok (t1 := .int 1 :: st') (by simp only [am_s, am_sv, if_neg h8', if_pos this, am_lowv, if_true]) gZ gL ⟨⟨1, rfl, ly_ev_c ν 1⟩, gS⟩ hy
      | false =>
        have h9' := sx_beq_neg h9
        have hl : am_lowv cst.2.2 = true := by
          rcases kf with e | e
          · rw [e]; rfl
          · rw [e]; rfl
        refine ly_one_ok (t1 := cst.2.2 :: st') (by simp only [am_s, am_sv, if_neg h8', if_neg h9', hl, if_true]) gZ gL ⟨?_, gS⟩ hy
        rcases kf with e | e
        · exact Or.inl e
        · exact Or.inr ⟨rfl, e⟩
  | iload i =>
    cases hs
    exact ly_load_ok hf gZ gL gS hy (fun v w hv g e => by
      obtain ⟨n, rfl⟩ := ly_g_isI g hv
      simp only [am_s, e])
  | iload_n i =>
    cases hs
    exact ly_load_ok hf gZ gL gS hy (fun v w hv g e => by
      obtain ⟨n, rfl⟩ := ly_g_isI g hv
      simp only [am_s, e])
  | lload i =>
    cases hs
    exact ly_load_ok hf gZ gL gS hy (fun v w hv g e => by
      obtain ⟨n, rfl⟩ := ly_g_isJ g hv
      simp only [am_s, e])
  | lload_n i =>
    cases hs
    exact ly_load_ok hf gZ gL gS hy (fun v w hv g e => by
      obtain ⟨n, rfl⟩ := ly_g_isJ g hv
      simp only [am_s, e])
  | aload i =>
    cases hs
    exact ly_load_ok hf gZ gL gS hy (fun v w hv g e => by
      rcases ly_g_isA g hv with ⟨a, rfl⟩ | rfl <;> simp only [am_s, e])
  | aload_n i =>
    cases hs
    exact ly_load_ok hf gZ gL gS hy (fun v w hv g e => by
      rcases ly_g_isA g hv with ⟨a, rfl⟩ | rfl <;> simp only [am_s, e])
  | istore i =>
    cases hs
    exact ly_sto_ok (g' := fun w => am_st1 i w l') hf gZ gS hy (fun v w g => ly_gL_st1 gL g) (fun v w t hv g => by
      obtain ⟨n, rfl⟩ := ly_g_isI g hv
      rfl)
  | istore_n i =>
    cases hs
    exact ly_sto_ok (g' := fun w => am_st1 i w l') hf gZ gS hy (fun v w g => ly_gL_st1 gL g) (fun v w t hv g => by
      obtain ⟨n, rfl⟩ := ly_g_isI g hv
      rfl)
  | lstore i =>
    cases hs
    exact ly_sto_ok (g' := fun w => am_st2 i w l') hf gZ gS hy (fun v w g => ly_gL_st2 gL g) (fun v w t hv g => by
      obtain ⟨n, rfl⟩ := ly_g_isJ g hv
      rfl)
  | lstore_n i =>
    cases hs
    exact ly_sto_ok (g' := fun w => am_st2 i w l') hf gZ gS hy (fun v w g => ly_gL_st2 gL g) (fun v w t hv g => by
      obtain ⟨n, rfl⟩ := ly_g_isJ g hv
      rfl)
  | astore i =>
    cases hs
    exact ly_sto_ok (g' := fun w => am_st1 i w l') hf gZ gS hy (fun v w g => ly_gL_st1 gL g) (fun v w t hv g => by
      rcases ly_g_isA g hv with ⟨a, rfl⟩ | rfl <;> rfl)
  | astore_n i =>
    cases hs
    exact ly_sto_ok (g' := fun w => am_st1 i w l') hf gZ gS hy (fun v w g => ly_gL_st1 gL g) (fun v w t hv g => by
      rcases ly_g_isA g hv with ⟨a, rfl⟩ | rfl <;> rfl)
  | iinc i n =>
    cases hs
    simp only at hf
    split at hf
    case h_2 => cases hf
    rename_i x hx
    split at hf
    case h_2 => cases hf
    rename_i Z1 pc1 l1 v1 hp
    cases hf
    obtain ⟨w, e, gw⟩ := ly_gL_get gL hx
    obtain ⟨a, rfl, ea⟩ := gw
    have gn : ly_ev ν (sx_w n, []) = some (Int32.ofInt n).toInt := by rw [ly_ev_c, Int32.toInt_ofInt, sx_w_eq]
    unfold ly_psh at hp
    split at hp
    · rename_i v hv
      rw [ly_vf_eq] at hp
      cases hp
      have gr := ly_add_r (len := h'.length) gB ea gn
      rw [Option.some.inj hv] at gr
      exact ly_one_ok (by simp only [am_s, e]) gZ (ly_gL_st1 gL gr) gS hy
    · rename_i p hv
      have gr := ly_add_r (len := h'.length) gB ea gn
      rw [Option.some.inj hv] at gr
      obtain ⟨y, ey, p1, p2⟩ := gr
      cases ey
      simp only [ly_I_eq] at hp
      cases hc : sx_eq p.1 p.2 with
      | true =>
        rw [hc] at hp
        cases hp
        have := sx_eq_iff.mp hc
        refine ly_one_ok (by simp only [am_s, e]) gZ (ly_gL_st1 gL ⟨a + Int32.ofInt n, rfl, ?_⟩) gS hy
        rw [ly_ev_c]
        congr 1
        omega
      | false =>
        rw [hc] at hp
        simp only [cond_false] at hp
        obtain ⟨m, B, F, K⟩ := Z
        simp only [sx_N_eq] at hp
        cases hp
        have hl : ly_le ν (ly_up ν m (a + Int32.ofInt n).toInt) := ly_up_le (gZ.1 m (Nat.le_refl m))
        refine ⟨_, List.mem_singleton.mpr rfl, ly_up ν m (a + Int32.ofInt n).toInt, (pc + 3, am_st1 i (.int (a + Int32.ofInt n)) l', st', h'), by simp only [am_s, e], hl, ly_gZ_up (p := (p.1, p.2)) gZ p1 p2, rfl, ly_gL_st1 (ly_gL_le hl (Nat.le_refl _) gL) ⟨_, rfl, ly_ev_sym (ly_up_n m _)⟩, ly_gS_le hl (Nat.le_refl _) gS, hy, ly_fr_rf h', rfl⟩
    · cases hp
  | iadd => cases hs; exact ly_bin_ok hf gZ gL gS hy (fun a b x y ha hb => ly_add_r gB ha hb) (fun x y t e => by rw [e]; rfl)
  | isub => cases hs; exact ly_bin_ok hf gZ gL gS hy (fun a b x y ha hb => ly_sub_r gB ha hb) (fun x y t e => by rw [e]; rfl)
  | imul => cases hs; exact ly_bin_ok hf gZ gL gS hy (fun a b x y ha hb => ly_mul_r gB ha hb) (fun x y t e => by rw [e]; rfl)
  | idiv =>
    cases hs
    simp only at hf
    split at hf
    case h_2 => cases hf
    rename_i y st0
    split at hf
    case h_2 => cases hf
    rename_i q hq
    cases hc : sx_le 1 q.1 with
    | false => rw [hc] at hf; cases hf
    | true =>
      rw [hc] at hf
      have hc := sx_le_iff.mp hc
      obtain ⟨y', t1, e1, gy, -⟩ := ly_gS_cons gS
      obtain ⟨y0, ey0, ey⟩ := gy
      obtain ⟨z, hz, q1, -⟩ := ly_iv_ok gB hq
      rw [ey] at hz
      cases hz
      refine ly_bin_ok hf gZ gL gS hy (fun a b x y ha hb => ly_op_r gB ha hb (fun p q => ly_div_r p q)) (fun x y t e => ?_)
      rw [e1, ey0] at e
      cases e
      have hn : ¬ y0 = 0 := fun e0 => by
        rw [e0] at q1
        have : (0 : Int32).toInt = 0 := rfl
        omega
      rw [e1, ey0]
      simp only [am_s, if_neg hn]
  | irem =>
    cases hs
    simp only at hf
    split at hf
    case h_2 => cases hf
    rename_i y st0
    split at hf
    case h_2 => cases hf
    rename_i q hq
    cases hc : sx_le 1 q.1 with
    | false => rw [hc] at hf; cases hf
    | true =>
      rw [hc] at hf
      have hc := sx_le_iff.mp hc
      obtain ⟨y', t1, e1, gy, -⟩ := ly_gS_cons gS
      obtain ⟨y0, ey0, ey⟩ := gy
      obtain ⟨z, hz, q1, -⟩ := ly_iv_ok gB hq
      rw [ey] at hz
      cases hz
      refine ly_bin_ok (F := fun x y => x - x / y * y) hf gZ gL gS hy (fun a b x y ha hb => ly_op_r gB ha hb (fun p q p1 _ q1 q2 => ly_rem_r p q p1 q1 q2)) (fun x y t e => ?_)
      rw [e1, ey0] at e
      cases e
      have hn : ¬ y0 = 0 := fun e0 => by
        rw [e0] at q1
        have : (0 : Int32).toInt = 0 := rfl
        omega
      rw [e1, ey0]
      simp only [am_s, if_neg hn]
  | iand => cases hs; exact ly_bin_ok hf gZ gL gS hy (fun a b x y ha hb => ly_op_r gB ha hb (fun p q => ly_and_r p q)) (fun x y t e => by rw [e]; rfl)
  | ior => cases hs; exact ly_bin_ok hf gZ gL gS hy (fun a b x y ha hb => ly_op_r gB ha hb (fun p q _ _ _ _ => ly_top _)) (fun x y t e => by rw [e]; rfl)
  | ixor => cases hs; exact ly_bin_ok hf gZ gL gS hy (fun a b x y ha hb => ly_op_r gB ha hb (fun p q _ _ _ _ => ly_top _)) (fun x y t e => by rw [e]; rfl)
  | ishl => cases hs; exact ly_bin_ok (F := fun x y => x <<< (y &&& 31)) hf gZ gL gS hy (fun a b x y ha hb => ly_op_r gB ha hb (fun p q _ _ _ _ => ly_top _)) (fun x y t e => by rw [e]; rfl)
  | ishr => cases hs; exact ly_bin_ok (F := fun x y => x >>> (y &&& 31)) hf gZ gL gS hy (fun a b x y ha hb => ly_op_r gB ha hb (fun p q p1 p2 _ _ => ly_shr_r p q p1 p2)) (fun x y t e => by rw [e]; rfl)
  | iushr => cases hs; exact ly_bin_ok (F := fun x y => (x.toUInt32 >>> (y.toUInt32 &&& Int32.toUInt32 31)).toInt32) hf gZ gL gS hy (fun a b x y ha hb => ly_op_r gB ha hb (fun p q _ _ _ _ => ly_top _)) (fun x y t e => by rw [e]; rfl)
  | ladd => cases hs; exact ly_binj_ok (F := fun x y => x + y) hf gZ gL gS hy (fun x y t e => by rw [e]; rfl)
  | lsub => cases hs; exact ly_binj_ok (F := fun x y => x - y) hf gZ gL gS hy (fun x y t e => by rw [e]; rfl)
  | lmul => cases hs; exact ly_binj_ok (F := fun x y => x * y) hf gZ gL gS hy (fun x y t e => by rw [e]; rfl)
  | lcmp =>
    cases hs
    simp only at hf
    split at hf
    case h_2 => cases hf
    rename_i st0
    obtain ⟨y', t1, rfl, gy, gS1⟩ := ly_gS_cons gS
    obtain ⟨x', t2, rfl, gx, gS2⟩ := ly_gS_cons gS1
    obtain ⟨y0, rfl⟩ := gy
    obtain ⟨x0, rfl⟩ := gx
    refine ly_psh_ok hf gZ gL gS2 hy (fun r hr => ?_)
    cases hr
    exact ⟨_, ⟨_, rfl, ly_cmp_b x0 y0⟩, rfl⟩
  | i2l =>
    cases hs
    simp only at hf
    split at hf
    case h_2 => cases hf
    rename_i e st0
    obtain ⟨x', t2, rfl, gx, gS2⟩ := ly_gS_cons gS
    obtain ⟨x0, rfl, -⟩ := gx
    cases hf
    exact ly_one_ok rfl gZ gL ⟨⟨_, rfl⟩, gS2⟩ hy
  | l2i =>
    cases hs
    simp only at hf
    split at hf
    case h_2 => cases hf
    rename_i st0
    obtain ⟨x', t2, rfl, gx, gS2⟩ := ly_gS_cons gS
    obtain ⟨x0, rfl⟩ := gx
    refine ly_psh_ok hf gZ gL gS2 hy (fun r hr => ?_)
    cases hr
    exact ⟨_, ⟨_, rfl, ly_top _⟩, rfl⟩
  | i2c => cases hs; exact ly_un_ok (F := fun x => (x.toUInt32 % 65536).toInt32) hf gZ gL gS hy (fun a x ha => ly_op1_r gB ha (ly_i2c_r x).1 (ly_i2c_r x).2) (fun x t e => by rw [e]; rfl)
  | i2b => cases hs; exact ly_un_ok (F := fun x => x.toInt8.toInt32) hf gZ gL gS hy (fun a x ha => ly_op1_r gB ha (ly_i2b_r x).1 (ly_i2b_r x).2) (fun x t e => by rw [e]; rfl)
  | pop =>
    cases hs
    simp only at hf
    split at hf
    case h_2 => cases hf
    rename_i v st0
    obtain ⟨w, t, rfl, gv, gS1⟩ := ly_gS_cons gS
    cases hc : Nat.beq (ly_cat v) 1 with
    | false => rw [hc] at hf; cases hf
    | true =>
      rw [hc] at hf
      cases hf
      exact ly_one_ok (by simp only [am_s, ly_g_cat gv, sx_beqn.mp hc, if_true]) gZ gL gS1 hy
  | dup =>
    cases hs
    simp only at hf
    split at hf
    case h_2 => cases hf
    rename_i v st0
    obtain ⟨w, t, rfl, gv, gS1⟩ := ly_gS_cons gS
    cases hc : Nat.beq (ly_cat v) 1 with
    | false => rw [hc] at hf; cases hf
    | true =>
      rw [hc] at hf
      cases hf
      exact ly_one_ok (t1 := w :: w :: t) (by simp only [am_s, ly_g_cat gv, sx_beqn.mp hc, if_true]) gZ gL ⟨gv, gv, gS1⟩ hy
  | dup2 =>
    cases hs
    simp only at hf
    split at hf
    case h_2 => cases hf
    rename_i v v2 st0
    obtain ⟨w, t, rfl, gv, gS1⟩ := ly_gS_cons gS
    obtain ⟨w2, t2, rfl, gv2, gS2⟩ := ly_gS_cons gS1
    cases hc : (Nat.beq (ly_cat v) 1 && Nat.beq (ly_cat v2) 1) with
    | false => rw [hc] at hf; cases hf
    | true =>
      rw [hc] at hf
      cases hf
      rw [Bool.and_eq_true] at hc
      exact ly_one_ok (t1 := w :: w2 :: w :: w2 :: t2) (by simp only [am_s, ly_g_cat gv, ly_g_cat gv2, sx_beqn.mp hc.1, sx_beqn.mp hc.2, and_self, if_true]) gZ gL ⟨gv, gv2, gv, gv2, gS2⟩ hy
  | goto off =>
    cases hs
    simp only at hf
    cases hj : sx_jump pc off with
    | false => rw [hj] at hf; cases hf
    | true =>
      rw [hj] at hf
      cases hf
      exact ly_one_ok (by simp only [am_s, sx_jump_ok hj]) gZ gL gS hy
  | ifCond c off =>
    cases hs
    simp only at hf
    split at hf
    case h_2 => cases hf
    rename_i x st0
    obtain ⟨x', t, rfl, gx, gS1⟩ := ly_gS_cons gS
    obtain ⟨a, rfl, ea⟩ := gx
    have hh := ly_hp0 (c := c) (a := a)
    cases c
    · exact ly_fork_ok (b := a = 0) hf gZ gL gS1 hy ea hh rfl
    · exact ly_fork_ok (b := ¬ a = 0) hf gZ gL gS1 hy ea hh rfl
    · exact ly_fork_ok (b := a < 0) hf gZ gL gS1 hy ea hh rfl
    · exact ly_fork_ok (b := 0 ≤ a) hf gZ gL gS1 hy ea hh rfl
    · exact ly_fork_ok (b := 0 < a) hf gZ gL gS1 hy ea hh rfl
    · exact ly_fork_ok (b := a ≤ 0) hf gZ gL gS1 hy ea hh rfl
  | if_icmp c off =>
    cases hs
    simp only at hf
    split at hf
    case h_2 => cases hf
    rename_i y x st0
    obtain ⟨y', t, rfl, gy, gS1⟩ := ly_gS_cons gS
    obtain ⟨x', t2, rfl, gx, gS2⟩ := ly_gS_cons gS1
    obtain ⟨a, rfl, ea⟩ := gx
    obtain ⟨b, rfl, eb⟩ := gy
    have hh := ly_hp2 (c := c) (a := a) (b := b)
    have ee := ly_sub_ok ea eb
    cases c
    · exact ly_fork_ok (b := a = b) hf gZ gL gS2 hy ee hh rfl
    · exact ly_fork_ok (b := ¬ a = b) hf gZ gL gS2 hy ee hh rfl
    · exact ly_fork_ok (b := a < b) hf gZ gL gS2 hy ee hh rfl
    · exact ly_fork_ok (b := b ≤ a) hf gZ gL gS2 hy ee hh rfl
    · exact ly_fork_ok (b := b < a) hf gZ gL gS2 hy ee hh rfl
    · exact ly_fork_ok (b := a ≤ b) hf gZ gL gS2 hy ee hh rfl
  | ifnull off =>
    cases hs
    simp only at hf
    split at hf
    · rename_i a st0
      obtain ⟨w, t, rfl, gv, gS1⟩ := ly_gS_cons gS
      cases h7 : Nat.beq a 7 with
      | true => rw [h7] at hf; cases hf
      | false =>
        rw [h7] at hf
        cases hf
        rw [ly_g_ref gv (sx_beq_neg h7)]
        exact ly_one_ok rfl gZ gL gS1 hy
    · rename_i q st0
      obtain ⟨w, t, rfl, gv, gS1⟩ := ly_gS_cons gS
      cases hf
      obtain ⟨-, z, -, ew, -⟩ := gv
      rw [ew]
      exact ly_one_ok rfl gZ gL gS1 hy
    · rename_i st0
      obtain ⟨w, t, rfl, gv, gS1⟩ := ly_gS_cons gS
      cases hj : sx_jump pc off with
      | false => rw [hj] at hf; cases hf
      | true =>
        rw [hj] at hf
        cases hf
        rw [show w = .null from gv]
        exact ly_one_ok (by simp only [am_s, sx_jump_ok hj]) gZ gL gS1 hy
    · cases hf
  | ifnonnull off =>
    cases hs
    simp only at hf
    split at hf
    · rename_i st0
      obtain ⟨w, t, rfl, gv, gS1⟩ := ly_gS_cons gS
      cases hf
      rw [show w = .null from gv]
      exact ly_one_ok rfl gZ gL gS1 hy
    · rename_i q st0
      obtain ⟨w, t, rfl, gv, gS1⟩ := ly_gS_cons gS
      cases hj : sx_jump pc off with
      | false => rw [hj] at hf; cases hf
      | true =>
        rw [hj] at hf
        cases hf
        obtain ⟨-, z, -, ew, -⟩ := gv
        rw [ew]
        exact ly_one_ok (by simp only [am_s, sx_jump_ok hj]) gZ gL gS1 hy
    · rename_i a st0
      obtain ⟨w, t, rfl, gv, gS1⟩ := ly_gS_cons gS
      cases h7 : Nat.beq a 7 with
      | true => rw [h7] at hf; cases hf
      | false =>
        rw [h7] at hf
        cases hj : sx_jump pc off with
        | false => rw [hj] at hf; cases hf
        | true =>
          rw [hj] at hf
          cases hf
          rw [ly_g_ref gv (sx_beq_neg h7)]
          exact ly_one_ok (by simp only [am_s, sx_jump_ok hj]) gZ gL gS1 hy
    · cases hf
  | tableswitch dflt lo hi offs =>
    cases hs
    simp only at hf
    split at hf
    case h_2 => cases hf
    rename_i x st0
    obtain ⟨x', t, rfl, gx, gS1⟩ := ly_gS_cons gS
    obtain ⟨n, rfl, en⟩ := gx
    cases hc : (sx_jump pc dflt && (offs.toList.all (sx_jump pc) && sx_eq (Int.add lo (.ofNat offs.toList.length)) (Int.add hi 1))) with
    | false => rw [hc] at hf; cases hf
    | true =>
      rw [hc] at hf
      cases hf
      rw [Bool.and_eq_true, Bool.and_eq_true, sx_eq_iff] at hc
      obtain ⟨hd, ha, hlen⟩ := hc
      have hlen : lo + (offs.toList.length : Int) = hi + 1 := hlen
      by_cases h1 : n.toInt < lo
      · obtain ⟨Z1, e1, g1⟩ := ly_cn_ok (c := .lt) gZ (ly_sub_ok en (ly_ev_c ν lo)) (show n.toInt - lo < 0 by omega)
        refine ly_ok1_in (fun q hq => List.mem_append_right _ (List.mem_append_left _ (ly_goto_in e1 hq))) (ly_one_ok ?_ g1 gL gS1 hy)
        simp only [am_s, if_pos (show n.toInt < lo ∨ hi < n.toInt from Or.inl h1), sx_jump_ok hd]
      · by_cases h2 : hi < n.toInt
        · obtain ⟨Z1, e1, g1⟩ := ly_cn_ok (c := .gt) gZ (ly_sub_ok en (ly_ev_c ν hi)) (show 0 < n.toInt - hi by omega)
          refine ly_ok1_in (fun q hq => List.mem_append_right _ (List.mem_append_right _ (ly_goto_in e1 hq))) (ly_one_ok ?_ g1 gL gS1 hy)
          simp only [am_s, if_pos (show n.toInt < lo ∨ hi < n.toInt from Or.inr h2), sx_jump_ok hd]
        · have hk : (n.toInt - lo).toNat < offs.toList.length := by omega
          have hg := List.getElem?_eq_getElem hk
          have ek : lo + (((n.toInt - lo).toNat : Nat) : Int) = n.toInt := by omega
          have hj := List.all_eq_true.mp ha _ (List.mem_of_getElem? hg)
          obtain ⟨Z1, e1, g1⟩ := ly_cn_ok (c := .eq) gZ (ly_sub_ok en (ly_ev_c ν (lo + (((n.toInt - lo).toNat : Nat) : Int)))) (show n.toInt - _ = 0 by omega)
          refine ly_ok1_in (fun q hq => List.mem_append_left _ (ly_sw_in hg e1 (List.mem_singleton.mp hq))) (ly_one_ok ?_ g1 gL gS1 hy)
          have e2 : offs[(n.toInt - lo).toNat]? = some offs.toList[(n.toInt - lo).toNat] := by
            rw [← Array.getElem?_toList]
            exact hg
          simp only [am_s, if_neg (show ¬ (n.toInt < lo ∨ hi < n.toInt) by omega), e2, sx_jump_ok hj]
  | getfield i =>
    cases hs
    simp only at hf
    split at hf
    case h_2 => cases hf
    rename_i v st0
    obtain ⟨w, t, rfl, gv, gS1⟩ := ly_gS_cons gS
    split at hf
    · rename_i c i0 ci fs hob
      obtain ⟨a, b, zi, vs, rfl, ei, hx, hlen, hfs, hhv, -, hR⟩ := ly_ob_ok (cst := cst) hy gv hob
      cases hc : (Nat.beq ci X.1 && (sx_eq X.2.2 0 && Nat.blt X.2.1 256)) with
      | false => rw [hc] at hf; cases hf
      | true =>
        rw [hc] at hf
        simp only [cond_true] at hf
        rw [Bool.and_eq_true, Bool.and_eq_true, sx_beqn, sx_eq_iff, sx_blt] at hc
        have e16 : ¬ 16 + a < 16 := by omega
        have e17 : 16 + a - 16 = a := by omega
        have go : ∀ u, vs[X.2.1]? = some u → am_s cst cl tt (.getfield i) X pc l' (.ref (16 + a) :: t) h' = some (pc + 3, l', u :: t, h') := fun u hu => by
          simp only [am_s, if_neg e16, e17, hx, if_pos (show ci = X.1 ∧ X.2.2 = 0 from ⟨hc.1, hc.2.1⟩), hu]
        split at hf
        · rename_i p hp
          obtain ⟨u, hu, x, rfl, p1, p2⟩ := hfs _ _ hp
          refine ly_rd_ok hf gZ gL gS1 hy ei ?_ p1 p2 (go _ hu)
          rw [hhv _ hc.2.2]
          simp only [ly_hm, hu]
        · rename_i u0 hp
          obtain ⟨u, hu, x, rfl⟩ := hfs _ _ hp
          cases hf
          exact ly_one_ok (go _ hu) gZ gL ⟨⟨_, rfl⟩, gS1⟩ hy
        · rename_i o hp
          obtain ⟨u, hu, gu⟩ := hfs _ _ hp
          cases hf
          refine ly_one_ok (go _ hu) gZ gL ⟨?_, gS1⟩ hy
          match o, gu with
          | none, gu => exact gu
          | some a, gu => exact Or.inl gu
        · rename_i j hp
          obtain ⟨u, hu, gu⟩ := hfs _ _ hp
          split at hf
          case h_2 => cases hf
          rename_i j0 e
          cases hj : Nat.blt j 19 with
          | false => rw [hj] at hf; cases hf
          | true =>
            rw [hj] at hf
            cases hf
            obtain ⟨z, ez, eb, hz⟩ := hR _ _ rfl
            refine ly_one_ok (go _ hu) gZ gL ⟨⟨sx_blt.mp hj, z, ez, ?_, hz⟩, gS1⟩ hy
            rw [show u = .ref (16 + (b + j)) from gu, eb]
        · cases hf
    · split at hf
      case h_2 => cases hf
      rename_i a hob
      cases hb : (Nat.ble 8 a && Nat.blt a 12) with
      | false => rw [hb] at hf; cases hf
      | true =>
        rw [hb] at hf
        simp only [cond_true] at hf
        rw [Bool.and_eq_true, sx_ble, sx_blt] at hb
        have ew := ly_g_ref gv (by omega)
        subst ew
        have hlen := gC.2.2.1
        have ha' : a < 16 := by omega
        have hcond : 8 ≤ a ∧ a < 12 ∧ a - 8 < cst.2.1.length := ⟨hb.1, hb.2, by omega⟩
        cases h1 : sx_eq X.2.2 1 with
        | true =>
          rw [h1] at hf
          cases hf
          exact ly_one_ok (t1 := .ref (a + 4) :: t) (by simp only [am_s, if_pos ha', if_pos hcond, if_pos (sx_eq_iff.mp h1)]) gZ gL ⟨Or.inl rfl, gS1⟩ hy
        | false =>
          rw [h1] at hf
          simp only [cond_false] at hf
          have e1 : ¬ X.2.2 = 1 := fun e => by
            rw [sx_eq_iff.mpr e] at h1
            cases h1
          cases h2 : sx_eq X.2.2 2 with
          | false => rw [h2] at hf; cases hf
          | true =>
            rw [h2] at hf
            cases hf
            exact ly_one_ok (t1 := .int 0 :: t) (by simp only [am_s, if_pos ha', if_pos hcond, if_neg e1, if_pos (sx_eq_iff.mp h2)]) gZ gL ⟨⟨0, rfl, ly_ev_c ν 0⟩, gS1⟩ hy
  | putfield i =>
    cases hs
    simp only at hf
    split at hf
    case h_2 => cases hf
    rename_i v a0 st0
    obtain ⟨w, t1, rfl, gv, gS1⟩ := ly_gS_cons gS
    obtain ⟨r, t, rfl, ga, gS2⟩ := ly_gS_cons gS1
    split at hf
    case h_2 => cases hf
    rename_i c i0 ci fs hob
    obtain ⟨a, b, zi, vs, rfl, ei, hx, hlen, hfs, hhv, hset, -⟩ := ly_ob_ok (cst := cst) hy ga hob
    cases hc : (Nat.beq ci X.1 && Nat.blt X.2.1 256) with
    | false => rw [hc] at hf; cases hf
    | true =>
      rw [hc] at hf
      simp only [cond_true] at hf
      rw [Bool.and_eq_true, sx_beqn, sx_blt] at hc
      have e16 : ¬ 16 + a < 16 := by omega
      have e17 : 16 + a - 16 = a := by omega
      have hset1 : ∀ u, X.2.1 < vs.length → ∀ k', k' ≠ X.2.1 → (vs.set X.2.1 u)[k']? = vs[k']? := fun u _ k' hk => List.getElem?_set_ne (Ne.symm hk)
      split at hf
      · rename_i p e hp
        obtain ⟨u, hu, -⟩ := hfs _ _ hp
        have hl := (List.getElem?_eq_some_iff.mp hu).1
        obtain ⟨x, rfl, ex⟩ := gv
        have hfit : ∀ ty, (tt.getD ci [])[X.2.1]? = some ty → am_fit ty (.int x) = true → am_s cst cl tt (.putfield i) X pc l' (.int x :: .ref (16 + a) :: t) h' = some (pc + 3, l', t, h'.set a (.inr (ci, vs.set X.2.1 (.int x)))) := by
          intro ty hty hfit
          have hgd : (tt.getD ci []).getD X.2.1 .char = ty := by
            rw [List.getD_eq_getElem?_getD, hty]
            rfl
          simp only [am_s, if_neg e16, e17, hx, if_pos (show ci = X.1 ∧ X.2.1 < vs.length from ⟨hc.1, hl⟩), hgd, hfit, if_true]
        have fin : ∀ Z1, ly_wr mods Z (256 * c + X.2.1) i0 p e = some Z1 → (∀ ty, (tt.getD ci [])[X.2.1]? = some ty → p.1 ≤ x.toInt → x.toInt ≤ p.2 → am_fit ty (.int x) = true) → (∃ ty, (tt.getD ci [])[X.2.1]? = some ty) → ly_ok1 cst cl tt TH mods ν (.putfield i) X pc l' (.int x :: .ref (16 + a) :: t) h' [(Z1, pc + 3, l, st0)] := by
          intro Z1 hw hft ⟨ty, hty⟩
          obtain ⟨⟨p1, p2⟩, hZ⟩ := ly_wr_ok gZ ei ex hw
          obtain ⟨hy1, hv1, hv2⟩ := hset X.2.1 (vs.set X.2.1 (.int x)) hc.2 (by rw [List.length_set]) (hset1 _ hl) (fun f hf' => by
            rw [hp] at hf'
            cases hf'
            exact ⟨_, List.getElem?_set_self hl, x, rfl, p1, p2⟩)
          rw [show ly_hm (some (.inr (ci, vs.set X.2.1 (.int x)))) X.2.1 = some x.toInt by simp only [ly_hm, List.getElem?_set_self hl]] at hv1
          obtain ⟨gZ1, fr1⟩ := hZ _ hv1 hv2
          exact ly_two_ok (hfit ty hty (hft ty hty p1 p2)) gZ1 gL gS2 hy1 fr1 (by rw [List.length_set])
        split at hf
        · rename_i hty
          simp only [cond_true] at hf
          split at hf
          case h_2 => cases hf
          rename_i Z1 hw
          cases hf
          exact fin Z1 hw (fun ty hty' _ _ => by rw [hty] at hty'; cases hty'; rfl) ⟨_, hty⟩
        · rename_i hty
          cases h01 : (sx_le 0 p.1 && sx_le p.2 1) with
          | false => rw [h01] at hf; cases hf
          | true =>
            rw [h01] at hf
            simp only [cond_true] at hf
            rw [Bool.and_eq_true, sx_le_iff, sx_le_iff] at h01
            split at hf
            case h_2 => cases hf
            rename_i Z1 hw
            cases hf
            refine fin Z1 hw (fun ty hty' p1 p2 => ?_) ⟨_, hty⟩
            rw [hty] at hty'
            cases hty'
            have : x.toInt = 0 ∨ x.toInt = 1 := by omega
            simp only [am_fit, Bool.or_eq_true, beq_iff_eq]
            rcases this with e | e
            · exact Or.inl (Int32.toInt_inj.mp e)
            · exact Or.inr (Int32.toInt_inj.mp e)
        · cases hf
      · rename_i u1 u2 hp
        obtain ⟨u, hu, x0, rfl⟩ := hfs _ _ hp
        have hl := (List.getElem?_eq_some_iff.mp hu).1
        obtain ⟨x, rfl⟩ := gv
        split at hf
        case h_2 => cases hf
        rename_i hty
        cases hf
        have hgd : (tt.getD ci []).getD X.2.1 .char = .long := by
          rw [List.getD_eq_getElem?_getD, hty]
          rfl
        obtain ⟨hy1, hv1, hv2⟩ := hset X.2.1 (vs.set X.2.1 (.long x)) hc.2 (by rw [List.length_set]) (hset1 _ hl) (fun f hf' => by
          rw [hp] at hf'
          cases hf'
          exact ⟨_, List.getElem?_set_self hl, x, rfl⟩)
        have hsame : ∀ r' i', ly_hv cst (h'.set a (.inr (ci, vs.set X.2.1 (.long x)))) r' i' = ly_hv cst h' r' i' := by
          intro r' i'
          by_cases hq : r' = 256 * c + X.2.1 ∧ i' = zi
          · obtain ⟨rfl, rfl⟩ := hq
            rw [hv1, hhv _ hc.2]
            simp only [ly_hm, List.getElem?_set_self hl, hu]
          · refine hv2 r' i' ?_
            by_cases hr : r' = 256 * c + X.2.1
            · exact Or.inr (fun hi => hq ⟨hr, hi⟩)
            · exact Or.inl hr
        refine ly_two_ok ?_ (ly_gZ_same gZ hsame) gL gS2 hy1 (fun r' i' v' _ ev => by rw [hsame]; exact ev) (by rw [List.length_set])
        simp only [am_s, if_neg e16, e17, hx, if_pos (show ci = X.1 ∧ X.2.1 < vs.length from ⟨hc.1, hl⟩), hgd, am_fit, if_true]
      · cases hf
  | arraylength =>
    cases hs
    simp only at hf
    split at hf
    case h_2 => cases hf
    rename_i v st0
    obtain ⟨w, t, rfl, gv, gS1⟩ := ly_gS_cons gS
    split at hf
    · rename_i oc ty n p hr
      obtain ⟨-, a, c, rfl, hx, -⟩ := ly_row_ok (cst := cst) hy gv hr
      have e16 : ¬ 16 + a < 16 := by omega
      have e17 : 16 + a - 16 = a := by omega
      cases hb : Nat.ble n 60000000 with
      | false => rw [hb] at hf; cases hf
      | true =>
        rw [hb] at hf
        simp only [cond_true] at hf
        refine ly_psh_ok hf gZ gL gS1 hy (fun r hr => ?_)
        cases hr
        exact ⟨.int (Int32.ofNat n), ⟨_, rfl, by rw [ly_ev_c, sx_ofNat (sx_ble.mp hb)]; rfl⟩, by simp only [am_s, if_neg e16, e17, hx]⟩
    · split at hf
      case h_2 => cases hf
      rename_i a hr
      obtain ⟨k1, ⟨S, s1, s2⟩, -, -⟩ := gC
      cases h4 : Nat.beq a 4 with
      | true =>
        have e4 := sx_beqn.mp h4
        subst e4
        rw [h4] at hf
        simp only [cond_true] at hf
        have ew := ly_g_ref gv (by decide)
        subst ew
        have el : (Int32.ofNat S.length).toInt = (S.length : Int) := sx_ofNat (by omega)
        have e12 : ¬ 12 ≤ 4 := by decide
        refine ly_rd_ok (x := Int32.ofNat S.length) hf gZ gL gS1 hy (ly_ev_c ν 0) (by rw [el]; exact ly_hv_len s1) (by rw [el]; exact Int.natCast_nonneg _) (by rw [el]; show (S.length : Int) ≤ 3584; omega) ?_
        simp only [am_s, if_pos (show 4 < 16 by decide), if_neg e12, s1]
      | false =>
        rw [h4] at hf
        simp only [cond_false] at hf
        split at hf
        case h_2 => cases hf
        rename_i r hr'
        cases hb : Nat.ble r.length 60000000 with
        | false => rw [hb] at hf; cases hf
        | true =>
          rw [hb] at hf
          simp only [cond_true] at hf
          have hb' := sx_ble.mp hb
          have fin : ∀ L : List Int32, L.map Int32.toInt = r → ly_g ν h'.length (.inl (.ofNat r.length, [])) (.int (Int32.ofNat L.length)) := by
            intro L e
            have : L.length = r.length := by rw [← e, List.length_map]
            rw [this]
            exact ⟨_, rfl, by rw [ly_ev_c, sx_ofNat hb']; rfl⟩
          refine ly_psh_ok hf gZ gL gS1 hy (fun q hq => ?_)
          cases hq
          obtain ⟨-, ⟨l8, L, e, em⟩ | ⟨l12, l16, L, e, em⟩⟩ := k1 a r hr'
          · have ew := ly_g_ref gv (by omega)
            subst ew
            exact ⟨_, fin L em, by simp only [am_s, if_pos (show a < 16 by omega), if_neg (show ¬ 12 ≤ a by omega), e]⟩
          · have ew := ly_g_ref gv (by omega)
            subst ew
            exact ⟨_, fin L em, by simp only [am_s, if_pos l16, if_pos l12, e]⟩
  | iaload =>
    cases hs
    refine ly_rload_ok hf gC gZ gL gS hy (fun ty hty => ?_) (fun _ => ?_) (fun a x L t e ha hlow hL hneg => ?_) (fun a ty n f0 x t e hty hx hneg => ?_)
    · cases ty <;> simp [sx_tI] at hty ⊢
    · cases h7 : sx_get 7 K with
      | none => rfl
      | some r => obtain ⟨-, ⟨l4, -⟩ | ⟨l12, -⟩⟩ := gC.1 7 r h7 <;> omega
    · rw [e]
      have h8 := sx_blt.mp hlow
      rcases hL with ⟨-, e⟩ | ⟨e12, -⟩
      · simp only [am_s, if_pos ha, e, if_neg hneg]
      · omega
    · rw [e]
      cases ty <;> simp [sx_tI] at hty
      simp only [am_s, if_neg (show ¬ 16 + a < 16 by omega), show 16 + a - 16 = a by omega, hx, if_neg hneg]
  | baload =>
    cases hs
    refine ly_rload_ok hf gC gZ gL gS hy (fun ty hty => ?_) (fun h12 => ?_) (fun a x L t e ha hlow hL hneg => ?_) (fun a ty n f0 x t e hty hx hneg => ?_)
    · cases ty <;> simp [sx_tB] at hty ⊢
    · cases h12
    · rw [e]
      have h12 := sx_ble.mp hlow
      rcases hL with ⟨e8, -⟩ | ⟨-, -, e⟩
      · omega
      · simp only [am_s, if_pos ha, if_pos h12, e, if_neg hneg]
    · rw [e]
      cases ty <;> simp [sx_tB] at hty
      · simp only [am_s, if_neg (show ¬ 16 + a < 16 by omega), show 16 + a - 16 = a by omega, hx, if_neg hneg]
      · simp only [am_s, if_neg (show ¬ 16 + a < 16 by omega), show 16 + a - 16 = a by omega, hx, if_neg hneg]
  | laload =>
    cases hs
    simp only at hf
    split at hf
    case h_2 => cases hf
    rename_i i0 v st0
    obtain ⟨i', t1, rfl, gi, gS1⟩ := ly_gS_cons gS
    obtain ⟨w, t, rfl, gv, gS2⟩ := ly_gS_cons gS1
    split at hf
    case h_2 => cases hf
    rename_i r hr
    obtain ⟨oc, ty, n, lo, hi⟩ := r
    obtain ⟨hty, a, c, rfl, hx, gT, -⟩ := ly_row_ok (cst := cst) hy gv hr
    split at hf
    case h_2 => cases hf
    rename_i e he
    cases hf
    obtain ⟨-, x, rfl, hneg, -, -⟩ := ly_idx_ok gZ gi he
    obtain ⟨c', ec, gc⟩ := gT
    cases ec
    cases ty <;> simp [sx_tJ] at hty
    obtain ⟨f0, rfl⟩ := gc
    exact ly_one_ok (t1 := .long (f0 x.toNatClampNeg) :: t) (by simp only [am_s, if_neg (show ¬ 16 + a < 16 by omega), show 16 + a - 16 = a by omega, hx, if_neg hneg]) gZ gL ⟨⟨_, rfl⟩, gS2⟩ hy
  | aaload =>
    cases hs
    simp only at hf
    split at hf
    case h_2 => cases hf
    rename_i i0 v st0
    obtain ⟨i', t1, rfl, gi, gS1⟩ := ly_gS_cons gS
    obtain ⟨w, t, rfl, gv, gS2⟩ := ly_gS_cons gS1
    split at hf
    case h_2 => cases hf
    rename_i c0 ty n p hr
    obtain ⟨hty, a, c, rfl, hx, gT, -⟩ := ly_row_ok (cst := cst) (lo := p.1) (hi := p.2) hy gv hr
    split at hf
    case h_2 => cases hf
    rename_i e he
    cases hf
    obtain ⟨-, x, rfl, hneg, hxn, ex⟩ := ly_idx_ok gZ gi he
    obtain ⟨c', ec, gc⟩ := gT
    cases ec
    cases ty <;> simp [ly_tO] at hty
    obtain ⟨f0, rfl, hj⟩ := gc
    have go : am_s cst cl tt .aaload X pc l' (.int x :: .ref (16 + a) :: t) h' = some (pc + 1, l', va_rf (f0 x.toNatClampNeg) :: t, h') := by
      simp only [am_s, if_neg (show ¬ 16 + a < 16 by omega), show 16 + a - 16 = a by omega, hx, if_neg hneg]
    rcases hj _ hxn with e0 | ⟨e0, hz⟩
    · rw [e0] at go
      exact ly_ok1_in (fun q hq => by rw [List.mem_singleton.mp hq]; exact List.mem_cons_self) (ly_one_ok (s1 := .inr (.inr (.inl none)) :: st0) go gZ gL ⟨rfl, gS2⟩ hy)
    · rw [e0] at go
      refine ly_ok1_in (fun q hq => by rw [List.mem_singleton.mp hq]; exact List.mem_cons_of_mem _ List.mem_cons_self) (ly_one_ok (s1 := .inr (.inr (.inr (0, e))) :: st0) go gZ gL ⟨⟨by decide, x.toNatClampNeg, ex, ?_, hz⟩, gS2⟩ hy)
      show Value.ref _ = Value.ref _
      rw [Nat.add_zero]
  | iastore =>
    cases hs
    simp only at hf
    split at hf
    case h_2 => cases hf
    rename_i v i0 a0 st0
    obtain ⟨w, t0, rfl, gv, gS0⟩ := ly_gS_cons gS
    obtain ⟨i', t1, rfl, gi, gS1⟩ := ly_gS_cons gS0
    obtain ⟨r, t, rfl, ga, gS2⟩ := ly_gS_cons gS1
    obtain ⟨xv, rfl, ev⟩ := gv
    split at hf
    · rename_i c0 ty n p hr
      obtain ⟨hty, a, c, rfl, hx, gT, hset, h1, -⟩ := ly_row_ok (cst := cst) (lo := p.1) (hi := p.2) hy ga hr
      obtain ⟨rfl, hlt⟩ := h1 c0 rfl
      split at hf
      case h_2 => cases hf
      rename_i e he
      obtain ⟨-, x, rfl, hneg, hxn, ex⟩ := ly_idx_ok gZ gi he
      split at hf
      case h_2 => cases hf
      rename_i Z1 hw
      cases hf
      obtain ⟨c', ec, gc⟩ := gT
      cases ec
      cases ty <;> simp [sx_tI] at hty
      obtain ⟨f0, rfl, b⟩ := gc
      obtain ⟨⟨p1, p2⟩, hZ⟩ := ly_wr_ok gZ ex ev hw
      obtain ⟨hv1, hv2⟩ := ly_hv_row (cst := cst) (x := xv) hlt hx hxn
      obtain ⟨gZ1, fr1⟩ := hZ _ hv1 hv2
      refine ly_two_ok (h1 := h'.set c0 (.inl (.int, n, .inl (upd f0 x.toNatClampNeg xv)))) ?_ gZ1 gL gS2 (hset _ ⟨_, rfl, _, rfl, fun j hj => ?_⟩) fr1 (by rw [List.length_set])
      · simp only [am_s, if_neg (show ¬ 16 + c0 < 16 by omega), show 16 + c0 - 16 = c0 by omega, hx, if_neg hneg]
      · unfold upd
        by_cases ej : j = x.toNatClampNeg
        · rw [if_pos ej]; exact ⟨p1, p2⟩
        · rw [if_neg ej]; exact b j hj
    · rename_i ty n p hr
      obtain ⟨hty, a, c, rfl, hx, gT, hset, -, h2⟩ := ly_row_ok (cst := cst) (lo := p.1) (hi := p.2) hy ga hr
      split at hf
      case h_2 => cases hf
      rename_i e he
      obtain ⟨-, x, rfl, hneg, hxn, ex⟩ := ly_idx_ok gZ gi he
      cases hc : (ly_ge Z.2.1 Z.2.2.1 (ly_add (Int.neg p.1, []) v) && ly_ge Z.2.1 Z.2.2.1 (ly_sub (p.2, []) v)) with
      | false => rw [hc] at hf; cases hf
      | true =>
        rw [hc] at hf
        cases hf
        rw [Bool.and_eq_true] at hc
        have b1 := ly_ge_ok gZ.2.1 gZ.2.2.1 hc.1 (ly_add_ok (ly_ev_c ν _) ev)
        have b2 := ly_ge_ok gZ.2.1 gZ.2.2.1 hc.2 (ly_sub_ok (ly_ev_c ν _) ev)
        have en : Int.neg p.1 = -p.1 := rfl
        rw [en] at b1
        obtain ⟨c', ec, gc⟩ := gT
        cases ec
        cases ty <;> simp [sx_tI] at hty
        obtain ⟨f0, rfl, b⟩ := gc
        have hsame := h2 rfl
        refine ly_two_ok (h1 := h'.set a (.inl (.int, n, .inl (upd f0 x.toNatClampNeg xv)))) ?_ (ly_gZ_same gZ (hsame _)) gL gS2 (hset _ ⟨_, rfl, _, rfl, fun j hj => ?_⟩) (fun r' i' v' _ ev => by rw [hsame]; exact ev) (by rw [List.length_set])
        · simp only [am_s, if_neg (show ¬ 16 + a < 16 by omega), show 16 + a - 16 = a by omega, hx, if_neg hneg]
        · unfold upd
          by_cases ej : j = x.toNatClampNeg
          · rw [if_pos ej]; exact ⟨by omega, by omega⟩
          · rw [if_neg ej]; exact b j hj
    · cases hf
  | bastore =>
    cases hs
    simp only at hf
    split at hf
    case h_2 => cases hf
    rename_i v i0 a0 st0
    obtain ⟨w, t0, rfl, gv, gS0⟩ := ly_gS_cons gS
    obtain ⟨i', t1, rfl, gi, gS1⟩ := ly_gS_cons gS0
    obtain ⟨r, t, rfl, ga, gS2⟩ := ly_gS_cons gS1
    obtain ⟨xv, rfl, ev⟩ := gv
    split at hf
    case h_2 => cases hf
    rename_i c0 ty n p hr
    obtain ⟨hty, a, c, rfl, hx, gT, hset, h1, -⟩ := ly_row_ok (cst := cst) (lo := p.1) (hi := p.2) hy ga hr
    obtain ⟨rfl, hlt⟩ := h1 c0 rfl
    split at hf
    case h_2 => cases hf
    rename_i e he
    obtain ⟨-, x, rfl, hneg, hxn, ex⟩ := ly_idx_ok gZ gi he
    obtain ⟨c', ec, gc⟩ := gT
    cases ec
    have fin : ∀ (ty : FieldType) (f0 : Nat → Int32) (y : Int32), h'[c0]? = some (.inl (ty, n, .inl f0)) → (∀ j, j < n → p.1 ≤ (f0 j).toInt ∧ (f0 j).toInt ≤ p.2) → p.1 ≤ y.toInt → y.toInt ≤ p.2 → (ty = .byte ∨ ty = .boolean) →
        (∀ c', ly_gT tt h'.length 0 (.inl (ty, n, p.1, p.2)) (.inl (ty, n, c')) → ly_hy tt TH (h'.set c0 (.inl (ty, n, c')))) →
        am_s cst cl tt .bastore X pc l' (.int xv :: .int x :: .ref (16 + c0) :: t) h' = some (pc + 1, l', t, h'.set c0 (.inl (ty, n, .inl (upd f0 x.toNatClampNeg y)))) → (match ly_drop mods Z (256 * c0) with
          | some Z => some [(Z, pc + 1, l, st0)]
          | none => none) = some ss → ly_ok1 cst cl tt TH mods ν .bastore X pc l' (.int xv :: .int x :: .ref (16 + c0) :: t) h' ss := by
      intro ty f0 y hx b y1 y2 hty hset go hd
      split at hd
      case h_2 => cases hd
      rename_i Z1 hw
      cases hd
      obtain ⟨-, hv2⟩ := ly_hv_row (cst := cst) (x := y) hlt hx hxn
      obtain ⟨gZ1, fr1⟩ := ly_drop_ok gZ hw _ (fun r' i' hr' => hv2 r' i' (Or.inl hr'))
      refine ly_two_ok go gZ1 gL gS2 (hset _ ?_) fr1 (by rw [List.length_set])
      have : ∀ j, j < n → p.1 ≤ (upd f0 x.toNatClampNeg y j).toInt ∧ (upd f0 x.toNatClampNeg y j).toInt ≤ p.2 := fun j hj => by
        unfold upd
        by_cases ej : j = x.toNatClampNeg
        · rw [if_pos ej]; exact ⟨y1, y2⟩
        · rw [if_neg ej]; exact b j hj
      rcases hty with rfl | rfl
      · exact ⟨_, rfl, _, rfl, this⟩
      · exact ⟨_, rfl, _, rfl, this⟩
    cases ty <;> simp [sx_tB] at hty
    · obtain ⟨f0, rfl, b⟩ := gc
      simp only at hf
      cases hc : (sx_le p.1 (-128) && sx_le 127 p.2) with
      | false => rw [hc] at hf; cases hf
      | true =>
        rw [hc] at hf
        rw [Bool.and_eq_true, sx_le_iff, sx_le_iff] at hc
        have := ly_nar_b xv
        exact fin .byte f0 (vp_nar .byte xv) hx b (by omega) (by omega) (Or.inl rfl) hset (by simp only [am_s, if_neg (show ¬ 16 + c0 < 16 by omega), show 16 + c0 - 16 = c0 by omega, hx, if_neg hneg]) hf
    · obtain ⟨f0, rfl, b⟩ := gc
      simp only at hf
      cases hc : (sx_le p.1 0 && sx_le 1 p.2) with
      | false => rw [hc] at hf; cases hf
      | true =>
        rw [hc] at hf
        rw [Bool.and_eq_true, sx_le_iff, sx_le_iff] at hc
        have := ly_nar_z xv
        exact fin .boolean f0 (vp_nar .boolean xv) hx b (by omega) (by omega) (Or.inr rfl) hset (by simp only [am_s, if_neg (show ¬ 16 + c0 < 16 by omega), show 16 + c0 - 16 = c0 by omega, hx, if_neg hneg]) hf
  | lastore =>
    cases hs
    simp only at hf
    split at hf
    case h_2 => cases hf
    rename_i u0 i0 a0 st0
    obtain ⟨w, t0, rfl, gv, gS0⟩ := ly_gS_cons gS
    obtain ⟨i', t1, rfl, gi, gS1⟩ := ly_gS_cons gS0
    obtain ⟨r, t, rfl, ga, gS2⟩ := ly_gS_cons gS1
    obtain ⟨xv, rfl⟩ := gv
    split at hf
    case h_2 => cases hf
    rename_i r0 hr
    obtain ⟨oc, ty, n, lo, hi⟩ := r0
    obtain ⟨hty, a, c, rfl, hx, gT, hset, h1, h2⟩ := ly_row_ok (cst := cst) hy ga hr
    split at hf
    case h_2 => cases hf
    rename_i e he
    cases hf
    obtain ⟨-, x, rfl, hneg, hxn, ex⟩ := ly_idx_ok gZ gi he
    obtain ⟨c', ec, gc⟩ := gT
    cases ec
    cases ty <;> simp [sx_tJ] at hty
    obtain ⟨f0, rfl⟩ := gc
    have hsame : ∀ r' i', ly_hv cst (h'.set a (.inl (.long, n, .inr (.inl (vp_updL f0 x.toNatClampNeg xv))))) r' i' = ly_hv cst h' r' i' := by
      intro r' i'
      cases oc with
      | none => exact h2 rfl _ r' i'
      | some c0 =>
        obtain ⟨-, hlt⟩ := h1 c0 rfl
        exact ly_hv_set1 hlt hx (fun _ => rfl)
    refine ly_two_ok (h1 := h'.set a (.inl (.long, n, .inr (.inl (vp_updL f0 x.toNatClampNeg xv))))) ?_ (ly_gZ_same gZ hsame) gL gS2 (hset _ ⟨_, rfl, _, rfl⟩) (fun r' i' v' _ ev => by rw [hsame]; exact ev) (by rw [List.length_set])
    simp only [am_s, if_neg (show ¬ 16 + a < 16 by omega), show 16 + a - 16 = a by omega, hx, if_neg hneg]
  | aastore =>
    cases hs
    simp only at hf
    split at hf
    case h_2 => cases hf
    rename_i e' i0 a0 st0
    obtain ⟨w, t0, rfl, gv, gS0⟩ := ly_gS_cons gS
    obtain ⟨i', t1, rfl, gi, gS1⟩ := ly_gS_cons gS0
    obtain ⟨r, t, rfl, ga, gS2⟩ := ly_gS_cons gS1
    split at hf
    case h_2 => cases hf
    rename_i c0 C n p ci fs hr hm
    obtain ⟨-, a, c, rfl, hx, gT, hset, h1, -⟩ := ly_row_ok (cst := cst) (lo := p.1) (hi := p.2) hy ga hr
    obtain ⟨rfl, hlt⟩ := h1 c0 rfl
    split at hf
    case h_2 => cases hf
    rename_i e r0 he hr0
    obtain ⟨-, x, rfl, hneg, hxn, ex⟩ := ly_idx_ok gZ gi he
    cases hc : (ly_eq e e' && decide (C = r0.1)) with
    | false => rw [hc] at hf; cases hf
    | true =>
      rw [hc] at hf
      cases hf
      rw [Bool.and_eq_true, decide_eq_true_eq] at hc
      have ee := ly_eq_eq hc.1
      subst ee
      obtain ⟨-, z, ez, rfl, hz⟩ := gv
      rw [ex] at ez
      have ezx : x.toNatClampNeg = z := by
        simp only [Option.some.injEq] at ez
        omega
      subst ezx
      obtain ⟨y, hy0, gy⟩ := hy.2.2 _ _ _ hz hm
      obtain ⟨vs, rfl, -⟩ := gy
      obtain ⟨c', ec, gc⟩ := gT
      cases ec
      obtain ⟨f0, rfl, hj⟩ := gc
      have hsame : ∀ r' i', ly_hv cst (h'.set c0 (.inl (.object C, n, .inr (.inr (.inr (.inr (va_up f0 x.toNatClampNeg (some (16 + (177 + 19 * x.toNatClampNeg + 0)))))))))) r' i' = ly_hv cst h' r' i' := fun r' i' => ly_hv_set1 hlt hx (fun _ => rfl)
      refine ly_two_ok (h1 := h'.set c0 (.inl (.object C, n, .inr (.inr (.inr (.inr (va_up f0 x.toNatClampNeg (some (16 + (177 + 19 * x.toNatClampNeg + 0)))))))))) ?_ (ly_gZ_same gZ hsame) gL gS2 (hset _ ⟨_, rfl, _, rfl, fun j hj' => ?_⟩) (fun r' i' v' _ ev => by rw [hsame]; exact ev) (by rw [List.length_set])
      · simp only [am_s, if_neg (show ¬ 16 + c0 < 16 by omega), show 16 + c0 - 16 = c0 by omega, hx, if_neg hneg, if_neg (show ¬ 16 + (177 + 19 * x.toNatClampNeg + 0) < 16 by omega), show 16 + (177 + 19 * x.toNatClampNeg + 0) - 16 = 177 + 19 * x.toNatClampNeg + 0 by omega, hy0, hr0, if_pos hc.2]
      · by_cases ej : j = x.toNatClampNeg
        · rw [ej, va_up_self]
          exact Or.inr ⟨by rw [Nat.add_zero], hz⟩
        · rw [va_up_ne _ _ ej]
          exact hj j hj'
  | _ => cases hs
end LY8
end
section
/-! states at points: what matches them -/
/-- the symbols of a state, worked out -/
def ly_th (ν : ly_N) (θ : List ly_e) : ly_N := fun k => match θ[k]? with
  | some t => ly_ev ν t
  | none => none
def ly_dfd (ν : ly_N) (θ : List ly_e) : Prop := ∀ t ∈ θ, ∃ z, ly_ev ν t = some z
def ly_PZ (p : ly_P) : ly_Z := (p.2.1, p.2.2.1, p.2.2.2.1, p.2.2.2.2.2.2)
section LY9
variable {cst : am_K} {tt : List (List FieldType)} {TH : List (List ly_T)} {ν : ly_N} {θ : List ly_e} {Z : ly_Z} {h : am_H} {len : Nat}
theorem ly_dfd_le {ν' : ly_N} (hl : ly_le ν ν') (d : ly_dfd ν θ) : ly_dfd ν' θ := fun t ht => by
  obtain ⟨z, hz⟩ := d t ht
  exact ⟨z, ly_ev_le hl hz⟩
theorem ly_sbt_ok (d : ly_dfd ν θ) : ∀ {ts : List (Nat × Int)} {r : ly_e}, ly_sbt θ ts = some r → ∃ s, ly_ev ν r = some s ∧ ly_evt (ly_th ν θ) ts = some s
  | [], r, e => by
    cases e
    exact ⟨0, ly_ev_c ν 0, rfl⟩
  | q :: ts, r, e => by
    unfold ly_sbt at e
    split at e
    case h_2 => cases e
    rename_i t r' ht hr
    cases e
    obtain ⟨s, hs, hs'⟩ := ly_sbt_ok d hr
    obtain ⟨z, hz⟩ := d t (List.mem_of_getElem? ht)
    refine ⟨q.2 * z + s, ly_add_ok (ly_scl_ok hz) hs, ly_evt_cons.mpr ⟨z, s, ?_, hs', rfl⟩⟩
    simp only [ly_th, ht]
    exact hz
theorem ly_sb_ok (d : ly_dfd ν θ) {e e' : ly_e} (hs : ly_sb θ e = some e') : ∃ z, ly_ev ν e' = some z ∧ ly_ev (ly_th ν θ) e = some z := by
  unfold ly_sb at hs
  split at hs
  case h_2 => cases hs
  rename_i r hr
  rw [ly_fe_eq] at hs
  cases hs
  obtain ⟨s, hs, hs'⟩ := ly_sbt_ok d hr
  exact ⟨e.1 + s, ly_add_ok (ly_ev_c ν e.1) hs, ly_ev_iff.mpr ⟨s, hs', rfl⟩⟩
/-- the other way: a word that is worked out in the symbols of the state -/
theorem ly_sbt_ok2 : ∀ {ts : List (Nat × Int)} {r : ly_e} {s : Int}, ly_sbt θ ts = some r → ly_evt (ly_th ν θ) ts = some s → ly_ev ν r = some s
  | [], r, s, e, hs => by
    cases e
    cases hs
    exact ly_ev_c ν 0
  | q :: ts, r, s, e, hs => by
    unfold ly_sbt at e
    split at e
    case h_2 => cases e
    rename_i t r' ht hr
    cases e
    obtain ⟨z, s', hz, hs', rfl⟩ := ly_evt_cons.mp hs
    simp only [ly_th, ht] at hz
    exact ly_add_ok (ly_scl_ok hz) (ly_sbt_ok2 hr hs')
theorem ly_sb_ok2 {e e' : ly_e} {z : Int} (hs : ly_sb θ e = some e') (hz : ly_ev (ly_th ν θ) e = some z) : ly_ev ν e' = some z := by
  unfold ly_sb at hs
  split at hs
  case h_2 => cases hs
  rename_i r hr
  rw [ly_fe_eq] at hs
  cases hs
  obtain ⟨s, hs', rfl⟩ := ly_ev_iff.mp hz
  exact ly_add_ok (ly_ev_c ν e.1) (ly_sbt_ok2 hr hs')
theorem ly_ix_ok {v : ly_V} {w : Value} {e : ly_e} (g : ly_g ν len v w) (he : ly_ix v = some e) : ∃ z, ly_ev ν e = some z := by
  match v, g, he with
  | .inl e0, g, he =>
    cases he
    obtain ⟨x, -, ex⟩ := g
    exact ⟨_, ex⟩
  | .inr (.inr (.inr (j, e0))), g, he =>
    cases he
    obtain ⟨-, z, ez, -⟩ := g
    exact ⟨_, ez⟩
theorem ly_idx_z {x e : ly_e} {n : Nat} {z : Int} (g : ly_gZ cst ν Z h) (hi : ly_idx Z (.inl x) n = some e) (hz : ly_ev ν x = some z) : 0 ≤ z ∧ z < (n : Int) := by
  obtain ⟨m, B, F, K⟩ := Z
  simp only [ly_idx] at hi
  cases hc : (ly_ge B F x && ly_ge B F (ly_sub (Int.sub (.ofNat n) 1, []) x)) with
  | false => rw [hc] at hi; cases hi
  | true =>
    rw [Bool.and_eq_true] at hc
    have b1 := ly_ge_ok g.2.1 g.2.2.1 hc.1 hz
    have b2 := ly_ge_ok g.2.1 g.2.2.1 hc.2 (ly_sub_ok (ly_ev_c ν _) hz)
    have en : Int.sub (Int.ofNat n) 1 = (n : Int) - 1 := rfl
    rw [en] at b2
    omega
theorem ly_so_ok {l : ly_L} {l' : am_L} {st : List ly_V} {st' : List Value} {q : ly_Q} {Z' : ly_Z} {e : ly_e} (gZ : ly_gZ cst ν Z h) (hy : ly_hy tt TH h) (gL : ly_gL ν h.length l l') (gS : ly_gS ν h.length st st') (d : ly_dfd ν θ) (hs : ly_so TH Z l st θ q = some (Z', e)) :
    ∃ ν1, ly_le ν ν1 ∧ ly_gZ cst ν1 Z' h ∧ ∃ z, ly_ev ν1 e = some z := by
  unfold ly_so at hs
  cases h0 : Nat.beq q.1 0 with
  | true =>
    rw [h0] at hs
    simp only [cond_true] at hs
    split at hs
    case h_2 => cases hs
    rename_i v hv
    split at hs
    case h_2 => cases hs
    rename_i e0 he
    cases hs
    obtain ⟨w, -, g⟩ := ly_gL_get gL hv
    exact ⟨ν, ly_le_rf ν, gZ, ly_ix_ok g he⟩
  | false =>
    rw [h0] at hs
    simp only [cond_false] at hs
    cases h1 : Nat.beq q.1 1 with
    | true =>
      rw [h1] at hs
      simp only [cond_true] at hs
      split at hs
      case h_2 => cases hs
      rename_i v hv
      split at hs
      case h_2 => cases hs
      rename_i e0 he
      cases hs
      obtain ⟨w, -, g⟩ := ly_gS_get gS hv
      exact ⟨ν, ly_le_rf ν, gZ, ly_ix_ok g he⟩
    | false =>
      rw [h1] at hs
      simp only [cond_false] at hs
      split at hs
      case h_2 => cases hs
      rename_i x hx
      obtain ⟨z, hz, -⟩ := ly_sb_ok d hx
      split at hs
      · rename_i v hk
        cases hs
        obtain ⟨i, w, -, e2, -⟩ := gZ.2.2.2 _ (ly_kget_mem hk)
        exact ⟨ν, ly_le_rf ν, gZ, w, e2⟩
      · split at hs
        · rename_i ci fs ht
          split at hs
          case h_2 => cases hs
          rename_i p hp
          cases hc : ly_eq x (0, []) with
          | false => rw [hc] at hs; cases hs
          | true =>
            rw [hc] at hs
            have ex := ly_eq_eq hc
            subst ex
            obtain ⟨y, hyy, gy⟩ := hy.2.1 _ _ ht
            obtain ⟨vs, rfl, -, hfs⟩ := gy
            obtain ⟨u, hu, y0, rfl, p1, p2⟩ := hfs _ _ hp
            have hv : ly_hv cst h q.2.1 0 = some y0.toInt := by
              have := ly_hv_of1 (cst := cst) (h := h) (c := q.2.1 / 256) (k := q.2.1 % 256) (i := 0) (ly_ths_lt ht) (by omega)
              rw [show 256 * (q.2.1 / 256) + q.2.1 % 256 = q.2.1 by omega] at this
              rw [this, hyy]
              simp only [ly_hs, hu, if_true]
            obtain ⟨ν1, hl, g1, ev⟩ := ly_rv_ok gZ (ly_ev_c ν 0) hv p1 p2 (Option.some.inj hs)
            exact ⟨ν1, hl, g1, _, ev⟩
        · rename_i t n p ht
          cases hc : (Nat.beq (q.2.1 % 256) 0 && (sx_tI t || sx_tB t)) with
          | false => rw [hc] at hs; cases hs
          | true =>
            rw [hc] at hs
            simp only [cond_true] at hs
            rw [Bool.and_eq_true, sx_beqn] at hc
            split at hs
            case h_2 => cases hs
            rename_i e0 he0
            obtain ⟨z0, z1⟩ := ly_idx_z gZ he0 hz
            obtain ⟨y, hyy, gy⟩ := hy.2.1 _ _ ht
            obtain ⟨c, rfl, gc⟩ := gy
            have key : ∃ f0 : Nat → Int32, c = .inl f0 ∧ ∀ j, j < n → p.1 ≤ (f0 j).toInt ∧ (f0 j).toInt ≤ p.2 := by
              have h2 := hc.2
              cases t <;> simp [sx_tI, sx_tB] at h2 <;> exact gc
            obtain ⟨f0, rfl, b⟩ := key
            have bb := b z.toNat (by omega)
            have hv : ly_hv cst h q.2.1 z = some (f0 z.toNat).toInt := by
              have := ly_hv_of1 (cst := cst) (h := h) (c := q.2.1 / 256) (k := q.2.1 % 256) (i := z) (ly_ths_lt ht) (by omega)
              rw [show 256 * (q.2.1 / 256) + q.2.1 % 256 = q.2.1 by omega] at this
              rw [this, hyy]
              simp only [ly_hs]
              rw [if_pos ⟨hc.1, z0, by omega⟩]
            obtain ⟨ν1, hl, g1, ev⟩ := ly_rv_ok gZ hz hv bb.1 bb.2 (Option.some.inj hs)
            exact ⟨ν1, hl, g1, _, ev⟩
        · cases hs
theorem ly_sos_ok {l : ly_L} {l' : am_L} {st : List ly_V} {st' : List Value} (hy : ly_hy tt TH h) : ∀ {qs : List ly_Q} {ν : ly_N} {Z Z' : ly_Z} {θ θ' : List ly_e}, ly_gZ cst ν Z h → ly_gL ν h.length l l' → ly_gS ν h.length st st' → ly_dfd ν θ → ly_sos TH l st qs Z θ = some (Z', θ') →
    ∃ ν1, ly_le ν ν1 ∧ ly_gZ cst ν1 Z' h ∧ ly_dfd ν1 θ' ∧ ∃ θx, θ' = θ ++ θx
  | [], ν, Z, Z', θ, θ', gZ, gL, gS, d, hs => by
    cases hs
    exact ⟨ν, ly_le_rf ν, gZ, d, [], by simp⟩
  | q :: qs, ν, Z, Z', θ, θ', gZ, gL, gS, d, hs => by
    unfold ly_sos at hs
    split at hs
    case h_2 => cases hs
    rename_i Z1 e he
    obtain ⟨ν1, hl, g1, z, hz⟩ := ly_so_ok gZ hy gL gS d he
    have d1 : ly_dfd ν1 (θ ++ [e]) := fun t ht => by
      rcases List.mem_append.mp ht with ht | ht
      · exact ly_dfd_le hl d t ht
      · rw [List.mem_singleton.mp ht]; exact ⟨z, hz⟩
    obtain ⟨ν2, hl2, g2, d2, θx, e2⟩ := ly_sos_ok hy g1 (ly_gL_le hl (Nat.le_refl _) gL) (ly_gS_le hl (Nat.le_refl _) gS) d1 hs
    exact ⟨ν2, ly_le_tr hl hl2, g2, d2, e :: θx, by rw [e2, List.append_assoc]; rfl⟩
theorem ly_vm_ok (d : ly_dfd ν θ) {v w : ly_V} {u : Value} (hm : ly_vm θ v w = true) (g : ly_g ν len v u) : ly_g (ly_th ν θ) len w u := by
  have key : ∀ {e t : ly_e} {z : Int}, ly_ev ν e = some z → (match ly_sb θ t with
      | some t => ly_eq e t
      | none => false) = true → ly_ev (ly_th ν θ) t = some z := by
    intro e t z hz hc
    split at hc
    · rename_i t' ht
      obtain ⟨z', h1, h2⟩ := ly_sb_ok d ht
      rw [← ly_eq_eq hc, hz] at h1
      cases h1
      exact h2
    · cases hc
  unfold ly_vm at hm
  split at hm
  · obtain ⟨x, e1, e2⟩ := g
    exact ⟨x, e1, key e2 hm⟩
  · exact g
  · rename_i a b
    cases a <;> cases b <;> simp only [ly_on, Bool.false_eq_true] at hm
    · exact g
    · rw [← sx_beqn.mp hm]; exact g
  · rename_i j e i t
    cases hj : Nat.beq j i with
    | false => rw [hj] at hm; cases hm
    | true =>
      rw [hj] at hm
      have ej := sx_beqn.mp hj
      subst ej
      obtain ⟨h1, z, h2, h3⟩ := g
      exact ⟨h1, z, key h2 hm, h3⟩
  · cases hm
theorem ly_vms_ok (d : ly_dfd ν θ) : ∀ {vs ws : List ly_V} {us : List Value}, ly_vms θ vs ws = true → ly_gS ν len vs us → ly_gS (ly_th ν θ) len ws us
  | [], [], [], _, _ => trivial
  | v :: vs, w :: ws, u :: us, hm, g => by
    unfold ly_vms at hm
    cases hc : ly_vm θ v w with
    | false => rw [hc] at hm; cases hm
    | true =>
      rw [hc] at hm
      exact ⟨ly_vm_ok d hc g.1, ly_vms_ok d hm g.2⟩
/-- a state that is matched holds -/
theorem ly_mt_ok {l : ly_L} {l' : am_L} {st : List ly_V} {st' : List Value} {θ0 : List ly_e} {p : ly_P} {Z' : ly_Z} (hy : ly_hy tt TH h) (gZ : ly_gZ cst ν Z h) (gL : ly_gL ν h.length l l') (gS : ly_gS ν h.length st st') (d : ly_dfd ν θ0) (hm : ly_mt TH Z l st θ0 p = some (Z', θ)) :
    ∃ ν1, ly_le ν ν1 ∧ ly_gZ cst ν1 Z' h ∧ ly_dfd ν1 θ ∧ (∃ θx, θ = θ0 ++ θx) ∧ θ.length = p.2.1 ∧ ly_gZ cst (ly_th ν1 θ) (ly_PZ p) h ∧ ly_gL (ly_th ν1 θ) h.length p.2.2.2.2.1 l' ∧ ly_gS (ly_th ν1 θ) h.length p.2.2.2.2.2.1 st' := by
  obtain ⟨qs, n, B, F, L, St, K⟩ := p
  unfold ly_mt at hm
  simp only at hm
  split at hm
  case h_1 => cases hm
  rename_i Z1 θ1 hs
  cases hc : (Nat.beq θ1.length n && (ly_mB Z1 θ1 B && (ly_mF Z1 θ1 F && (ly_mL θ1 l L && (ly_vms θ1 st St && ly_mK θ1 Z1.2.2.2 K))))) with
  | false => rw [hc] at hm; cases hm
  | true =>
    rw [hc] at hm
    cases hm
    simp only [Bool.and_eq_true, sx_beqn] at hc
    obtain ⟨c1, c2, c3, c4, c5, c6⟩ := hc
    obtain ⟨ν1, hl, g1, d1, hpre⟩ := ly_sos_ok hy gZ gL gS d hs
    have gL1 := ly_gL_le hl (Nat.le_refl h.length) gL
    have gS1 := ly_gS_le hl (Nat.le_refl h.length) gS
    refine ⟨ν1, hl, g1, d1, hpre, c1, ⟨fun k hk => ?_, fun q hq => ?_, fun f hf => ?_, fun q hq => ?_⟩, fun q hq => ?_, ly_vms_ok d1 c5 gS1⟩
    · have hk : n ≤ k := hk
      unfold ly_th
      rw [List.getElem?_eq_none (by omega)]
    · have hq : q ∈ B := hq
      have := List.all_eq_true.mp c2 q hq
      split at this
      · rename_i t ht
        rw [Bool.and_eq_true] at this
        obtain ⟨z, hz⟩ := d1 t (List.mem_of_getElem? ht)
        have b1 := ly_ge_ok g1.2.1 g1.2.2.1 this.1 (ly_add_ok (ly_ev_c ν1 _) hz)
        have b2 := ly_ge_ok g1.2.1 g1.2.2.1 this.2 (ly_sub_ok (ly_ev_c ν1 _) hz)
        have en : Int.neg q.2.1 = -q.2.1 := rfl
        rw [en] at b1
        refine ⟨z, ?_, by omega, by omega⟩
        unfold ly_th
        rw [ht]
        exact hz
      · cases this
    · have hf : f ∈ F := hf
      have := List.all_eq_true.mp c3 f hf
      split at this
      · rename_i f' hf'
        obtain ⟨z, hz, hz'⟩ := ly_sb_ok d1 hf'
        exact ⟨z, hz', ly_ge_ok g1.2.1 g1.2.2.1 this hz⟩
      · cases this
    · have hq : q ∈ K := hq
      have := List.all_eq_true.mp c6 q hq
      split at this
      · rename_i i v hi hv
        split at this
        · rename_i w hw
          obtain ⟨zi, hzi, hzi'⟩ := ly_sb_ok d1 hi
          obtain ⟨zv, hzv, hzv'⟩ := ly_sb_ok d1 hv
          obtain ⟨i', v', e1, e2, e3⟩ := g1.2.2.2 _ (ly_kget_mem hw)
          simp only at e1 e2 e3
          rw [hzi] at e1
          cases e1
          rw [ly_eq_eq this, hzv] at e2
          cases e2
          exact ⟨_, _, hzi', hzv', e3⟩
        · cases this
      · cases this
    · have hq : q ∈ L := hq
      have := List.all_eq_true.mp c4 q hq
      split at this
      · rename_i v hv
        obtain ⟨w, e, g⟩ := ly_gL_get gL1 hv
        exact ⟨w, e, ly_vm_ok d1 this g⟩
      · cases this
theorem ly_id_get : ∀ (n k : Nat), (ly_id n)[k]? = if k < n then some (ly_sym k) else none
  | 0, k => by simp [ly_id]
  | n + 1, k => by
    have hl : ∀ n, (ly_id n).length = n := fun n => by
      induction n with
      | zero => rfl
      | succ n ih => simp [ly_id, ih]
    unfold ly_id
    by_cases hk : k < n
    · rw [List.getElem?_append_left (by rw [hl]; exact hk), ly_id_get n k, if_pos hk, if_pos (by omega)]
    · by_cases he : k = n
      · subst he
        rw [List.getElem?_append_right (by rw [hl]; exact Nat.le_refl _), hl, Nat.sub_self, if_pos (by omega)]
        rfl
      · rw [List.getElem?_append_right (by rw [hl]; omega), hl, if_neg (by omega)]
        rw [List.getElem?_eq_none]
        simp
        omega
theorem ly_fresh_get : ∀ (c n k : Nat), (ly_fresh n c)[k]? = if k < c then some (ly_sym (n + k)) else none
  | 0, n, k => by simp [ly_fresh]
  | c + 1, n, 0 => by simp [ly_fresh]
  | c + 1, n, k + 1 => by
    unfold ly_fresh
    rw [List.getElem?_cons_succ, ly_fresh_get c (n + 1) k]
    by_cases hk : k < c
    · rw [if_pos hk, if_pos (by omega), show n + 1 + k = n + (k + 1) by omega]
    · rw [if_neg hk, if_neg (by omega)]
theorem ly_sbs_ok {ν' : ly_N} (e : ly_th ν θ = ν') : ∀ {F F' : List ly_e}, ly_sbs θ F = some F' → ly_gF ν' F → ly_gF ν F'
  | [], F', hs, _ => by
    cases hs
    intro f hf
    cases hf
  | f :: F, F', hs, g => by
    unfold ly_sbs at hs
    split at hs
    case h_2 => cases hs
    rename_i f1 F1 h1 h2
    cases hs
    intro q hq
    rcases List.mem_cons.mp hq with rfl | hq
    · obtain ⟨z, hz, z0⟩ := g f List.mem_cons_self
      rw [← e] at hz
      exact ⟨z, ly_sb_ok2 h1 hz, z0⟩
    · exact ly_sbs_ok e h2 (fun r hr => g r (List.mem_cons_of_mem _ hr)) q hq
theorem ly_sv_ok {ν' : ly_N} (e : ly_th ν θ = ν') {v v' : ly_V} {w : Value} (hs : ly_sv θ v = some v') (g : ly_g ν' len v w) : ly_g ν len v' w := by
  match v, hs, g with
  | .inl x, hs, g =>
    simp only [ly_sv] at hs
    split at hs
    case h_2 => cases hs
    rename_i x' hx
    cases hs
    obtain ⟨n, e1, e2⟩ := g
    rw [← e] at e2
    exact ⟨n, e1, ly_sb_ok2 hx e2⟩
  | .inr (.inl u), hs, g => cases hs; exact g
  | .inr (.inr (.inl o)), hs, g =>
    cases hs
    cases o <;> exact g
  | .inr (.inr (.inr (j, x))), hs, g =>
    simp only [ly_sv] at hs
    split at hs
    case h_2 => cases hs
    rename_i x' hx
    cases hs
    obtain ⟨h1, z, h2, h3⟩ := g
    rw [← e] at h2
    exact ⟨h1, z, ly_sb_ok2 hx h2, h3⟩
theorem ly_svs_ok {ν' : ly_N} (e : ly_th ν θ = ν') : ∀ {vs vs' : List ly_V} {ws : List Value}, ly_svs θ vs = some vs' → ly_gS ν' len vs ws → ly_gS ν len vs' ws
  | [], vs', [], hs, _ => by cases hs; trivial
  | v :: vs, vs', w :: ws, hs, g => by
    unfold ly_svs at hs
    split at hs
    case h_2 => cases hs
    rename_i v1 vs1 h1 h2
    cases hs
    exact ⟨ly_sv_ok e h1 g.1, ly_svs_ok e h2 g.2⟩
theorem ly_sks_ok {ν' : ly_N} (e : ly_th ν θ = ν') : ∀ {K K' : ly_K}, ly_sks θ K = some K' → ly_gK cst ν' h K → ly_gK cst ν h K'
  | [], K', hs, _ => by
    cases hs
    intro f hf
    cases hf
  | q0 :: K, K', hs, g => by
    unfold ly_sks at hs
    split at hs
    case h_2 => cases hs
    rename_i i v K1 h1 h2 h3
    cases hs
    intro q hq
    rcases List.mem_cons.mp hq with rfl | hq
    · obtain ⟨zi, zv, e1, e2, e3⟩ := g q0 List.mem_cons_self
      rw [← e] at e1 e2
      exact ⟨zi, zv, ly_sb_ok2 h1 e1, ly_sb_ok2 h2 e2, e3⟩
    · exact ly_sks_ok e h3 (fun r hr => g r (List.mem_cons_of_mem _ hr)) q hq
/-- what is known behind a call holds -/
theorem ly_app_ok {ms : List Nat} {p : ly_P} {Z2 : ly_Z} {S2 : List ly_V} {h2 : am_H} {ν' : ly_N} {us : List Value} (gZ : ly_gZ cst ν Z h) (d : ly_dfd ν θ) (fr : ly_fr cst ms h h2) (hpre : ∀ k, k < θ.length → ν' k = ly_th ν θ k) (g' : ly_gZ cst ν' (ly_PZ p) h2) (gS' : ly_gS ν' len p.2.2.2.2.2.1 us) (ha : ly_app ms Z θ p = some (Z2, S2)) :
    ∃ ν2, ly_le ν ν2 ∧ ly_gZ cst ν2 Z2 h2 ∧ ly_gS ν2 len S2 us := by
  obtain ⟨n, B, F, K⟩ := Z
  obtain ⟨qs, nx, Bx, Fx, Lx, Sx, Kx⟩ := p
  unfold ly_app at ha
  simp only at ha
  split at ha
  case h_2 => cases ha
  rename_i F1 S1 K1 hF hS hK
  rw [sx_N_eq] at ha
  cases ha
  have hn0 : θ.length ≤ nx := by
    refine Nat.le_of_not_lt (fun hlt => ?_)
    have e1 := g'.1 nx (Nat.le_refl nx)
    rw [hpre nx hlt] at e1
    unfold ly_th at e1
    rw [List.getElem?_eq_getElem hlt] at e1
    obtain ⟨z, hz⟩ := d _ (List.getElem_mem hlt)
    simp only [hz] at e1
    cases e1
  let ν2 : ly_N := fun k => if k < n then ν k else if k < n + (nx - θ.length) then ν' (k - n + θ.length) else none
  have hle : ly_le ν ν2 := fun k z hz => by
    have : k < n := Nat.lt_of_not_le (fun hk => by
      have := gZ.1 k hk
      rw [hz] at this
      cases this)
    show (if k < n then ν k else _) = some z
    rw [if_pos this]
    exact hz
  have eth : ly_th ν2 (θ ++ ly_fresh n (nx - θ.length)) = ν' := by
    funext k
    by_cases h1 : k < θ.length
    · rw [hpre k h1]
      unfold ly_th
      rw [List.getElem?_append_left h1, List.getElem?_eq_getElem h1]
      obtain ⟨z, hz⟩ := d _ (List.getElem_mem h1)
      simp only [hz, ly_ev_le hle hz]
    · unfold ly_th
      rw [List.getElem?_append_right (by omega), ly_fresh_get]
      by_cases h2 : k < nx
      · rw [if_pos (by omega)]
        have e2 : ν2 (n + (k - θ.length)) = ν' k := by
          show (if n + (k - θ.length) < n then _ else if n + (k - θ.length) < n + (nx - θ.length) then ν' (n + (k - θ.length) - n + θ.length) else none) = _
          rw [if_neg (by omega), if_pos (by omega), show n + (k - θ.length) - n + θ.length = k by omega]
        simp only
        cases hk : ν' k with
        | none =>
          rw [hk] at e2
          simp [ly_ev, ly_evt, ly_sym, e2]
        | some z =>
          rw [hk] at e2
          exact ly_ev_sym e2
      · rw [if_neg (by omega)]
        exact (g'.1 k (by show nx ≤ k; omega)).symm
  refine ⟨ν2, hle, ⟨fun k hk => ?_, fun q hq => ?_, fun f hf => ?_, fun q hq => ?_⟩, ly_svs_ok eth hS gS'⟩
  · have hk : n + (nx - θ.length) ≤ k := hk
    show (if k < n then _ else if k < n + (nx - θ.length) then _ else none) = none
    rw [if_neg (by omega), if_neg (by omega)]
  · have hq : q ∈ ly_shB θ.length n Bx ++ B := hq
    rcases List.mem_append.mp hq with hq | hq
    · unfold ly_shB at hq
      obtain ⟨q0, hq0, rfl⟩ := List.mem_map.mp hq
      obtain ⟨hq0, hge⟩ := List.mem_filter.mp hq0
      have hge := sx_ble.mp hge
      obtain ⟨z, hz, b⟩ := g'.2.1 q0 hq0
      refine ⟨z, ?_, b⟩
      have hlt : q0.1 < nx := Nat.lt_of_not_le (fun hk => by
        have := g'.1 q0.1 hk
        rw [hz] at this
        cases this)
      show (if n + (q0.1 - θ.length) < n then _ else if n + (q0.1 - θ.length) < n + (nx - θ.length) then ν' (n + (q0.1 - θ.length) - n + θ.length) else none) = _
      rw [if_neg (by omega), if_pos (by omega), show n + (q0.1 - θ.length) - n + θ.length = q0.1 by omega]
      exact hz
    · exact ly_gB_le hle gZ.2.1 q hq
  · have hf : f ∈ F1 ++ F := hf
    rcases List.mem_append.mp hf with hf | hf
    · exact ly_sbs_ok eth hF g'.2.2.1 f hf
    · exact ly_gF_le hle gZ.2.2.1 f hf
  · have hq : q ∈ K1 ++ K.filter fun q => !(ly_has q.1 ms) := hq
    rcases List.mem_append.mp hq with hq | hq
    · exact ly_sks_ok eth hK g'.2.2.2 q hq
    · obtain ⟨hq, hb⟩ := List.mem_filter.mp hq
      obtain ⟨i, v, e1, e2, e3⟩ := gZ.2.2.2 q hq
      exact ⟨i, v, ly_ev_le hle e1, ly_ev_le hle e2, fr _ _ _ (by simpa using hb) e3⟩
end LY9
end
section
/-! steps and runs of the linear machine are the abstract machine's -/
def ly_Post (cst : am_K) (tt : List (List FieldType)) (TH : List (List ly_T)) (n0 : Nat) (ν0 : ly_N) (h0 : am_H) (exs : List ly_P) (mods : List Nat) (cc cs : Nat) (r : am_Q) : Prop :=
  r.2.2.1 ≤ cc ∧ r.2.2.2 ≤ cs ∧ ly_hy tt TH r.2.1 ∧ ly_fr cst mods h0 r.2.1 ∧ h0.length ≤ r.2.1.length ∧ ∃ p ∈ exs, ∃ ν' : ly_N, (∀ k, k < n0 → ν' k = ν0 k) ∧ ly_gZ cst ν' (ly_PZ p) r.2.1 ∧ ly_gS ν' r.2.1.length p.2.2.2.2.2.1 r.1.toList
/-- a contract that is kept at a depth -/
def ly_Cok (cst : am_K) (cl : List vw_C) (tt : List (List FieldType)) (P : List am_M) (strs : List Nat) (TH : List (List ly_T)) (mi : Nat) (y : ly_C) (d : Nat) : Prop :=
  ∀ (ν : ly_N) (av : List Value) (h : am_H) (zd : Int) (M : am_M), P[mi]? = some M → (lg_sl av).length ≤ M.2.2.1 → ly_hy tt TH h → ly_gZ cst ν (ly_PZ y.1) h → ly_gL ν h.length y.1.2.2.2.2.1 (lv_args 0 av) → ly_ev ν y.2.2.2.1 = some zd → zd ≤ (d : Int) →
    ∃ r : am_Q, am_Run cst cl tt P strs sx_bi d mi av h r ∧ ly_Post cst tt TH y.1.2.1 ν h y.2.1 y.2.2.1 y.2.2.2.2.1 y.2.2.2.2.2 r
def ly_Yok (cst : am_K) (cl : List vw_C) (tt : List (List FieldType)) (P : List am_M) (strs : List Nat) (TH : List (List ly_T)) (Y : List (List (List ly_C))) (d : Nat) : Prop :=
  ∀ mi ys y, sx_ch 16 mi Y = some ys → y ∈ ys → ly_Cok cst cl tt P strs TH mi y d
def ly_gFr (ν : ly_N) (len : Nat) (PL : List am_M) (f : ly_Fr) (f' : sx_Cf) : Prop := sx_mok PL f.1 f'.1 ∧ f.2.1 = f'.2.1 ∧ ly_gL ν len f.2.2.1 f'.2.2.1 ∧ ly_gS ν len f.2.2.2 f'.2.2.2
def ly_gFrs (ν : ly_N) (len : Nat) (PL : List am_M) : List ly_Fr → List sx_Cf → Prop
  | [], [] => True
  | f :: fs, g :: gs => ly_gFr ν len PL f g ∧ ly_gFrs ν len PL fs gs
  | _, _ => False
def ly_gO (ν : ly_N) (len : Nat) (v : Option ly_V) (w : Option Value) : Prop := ly_gS ν len v.toList w.toList
section LY10
variable {cst : am_K} {cl : List vw_C} {tt : List (List FieldType)} {P PL : List am_M} {strs : List Nat} {TH : List (List ly_T)} {ν : ly_N} {len : Nat} {Z : ly_Z} {h' : am_H}
theorem ly_gFr_le {ν' : ly_N} {len' : Nat} (hl : ly_le ν ν') (hn : len ≤ len') {f : ly_Fr} {f' : sx_Cf} (g : ly_gFr ν len PL f f') : ly_gFr ν' len' PL f f' := ⟨g.1, g.2.1, ly_gL_le hl hn g.2.2.1, ly_gS_le hl hn g.2.2.2⟩
theorem ly_gFrs_le {ν' : ly_N} {len' : Nat} (hl : ly_le ν ν') (hn : len ≤ len') : ∀ {fs : List ly_Fr} {fs' : List sx_Cf}, ly_gFrs ν len PL fs fs' → ly_gFrs ν' len' PL fs fs'
  | [], [], _ => trivial
  | _ :: _, _ :: _, g => ⟨ly_gFr_le hl hn g.1, ly_gFrs_le hl hn g.2⟩
theorem ly_char {n : Int32} (h1 : 0 ≤ n.toInt) (h2 : n.toInt ≤ 65535) : n.toUInt32.toUInt16.toUInt32.toInt32 = n := by
  obtain ⟨-, hx⟩ := ly_nat h1
  have e2 : n.toUInt32.toUInt16.toUInt32.toInt32.toBitVec.toNat = n.toBitVec.toNat % 65536 := by
    have : n.toUInt32.toUInt16.toUInt32.toNat = n.toUInt32.toNat % 65536 := by simp
    exact this
  refine Int32.toBitVec_inj.mp (BitVec.eq_of_toNat_eq ?_)
  rw [e2]
  omega
theorem ly_r_ok {ret : Option FieldType} {I : Instr} {st : List ly_V} {st' : List Value} {v : Option ly_V} (gB : ly_gB ν Z.2.1) (gS : ly_gS ν len st st') (h : ly_r ret I Z st = some v) : ∃ v', am_r ret I st' = some v' ∧ ly_gO ν len v v' := by
  have rng : ∀ {e : ly_e} {p : Int × Int} {n : Int32}, ly_ev ν e = some n.toInt → ly_iv Z.2.1 e = some p → p.1 ≤ n.toInt ∧ n.toInt ≤ p.2 := by
    intro e p n he hp
    obtain ⟨z, hz, b⟩ := ly_iv_ok gB hp
    rw [he] at hz
    cases hz
    exact b
  unfold ly_r at h
  split at h
  · obtain ⟨w, t, rfl, gv, gt⟩ := ly_gS_cons gS
    cases ly_gS_nil gt
    cases h
    obtain ⟨n, rfl, en⟩ := gv
    exact ⟨some (.int n), rfl, ⟨n, rfl, en⟩, trivial⟩
  · obtain ⟨w, t, rfl, gv, gt⟩ := ly_gS_cons gS
    cases ly_gS_nil gt
    obtain ⟨n, rfl, en⟩ := gv
    split at h
    case h_2 => cases h
    rename_i p hp
    cases hc : (sx_le 0 p.1 && sx_le p.2 1) with
    | false => rw [hc] at h; cases h
    | true =>
      rw [hc] at h
      cases h
      rw [Bool.and_eq_true, sx_le_iff, sx_le_iff] at hc
      have b := rng en hp
      have e : n = 0 ∨ n = 1 := by
        have : n.toInt = 0 ∨ n.toInt = 1 := by omega
        rcases this with e | e
        · exact Or.inl (Int32.toInt_inj.mp e)
        · exact Or.inr (Int32.toInt_inj.mp e)
      exact ⟨some (.int n), by simp only [am_r, if_pos e], ⟨n, rfl, en⟩, trivial⟩
  · obtain ⟨w, t, rfl, gv, gt⟩ := ly_gS_cons gS
    cases ly_gS_nil gt
    obtain ⟨n, rfl, en⟩ := gv
    split at h
    case h_2 => cases h
    rename_i p hp
    cases hc : (sx_le (-128) p.1 && sx_le p.2 127) with
    | false => rw [hc] at h; cases h
    | true =>
      rw [hc] at h
      cases h
      rw [Bool.and_eq_true, sx_le_iff, sx_le_iff] at hc
      have b := rng en hp
      have e := (ly_i2b_r n).2 (by omega) (by omega)
      exact ⟨some (.int n), by simp only [am_r, if_pos e], ⟨n, rfl, en⟩, trivial⟩
  · obtain ⟨w, t, rfl, gv, gt⟩ := ly_gS_cons gS
    cases ly_gS_nil gt
    obtain ⟨n, rfl, en⟩ := gv
    split at h
    case h_2 => cases h
    rename_i p hp
    cases hc : (sx_le 0 p.1 && sx_le p.2 65535) with
    | false => rw [hc] at h; cases h
    | true =>
      rw [hc] at h
      cases h
      rw [Bool.and_eq_true, sx_le_iff, sx_le_iff] at hc
      have b := rng en hp
      have e := ly_char (n := n) (by omega) (by omega)
      exact ⟨some (.int n), by simp only [am_r, if_pos e], ⟨n, rfl, en⟩, trivial⟩
  · obtain ⟨w, t, rfl, gv, gt⟩ := ly_gS_cons gS
    cases ly_gS_nil gt
    cases h
    obtain ⟨n, rfl⟩ := gv
    exact ⟨some (.long n), by simp only [am_r, if_true], ⟨n, rfl⟩, trivial⟩
  · obtain ⟨w, t, rfl, gv, gt⟩ := ly_gS_cons gS
    cases ly_gS_nil gt
    cases h
    rcases ly_g_isA gv rfl with ⟨a, rfl⟩ | rfl
    · exact ⟨_, rfl, gv, trivial⟩
    · exact ⟨_, rfl, gv, trivial⟩
  · obtain ⟨w, t, rfl, gv, gt⟩ := ly_gS_cons gS
    cases ly_gS_nil gt
    cases h
    rcases ly_g_isA gv rfl with ⟨a, rfl⟩ | rfl
    · exact ⟨_, rfl, gv, trivial⟩
    · exact ⟨_, rfl, gv, trivial⟩
  · cases ly_gS_nil gS
    cases h
    exact ⟨none, by simp only [am_r, if_true], trivial⟩
  · cases h
theorem ly_isref_ok {v : ly_V} {w : Value} (h : ly_isref v = true) (g : ly_g ν len v w) : ∃ a, w = .ref a := by
  match v, h, g with
  | .inr (.inr (.inl (some a))), h, g =>
    have : a ≠ 7 := fun e => by subst e; cases h
    exact ⟨a, ly_g_ref g this⟩
  | .inr (.inr (.inr (j, e))), h, g =>
    obtain ⟨-, z, -, ew, -⟩ := g
    exact ⟨_, ew⟩
theorem ly_rcvs_ok {I : Instr} {X : am_X} {m : sx_M} {M : am_M} {st : List ly_V} {st' : List Value} (hstr : ∀ a, 8 ≤ a → a < 12 → a ∈ strs) (gS : ly_gS ν h'.length st st') (hy : ly_hy tt TH h')
    (hM : P[X.1]? = some M) (h98 : m.2.1 < 98 → ∃ r : vw_C, cl[m.2.1]? = some r ∧ r.1 = M.1.cls) (h99 : m.2.1 = 99 → M.1.cls = "java/lang/String") (hx0 : X.2.2 = 0) (hle : X.2.1 ≤ st.length) (hcat : ly_cats (st.drop X.2.1) ≤ 8) (h : ly_rcvs I TH m (st.take X.2.1).reverse = true) : am_c cl P strs I X st' h' := by
  have g1 := ly_gS_rev (ly_gS_take X.2.1 gS)
  refine ⟨by rw [ly_gS_len gS]; exact hle, by rw [ly_gS_cats (ly_gS_drop X.2.1 gS)]; exact hcat, hx0, ?_⟩
  unfold ly_rcvs at h
  split at h
  · trivial
  · rename_i i
    split at h
    · rename_i v As hAs
      rw [hAs] at g1
      obtain ⟨w, ws, e, gv, -⟩ := ly_gS_cons g1
      refine ⟨w, ws, M, e, hM, ?_⟩
      unfold ly_rcv at h
      split at h
      · rename_i a
        cases ha : Nat.blt a 16 with
        | true =>
          rw [ha] at h
          simp only [cond_true, Bool.and_eq_true, sx_beqn, sx_ble, sx_blt] at h
          have ew := ly_g_ref gv (by omega)
          exact ⟨a, ew, Or.inr ⟨sx_blt.mp ha, hstr a h.2.1 h.2.2, h99 h.1⟩⟩
        | false =>
          have ha' := sx_blt_neg ha
          rw [ha] at h
          simp only [cond_false] at h
          have ew := ly_g_ref gv (by omega)
          split at h
          · rename_i ci fs ht
            simp only [Bool.and_eq_true, sx_beqn, sx_blt] at h
            obtain ⟨x, hx, gx⟩ := hy.2.1 _ _ ht
            obtain ⟨vs, rfl, -⟩ := gx
            obtain ⟨r, hr, hr1⟩ := h98 h.2
            refine ⟨a, ew, Or.inl ⟨ha', ci, vs, r, hx, ?_, hr1⟩⟩
            rw [h.1]
            exact hr
          · cases h
      · rename_i j e0
        split at h
        · rename_i ci fs ht
          simp only [Bool.and_eq_true, sx_beqn, sx_blt] at h
          obtain ⟨-, z, -, ew, hz⟩ := gv
          obtain ⟨x, hx, gx⟩ := hy.2.2 _ _ _ hz ht
          obtain ⟨vs, rfl, -⟩ := gx
          obtain ⟨r, hr, hr1⟩ := h98 h.2
          refine ⟨16 + (177 + 19 * z + j), ew, Or.inl ⟨Nat.not_lt.mpr (Nat.le_add_right 16 _), ci, vs, r, ?_, ?_, hr1⟩⟩
          · rw [show 16 + (177 + 19 * z + j) - 16 = 177 + 19 * z + j by omega]
            exact hx
          · rw [h.1]
            exact hr
        · cases h
      · cases h
    · cases h
  · rename_i i
    split at h
    · rename_i v As hAs
      rw [hAs] at g1
      obtain ⟨w, ws, e, gv, -⟩ := ly_gS_cons g1
      obtain ⟨a, rfl⟩ := ly_isref_ok h gv
      exact ⟨a, ws, e⟩
    · cases h
  · cases h
theorem ly_copy_ok {mods : List Nat} {I : Instr} {X : am_X} {st st1 : List ly_V} {st' : List Value} {Z1 : ly_Z} (gZ : ly_gZ cst ν Z h') (gS : ly_gS ν h'.length st st') (hy : ly_hy tt TH h') (h : ly_copy TH mods I X Z st = some (Z1, st1)) :
    ∃ st1' h1', am_copy I X st' h' = some (st1', h1') ∧ ly_gS ν h'.length st1 st1' ∧ ly_gZ cst ν Z1 h1' ∧ ly_hy tt TH h1' ∧ ly_fr cst mods h' h1' ∧ h1'.length = h'.length := by
  unfold ly_copy at h
  split at h
  case h_2 => cases h
  rename_i i n dp b sp a st0
  obtain ⟨n', t1, rfl, gn, gS1⟩ := ly_gS_cons gS
  obtain ⟨dp', t2, rfl, gdp, gS2⟩ := ly_gS_cons gS1
  obtain ⟨b', t3, rfl, gb, gS3⟩ := ly_gS_cons gS2
  obtain ⟨sp', t4, rfl, gsp, gS4⟩ := ly_gS_cons gS3
  obtain ⟨a', t5, rfl, ga, gS5⟩ := ly_gS_cons gS4
  cases hc : (sx_eq X.2.2 2 && (Nat.ble (ly_cats st0) 8 && (Nat.ble 16 a && Nat.ble 16 b))) with
  | false => rw [hc] at h; cases h
  | true =>
    rw [hc] at h
    simp only [cond_true] at h
    simp only [Bool.and_eq_true, sx_eq_iff, sx_ble] at hc
    obtain ⟨c1, c2, c3, c4⟩ := hc
    split at h
    case h_2 => cases h
    rename_i n dp sp na pa nb pb hn hdp hsp ta tb
    cases hd : (Nat.beq n na && (Nat.beq n nb && (Nat.beq dp 0 && (Nat.beq sp 0 && (sx_le pb.1 pa.1 && sx_le pa.2 pb.2))))) with
    | false => rw [hd] at h; cases h
    | true =>
      rw [hd] at h
      simp only [cond_true] at h
      simp only [Bool.and_eq_true, sx_beqn, sx_le_iff] at hd
      obtain ⟨d1, d2, d3, d4, d5, d6⟩ := hd
      split at h
      case h_2 => cases h
      rename_i Z2 hw
      cases h
      obtain ⟨nn, rfl, en⟩ := gn
      obtain ⟨nd, rfl, ed⟩ := gdp
      obtain ⟨ns, rfl, es⟩ := gsp
      have ewa := ly_g_ref ga (by omega)
      have ewb := ly_g_ref gb (by omega)
      subst ewa
      subst ewb
      have fa := ly_con_ok gZ.2.1 hn
      have fd := ly_con_ok gZ.2.1 hdp
      have fs := ly_con_ok gZ.2.1 hsp
      rw [en] at fa
      rw [ed] at fd
      rw [es] at fs
      have q1 : nn.toInt = (n : Int) := Option.some.inj fa
      have q2 : nd.toInt = (dp : Int) := Option.some.inj fd
      have q3 : ns.toInt = (sp : Int) := Option.some.inj fs
      have r1 : nn.toNatClampNeg = n := by show nn.toInt.toNat = n; omega
      have r2 : nd.toNatClampNeg = 0 := by show nd.toInt.toNat = 0; omega
      have r3 : ns.toNatClampNeg = 0 := by show ns.toInt.toNat = 0; omega
      have z : (0 : Int32).toInt = 0 := rfl
      have neg : ∀ {q : Int32}, 0 ≤ q.toInt → ¬ q < 0 := by
        intro q e hq
        have := Int32.lt_iff_toInt_lt.mp hq
        omega
      obtain ⟨xa, hxa, cca, rfl, f, rfl, hfa⟩ := hy.2.1 _ _ ta
      obtain ⟨xb, hxb, ccb, rfl, g, rfl, hgb⟩ := hy.2.1 _ _ tb
      have hlt := ly_ths_lt tb
      have hs : (t5.map fun v => v.category).sum ≤ 8 := by rw [ly_gS_cats gS5]; exact c2
      have hneg : ¬ (a < 16 ∨ b < 16 ∨ nn < 0 ∨ nd < 0 ∨ ns < 0 ∨ ¬ (t5.map fun v => v.category).sum ≤ 8) := by
        rintro (h | h | h | h | h | h)
        · omega
        · omega
        · exact neg (by omega) h
        · exact neg (by omega) h
        · exact neg (by omega) h
        · exact h hs
      have hr : ns.toNatClampNeg + nn.toNatClampNeg ≤ na ∧ nd.toNatClampNeg + nn.toNatClampNeg ≤ nb := by
        rw [r1, r2, r3]
        omega
      have hv2 : ∀ r' i', r' ≠ 256 * (b - 16) → ly_hv cst (h'.set (b - 16) (.inl (.int, nb, .inl (va_cpy f g ns.toNatClampNeg nd.toNatClampNeg nn.toNatClampNeg)))) r' i' = ly_hv cst h' r' i' := fun r' i' hr' => by
        refine ly_hv_set1 hlt hxb (fun er => ?_)
        simp only [ly_hs]
        rw [if_neg (by omega), if_neg (by omega)]
      obtain ⟨gZ1, fr1⟩ := ly_drop_ok gZ hw _ hv2
      refine ⟨t5, _, by simp only [am_copy, if_pos c1, if_neg hneg, hxa, hxb, if_pos hr], gS5, gZ1, ly_hy_set1 hy hlt (fun t ht => ?_), fr1, by rw [List.length_set]⟩
      rw [tb] at ht
      cases ht
      refine ⟨_, rfl, _, rfl, fun j hj => ?_⟩
      rw [r1, r2, r3]
      have e : va_cpy f g 0 0 n j = f j := by
        unfold va_cpy
        rw [if_pos (by omega)]
        congr 1
        omega
      rw [e]
      have := hfa j (by omega)
      exact ⟨Int.le_trans d5 this.1, Int.le_trans this.2 d6⟩
end LY10
section LY11
variable {cst : am_K} {cl : List vw_C} {tt : List (List FieldType)} {P PL : List am_M} {strs : List Nat} {TH : List (List ly_T)} {K0 : sx_K} {T : List (List sx_M)} {Y : List (List (List ly_C))} {mods : List Nat} {De : ly_e} {n0 : Nat} {pts : List (Nat × ly_P × ly_e)} {exs : List ly_P} {mu : Option ly_e} {cc cs pcc pcs : Nat}
variable {ν0 : ly_N} {h0 : am_H} {D : Nat} {Φ : am_Q → Prop}
/-- a point of a run, and the abstract machine's -/
def ly_Inv (cst : am_K) (tt : List (List FieldType)) (PL : List am_M) (TH : List (List ly_T)) (mods : List Nat) (n0 : Nat) (ν0 : ly_N) (h0 : am_H) (D : Nat) (g : ly_G) (ν : ly_N) (f' : sx_Cf) (fs' : List sx_Cf) (h' : am_H) (ca sa : Nat) : Prop :=
  (∀ k, k < n0 → ν k = ν0 k) ∧ ly_gZ cst ν g.2.2.2.1 h' ∧ ly_hy tt TH h' ∧ ly_fr cst mods h0 h' ∧ h0.length ≤ h'.length ∧ ly_gFr ν h'.length PL g.2.1 f' ∧ ly_gFrs ν h'.length PL g.2.2.1 fs' ∧ g.1 = g.2.2.1.length ∧ g.1 ≤ D ∧ ca ≤ g.2.2.2.2.1 ∧ sa ≤ g.2.2.2.2.2
def ly_next (cst : am_K) (cl : List vw_C) (tt : List (List FieldType)) (P PL : List am_M) (strs : List Nat) (TH : List (List ly_T)) (mods : List Nat) (n0 : Nat) (ν0 : ly_N) (h0 : am_H) (D : Nat) (Φ : am_Q → Prop) (ν : ly_N) (gs : List ly_G) (goal : Prop) : Prop :=
  ∃ g1 ∈ gs, ∃ (ν1 : ly_N) (f1 : sx_Cf) (fs1 : List sx_Cf) (h1 : am_H) (ca1 sa1 : Nat), ly_le ν ν1 ∧ ly_Inv cst tt PL TH mods n0 ν0 h0 D g1 ν1 f1 fs1 h1 ca1 sa1 ∧ (sx_Fin cst cl tt P strs Φ fs1 (D - g1.1) f1 h1 ca1 sa1 → goal)
theorem ly_pre_le {ν ν1 : ly_N} (hd : ∀ k, k < n0 → ∃ z, ν0 k = some z) (hp : ∀ k, k < n0 → ν k = ν0 k) (hl : ly_le ν ν1) : ∀ k, k < n0 → ν1 k = ν0 k := fun k hk => by
  obtain ⟨z, hz⟩ := hd k hk
  have := hp k hk
  rw [hz] at this ⊢
  exact hl k z this
theorem ly_outs_mem {k : Nat} {m : sx_M} {pc : Nat} {l : ly_L} {st : List ly_V} {fs : List ly_Fr} {ms : List Nat} {Z : ly_Z} {θ : List ly_e} {c s : Nat} {p : ly_P} : ∀ {ps : List ly_P} {gs : List ly_G}, ly_outs k m pc l st fs ms Z θ c s ps = some gs → p ∈ ps → ∃ Z' vs, ly_app ms Z θ p = some (Z', vs) ∧ (k, (m, pc, l, vs ++ st), fs, Z', c, s) ∈ gs
  | [], _, _, hp => by cases hp
  | q :: ps, gs, ho, hp => by
    unfold ly_outs at ho
    split at ho
    case h_2 => cases ho
    rename_i Z' vs gs' h1 h2
    cases ho
    rcases List.mem_cons.mp hp with rfl | hp
    · exact ⟨Z', vs, h1, List.mem_cons_self⟩
    · obtain ⟨Z2, vs2, e1, e2⟩ := ly_outs_mem h2 hp
      exact ⟨Z2, vs2, e1, List.mem_cons_of_mem _ e2⟩
theorem ly_try_ok {k : Nat} {Z : ly_Z} {L : ly_L} {Z' : ly_Z} {θ : List ly_e} {y : ly_C} : ∀ {ys : List ly_C}, ly_try TH mods De k Z L ys = some (Z', θ, y) → y ∈ ys ∧ ly_mt TH Z L [] [] y.1 = some (Z', θ) ∧ ∃ d, ly_sb θ y.2.2.2.1 = some d ∧ ly_ge Z'.2.1 Z'.2.2.1 (ly_sub (ly_add (Int.sub (-1) (.ofNat k), []) De) d) = true ∧ ∀ r ∈ y.2.2.1, ly_has r mods = true
  | [], ht => by cases ht
  | y0 :: ys, ht => by
    have rest : ly_try TH mods De k Z L ys = some (Z', θ, y) → _ := fun h => by
      obtain ⟨a, b⟩ := ly_try_ok h
      exact (⟨List.mem_cons_of_mem y0 a, b⟩ : y ∈ y0 :: ys ∧ _)
    unfold ly_try at ht
    split at ht
    · rename_i Z1 θ1 hm
      split at ht
      · rename_i d hd
        cases hc : (ly_ge Z1.2.1 Z1.2.2.1 (ly_sub (ly_add (Int.sub (-1) (.ofNat k), []) De) d) && y0.2.2.1.all (fun r => ly_has r mods)) with
        | false =>
          rw [hc] at ht
          exact rest ht
        | true =>
          rw [hc] at ht
          cases ht
          rw [Bool.and_eq_true] at hc
          exact ⟨List.mem_cons_self, hm, d, hd, hc.1, fun r hr => List.all_eq_true.mp hc.2 r hr⟩
      · exact rest ht
    · exact rest ht
theorem ly_stepc_ok {I : Instr} {X : am_X} {pc k c s ca sa : Nat} {m : sx_M} {M : am_M} {l : ly_L} {st : List ly_V} {fs : List ly_Fr} {Z : ly_Z} {gs : List ly_G} {ν : ly_N} {l' : am_L} {st' : List Value} {fs' : List sx_Cf} {h' : am_H} {zD : Int}
    (hd0 : ∀ k, k < n0 → ∃ z, ν0 k = some z) (hT : sx_tok cl P PL T) (hstr : ∀ a, 8 ≤ a → a < 12 → a ∈ strs) (hY : ∀ d, d ≤ D → ly_Yok cst cl tt P strs TH Y d) (hDe : ∀ ν, (∀ k, k < n0 → ν k = ν0 k) → ly_ev ν De = some zD) (hzD : zD ≤ (D : Int) + 1)
    (hfind : am_find pc M.2.2.2.2 = some (I, X)) (inv : ly_Inv cst tt PL TH mods n0 ν0 h0 D (k, (m, pc, l, st), fs, Z, c, s) ν (M, pc, l', st') fs' h' ca sa)
    (hs : ly_stepc T TH Y mods De I X pc k m l st fs Z c s = some gs) : ly_next cst cl tt P PL strs TH mods n0 ν0 h0 D Φ ν gs (sx_Fin cst cl tt P strs Φ fs' (D - k) (M, pc, l', st') h' ca sa) := by
  obtain ⟨ipre, iZ, ihy, ifr, ilen, iF, iFs, ik, ikD, ica, isa⟩ := inv
  simp only at iZ ik ikD ica isa iFs
  obtain ⟨hm, -, gL, gS⟩ := iF
  simp only at gL gS hm
  unfold ly_stepc at hs
  cases hx0 : sx_eq X.2.2 0 with
  | true =>
    have ex0 := sx_eq_iff.mp hx0
    rw [hx0] at hs
    simp only [cond_true] at hs
    split at hs
    case h_2 => cases hs
    rename_i m' hm'
    cases hc : (Nat.beq m'.1 X.1 && (Nat.ble X.2.1 st.length && (ly_rcvs I TH m' (st.take X.2.1).reverse && (Nat.ble (ly_cats (st.drop X.2.1)) 8 && Nat.ble (ly_cats (st.take X.2.1).reverse) m'.2.2.1)))) with
    | false => rw [hc] at hs; cases hs
    | true =>
      rw [hc] at hs
      simp only [cond_true] at hs
      simp only [Bool.and_eq_true, sx_beqn, sx_ble] at hc
      obtain ⟨c0, c2, c3, c4, c5⟩ := hc
      obtain ⟨M', hM', hmok, hml, h98, h99⟩ := hT _ _ hm' c0
      have hcc := ly_rcvs_ok hstr gS ihy hM' h98 h99 ex0 c2 c4 c3
      have g1 := ly_gS_rev (ly_gS_take X.2.1 gS)
      split at hs
      · rename_i Z' θ y ht
        obtain ⟨hmem, hmt, d, hd, hge, hsub⟩ := ly_try_ok ht
        have hys : ∃ ys, sx_ch 16 X.1 Y = some ys ∧ y ∈ ys := by
          cases hq : sx_ch 16 X.1 Y with
          | none => rw [hq] at hmem; cases hmem
          | some ys => rw [hq] at hmem; exact ⟨ys, rfl, hmem⟩
        obtain ⟨ys, hys, hmem⟩ := hys
        obtain ⟨ν1, hl1, gZ1, dfd1, -, hlen1, gZt, gLt, -⟩ := ly_mt_ok (st := []) (st' := []) ihy iZ (ly_gL_args 0 g1) trivial (fun t ht => by cases ht) hmt
        obtain ⟨zd, hzd, hzd'⟩ := ly_sb_ok dfd1 hd
        have pre1 := ly_pre_le hd0 ipre hl1
        have b := ly_ge_ok gZ1.2.1 gZ1.2.2.1 hge (ly_sub_ok (ly_add_ok (ly_ev_c ν1 _) (hDe ν1 pre1)) hzd)
        have en : Int.sub (-1) (Int.ofNat k) = -1 - (k : Int) := rfl
        rw [en] at b
        obtain ⟨r, hrun, r1, r2, rhy, rfr, rlen, p, hp, ν', hpre', gZp, gSp⟩ := hY (D - k) (by omega) X.1 ys y hys hmem (ly_th ν1 θ) (st'.take X.2.1).reverse h' zd M' hM' (by rw [ly_cats_sl g1, ← hml]; exact c5) ihy gZt gLt hzd' (by omega)
        obtain ⟨Z2, vs, happ, hgs⟩ := ly_outs_mem hs hp
        obtain ⟨ν2, hl2, gZ2, gS2⟩ := ly_app_ok gZ1 dfd1 rfr (fun k hk => hpre' k (by rw [← hlen1]; exact hk)) gZp gSp happ
        have hl12 := ly_le_tr hl1 hl2
        refine ⟨_, hgs, ν2, (M, pc + 3, l', r.1.toList ++ st'.drop X.2.1), fs', r.2.1, ca + r.2.2.1, sa + r.2.2.2, hl12, ⟨ly_pre_le hd0 ipre hl12, gZ2, rhy, ly_fr_tr ifr (fun r' i' v' hr' ev => rfr r' i' v' ?_ ev), Nat.le_trans ilen rlen, ⟨hm, rfl, ly_gL_le hl12 rlen gL, ly_gS_app gS2 (ly_gS_le hl12 rlen (ly_gS_drop _ gS))⟩, ly_gFrs_le hl12 rlen iFs, ik, ikD, Nat.add_le_add ica r1, Nat.add_le_add isa r2⟩, fun hF => ?_⟩
        · cases hh : ly_has r' y.2.2.1 with
          | false => rfl
          | true =>
            unfold ly_has at hh
            obtain ⟨q, hq, hqe⟩ := List.any_eq_true.mp hh
            rw [← sx_beqn.mp hqe, hsub q hq] at hr'
            cases hr'
        · exact sx_Fin_pre (dc := r.2.2.1) (ds := r.2.2.2) (f1 := (M, pc + 3, l', r.1.toList ++ st'.drop X.2.1)) (fun n2 q hgo2 => ⟨n2 + 1, I, X, hfind, Or.inr (Or.inr (Or.inr (Or.inl ⟨r, q, hcc, hrun, hgo2, rfl⟩)))⟩) hF
      · cases hg : ly_ge Z.2.1 Z.2.2.1 (ly_add (Int.sub (-2) (.ofNat k), []) De) with
        | false => rw [hg] at hs; cases hs
        | true =>
          rw [hg] at hs
          cases hs
          have b := ly_ge_ok iZ.2.1 iZ.2.2.1 hg (ly_add_ok (ly_ev_c ν _) (hDe ν ipre))
          have en : Int.sub (-2) (Int.ofNat k) = -2 - (k : Int) := rfl
          rw [en] at b
          refine ⟨_, List.mem_singleton.mpr rfl, ν, (M', 0, lv_args 0 (st'.take X.2.1).reverse, []), (M, pc + 3, l', st'.drop X.2.1) :: fs', h', ca, sa, ly_le_rf ν, ⟨ipre, iZ, ihy, ifr, ilen, ⟨hmok, rfl, ly_gL_args 0 g1, trivial⟩, ⟨⟨hm, rfl, gL, ly_gS_drop _ gS⟩, iFs⟩, by simp only [List.length_cons]; omega, by show k + 1 ≤ D; omega, ica, isa⟩, fun hF => ?_⟩
          obtain ⟨n, r, hgo, hF⟩ := hF
          simp only at hgo hF
          have ed : D - (k + 1) + 1 = D - k := by omega
          rw [ed] at hF
          refine sx_Fin_pre (dc := r.2.2.1) (ds := r.2.2.2) (f1 := (M, pc + 3, l', r.1.toList ++ st'.drop X.2.1)) (fun n2 q hgo2 => ⟨n2 + 1, I, X, hfind, Or.inr (Or.inr (Or.inr (Or.inl ⟨r, q, hcc, ?_, hgo2, rfl⟩)))⟩) hF
          rw [← ed]
          exact Or.inr ⟨M', n, hM', by rw [ly_cats_sl g1, ← hml]; exact c5, hgo⟩
  | false =>
    rw [hx0] at hs
    simp only [cond_false] at hs
    split at hs
    case h_2 => cases hs
    rename_i Z1 st1 hst
    cases hs
    obtain ⟨st1', h1', e, gs1, gZ1, hy1, fr1, hl1⟩ := ly_copy_ok iZ gS ihy hst
    refine ⟨_, List.mem_singleton.mpr rfl, ν, (M, pc + 3, l', st1'), fs', h1', ca, sa, ly_le_rf ν, ⟨ipre, gZ1, hy1, ly_fr_tr ifr fr1, by rw [hl1]; exact ilen, ⟨hm, rfl, by rw [hl1]; exact gL, by rw [hl1]; exact gs1⟩, by rw [hl1]; exact iFs, ik, ikD, ica, isa⟩, fun hF => sx_Fin_step rfl (fun n r hgo => ⟨I, X, hfind, Or.inr (Or.inr (Or.inr (Or.inr (Or.inr ⟨st1', h1', e, hgo⟩))))⟩) hF⟩
end LY11
end
section
/-! runs of the linear machine, and contracts that are kept -/
section LY12
variable {cst : am_K} {cl : List vw_C} {tt : List (List FieldType)} {P PL : List am_M} {strs : List Nat} {TH : List (List ly_T)} {K0 : sx_K} {T : List (List sx_M)} {Y : List (List (List ly_C))} {mods : List Nat} {De : ly_e} {n0 : Nat} {pts : List (Nat × ly_P × ly_e)} {exs : List ly_P} {mu : Option ly_e} {mi cc cs pcc pcs : Nat}
variable {ν0 : ly_N} {h0 : am_H} {D : Nat} {zD z0 : Int}
theorem ly_id_dfd {ν : ly_N} (hd0 : ∀ k, k < n0 → ∃ z, ν0 k = some z) (hp : ∀ k, k < n0 → ν k = ν0 k) : ly_dfd ν (ly_id n0) := fun t ht => by
  obtain ⟨k, hk⟩ := List.mem_iff_getElem?.mp ht
  rw [ly_id_get] at hk
  by_cases hlt : k < n0
  · rw [if_pos hlt] at hk
    cases hk
    obtain ⟨z, hz⟩ := hd0 k hlt
    exact ⟨z, ly_ev_sym (by rw [hp k hlt]; exact hz)⟩
  · rw [if_neg hlt] at hk
    cases hk
theorem ly_id_th {ν : ly_N} {θ θx : List ly_e} (e : θ = ly_id n0 ++ θx) {k : Nat} (hd0 : ∀ k, k < n0 → ∃ z, ν0 k = some z) (hp : ∀ k, k < n0 → ν k = ν0 k) (hk : k < n0) : ly_th ν θ k = ν0 k := by
  have hg : θ[k]? = some (ly_sym k) := by
    have h1 := ly_id_get n0 k
    rw [if_pos hk] at h1
    rw [e, List.getElem?_append_left (List.getElem?_eq_some_iff.mp h1).1]
    exact h1
  obtain ⟨z, hz⟩ := hd0 k hk
  simp only [ly_th, hg]
  rw [hz]
  exact ly_ev_sym (by rw [hp k hk]; exact hz)
theorem ly_stepr_ok {I : Instr} {X : am_X} {pc k c s ca sa : Nat} {m : sx_M} {M : am_M} {l : ly_L} {st : List ly_V} {fs : List ly_Fr} {Z : ly_Z} {gs : List ly_G} {ν : ly_N} {l' : am_L} {st' : List Value} {fs' : List sx_Cf} {h' : am_H}
    (hd0 : ∀ k, k < n0 → ∃ z, ν0 k = some z) (hfind : am_find pc M.2.2.2.2 = some (I, X)) (inv : ly_Inv cst tt PL TH mods n0 ν0 h0 D (k, (m, pc, l, st), fs, Z, c, s) ν (M, pc, l', st') fs' h' ca sa)
    (hs : ly_stepr TH n0 exs cc cs I k m st fs Z c s = some gs) :
    sx_Fin cst cl tt P strs (ly_Post cst tt TH n0 ν0 h0 exs mods cc cs) fs' (D - k) (M, pc, l', st') h' ca sa ∨ ly_next cst cl tt P PL strs TH mods n0 ν0 h0 D (ly_Post cst tt TH n0 ν0 h0 exs mods cc cs) ν gs (sx_Fin cst cl tt P strs (ly_Post cst tt TH n0 ν0 h0 exs mods cc cs) fs' (D - k) (M, pc, l', st') h' ca sa) := by
  obtain ⟨ipre, iZ, ihy, ifr, ilen, iF, iFs, ik, ikD, ica, isa⟩ := inv
  simp only at iZ ik ikD ica isa iFs
  obtain ⟨hm, -, gL, gS⟩ := iF
  simp only at gL gS hm
  unfold ly_stepr at hs
  split at hs
  case h_2 => cases hs
  rename_i v hv
  obtain ⟨v', er, gv⟩ := ly_r_ok iZ.2.1 gS hv
  rw [← hm.2.1] at er
  have hgo : am_Go cst cl tt P strs (am_Run cst cl tt P strs sx_bi (D - k)) M 1 pc l' st' h' (v', h', 0, 0) := ⟨I, X, hfind, Or.inr (Or.inr (Or.inl ⟨v', er, rfl⟩))⟩
  match fs, fs', iFs, hs, ik with
  | [], [], _, hs, ik =>
    simp only at hs
    cases hc : (Nat.ble c cc && (Nat.ble s cs && exs.any fun p => (ly_mt TH Z [] v.toList (ly_id n0) p).isSome)) with
    | false => rw [hc] at hs; cases hs
    | true =>
      simp only [Bool.and_eq_true, sx_ble] at hc
      obtain ⟨c1, c2, c3⟩ := hc
      obtain ⟨p, hp, hmt⟩ := List.any_eq_true.mp c3
      obtain ⟨q, hq⟩ := Option.isSome_iff_exists.mp hmt
      obtain ⟨Z', θ⟩ := q
      obtain ⟨ν1, hl1, -, dfd1, ⟨θx, eθ⟩, -, gZt, -, gSt⟩ := ly_mt_ok (l' := []) ihy iZ (fun q hq => by cases hq) gv (ly_id_dfd hd0 ipre) hq
      refine Or.inl ⟨1, _, hgo, ?_, ?_, ihy, ifr, ilen, p, hp, ly_th ν1 θ, fun k hk => ly_id_th eθ hd0 (ly_pre_le hd0 ipre hl1) hk, gZt, gSt⟩
      · show ca + 0 ≤ cc; omega
      · show sa + 0 ≤ cs; omega
  | g :: fs, g' :: fs', iFs, hs, ik =>
    cases hs
    obtain ⟨⟨gm, gpc, gl, gst⟩, gfs⟩ := iFs
    simp only [List.length_cons] at ik
    have ed : D - (k - 1) = D - k + 1 := by omega
    refine Or.inr ⟨_, List.mem_singleton.mpr rfl, ν, (g'.1, g'.2.1, g'.2.2.1, v'.toList ++ g'.2.2.2), fs', h', ca, sa, ly_le_rf ν, ⟨ipre, iZ, ihy, ifr, ilen, ⟨gm, gpc, gl, ly_gS_app gv gst⟩, gfs, by show k - 1 = fs.length; omega, by show k - 1 ≤ D; omega, ica, isa⟩, fun hF => ⟨1, _, hgo, ?_⟩⟩
    simp only at hF
    rw [ed] at hF
    exact hF
theorem ly_step0_ok {g : ly_G} {gs : List ly_G} {ν : ly_N} {f' : sx_Cf} {fs' : List sx_Cf} {h' : am_H} {ca sa : Nat}
    (hd0 : ∀ k, k < n0 → ∃ z, ν0 k = some z) (gC : ly_gC K0 cst) (hT : sx_tok cl P PL T) (hstr : ∀ a, 8 ≤ a → a < 12 → a ∈ strs) (hY : ∀ d, d ≤ D → ly_Yok cst cl tt P strs TH Y d) (hDe : ∀ ν, (∀ k, k < n0 → ν k = ν0 k) → ly_ev ν De = some zD) (hzD : zD ≤ (D : Int) + 1)
    (inv : ly_Inv cst tt PL TH mods n0 ν0 h0 D g ν f' fs' h' ca sa) (hs : ly_step0 T K0 tt cl TH Y mods De n0 exs cc cs g = some gs) :
    sx_Fin cst cl tt P strs (ly_Post cst tt TH n0 ν0 h0 exs mods cc cs) fs' (D - g.1) f' h' ca sa ∨ ly_next cst cl tt P PL strs TH mods n0 ν0 h0 D (ly_Post cst tt TH n0 ν0 h0 exs mods cc cs) ν gs (sx_Fin cst cl tt P strs (ly_Post cst tt TH n0 ν0 h0 exs mods cc cs) fs' (D - g.1) f' h' ca sa) := by
  obtain ⟨k, ⟨m, pc, l, st⟩, fs, Z, c, s⟩ := g
  obtain ⟨M, pc', l', st'⟩ := f'
  have hpc : pc = pc' := inv.2.2.2.2.2.1.2.1
  subst hpc
  have hm : sx_mok PL m M := inv.2.2.2.2.2.1.1
  unfold ly_step0 at hs
  simp only [sx_N_eq] at hs
  split at hs
  case h_1 => cases hs
  rename_i q hq
  have hfind : am_find pc M.2.2.2.2 = some (q.1, q.2) := hm.2.2 _ _ hq
  unfold ly_stepi at hs
  split at hs
  · rename_i f hf
    split at hs
    case h_2 => cases hs
    rename_i ss hss
    cases hs
    obtain ⟨ipre, iZ, ihy, ifr, ilen, iF, iFs, ik, ikD, ica, isa⟩ := inv
    obtain ⟨q1, hq1, ν1, F, e, hl1, gZ1, epc, gL1, gS1, hy1, fr1, hlen1⟩ := ly_s_ok (cst := cst) (ν := ν) (l' := l') (st' := st') (h' := h') hf hss gC iZ iF.2.2.1 iF.2.2.2 ihy
    refine Or.inr ⟨_, List.mem_map.mpr ⟨q1, hq1, rfl⟩, ν1, (M, F.1, F.2.1, F.2.2.1), fs', F.2.2.2, ca, sa, hl1, ⟨ly_pre_le hd0 ipre hl1, gZ1, hy1, ly_fr_tr ifr fr1, by rw [hlen1]; exact ilen, ⟨hm, epc, by rw [hlen1]; exact gL1, by rw [hlen1]; exact gS1⟩, ly_gFrs_le hl1 (by rw [hlen1]; exact Nat.le_refl _) iFs, ik, ikD, ica, isa⟩, fun hF => ?_⟩
    exact sx_Fin_step rfl (fun n r hgo => ⟨q.1, q.2, hfind, Or.inl ⟨F, e, hgo⟩⟩) hF
  · cases hc : sx_isc q.1 with
    | true =>
      rw [hc] at hs
      exact Or.inr (ly_stepc_ok hd0 hT hstr hY hDe hzD hfind inv hs)
    | false =>
      rw [hc] at hs
      exact ly_stepr_ok hd0 hfind inv hs
/-- a run all of whose ends are good -/
theorem ly_run_ok {M0 : am_M} (hM0 : PL[mi]? = some M0)
    (hd0 : ∀ k, k < n0 → ∃ z, ν0 k = some z) (gC : ly_gC K0 cst) (hT : sx_tok cl P PL T) (hstr : ∀ a, 8 ≤ a → a < 12 → a ∈ strs) (hY : ∀ d, d ≤ D → ly_Yok cst cl tt P strs TH Y d) (hDe : ∀ ν, (∀ k, k < n0 → ν k = ν0 k) → ly_ev ν De = some zD) (hzD : zD ≤ (D : Int) + 1)
    (hpt : ∀ p ∈ pts, ∀ (ν : ly_N) (l' : am_L) (st' : List Value) (h' : am_H) (ca sa : Nat) (z : Int), (∀ k, k < n0 → ν k = ν0 k) → ly_gZ cst ν (ly_PZ p.2.1) h' → ly_hy tt TH h' → ly_fr cst mods h0 h' → h0.length ≤ h'.length → ly_gL ν h'.length p.2.1.2.2.2.2.1 l' → ly_gS ν h'.length p.2.1.2.2.2.2.2.1 st' → ly_ev ν p.2.2 = some z → 0 ≤ z → (mu.isSome = true → z < z0) → ca ≤ pcc → sa ≤ pcs → sx_Fin cst cl tt P strs (ly_Post cst tt TH n0 ν0 h0 exs mods cc cs) [] D (M0, p.1, l', st') h' ca sa) :
    ∀ (n : Nat) (g : ly_G) (ν : ly_N) (f' : sx_Cf) (fs' : List sx_Cf) (h' : am_H) (ca sa : Nat), ly_run T K0 tt cl TH Y mods De n0 pts exs mu mi cc cs pcc pcs n g = true → ly_Inv cst tt PL TH mods n0 ν0 h0 D g ν f' fs' h' ca sa → (∀ e0, mu = some e0 → ly_ev ν e0 = some z0) → sx_Fin cst cl tt P strs (ly_Post cst tt TH n0 ν0 h0 exs mods cc cs) fs' (D - g.1) f' h' ca sa := by
  intro n
  induction n with
  | zero => intro g ν f' fs' h' ca sa hr; cases hr
  | succ n ih =>
    intro g ν f' fs' h' ca sa hr inv hmu
    unfold ly_run at hr
    split at hr
    case h_2 => cases hr
    rename_i gs hgs
    obtain ⟨k, ⟨m, pc, l, st⟩, fs, Z, c, s⟩ := g
    unfold ly_step at hgs
    simp only at hgs
    cases hst : (fs.isEmpty && pts.any (fun p => Nat.beq p.1 pc)) with
    | true =>
      rw [hst] at hgs
      simp only [cond_true] at hgs
      rw [Bool.and_eq_true] at hst
      have efs := List.isEmpty_iff.mp hst.1
      subst efs
      cases hc : (Nat.beq m.1 mi && (Nat.ble c pcc && (Nat.ble s pcs && pts.any fun p => Nat.beq p.1 pc && ly_at TH n0 mu Z l st p.2))) with
      | false => rw [hc] at hgs; cases hgs
      | true =>
        simp only [Bool.and_eq_true, sx_beqn, sx_ble] at hc
        obtain ⟨c0, c1, c2, c3⟩ := hc
        obtain ⟨p, hp, hat⟩ := List.any_eq_true.mp c3
        rw [Bool.and_eq_true, sx_beqn] at hat
        obtain ⟨epc, hat⟩ := hat
        obtain ⟨ipre, iZ, ihy, ifr, ilen, iF, iFs, ik, ikD, ica, isa⟩ := inv
        simp only at iZ ik ica isa iFs
        obtain ⟨M, pc', l', st'⟩ := f'
        obtain ⟨hm, hpc, gL, gS⟩ := iF
        simp only at hpc gL gS hm
        subst hpc
        have eM : M = M0 := by
          have := hm.1
          rw [c0, hM0] at this
          cases this
          rfl
        subst eM
        match fs', iFs with
        | [], _ =>
          unfold ly_at at hat
          split at hat
          case h_2 => cases hat
          rename_i Z' θ hmt
          obtain ⟨ν1, hl1, gZ1, dfd1, ⟨θx, eθ⟩, -, gZt, gLt, gSt⟩ := ly_mt_ok ihy iZ gL gS (ly_id_dfd hd0 ipre) hmt
          split at hat
          case h_2 => cases hat
          rename_i e he
          obtain ⟨z, hz, hz'⟩ := ly_sb_ok dfd1 he
          cases hge : ly_ge Z'.2.1 Z'.2.2.1 e with
          | false => rw [hge] at hat; cases hat
          | true =>
            rw [hge] at hat
            simp only [cond_true] at hat
            have zp := ly_ge_ok gZ1.2.1 gZ1.2.2.1 hge hz
            have ek : D - k = D := by rw [ik]; rfl
            rw [ek, ← epc]
            refine hpt p hp (ly_th ν1 θ) l' st' h' ca sa z (fun k hk => ly_id_th eθ hd0 (ly_pre_le hd0 ipre hl1) hk) gZt ihy ifr ilen gLt gSt hz' zp (fun hsome => ?_) (by omega) (by omega)
            obtain ⟨e0, he0⟩ := Option.isSome_iff_exists.mp hsome
            rw [he0] at hat
            simp only at hat
            have := ly_ge_ok gZ1.2.1 gZ1.2.2.1 hat (ly_sub_ok (ly_add_ok (ly_ev_c ν1 (-1)) (ly_ev_le hl1 (hmu e0 he0))) hz)
            omega
    | false =>
      rw [hst] at hgs
      simp only [cond_false] at hgs
      rcases ly_step0_ok hd0 gC hT hstr hY hDe hzD inv hgs with h1 | ⟨g1, hg1, ν1, f1, fs1, h1, ca1, sa1, hl1, inv1, kk⟩
      · exact h1
      · exact kk (ih g1 ν1 f1 fs1 h1 ca1 sa1 (List.all_eq_true.mp hr g1 hg1) inv1 (fun e0 he0 => ly_ev_le hl1 (hmu e0 he0)))
theorem ly_run0_ok {M0 : am_M} (hM0 : PL[mi]? = some M0)
    (hd0 : ∀ k, k < n0 → ∃ z, ν0 k = some z) (gC : ly_gC K0 cst) (hT : sx_tok cl P PL T) (hstr : ∀ a, 8 ≤ a → a < 12 → a ∈ strs) (hY : ∀ d, d ≤ D → ly_Yok cst cl tt P strs TH Y d) (hDe : ∀ ν, (∀ k, k < n0 → ν k = ν0 k) → ly_ev ν De = some zD) (hzD : zD ≤ (D : Int) + 1)
    (hpt : ∀ p ∈ pts, ∀ (ν : ly_N) (l' : am_L) (st' : List Value) (h' : am_H) (ca sa : Nat) (z : Int), (∀ k, k < n0 → ν k = ν0 k) → ly_gZ cst ν (ly_PZ p.2.1) h' → ly_hy tt TH h' → ly_fr cst mods h0 h' → h0.length ≤ h'.length → ly_gL ν h'.length p.2.1.2.2.2.2.1 l' → ly_gS ν h'.length p.2.1.2.2.2.2.2.1 st' → ly_ev ν p.2.2 = some z → 0 ≤ z → (mu.isSome = true → z < z0) → ca ≤ pcc → sa ≤ pcs → sx_Fin cst cl tt P strs (ly_Post cst tt TH n0 ν0 h0 exs mods cc cs) [] D (M0, p.1, l', st') h' ca sa)
    {n : Nat} {g : ly_G} {ν : ly_N} {f' : sx_Cf} {fs' : List sx_Cf} {h' : am_H} {ca sa : Nat} (hr : ly_run0 T K0 tt cl TH Y mods De n0 pts exs mu mi cc cs pcc pcs n g = true) (inv : ly_Inv cst tt PL TH mods n0 ν0 h0 D g ν f' fs' h' ca sa) (hmu : ∀ e0, mu = some e0 → ly_ev ν e0 = some z0) :
    sx_Fin cst cl tt P strs (ly_Post cst tt TH n0 ν0 h0 exs mods cc cs) fs' (D - g.1) f' h' ca sa := by
  unfold ly_run0 at hr
  split at hr
  case h_2 => cases hr
  rename_i gs hgs
  rcases ly_step0_ok hd0 gC hT hstr hY hDe hzD inv hgs with h1 | ⟨g1, hg1, ν1, f1, fs1, h1, ca1, sa1, hl1, inv1, kk⟩
  · exact h1
  · exact kk (ly_run_ok hM0 hd0 gC hT hstr hY hDe hzD hpt n g1 ν1 f1 fs1 h1 ca1 sa1 (List.all_eq_true.mp hr g1 hg1) inv1 (fun e0 he0 => ly_ev_le hl1 (hmu e0 he0)))
/-- a method that is checked keeps its contract, if the others do at lesser depths -/
theorem ly_chk_ok {fuel : Nat} {y : ly_C} (gC : ly_gC K0 cst) (hT : sx_tok cl P PL T) (hstr : ∀ a, 8 ≤ a → a < 12 → a ∈ strs) (hc : ly_chk T K0 tt cl TH Y mi fuel pts y = true) (D : Nat) (hY : ∀ d, d < D → ly_Yok cst cl tt P strs TH Y d) : ly_Cok cst cl tt P strs TH mi y D := by
  obtain ⟨⟨qs, n, B, F, L, St, K⟩, exs, mods, De, cc, cs⟩ := y
  unfold ly_chk at hc
  split at hc
  case h_2 => cases hc
  rename_i m pe n' B' F' L' pst K' exs' mods' De' cc' cs' hm heq
  cases heq
  simp only [Bool.and_eq_true, sx_beqn] at hc
  obtain ⟨c0, c1, c2, c3, c4⟩ := hc
  intro ν av h zd M hM hsl hy gZ gL hzd hle
  simp only at gL hzd
  obtain ⟨M', hM', hmok, hml, -⟩ := hT mi m hm c0
  rw [hM] at hM'
  cases hM'
  have hPL : PL[mi]? = some M := by rw [← c0]; exact hmok.1
  obtain ⟨z1, hz1, z1p⟩ := ly_nn_ok gZ.2.1 c1
  rw [ly_add_ok (ly_ev_c ν (-1)) hzd] at hz1
  cases hz1
  obtain ⟨D, rfl⟩ : ∃ D', D = D' + 1 := ⟨D - 1, by omega⟩
  have hd0 : ∀ k, k < n → ∃ z, ν k = some z := fun k hk => by
    have := List.all_eq_true.mp c2 k (List.mem_range.mpr hk)
    obtain ⟨p, hp⟩ := Option.isSome_iff_exists.mp this
    obtain ⟨z, hz, -⟩ := ly_gB_get gZ.2.1 hp
    exact ⟨z, hz⟩
  have hDe : ∀ ν', (∀ k, k < n → ν' k = ν k) → ly_ev ν' De = some zd := fun ν' hp => ly_ev_le (fun k z hz => by
    have hlt : k < n := Nat.lt_of_not_le (fun hk => by
      have := gZ.1 k hk
      rw [hz] at this
      cases this)
    rw [hp k hlt]
    exact hz) hzd
  have hY' : ∀ d, d ≤ D → ly_Yok cst cl tt P strs TH Y d := fun d hd => hY d (by omega)
  have hzD : zd ≤ (D : Int) + 1 := by omega
  have pt : ∀ (N : Nat) (p : Nat × ly_P × ly_e), p ∈ pts → ∀ (ν1 : ly_N) (l' : am_L) (st' : List Value) (h' : am_H) (ca sa : Nat) (z : Int), (∀ k, k < n → ν1 k = ν k) → ly_gZ cst ν1 (ly_PZ p.2.1) h' → ly_hy tt TH h' → ly_fr cst mods h h' → h.length ≤ h'.length → ly_gL ν1 h'.length p.2.1.2.2.2.2.1 l' → ly_gS ν1 h'.length p.2.1.2.2.2.2.2.1 st' → ly_ev ν1 p.2.2 = some z → 0 ≤ z → z.toNat < N → ca ≤ 0 → sa ≤ 0 → sx_Fin cst cl tt P strs (ly_Post cst tt TH n ν h exs mods cc cs) [] D (M, p.1, l', st') h' ca sa := by
    intro N
    induction N with
    | zero => intro p _ ν1 l' st' h' ca sa z _ _ _ _ _ _ _ _ _ hz; omega
    | succ N ih =>
      intro p hp ν1 l' st' h' ca sa z ppre pZ phy pfr plen pL pS pz pz0 hzN hca hsa
      have hr := List.all_eq_true.mp c4 p hp
      obtain ⟨pc, ⟨qs1, n1, B1, F1, L1, S1, K1⟩, e⟩ := p
      simp only at hr pL pS pz
      have := ly_run0_ok (z0 := z) hPL hd0 gC hT hstr hY' hDe hzD (fun p' hp' ν2 l2 st2 h2 ca2 sa2 z2 a1 a2 a3 a4 a5 a6 a7 a8 a9 a10 a11 a12 => ih p' hp' ν2 l2 st2 h2 ca2 sa2 z2 a1 a2 a3 a4 a5 a6 a7 a8 a9 (by have := a10 rfl; omega) a11 a12) (ca := ca) (sa := sa) (f' := (M, pc, l', st')) (fs' := []) hr ⟨ppre, pZ, phy, pfr, plen, ⟨hmok, rfl, pL, pS⟩, trivial, rfl, Nat.zero_le _, hca, hsa⟩ (fun e0 he0 => by cases he0; exact pz)
      exact this
  have := ly_run0_ok (z0 := 0) hPL hd0 gC hT hstr hY' hDe hzD (fun p' hp' ν2 l2 st2 h2 ca2 sa2 z2 a1 a2 a3 a4 a5 a6 a7 a8 a9 a10 a11 a12 => pt (z2.toNat + 1) p' hp' ν2 l2 st2 h2 ca2 sa2 z2 a1 a2 a3 a4 a5 a6 a7 a8 a9 (by omega) a11 a12) (ca := 0) (sa := 0) (f' := (M, 0, lv_args 0 av, [])) (fs' := []) c3 ⟨fun _ _ => rfl, gZ, hy, ly_fr_rf h, Nat.le_refl _, ⟨hmok, rfl, gL, trivial⟩, trivial, rfl, Nat.zero_le _, Nat.le_refl _, Nat.le_refl _⟩ (fun e0 he0 => by cases he0)
  obtain ⟨n2, r, hgo, hpost⟩ := this
  refine ⟨r, Or.inr ⟨M, n2, hM, hsl, hgo⟩, ?_⟩
  obtain ⟨p1, p2, p3⟩ := hpost
  simp only [Nat.zero_add] at p1 p2
  exact ⟨p1, p2, p3⟩
/-- all contracts are kept, if each is checked or kept in another way -/
theorem ly_all (gC : ly_gC K0 cst) (hT : sx_tok cl P PL T) (hstr : ∀ a, 8 ≤ a → a < 12 → a ∈ strs)
    (hall : ∀ mi ys y, sx_ch 16 mi Y = some ys → y ∈ ys → (∃ fuel pts, ly_chk T K0 tt cl TH Y mi fuel pts y = true) ∨ ∀ D, (∀ d, d < D → ly_Yok cst cl tt P strs TH Y d) → ly_Cok cst cl tt P strs TH mi y D) :
    ∀ D, ly_Yok cst cl tt P strs TH Y D := by
  intro D
  induction D using Nat.strongRecOn with
  | ind D ih =>
    intro mi ys y h1 h2
    rcases hall mi ys y h1 h2 with ⟨fuel, pts, hc⟩ | hk
    · exact ly_chk_ok gC hT hstr hc D ih
    · exact hk D ih
end LY12
end
