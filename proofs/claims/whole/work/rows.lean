section
/-! an abstract machine: pair lists for locals, a list of cells for the heap, constants at the addresses below 16 -/
abbrev am_E : Type := (FieldType × vp_A) ⊕ (Nat × List Value)
abbrev am_H : Type := List am_E
/-- what a table says of an instruction -/
abbrev am_X : Type := Nat × Nat × Int
/-- constants: rows of ints at the addresses from 0 on, rows of bytes of the texts from 12 on (the texts themselves from 8 on), a reference or null that is only handed on -/
abbrev am_K : Type := List (List Int32) × List (List Int32) × Value
/-- what a static field holds, by its number -/
def am_sv (cst : am_K) (a : Nat) : Value := if a < 8 then .ref a else if a = 8 then .int 1 else cst.2.2
def am_lowv : Value → Bool
  | .ref k => decide (k < 16)
  | _ => true
/-- texts by class and entry, and links to methods of nest mates -/
abbrev am_SR : Type := List (String × Nat × String × Nat) × List (String × Nat × MethodName × String)
abbrev am_L : Type := List (Nat × Value)
abbrev am_F : Type := Nat × am_L × List Value × am_H
/-- a method: name, bytes, locals, return type, its instructions -/
abbrev am_M : Type := MethodName × ByteArray × Nat × Option FieldType × List (Nat × Instr × am_X)
def am_st1 (i : Nat) (v : Value) (l : am_L) : am_L := (i, v) :: l.filter (fun q => !(q.1 == i) && !(q.1 + 1 == i && q.2.category == 2))
def am_st2 (i : Nat) (v : Value) (l : am_L) : am_L := (i, v) :: l.filter (fun q => !(q.1 == i) && (!(q.1 == i + 1) && !(q.1 + 1 == i && q.2.category == 2)))
def am_ld (i : Nat) : am_L → Option Value
  | [] => none
  | q :: l => if q.1 = i then some q.2 else am_ld i l
def am_j (pc : Nat) (off : Int) : Option Nat := if 0 ≤ (pc : Int) + off then some ((pc : Int) + off).toNat else none
def am_br (b : Prop) [Decidable b] (pc : Nat) (off : Int) (l : am_L) (st : List Value) (h : am_H) : Option am_F :=
  match am_j pc off with
  | none => none
  | some t => if b then some (t, l, st, h) else some (pc + 3, l, st, h)
/-- what a field of a type takes as it is -/
def am_fit : FieldType → Value → Bool
  | .int, .int _ => true
  | .long, .long _ => true
  | .boolean, .int x => x == 0 || x == 1
  | .object _, .null => true
  | .object _, .ref _ => true
  | .array _, .null => true
  | .array _, .ref _ => true
  | _, _ => false
def am_len (X : am_X) : Instr → Nat
  | .bipush _ => 2
  | .iload _ => 2
  | .lload _ => 2
  | .aload _ => 2
  | .istore _ => 2
  | .lstore _ => 2
  | .astore _ => 2
  | .ldc _ => 2
  | .newarray _ => 2
  | .tableswitch .. => X.1
  | .sipush _ => 3
  | .ldc_w _ => 3
  | .ldc2_w _ => 3
  | .getfield _ => 3
  | .putfield _ => 3
  | .getstatic _ => 3
  | .invokevirtual _ => 3
  | .invokespecial _ => 3
  | .invokestatic _ => 3
  | .new _ => 3
  | .anewarray _ => 3
  | .goto _ => 3
  | .ifCond .. => 3
  | .if_icmp .. => 3
  | .ifnull _ => 3
  | .ifnonnull _ => 3
  | .iinc .. => 3
  | _ => 1
/-- the instructions that neither call nor end nor make a cell -/
def am_s (cst : am_K) (cl : List vw_C) (tt : List (List FieldType)) (I : Instr) (X : am_X) (pc : Nat) (l : am_L) (st : List Value) (h : am_H) : Option am_F :=
  match I with
  | .iconst n => some (pc + 1, l, .int (Int32.ofInt n) :: st, h)
  | .bipush n => some (pc + 2, l, .int (Int8.ofInt n).toInt32 :: st, h)
  | .sipush n => some (pc + 3, l, .int (Int16.ofInt n).toInt32 :: st, h)
  | .lconst n => some (pc + 1, l, .long (Int64.ofNat (n : Nat)) :: st, h)
  | .aconst_null => some (pc + 1, l, .null :: st, h)
  | .ldc _ => if X.1 = 0 then some (pc + 2, l, .int (Int32.ofInt X.2.2) :: st, h) else if X.2.1 < 16 then some (pc + 2, l, .ref X.2.1 :: st, h) else none
  | .ldc_w _ => if X.1 = 0 then some (pc + 3, l, .int (Int32.ofInt X.2.2) :: st, h) else if X.2.1 < 16 then some (pc + 3, l, .ref X.2.1 :: st, h) else none
  | .ldc2_w _ => some (pc + 3, l, .long (Int64.ofInt X.2.2) :: st, h)
  | .getstatic _ => if am_lowv (am_sv cst X.2.1) = true then some (pc + 3, l, am_sv cst X.2.1 :: st, h) else none
  | .iload i => match am_ld i l with
    | some (.int x) => some (pc + 2, l, .int x :: st, h)
    | _ => none
  | .iload_n i => match am_ld i l with
    | some (.int x) => some (pc + 1, l, .int x :: st, h)
    | _ => none
  | .lload i => match am_ld i l with
    | some (.long x) => some (pc + 2, l, .long x :: st, h)
    | _ => none
  | .lload_n i => match am_ld i l with
    | some (.long x) => some (pc + 1, l, .long x :: st, h)
    | _ => none
  | .aload i => match am_ld i l with
    | some (.ref x) => some (pc + 2, l, .ref x :: st, h)
    | some .null => some (pc + 2, l, .null :: st, h)
    | _ => none
  | .aload_n i => match am_ld i l with
    | some (.ref x) => some (pc + 1, l, .ref x :: st, h)
    | some .null => some (pc + 1, l, .null :: st, h)
    | _ => none
  | .istore i => match st with
    | .int x :: st => some (pc + 2, am_st1 i (.int x) l, st, h)
    | _ => none
  | .istore_n i => match st with
    | .int x :: st => some (pc + 1, am_st1 i (.int x) l, st, h)
    | _ => none
  | .lstore i => match st with
    | .long x :: st => some (pc + 2, am_st2 i (.long x) l, st, h)
    | _ => none
  | .lstore_n i => match st with
    | .long x :: st => some (pc + 1, am_st2 i (.long x) l, st, h)
    | _ => none
  | .astore i => match st with
    | .ref x :: st => some (pc + 2, am_st1 i (.ref x) l, st, h)
    | .null :: st => some (pc + 2, am_st1 i .null l, st, h)
    | _ => none
  | .astore_n i => match st with
    | .ref x :: st => some (pc + 1, am_st1 i (.ref x) l, st, h)
    | .null :: st => some (pc + 1, am_st1 i .null l, st, h)
    | _ => none
  | .iinc i n => match am_ld i l with
    | some (.int x) => some (pc + 3, am_st1 i (.int (x + Int32.ofInt n)) l, st, h)
    | _ => none
  | .iadd => match st with
    | .int y :: .int x :: st => some (pc + 1, l, .int (x + y) :: st, h)
    | _ => none
  | .isub => match st with
    | .int y :: .int x :: st => some (pc + 1, l, .int (x - y) :: st, h)
    | _ => none
  | .imul => match st with
    | .int y :: .int x :: st => some (pc + 1, l, .int (x * y) :: st, h)
    | _ => none
  | .idiv => match st with
    | .int y :: .int x :: st => if y = 0 then none else some (pc + 1, l, .int (x / y) :: st, h)
    | _ => none
  | .irem => match st with
    | .int y :: .int x :: st => if y = 0 then none else some (pc + 1, l, .int (x - x / y * y) :: st, h)
    | _ => none
  | .iand => match st with
    | .int y :: .int x :: st => some (pc + 1, l, .int (x &&& y) :: st, h)
    | _ => none
  | .ior => match st with
    | .int y :: .int x :: st => some (pc + 1, l, .int (x ||| y) :: st, h)
    | _ => none
  | .ixor => match st with
    | .int y :: .int x :: st => some (pc + 1, l, .int (x ^^^ y) :: st, h)
    | _ => none
  | .ishl => match st with
    | .int y :: .int x :: st => some (pc + 1, l, .int (x <<< (y &&& 31)) :: st, h)
    | _ => none
  | .ishr => match st with
    | .int y :: .int x :: st => some (pc + 1, l, .int (x >>> (y &&& 31)) :: st, h)
    | _ => none
  | .iushr => match st with
    | .int y :: .int x :: st => some (pc + 1, l, .int ((x.toUInt32 >>> (y.toUInt32 &&& Int32.toUInt32 31)).toInt32) :: st, h)
    | _ => none
  | .ladd => match st with
    | .long y :: .long x :: st => some (pc + 1, l, .long (x + y) :: st, h)
    | _ => none
  | .lsub => match st with
    | .long y :: .long x :: st => some (pc + 1, l, .long (x - y) :: st, h)
    | _ => none
  | .lmul => match st with
    | .long y :: .long x :: st => some (pc + 1, l, .long (x * y) :: st, h)
    | _ => none
  | .lcmp => match st with
    | .long y :: .long x :: st => some (pc + 1, l, .int (lg_cmp x y) :: st, h)
    | _ => none
  | .i2l => match st with
    | .int x :: st => some (pc + 1, l, .long x.toInt64 :: st, h)
    | _ => none
  | .l2i => match st with
    | .long x :: st => some (pc + 1, l, .int x.toInt32 :: st, h)
    | _ => none
  | .i2c => match st with
    | .int x :: st => some (pc + 1, l, .int (x.toUInt32 % 65536).toInt32 :: st, h)
    | _ => none
  | .i2b => match st with
    | .int x :: st => some (pc + 1, l, .int x.toInt8.toInt32 :: st, h)
    | _ => none
  | .pop => match st with
    | v :: st => if v.category = 1 then some (pc + 1, l, st, h) else none
    | _ => none
  | .dup => match st with
    | v :: st => if v.category = 1 then some (pc + 1, l, v :: v :: st, h) else none
    | _ => none
  | .dup2 => match st with
    | v :: w :: st => if v.category = 1 ∧ w.category = 1 then some (pc + 1, l, v :: w :: v :: w :: st, h) else none
    | _ => none
  | .goto off => match am_j pc off with
    | some t => some (t, l, st, h)
    | none => none
  | .ifCond c off => match st with
    | .int x :: st => match c with
      | .eq => am_br (x = 0) pc off l st h
      | .ne => am_br (¬ x = 0) pc off l st h
      | .lt => am_br (x < 0) pc off l st h
      | .ge => am_br (0 ≤ x) pc off l st h
      | .gt => am_br (0 < x) pc off l st h
      | .le => am_br (x ≤ 0) pc off l st h
    | _ => none
  | .if_icmp c off => match st with
    | .int y :: .int x :: st => match c with
      | .eq => am_br (x = y) pc off l st h
      | .ne => am_br (¬ x = y) pc off l st h
      | .lt => am_br (x < y) pc off l st h
      | .ge => am_br (y ≤ x) pc off l st h
      | .gt => am_br (y < x) pc off l st h
      | .le => am_br (x ≤ y) pc off l st h
    | _ => none
  | .ifnull off => match st with
    | .ref _ :: st => some (pc + 3, l, st, h)
    | .null :: st => match am_j pc off with
      | some t => some (t, l, st, h)
      | none => none
    | _ => none
  | .ifnonnull off => match st with
    | .null :: st => some (pc + 3, l, st, h)
    | .ref _ :: st => match am_j pc off with
      | some t => some (t, l, st, h)
      | none => none
    | _ => none
  | .tableswitch dflt lo hi offs => match st with
    | .int x :: st => if x.toInt < lo ∨ hi < x.toInt then (match am_j pc dflt with
        | some t => some (t, l, st, h)
        | none => none) else (match offs[(x.toInt - lo).toNat]? with
        | some off => (match am_j pc off with
          | some t => some (t, l, st, h)
          | none => none)
        | none => none)
    | _ => none
  | .getfield _ => match st with
    | .ref a :: st => if a < 16 then (if 8 ≤ a ∧ a < 12 ∧ a - 8 < cst.2.1.length then (if X.2.2 = 1 then some (pc + 3, l, .ref (a + 4) :: st, h) else if X.2.2 = 2 then some (pc + 3, l, .int 0 :: st, h) else none) else none) else match h[a - 16]? with
      | some (.inr (ci, fs)) => if ci = X.1 ∧ X.2.2 = 0 then (match fs[X.2.1]? with
        | some v => some (pc + 3, l, v :: st, h)
        | none => none) else none
      | _ => none
    | _ => none
  | .putfield _ => match st with
    | v :: .ref a :: st => if a < 16 then none else match h[a - 16]? with
      | some (.inr (ci, fs)) => if ci = X.1 ∧ X.2.1 < fs.length then (match (tt.getD ci []).getD X.2.1 .char with
        | ty => if am_fit ty v = true then some (pc + 3, l, st, h.set (a - 16) (.inr (ci, fs.set X.2.1 v))) else none) else none
      | _ => none
    | _ => none
  | .arraylength => match st with
    | .ref a :: st => if a < 16 then (match (if 12 ≤ a then cst.2.1[a - 12]? else cst.1[a]?) with
      | some L => some (pc + 1, l, .int (Int32.ofNat L.length) :: st, h)
      | none => none) else match h[a - 16]? with
      | some (.inl (_, n, _)) => some (pc + 1, l, .int (Int32.ofNat n) :: st, h)
      | _ => none
    | _ => none
  | .iaload => match st with
    | .int i :: .ref a :: st => if a < 16 then (match cst.1[a]? with
      | some L => if i < 0 ∨ L.length ≤ i.toNatClampNeg then none else some (pc + 1, l, .int (L.getD i.toNatClampNeg 0) :: st, h)
      | none => none) else match h[a - 16]? with
      | some (.inl (.int, n, .inl f)) => if i < 0 ∨ n ≤ i.toNatClampNeg then none else some (pc + 1, l, .int (f i.toNatClampNeg) :: st, h)
      | _ => none
    | _ => none
  | .laload => match st with
    | .int i :: .ref a :: st => if a < 16 then none else match h[a - 16]? with
      | some (.inl (.long, n, .inr (.inl f))) => if i < 0 ∨ n ≤ i.toNatClampNeg then none else some (pc + 1, l, .long (f i.toNatClampNeg) :: st, h)
      | _ => none
    | _ => none
  | .baload => match st with
    | .int i :: .ref a :: st => if a < 16 then (if 12 ≤ a then (match cst.2.1[a - 12]? with
      | some L => if i < 0 ∨ L.length ≤ i.toNatClampNeg then none else some (pc + 1, l, .int (L.getD i.toNatClampNeg 0) :: st, h)
      | none => none) else none) else match h[a - 16]? with
      | some (.inl (.byte, n, .inl f)) => if i < 0 ∨ n ≤ i.toNatClampNeg then none else some (pc + 1, l, .int (f i.toNatClampNeg) :: st, h)
      | some (.inl (.boolean, n, .inl f)) => if i < 0 ∨ n ≤ i.toNatClampNeg then none else some (pc + 1, l, .int (f i.toNatClampNeg) :: st, h)
      | _ => none
    | _ => none
  | .aaload => match st with
    | .int i :: .ref a :: st => if a < 16 then none else match h[a - 16]? with
      | some (.inl (.object _, n, .inr (.inr (.inr (.inr f))))) => if i < 0 ∨ n ≤ i.toNatClampNeg then none else some (pc + 1, l, va_rf (f i.toNatClampNeg) :: st, h)
      | _ => none
    | _ => none
  | .iastore => match st with
    | .int x :: .int i :: .ref a :: st => if a < 16 then none else match h[a - 16]? with
      | some (.inl (.int, n, .inl f)) => if i < 0 ∨ n ≤ i.toNatClampNeg then none else some (pc + 1, l, st, h.set (a - 16) (.inl (.int, n, .inl (upd f i.toNatClampNeg x))))
      | _ => none
    | _ => none
  | .lastore => match st with
    | .long x :: .int i :: .ref a :: st => if a < 16 then none else match h[a - 16]? with
      | some (.inl (.long, n, .inr (.inl f))) => if i < 0 ∨ n ≤ i.toNatClampNeg then none else some (pc + 1, l, st, h.set (a - 16) (.inl (.long, n, .inr (.inl (vp_updL f i.toNatClampNeg x)))))
      | _ => none
    | _ => none
  | .bastore => match st with
    | .int x :: .int i :: .ref a :: st => if a < 16 then none else match h[a - 16]? with
      | some (.inl (.byte, n, .inl f)) => if i < 0 ∨ n ≤ i.toNatClampNeg then none else some (pc + 1, l, st, h.set (a - 16) (.inl (.byte, n, .inl (upd f i.toNatClampNeg (vp_nar .byte x)))))
      | some (.inl (.boolean, n, .inl f)) => if i < 0 ∨ n ≤ i.toNatClampNeg then none else some (pc + 1, l, st, h.set (a - 16) (.inl (.boolean, n, .inl (upd f i.toNatClampNeg (vp_nar .boolean x)))))
      | _ => none
    | _ => none
  | .aastore => match st with
    | .ref v :: .int i :: .ref a :: st => if a < 16 then none else match h[a - 16]? with
      | some (.inl (.object C, n, .inr (.inr (.inr (.inr f))))) => if i < 0 ∨ n ≤ i.toNatClampNeg then none else (if v < 16 then none else match h[v - 16]? with
        | some (.inr (ci, _)) => (match cl[ci]? with
          | some r => if C = r.1 then some (pc + 1, l, st, h.set (a - 16) (.inl (.object C, n, .inr (.inr (.inr (.inr (va_up f i.toNatClampNeg (some v)))))))) else none
          | none => none)
        | _ => none)
      | _ => none
    | _ => none
  | _ => none
end
section
/-! the abstract machine beside the Java machine: addresses, values, cells, what a table must say -/
def am_ad (kd : Nat → Nat) (base k : Nat) : Nat := if k < 16 then kd k else base + (k - 16)
def am_v (f : Nat → Nat) : Value → Value
  | .ref k => .ref (f k)
  | v => v
def am_e (f : Nat → Nat) (ca : FieldType → ClassId) : am_E → va_E
  | .inl (ty, n, .inl g) => .inl (ca ty, n, .inl g)
  | .inl (ty, n, .inr (.inl g)) => .inl (ca ty, n, .inr (.inl g))
  | .inl (ty, n, .inr (.inr (.inl g))) => .inl (ca ty, n, .inr (.inr (.inl g)))
  | .inl (ty, n, .inr (.inr (.inr (.inl g)))) => .inl (ca ty, n, .inr (.inr (.inr (.inl g))))
  | .inl (ty, n, .inr (.inr (.inr (.inr g)))) => .inl (ca ty, n, .inr (.inr (.inr (.inr (fun j => (g j).map f)))))
  | .inr (ci, fs) => .inr (ci, fs.map (am_v f))
def am_R (D : va_G) (cl : List vw_C) (tys : List FieldType) (f : Nat → Nat) (ca : FieldType → ClassId) (base : Nat) (h : am_H) (H : Heap) : Prop :=
  (∀ (i : Nat) (e : am_E), h[i]? = some e → va_at D cl (base + i, am_e f ca e) H) ∧ H.size = base + h.length ∧ ∀ (i : Nat) (ty : FieldType) (a : vp_A), h[i]? = some (.inl (ty, a)) → ty ∈ tys
def am_lc (f : Nat → Nat) (l : am_L) : am_L := l.map (fun q => (q.1, am_v f q.2))
theorem am_v_cat (f : Nat → Nat) (v : Value) : (am_v f v).category = v.category := by cases v <;> rfl
theorem am_ld_mem {i : Nat} {v : Value} : ∀ {l : am_L}, am_ld i l = some v → (i, v) ∈ l
  | [], h => by simp [am_ld] at h
  | q :: l, h => by
    unfold am_ld at h
    by_cases hq : q.1 = i
    · rw [if_pos hq] at h
      cases h
      subst hq
      exact List.mem_cons_self
    · rw [if_neg hq] at h
      exact List.mem_cons_of_mem _ (am_ld_mem h)
theorem am_ld_at {ls : Array Slot} {nL : Nat} {f : Nat → Nat} {l : am_L} {i : Nat} {v : Value} (hl : lv_has ls nL (am_lc f l)) (h : am_ld i l = some v) : ls[i]? = some (.val (am_v f v)) :=
  hl.2.2 (i, am_v f v) (List.mem_map.mpr ⟨(i, v), am_ld_mem h, rfl⟩)
theorem am_st1_lc (f : Nat → Nat) (i : Nat) (v : Value) (l : am_L) : am_lc f (am_st1 i v l) = (i, am_v f v) :: (am_lc f l).filter (fun q => !(q.1 == i) && !(q.1 + 1 == i && q.2.category == 2)) := by
  unfold am_st1 am_lc
  rw [List.map_cons, List.filter_map]
  congr 2
  apply List.filter_congr
  intro q _
  simp only [Function.comp, am_v_cat]
theorem am_st2_lc (f : Nat → Nat) (i : Nat) (v : Value) (l : am_L) : am_lc f (am_st2 i v l) = (i, am_v f v) :: (am_lc f l).filter (fun q => !(q.1 == i) && (!(q.1 == i + 1) && !(q.1 + 1 == i && q.2.category == 2))) := by
  unfold am_st2 am_lc
  rw [List.map_cons, List.filter_map]
  congr 2
  apply List.filter_congr
  intro q _
  simp only [Function.comp, am_v_cat]
theorem am_j_some {pc t : Nat} {off : Int} (h : am_j pc off = some t) : (pc : Int) + off = (t : Int) := by
  unfold am_j at h
  by_cases hp : 0 ≤ (pc : Int) + off
  · rw [if_pos hp] at h
    cases h
    omega
  · rw [if_neg hp] at h
    cases h
theorem am_br_some {b : Prop} [Decidable b] {pc : Nat} {off : Int} {l : am_L} {st : List Value} {h : am_H} {r : am_F} (hs : am_br b pc off l st h = some r) :
    ∃ t : Nat, (pc : Int) + off = (t : Int) ∧ ((b ∧ r = (t, l, st, h)) ∨ (¬ b ∧ r = (pc + 3, l, st, h))) := by
  unfold am_br at hs
  cases hj : am_j pc off with
  | none => rw [hj] at hs; cases hs
  | some t =>
    rw [hj] at hs
    refine ⟨t, am_j_some hj, ?_⟩
    by_cases hb : b
    · simp only [if_pos hb] at hs
      cases hs
      exact Or.inl ⟨hb, rfl⟩
    · simp only [if_neg hb] at hs
      cases hs
      exact Or.inr ⟨hb, rfl⟩
section AM0
variable {D : va_G} {cl : List vw_C} {tys : List FieldType} {kd : Nat → Nat} {ca : FieldType → ClassId} {base : Nat} {h : am_H} {H H1 : Heap} {a : Nat} {e e' : am_E}
theorem am_ad_hi (ha : ¬ a < 16) : am_ad kd base a = base + (a - 16) := by unfold am_ad; rw [if_neg ha]
theorem am_R.at (hR : am_R D cl tys (am_ad kd base) ca base h H) (ha : ¬ a < 16) (he : h[a - 16]? = some e) : va_at D cl (am_ad kd base a, am_e (am_ad kd base) ca e) H := by
  rw [am_ad_hi ha]; exact hR.1 _ _ he
theorem am_R.P (hR : am_R D cl tys (am_ad kd base) ca base h H) (ha : ¬ a < 16) (he : h[a - 16]? = some e) : va_P D cl [(am_ad kd base a, am_e (am_ad kd base) ca e)] H := by
  intro k q hk
  have hz : k < 1 := (List.getElem?_eq_some_iff.mp hk).1
  rw [show k = 0 by omega] at hk
  cases hk
  exact hR.at ha he
theorem am_R.set (hR : am_R D cl tys (am_ad kd base) ca base h H) (ha : ¬ a < 16) (he : h[a - 16]? = some e) (hs : H1.size = H.size) (ho : ∀ q, q ≠ am_ad kd base a → H1[q]? = H[q]?)
    (h1 : va_at D cl (am_ad kd base a, am_e (am_ad kd base) ca e') H1) (ht : ∀ ty x, e' = .inl (ty, x) → ty ∈ tys) : am_R D cl tys (am_ad kd base) ca base (h.set (a - 16) e') H1 := by
  have hl : a - 16 < h.length := (List.getElem?_eq_some_iff.mp he).1
  rw [am_ad_hi ha] at ho h1
  refine ⟨fun i x hx => ?_, by rw [hs, List.length_set]; exact hR.2.1, fun i ty x hx => ?_⟩
  · by_cases hi : i = a - 16
    · subst hi
      rw [List.getElem?_set_self hl] at hx
      cases hx
      exact h1
    · rw [List.getElem?_set_ne (Ne.symm hi)] at hx
      exact (hR.1 i x hx).kept (ho _ (by show base + i ≠ _; omega))
  · by_cases hi : i = a - 16
    · subst hi
      rw [List.getElem?_set_self hl] at hx
      cases hx
      exact ht _ _ rfl
    · rw [List.getElem?_set_ne (Ne.symm hi)] at hx
      exact hR.2.2 i ty x hx
end AM0
/-- the tables of the classes: their words are there, their fields' types and names as the words have them -/
def am_clok (cl : List vw_C) (tt : List (List FieldType)) (Ts : List Cond) : Prop :=
  ∀ (ci : Nat) (r : vw_C), cl[ci]? = some r → (∀ w ∈ u_ws r.1 r.2.1 r.2.2, w ∈ Ts) ∧ (∀ k, k < r.2.2 → parseFieldDescriptor (r.2.1 k).2.2.1 = some ((tt.getD ci []).getD k .char)) ∧ (∀ a, a < r.2.2 → ∀ b, b < r.2.2 → a ≠ b → (r.2.1 a).2.1 ≠ (r.2.1 b).2.1)
/-- what a table must say of an instruction of a method of a class -/
def am_ok (cl : List vw_C) (Ts : List Cond) (sn : List (Nat × String × String × String)) (sr : am_SR) (own : String) (nL : Nat) (init : Bool) (X : am_X) : Instr → Prop
  | .ldc i => (X.1 = 0 → Cond.constant own i (Int32.ofInt X.2.2) ∈ Ts) ∧ (¬ X.1 = 0 → ∃ tx, (own, i, tx, X.2.1) ∈ sr.1)
  | .ldc_w i => (X.1 = 0 → Cond.constant own i (Int32.ofInt X.2.2) ∈ Ts) ∧ (¬ X.1 = 0 → ∃ tx, (own, i, tx, X.2.1) ∈ sr.1)
  | .ldc2_w i => Cond.constantLong own i (Int64.ofInt X.2.2) ∈ Ts
  | .getstatic i => ∃ C n d, (X.2.1, C, n, d) ∈ sn ∧ (Cond.fieldLink own i C n d ∈ Ts ∨ ∃ host, Cond.fieldLinkNest own i C n d host ∈ Ts)
  | .getfield i => (X.2.2 = 1 → Cond.fieldLink own i "java/lang/String" "value" "[B" ∈ Ts) ∧ (X.2.2 = 2 → Cond.fieldLink own i "java/lang/String" "coder" "B" ∈ Ts) ∧ (X.2.2 = 0 → ∃ r : vw_C, cl[X.1]? = some r ∧ X.2.1 < r.2.2 ∧ (Cond.fieldLink own i (r.2.1 X.2.1).1 (r.2.1 X.2.1).2.1 (r.2.1 X.2.1).2.2.1 ∈ Ts ∨ ∃ host, Cond.fieldLinkNest own i (r.2.1 X.2.1).1 (r.2.1 X.2.1).2.1 (r.2.1 X.2.1).2.2.1 host ∈ Ts))
  | .putfield i => ∃ r : vw_C, cl[X.1]? = some r ∧ X.2.1 < r.2.2 ∧ ((Cond.fieldLink own i (r.2.1 X.2.1).1 (r.2.1 X.2.1).2.1 (r.2.1 X.2.1).2.2.1 ∈ Ts ∧ ((r.2.1 X.2.1).2.2.2 = false ∨ ((r.2.1 X.2.1).2.2.2 = true ∧ init = true ∧ (r.2.1 X.2.1).1 = own))) ∨ ((r.2.1 X.2.1).2.2.2 = false ∧ ∃ host, Cond.fieldLinkNest own i (r.2.1 X.2.1).1 (r.2.1 X.2.1).2.1 (r.2.1 X.2.1).2.2.1 host ∈ Ts))
  | .istore i => i < nL
  | .istore_n i => (i : Nat) < nL
  | .astore i => i < nL
  | .astore_n i => (i : Nat) < nL
  | .lstore i => i + 1 < nL
  | .lstore_n i => (i : Nat) + 1 < nL
  | .iinc i _ => i < nL
  | _ => True
end
section
def am_isP (X : am_X) : Instr → Prop
  | .ldc _ => X.1 = 0
  | .ldc_w _ => X.1 = 0
  | .getstatic _ => False
  | .getfield _ => False
  | .putfield _ => False
  | .arraylength => False
  | .iaload => False
  | .laload => False
  | .baload => False
  | .aaload => False
  | .iastore => False
  | .lastore => False
  | .bastore => False
  | .aastore => False
  | _ => True
section AM1
variable {p : Program} {l0 : Launch} {e : Env} {R : Room} {s : State} {m : MethodId} {args : Array Value} {below : List Frame} {meth : Method} {c : Code} {H : Heap} {locs : List Loc} {cells slots : Nat} {Q : State → Prop}
variable {cc : ByteArray} {pc pc' : Nat} {ls : Array Slot} {f : Nat → Nat} {l l' : am_L} {st st' : List Value} {h h' : am_H} {nL : Nat}
set_option maxHeartbeats 4000000 in
/-- numbers, locals, stack, jumps: nothing of the heap -/
theorem am_pure {cst : am_K} {cl : List vw_C} {tt : List (List FieldType)} {Ts : List Cond} {sn : List (Nat × String × String × String)} {sr : am_SR} {own : String} {init : Bool} {X : am_X} {I : Instr}
    (hx : p.tables.exec = Jvm.exec) (hb : c.code = cc) (hts : ∀ w ∈ Ts, w.before args s = true) (hown : s.vm.findClass own = some m.cls) (hd : decode cc pc = .ok (I, am_len X I)) (hok : am_ok cl Ts sn sr own nL init X I)
    (hl : lv_has ls nL (am_lc f l)) (hs : am_s cst cl tt I X pc l st h = some (pc', l', st', h'))
    (hI : am_isP X I)
    (k : h' = h → ∀ ls' : Array Slot, lv_has ls' nL (am_lc f l') → W p l0 e R s m args below meth c H locs cells slots Q (F0 m pc' ls' (st'.map (am_v f)))) :
    W p l0 e R s m args below meth c H locs cells slots Q (F0 m pc ls (st.map (am_v f))) := by
  cases I with
  | iconst n => simp only [am_s, Option.some.injEq, Prod.mk.injEq] at hs; obtain ⟨rfl, rfl, rfl, rfl⟩ := hs; exact lv_iconst hx hb hd rfl (k rfl _ hl)
  | bipush n => simp only [am_s, Option.some.injEq, Prod.mk.injEq] at hs; obtain ⟨rfl, rfl, rfl, rfl⟩ := hs; exact lv_bipush hx hb hd rfl (k rfl _ hl)
  | sipush n => simp only [am_s, Option.some.injEq, Prod.mk.injEq] at hs; obtain ⟨rfl, rfl, rfl, rfl⟩ := hs; exact lv_sipush hx hb hd rfl (k rfl _ hl)
  | lconst n => simp only [am_s, Option.some.injEq, Prod.mk.injEq] at hs; obtain ⟨rfl, rfl, rfl, rfl⟩ := hs; exact lv_lconst hx hb hd rfl (k rfl _ hl)
  | aconst_null => simp only [am_s, Option.some.injEq, Prod.mk.injEq] at hs; obtain ⟨rfl, rfl, rfl, rfl⟩ := hs; exact lv_null hx hb hd (k rfl _ hl)
  | ldc i =>
    have h0 : X.1 = 0 := hI
    simp only [am_s, if_pos h0, Option.some.injEq, Prod.mk.injEq] at hs; obtain ⟨rfl, rfl, rfl, rfl⟩ := hs
    exact lv_ldc hx hb hown (hts _ (hok.1 h0)) hd (k rfl _ hl)
  | ldc_w i =>
    have h0 : X.1 = 0 := hI
    simp only [am_s, if_pos h0, Option.some.injEq, Prod.mk.injEq] at hs; obtain ⟨rfl, rfl, rfl, rfl⟩ := hs
    exact lv_ldcw hx hb hown (hts _ (hok.1 h0)) hd (k rfl _ hl)
  | ldc2_w i => simp only [am_s, Option.some.injEq, Prod.mk.injEq] at hs; obtain ⟨rfl, rfl, rfl, rfl⟩ := hs; exact lv_ldc2 hx hb hown (hts _ hok) hd (k rfl _ hl)
  | iload i =>
    simp only [am_s] at hs
    split at hs
    · rename_i x hq
      simp only [Option.some.injEq, Prod.mk.injEq] at hs; obtain ⟨rfl, rfl, rfl, rfl⟩ := hs
      exact lv_iload hx hb hd (am_ld_at hl hq) (k rfl _ hl)
    · cases hs
  | iload_n i =>
    simp only [am_s] at hs
    split at hs
    · rename_i x hq
      simp only [Option.some.injEq, Prod.mk.injEq] at hs; obtain ⟨rfl, rfl, rfl, rfl⟩ := hs
      exact lv_iload_n hx hb hd rfl (am_ld_at hl hq) (k rfl _ hl)
    · cases hs
  | lload i =>
    simp only [am_s] at hs
    split at hs
    · rename_i x hq
      simp only [Option.some.injEq, Prod.mk.injEq] at hs; obtain ⟨rfl, rfl, rfl, rfl⟩ := hs
      exact lv_lload hx hb hd (am_ld_at hl hq) (k rfl _ hl)
    · cases hs
  | lload_n i =>
    simp only [am_s] at hs
    split at hs
    · rename_i x hq
      simp only [Option.some.injEq, Prod.mk.injEq] at hs; obtain ⟨rfl, rfl, rfl, rfl⟩ := hs
      exact lv_lload_n hx hb hd rfl (am_ld_at hl hq) (k rfl _ hl)
    · cases hs
  | aload i =>
    simp only [am_s] at hs
    split at hs
    · rename_i x hq
      simp only [Option.some.injEq, Prod.mk.injEq] at hs; obtain ⟨rfl, rfl, rfl, rfl⟩ := hs
      exact lv_aload hx hb hd (am_ld_at hl hq) (k rfl _ hl)
    · rename_i hq
      simp only [Option.some.injEq, Prod.mk.injEq] at hs; obtain ⟨rfl, rfl, rfl, rfl⟩ := hs
      exact lv_aloadN hx hb hd (am_ld_at hl hq) (k rfl _ hl)
    · cases hs
  | aload_n i =>
    simp only [am_s] at hs
    split at hs
    · rename_i x hq
      simp only [Option.some.injEq, Prod.mk.injEq] at hs; obtain ⟨rfl, rfl, rfl, rfl⟩ := hs
      exact lv_aload_n hx hb hd rfl (am_ld_at hl hq) (k rfl _ hl)
    · rename_i hq
      simp only [Option.some.injEq, Prod.mk.injEq] at hs; obtain ⟨rfl, rfl, rfl, rfl⟩ := hs
      exact lv_aload_nN hx hb hd rfl (am_ld_at hl hq) (k rfl _ hl)
    · cases hs
  | istore i =>
    simp only [am_s] at hs
    split at hs
    · simp only [Option.some.injEq, Prod.mk.injEq] at hs; obtain ⟨rfl, rfl, rfl, rfl⟩ := hs
      exact lv_istore hx hb hd hl hok (am_st1_lc f _ (Value.int _) _).symm (fun ls' hl' => k rfl ls' hl')
    · cases hs
  | istore_n i =>
    simp only [am_s] at hs
    split at hs
    · simp only [Option.some.injEq, Prod.mk.injEq] at hs; obtain ⟨rfl, rfl, rfl, rfl⟩ := hs
      exact lv_istore_n hx hb hd rfl hl hok (am_st1_lc f _ (Value.int _) _).symm (fun ls' hl' => k rfl ls' hl')
    · cases hs
  | lstore i =>
    simp only [am_s] at hs
    split at hs
    · simp only [Option.some.injEq, Prod.mk.injEq] at hs; obtain ⟨rfl, rfl, rfl, rfl⟩ := hs
      exact lv_lstore hx hb hd hl hok (am_st2_lc f _ (Value.long _) _).symm (fun ls' hl' => k rfl ls' hl')
    · cases hs
  | lstore_n i =>
    simp only [am_s] at hs
    split at hs
    · simp only [Option.some.injEq, Prod.mk.injEq] at hs; obtain ⟨rfl, rfl, rfl, rfl⟩ := hs
      exact lv_lstore_n hx hb hd rfl hl hok (am_st2_lc f _ (Value.long _) _).symm (fun ls' hl' => k rfl ls' hl')
    · cases hs
  | astore i =>
    simp only [am_s] at hs
    split at hs
    · simp only [Option.some.injEq, Prod.mk.injEq] at hs; obtain ⟨rfl, rfl, rfl, rfl⟩ := hs
      exact lv_astore hx hb hd hl hok (am_st1_lc f _ (Value.ref _) _).symm (fun ls' hl' => k rfl ls' hl')
    · simp only [Option.some.injEq, Prod.mk.injEq] at hs; obtain ⟨rfl, rfl, rfl, rfl⟩ := hs
      exact lv_astoreN hx hb hd hl hok (am_st1_lc f _ Value.null _).symm (fun ls' hl' => k rfl ls' hl')
    · cases hs
  | astore_n i =>
    simp only [am_s] at hs
    split at hs
    · simp only [Option.some.injEq, Prod.mk.injEq] at hs; obtain ⟨rfl, rfl, rfl, rfl⟩ := hs
      exact lv_astore_n hx hb hd rfl hl hok (am_st1_lc f _ (Value.ref _) _).symm (fun ls' hl' => k rfl ls' hl')
    · simp only [Option.some.injEq, Prod.mk.injEq] at hs; obtain ⟨rfl, rfl, rfl, rfl⟩ := hs
      exact lv_astore_nN hx hb hd rfl hl hok (am_st1_lc f _ Value.null _).symm (fun ls' hl' => k rfl ls' hl')
    · cases hs
  | iinc i n =>
    simp only [am_s] at hs
    split at hs
    · rename_i x hq
      simp only [Option.some.injEq, Prod.mk.injEq] at hs; obtain ⟨rfl, rfl, rfl, rfl⟩ := hs
      obtain ⟨j, hj⟩ := List.getElem?_of_mem (List.mem_map.mpr ⟨(i, Value.int x), am_ld_mem hq, rfl⟩ : ((i, am_v f (Value.int x)) : Nat × Value) ∈ am_lc f l)
      exact lv_iinc hx hb hd hl hj rfl hok (am_st1_lc f _ (Value.int _) _).symm (fun ls' hl' => k rfl ls' hl')
    · cases hs
  | iadd =>
    simp only [am_s] at hs
    split at hs
    · simp only [Option.some.injEq, Prod.mk.injEq] at hs; obtain ⟨rfl, rfl, rfl, rfl⟩ := hs; exact lv_iadd hx hb hd (k rfl _ hl)
    · cases hs
  | isub =>
    simp only [am_s] at hs
    split at hs
    · simp only [Option.some.injEq, Prod.mk.injEq] at hs; obtain ⟨rfl, rfl, rfl, rfl⟩ := hs; exact lv_isub hx hb hd (k rfl _ hl)
    · cases hs
  | imul =>
    simp only [am_s] at hs
    split at hs
    · simp only [Option.some.injEq, Prod.mk.injEq] at hs; obtain ⟨rfl, rfl, rfl, rfl⟩ := hs; exact lv_imul hx hb hd (k rfl _ hl)
    · cases hs
  | iand =>
    simp only [am_s] at hs
    split at hs
    · simp only [Option.some.injEq, Prod.mk.injEq] at hs; obtain ⟨rfl, rfl, rfl, rfl⟩ := hs; exact lv_iand hx hb hd (k rfl _ hl)
    · cases hs
  | ior =>
    simp only [am_s] at hs
    split at hs
    · simp only [Option.some.injEq, Prod.mk.injEq] at hs; obtain ⟨rfl, rfl, rfl, rfl⟩ := hs; exact lv_ior hx hb hd (k rfl _ hl)
    · cases hs
  | ixor =>
    simp only [am_s] at hs
    split at hs
    · simp only [Option.some.injEq, Prod.mk.injEq] at hs; obtain ⟨rfl, rfl, rfl, rfl⟩ := hs; exact lv_ixor hx hb hd (k rfl _ hl)
    · cases hs
  | ishl =>
    simp only [am_s] at hs
    split at hs
    · simp only [Option.some.injEq, Prod.mk.injEq] at hs; obtain ⟨rfl, rfl, rfl, rfl⟩ := hs; exact lv_ishl hx hb hd (k rfl _ hl)
    · cases hs
  | ishr =>
    simp only [am_s] at hs
    split at hs
    · simp only [Option.some.injEq, Prod.mk.injEq] at hs; obtain ⟨rfl, rfl, rfl, rfl⟩ := hs; exact lv_ishr hx hb hd (k rfl _ hl)
    · cases hs
  | iushr =>
    simp only [am_s] at hs
    split at hs
    · simp only [Option.some.injEq, Prod.mk.injEq] at hs; obtain ⟨rfl, rfl, rfl, rfl⟩ := hs; exact lv_iushr hx hb hd rfl (k rfl _ hl)
    · cases hs
  | ladd =>
    simp only [am_s] at hs
    split at hs
    · simp only [Option.some.injEq, Prod.mk.injEq] at hs; obtain ⟨rfl, rfl, rfl, rfl⟩ := hs; exact lv_ladd hx hb hd (k rfl _ hl)
    · cases hs
  | lsub =>
    simp only [am_s] at hs
    split at hs
    · simp only [Option.some.injEq, Prod.mk.injEq] at hs; obtain ⟨rfl, rfl, rfl, rfl⟩ := hs; exact lv_lsub hx hb hd (k rfl _ hl)
    · cases hs
  | lmul =>
    simp only [am_s] at hs
    split at hs
    · simp only [Option.some.injEq, Prod.mk.injEq] at hs; obtain ⟨rfl, rfl, rfl, rfl⟩ := hs; exact lv_lmul hx hb hd (k rfl _ hl)
    · cases hs
  | lcmp =>
    simp only [am_s] at hs
    split at hs
    · simp only [Option.some.injEq, Prod.mk.injEq] at hs; obtain ⟨rfl, rfl, rfl, rfl⟩ := hs; exact W.lcmp hx hb hd (k rfl _ hl)
    · cases hs
  | i2l =>
    simp only [am_s] at hs
    split at hs
    · simp only [Option.some.injEq, Prod.mk.injEq] at hs; obtain ⟨rfl, rfl, rfl, rfl⟩ := hs; exact lv_i2l hx hb hd rfl (k rfl _ hl)
    · cases hs
  | l2i =>
    simp only [am_s] at hs
    split at hs
    · simp only [Option.some.injEq, Prod.mk.injEq] at hs; obtain ⟨rfl, rfl, rfl, rfl⟩ := hs; exact lv_l2i hx hb hd rfl (k rfl _ hl)
    · cases hs
  | i2c =>
    simp only [am_s] at hs
    split at hs
    · simp only [Option.some.injEq, Prod.mk.injEq] at hs; obtain ⟨rfl, rfl, rfl, rfl⟩ := hs; exact lv_i2c hx hb hd rfl (k rfl _ hl)
    · cases hs
  | i2b =>
    simp only [am_s] at hs
    split at hs
    · simp only [Option.some.injEq, Prod.mk.injEq] at hs; obtain ⟨rfl, rfl, rfl, rfl⟩ := hs; exact lv_i2b hx hb hd rfl (k rfl _ hl)
    · cases hs
  | idiv =>
    simp only [am_s] at hs
    split at hs
    · rename_i y x st1
      by_cases h0 : y = 0
      · rw [if_pos h0] at hs; cases hs
      · rw [if_neg h0] at hs
        simp only [Option.some.injEq, Prod.mk.injEq] at hs; obtain ⟨rfl, rfl, rfl, rfl⟩ := hs
        exact lv_idiv hx hb hd h0 (k rfl _ hl)
    · cases hs
  | irem =>
    simp only [am_s] at hs
    split at hs
    · rename_i y x st1
      by_cases h0 : y = 0
      · rw [if_pos h0] at hs; cases hs
      · rw [if_neg h0] at hs
        simp only [Option.some.injEq, Prod.mk.injEq] at hs; obtain ⟨rfl, rfl, rfl, rfl⟩ := hs
        exact lv_irem hx hb hd h0 (k rfl _ hl)
    · cases hs
  | pop =>
    simp only [am_s] at hs
    split at hs
    · rename_i v st1
      by_cases h0 : v.category = 1
      · rw [if_pos h0] at hs
        simp only [Option.some.injEq, Prod.mk.injEq] at hs; obtain ⟨rfl, rfl, rfl, rfl⟩ := hs
        exact lv_pop hx hb hd (by rw [am_v_cat]; exact h0) (k rfl _ hl)
      · rw [if_neg h0] at hs; cases hs
    · cases hs
  | dup =>
    simp only [am_s] at hs
    split at hs
    · rename_i v st1
      by_cases h0 : v.category = 1
      · rw [if_pos h0] at hs
        simp only [Option.some.injEq, Prod.mk.injEq] at hs; obtain ⟨rfl, rfl, rfl, rfl⟩ := hs
        exact lv_dup hx hb hd (by rw [am_v_cat]; exact h0) (k rfl _ hl)
      · rw [if_neg h0] at hs; cases hs
    · cases hs
  | dup2 =>
    simp only [am_s] at hs
    split at hs
    · rename_i v w st1
      by_cases h0 : v.category = 1 ∧ w.category = 1
      · rw [if_pos h0] at hs
        simp only [Option.some.injEq, Prod.mk.injEq] at hs; obtain ⟨rfl, rfl, rfl, rfl⟩ := hs
        exact lv_dup2_11 hx hb hd (by rw [am_v_cat]; exact h0.1) (by rw [am_v_cat]; exact h0.2) (k rfl _ hl)
      · rw [if_neg h0] at hs; cases hs
    · cases hs
  | goto off =>
    simp only [am_s] at hs
    split at hs
    · rename_i t ht
      simp only [Option.some.injEq, Prod.mk.injEq] at hs; obtain ⟨rfl, rfl, rfl, rfl⟩ := hs
      exact lv_goto hx hb hd (am_j_some ht) (k rfl _ hl)
    · cases hs
  | ifCond cd off =>
    simp only [am_s] at hs
    split at hs
    · rename_i x st1
      cases cd <;> simp only at hs <;> obtain ⟨t, ht, (⟨hc, hr⟩ | ⟨hc, hr⟩)⟩ := am_br_some hs <;> simp only [Prod.mk.injEq] at hr <;> obtain ⟨rfl, rfl, rfl, rfl⟩ := hr
      · exact lv_if_eq hx hb hd ht (fun _ => k rfl _ hl) (fun q => absurd hc q)
      · exact lv_if_eq hx hb hd ht (fun q => absurd q hc) (fun _ => k rfl _ hl)
      · exact lv_if_ne hx hb hd ht (fun _ => k rfl _ hl) (fun q => absurd q hc)
      · exact lv_if_ne hx hb hd ht (fun q => absurd q hc) (fun _ => k rfl _ hl)
      · exact lv_if_lt hx hb hd ht (fun _ => k rfl _ hl) (fun q => absurd hc q)
      · exact lv_if_lt hx hb hd ht (fun q => absurd q hc) (fun _ => k rfl _ hl)
      · exact lv_if_ge hx hb hd ht (fun _ => k rfl _ hl) (fun q => absurd hc q)
      · exact lv_if_ge hx hb hd ht (fun q => absurd q hc) (fun _ => k rfl _ hl)
      · exact lv_if_gt hx hb hd ht (fun _ => k rfl _ hl) (fun q => absurd hc q)
      · exact lv_if_gt hx hb hd ht (fun q => absurd q hc) (fun _ => k rfl _ hl)
      · exact lv_if_le hx hb hd ht (fun _ => k rfl _ hl) (fun q => absurd hc q)
      · exact lv_if_le hx hb hd ht (fun q => absurd q hc) (fun _ => k rfl _ hl)
    · cases hs
  | if_icmp cd off =>
    simp only [am_s] at hs
    split at hs
    · rename_i y x st1
      cases cd <;> simp only at hs <;> obtain ⟨t, ht, (⟨hc, hr⟩ | ⟨hc, hr⟩)⟩ := am_br_some hs <;> simp only [Prod.mk.injEq] at hr <;> obtain ⟨rfl, rfl, rfl, rfl⟩ := hr
      · exact lv_icmp_eq hx hb hd ht (fun _ => k rfl _ hl) (fun q => absurd hc q)
      · exact lv_icmp_eq hx hb hd ht (fun q => absurd q hc) (fun _ => k rfl _ hl)
      · exact lv_icmp_ne hx hb hd ht (fun _ => k rfl _ hl) (fun q => absurd q hc)
      · exact lv_icmp_ne hx hb hd ht (fun q => absurd q hc) (fun _ => k rfl _ hl)
      · exact lv_icmp_lt hx hb hd ht (fun _ => k rfl _ hl) (fun q => absurd hc q)
      · exact lv_icmp_lt hx hb hd ht (fun q => absurd q hc) (fun _ => k rfl _ hl)
      · exact lv_icmp_ge hx hb hd ht (fun _ => k rfl _ hl) (fun q => absurd hc q)
      · exact lv_icmp_ge hx hb hd ht (fun q => absurd q hc) (fun _ => k rfl _ hl)
      · exact lv_icmp_gt hx hb hd ht (fun _ => k rfl _ hl) (fun q => absurd hc q)
      · exact lv_icmp_gt hx hb hd ht (fun q => absurd q hc) (fun _ => k rfl _ hl)
      · exact lv_icmp_le hx hb hd ht (fun _ => k rfl _ hl) (fun q => absurd hc q)
      · exact lv_icmp_le hx hb hd ht (fun q => absurd q hc) (fun _ => k rfl _ hl)
    · cases hs
  | ifnull off =>
    simp only [am_s] at hs
    split at hs
    · simp only [Option.some.injEq, Prod.mk.injEq] at hs; obtain ⟨rfl, rfl, rfl, rfl⟩ := hs
      exact lv_ifnull hx hb hd (k rfl _ hl)
    · split at hs
      · rename_i t ht
        simp only [Option.some.injEq, Prod.mk.injEq] at hs; obtain ⟨rfl, rfl, rfl, rfl⟩ := hs
        exact lv_ifnullN hx hb hd (am_j_some ht) (k rfl _ hl)
      · cases hs
    · cases hs
  | ifnonnull off =>
    simp only [am_s] at hs
    split at hs
    · simp only [Option.some.injEq, Prod.mk.injEq] at hs; obtain ⟨rfl, rfl, rfl, rfl⟩ := hs
      exact lv_ifnonnullN hx hb hd (k rfl _ hl)
    · split at hs
      · rename_i t ht
        simp only [Option.some.injEq, Prod.mk.injEq] at hs; obtain ⟨rfl, rfl, rfl, rfl⟩ := hs
        exact lv_ifnonnull hx hb hd (am_j_some ht) (k rfl _ hl)
      · cases hs
    · cases hs
  | tableswitch dflt lo hi offs =>
    simp only [am_s] at hs
    split at hs
    · rename_i x st1
      by_cases ho : x.toInt < lo ∨ hi < x.toInt
      · rw [if_pos ho] at hs
        split at hs
        · rename_i t ht
          simp only [Option.some.injEq, Prod.mk.injEq] at hs; obtain ⟨rfl, rfl, rfl, rfl⟩ := hs
          exact lv_tableOut hx hb hd ho (am_j_some ht) (k rfl _ hl)
        · cases hs
      · rw [if_neg ho] at hs
        split at hs
        · rename_i off hoff
          split at hs
          · rename_i t ht
            simp only [Option.some.injEq, Prod.mk.injEq] at hs; obtain ⟨rfl, rfl, rfl, rfl⟩ := hs
            exact lv_tableIn hx hb hd (fun q => ho (Or.inl q)) (fun q => ho (Or.inr q)) hoff (am_j_some ht) (k rfl _ hl)
          · cases hs
        · cases hs
    · cases hs
  | _ => first | exact (False.elim hI) | (simp only [am_s] at hs; cases hs; done) | (simp [am_s] at hs; done)
end AM1
end
section
section AM2
variable {p : Program} {l0 : Launch} {e : Env} {R : Room} {s : State} {m : MethodId} {args : Array Value} {below : List Frame} {meth : Method} {c : Code} {H : Heap} {locs : List Loc} {cells slots : Nat} {Q : State → Prop}
variable {cc : ByteArray} {pc pc' : Nat} {ls : Array Slot} {l l' : am_L} {st st' : List Value} {h h' : am_H} {nL : Nat}
variable {D : va_G} {cl : List vw_C} {tys : List FieldType} {kd : Nat → Nat} {ca : FieldType → ClassId} {base : Nat} {A : Nat → Prop} {Ts : List Cond} {tt : List (List FieldType)} {own : String}
theorem am_ldcwS {tx : String} {index q : Nat} {rest : List Value} (hx : p.tables.exec = Jvm.exec) (hb : c.code = cc) (hown : s.vm.findClass own = some m.cls) (hZ : vk_R own index tx q s) (hdg : decode cc pc = .ok (.ldc_w index, 3))
    (kk : W p l0 e R s m args below meth c H locs cells slots Q (F0 m (pc + 3) ls (.ref q :: rest))) : W p l0 e R s m args below meth c H locs cells slots Q (F0 m pc ls rest) := by
  intro T hT X
  obtain ⟨t, a1, b1⟩ := kk T hT X
  refine ⟨t, ?_, b1⟩
  obtain ⟨k, cf, i, a', hk, hcf, hcp, -, hr, hev'⟩ := Cond.stringRef_spec hown hZ.1
  cases hZ.2.symm.trans hev'
  obtain ⟨k', hk', he⟩ := X.warmed.alike.2.2 _ _ hk
  have hr' : k'.resolved[index]? = some (some (.string q)) := by
    rcases X.warmed.entry hk hk' index with h | ⟨h, -⟩
    · rw [h]; exact hr
    · rw [hr] at h; cases h
  jvm_step X.here [hx, hb, hdg, ldc_w.wp_string (s := T) (f := F0 m pc ls rest) X.here.top hk' (by rw [he]; exact hcf) hcp hr']
  exact a1
/-- the texts' cells -/
def am_tx (kd : Nat → Nat) (A : Nat → Prop) (cst : am_K) (U : State) : Prop := ∀ (i : Nat) (L : List Int32), cst.2.1[i]? = some L → va_OF "java/lang/String" "value" "[B" (.ref (kd (12 + i))) (kd (8 + i)) A U U.heap ∧ va_OF "java/lang/String" "coder" "B" (.int 0) (kd (8 + i)) A U U.heap ∧ va_T .byte (kd (12 + i)) L.length (fun j => .int (L.getD j 0)) A U U.heap
theorem am_K1 (hK : va_K D cl [] s) (hT : ∀ ty ∈ tys, ArrOfT s (ca ty) ty ∧ va_RA s (ca ty) ty) {ty : FieldType} (ht : ty ∈ tys) : va_K D cl [(ca ty, ty)] s :=
  ⟨hK.1, fun k q hk => by
    have hz : k < 1 := (List.getElem?_eq_some_iff.mp hk).1
    rw [show k = 0 by omega] at hk
    cases hk
    exact hT ty ht⟩
theorem am_fit_ok {ty : FieldType} {v : Value} (f : Nat → Nat) (h : am_fit ty v = true) : narrow ty (am_v f v) = am_v f v ∧ fits ty (am_v f v) = true := by
  cases ty <;> cases v <;> first | (exact ⟨rfl, rfl⟩) | (simp [am_fit] at h; done) | skip
  rename_i x
  simp only [am_fit, Bool.or_eq_true, beq_iff_eq] at h
  rcases h with rfl | rfl
  · exact ⟨(by decide : narrow .boolean (.int 0) = .int 0), (by decide : fits .boolean (.int 0) = true)⟩
  · exact ⟨(by decide : narrow .boolean (.int 1) = .int 1), (by decide : fits .boolean (.int 1) = true)⟩
/-- a field is written: the cell behind it -/
theorem am_put_at {r : vw_C} {a ci k : Nat} {fs : List Value} {v : Value} {cell : Cell} {H' : Heap} (hts : ∀ w ∈ Ts, w.before args s = true) (hcl : am_clok cl tt Ts) (hK : va_K D cl [] s) (hR : am_R D cl tys (am_ad kd base) ca base h H) (ha : ¬ a < 16) (he : h[a - 16]? = some (.inr (ci, fs))) (hc : cl[ci]? = some r) (hk : k < r.2.2) (hl : k < fs.length)
    (q2 : cell.cls = D.1 ci) (q3 : cell.vm = .none) (q4 : ∀ k, k < r.2.2 → cell.slots[D.2 ci k]? = some (vp_V (fs.map (am_v (am_ad kd base))) k))
    (e1 : H'[am_ad kd base a]? = some (cell.setSlot (D.2 ci k) (am_v (am_ad kd base) v))) (e2 : H'.size = H.size) (e3 : ∀ q, q ≠ am_ad kd base a → H'[q]? = H[q]?) :
    am_R D cl tys (am_ad kd base) ca base (h.set (a - 16) (.inr (ci, fs.set k v))) H' := by
  have hap := va_apart (args := args) (s := s) (D := D) (cl := cl) (tys := []) (own := "") (C := r.1) (T := r.2.1) (N := r.2.2) (ci := ci) hts (hcl ci r hc).1 _ (hcl ci r hc).2.1 (hcl ci r hc).2.2 hK hc
  refine hR.set ha he e2 e3 ⟨r, hc, t_OB.to (V := updV (vp_V (fs.map (am_v (am_ad kd base)))) k (am_v (am_ad kd base) v)) ⟨_, e1, q2, q3, t_set q4 hap hk _⟩ (fun j _ => ?_)⟩ (fun ty x hx => by cases hx)
  rw [vp_updV_set (by rw [List.length_map]; exact hl), ← List.map_set]
set_option maxHeartbeats 4000000 in
theorem am_hput {init : Bool} {X : am_X} {i : Nat} {cst : am_K} {sn : List (Nat × String × String × String)} {sr : am_SR}
    (hx : p.tables.exec = Jvm.exec) (hb : c.code = cc) (hts : ∀ w ∈ Ts, w.before args s = true) (hown : s.vm.findClass own = some m.cls) (hd : decode cc pc = .ok (.putfield i, 3)) (hok : am_ok cl Ts sn sr own nL init X (.putfield i))
    (hcl : am_clok cl tt Ts) (hK : va_K D cl [] s) (hinit : init = true → meth.name = "<init>") (hA : ∀ q, base ≤ q → A q) (hS : va_S A s.heap H locs) (hR : am_R D cl tys (am_ad kd base) ca base h H)
    (hs : am_s cst cl tt (.putfield i) X pc l st h = some (pc', l', st', h'))
    (k : ∀ (H' : Heap) (locs' : List Loc), am_R D cl tys (am_ad kd base) ca base h' H' → va_S A s.heap H' locs' → l' = l → W p l0 e R s m args below meth c H' locs' cells slots Q (F0 m pc' ls (st'.map (am_v (am_ad kd base))))) :
    W p l0 e R s m args below meth c H locs cells slots Q (F0 m pc ls (st.map (am_v (am_ad kd base)))) := by
  simp only [am_s] at hs
  split at hs
  case h_2 => cases hs
  rename_i v a st1
  by_cases ha : a < 16
  · rw [if_pos ha] at hs; cases hs
  rw [if_neg ha] at hs
  split at hs
  case h_2 => cases hs
  rename_i ci fs he
  by_cases hcx : ci = X.1 ∧ X.2.1 < fs.length
  case neg => rw [if_neg hcx] at hs; cases hs
  rw [if_pos hcx] at hs
  by_cases hf : am_fit ((tt.getD ci []).getD X.2.1 .char) v = true
  case neg => rw [if_neg hf] at hs; cases hs
  rw [if_pos hf] at hs
  simp only [Option.some.injEq, Prod.mk.injEq] at hs; obtain ⟨rfl, rfl, rfl, rfl⟩ := hs
  obtain ⟨hci, hlen⟩ := hcx
  obtain ⟨r, hc, hk, hcase⟩ := hok
  rw [← hci] at hc
  obtain ⟨hn, hft⟩ := am_fit_ok (am_ad kd base) hf
  have hpd := (hcl ci r hc).2.1 _ hk
  obtain ⟨r', h1, cell, q1, q2, q3, q4⟩ := hR.at ha he
  have hr : r' = r := Option.some.inj (h1.symm.trans hc)
  subst hr
  obtain ⟨hSl, hfc, kC, hkC, hkind⟩ := hK.1 ci _ hc
  obtain ⟨cf, kf, fi, fd, hi, hsl⟩ := hSl X.2.1 hk
  have hin := (hcl ci r' hc).1
  have hlay := hts _ (hin _ (u_in_lay hk))
  have hst := (u_facts hfc hkC (u_lays hts hin hk) hi).1
  have hAa : A (am_ad kd base a) := hA _ (by rw [am_ad_hi ha]; omega)
  unfold u_lay at hlay
  rcases hcase with ⟨hlink, hfin | ⟨hfin, hini, hdecl⟩⟩ | ⟨hfin, host, hlink⟩
  · rw [if_neg (by rw [hfin]; decide)] at hlay
    have h6 := u_store hfc hkC hkind hlay hi hpd hn hft
    refine W.putK hx hb (f := fd) ⟨hown, hts _ hlink, ⟨_, _, _, hi⟩, hst⟩ (by rw [q2]; exact h6) q1 q3 (by rw [hsl]; exact k2_hasslot (q4 _ hk)) rfl rfl hd fun H' e1 e2 e3 => ?_
    rw [hsl] at e1 ⊢
    exact k H' _ (am_put_at hts hcl hK hR ha he hc hk hlen q2 q3 q4 e1 e2 e3) (hS.put e2 e3 hAa) rfl
  · rw [if_pos hfin] at hlay
    have hcf : m.cls = cf := by
      obtain ⟨_, _, c', _, _, _, -, -, hf', -, -, -, hown2, -⟩ := Cond.laysFinal_spec hlay
      have e1 : c' = cf := by have := hi.symm.trans hf'; simp at this; exact this.1.symm
      rw [hdecl] at hown2
      rw [← e1]; exact Option.some.inj (hown.symm.trans hown2)
    have h6 := u_fits hfc hkC hkind (Or.inr hlay) hi hpd hn hft
    refine W.putFinK hx hb hown (hts _ hlink) hi hst hcf (hinit hini) (by rw [q2]; exact h6) q1 q3 (by rw [hsl]; exact k2_hasslot (q4 _ hk)) rfl rfl hd fun H' e1 e2 e3 => ?_
    rw [hsl] at e1 ⊢
    exact k H' _ (am_put_at hts hcl hK hR ha he hc hk hlen q2 q3 q4 e1 e2 e3) (hS.put e2 e3 hAa) rfl
  · rw [if_neg (by rw [hfin]; decide)] at hlay
    have h6 := u_store hfc hkC hkind hlay hi hpd hn hft
    refine va_WputK hx hb (f := fd) hown (hts _ hlink) hi hst (by rw [q2]; exact h6) q1 q3 (by rw [hsl]; exact k2_hasslot (q4 _ hk)) rfl rfl hd fun H' e1 e2 e3 => ?_
    rw [hsl] at e1 ⊢
    exact k H' _ (am_put_at hts hcl hK hR ha he hc hk hlen q2 q3 q4 e1 e2 e3) (hS.put e2 e3 hAa) rfl
set_option maxHeartbeats 4000000 in
theorem am_hget {init : Bool} {X : am_X} {i : Nat} {cst : am_K} {sn : List (Nat × String × String × String)} {sr : am_SR}
    (hx : p.tables.exec = Jvm.exec) (hb : c.code = cc) (hts : ∀ w ∈ Ts, w.before args s = true) (hown : s.vm.findClass own = some m.cls) (hd : decode cc pc = .ok (.getfield i, 3)) (hok : am_ok cl Ts sn sr own nL init X (.getfield i))
    (hcl : am_clok cl tt Ts) (hK : va_K D cl [] s) (hR : am_R D cl tys (am_ad kd base) ca base h H) (hS : va_S A s.heap H locs) (hX : am_tx kd A cst s)
    (hs : am_s cst cl tt (.getfield i) X pc l st h = some (pc', l', st', h'))
    (k : h' = h → l' = l → W p l0 e R s m args below meth c H locs cells slots Q (F0 m pc' ls (st'.map (am_v (am_ad kd base))))) :
    W p l0 e R s m args below meth c H locs cells slots Q (F0 m pc ls (st.map (am_v (am_ad kd base)))) := by
  simp only [am_s] at hs
  split at hs
  case h_2 => cases hs
  rename_i a st1
  by_cases ha : a < 16
  · rw [if_pos ha] at hs
    by_cases h8 : 8 ≤ a ∧ a < 12 ∧ a - 8 < cst.2.1.length
    case neg => rw [if_neg h8] at hs; cases hs
    rw [if_pos h8] at hs
    obtain ⟨hL, hLe⟩ : ∃ L, cst.2.1[a - 8]? = some L := ⟨_, List.getElem?_eq_getElem h8.2.2⟩
    have hF := hX _ _ hLe
    have e8 : 8 + (a - 8) = a := Nat.add_sub_cancel' h8.1
    have e12 : 12 + (a - 8) = a + 4 := by rw [show (12 : Nat) = 4 + 8 from rfl, Nat.add_assoc, e8, Nat.add_comm]
    rw [e8, e12] at hF
    have a1 : am_ad kd base a = kd a := by unfold am_ad; rw [if_pos ha]
    have a2 : am_ad kd base (a + 4) = kd (a + 4) := by unfold am_ad; rw [if_pos (Nat.add_lt_add_right h8.2.1 4)]
    by_cases h1 : X.2.2 = 1
    · rw [if_pos h1] at hs
      simp only [Option.some.injEq, Prod.mk.injEq] at hs; obtain ⟨rfl, rfl, rfl, rfl⟩ := hs
      have hv := hF.1
      rw [← a1, ← a2] at hv
      exact vk_getf hx hb hv hS hown (hts _ (hok.1 h1)) (fun _ h9 => h9) hd (k rfl rfl)
    · rw [if_neg h1] at hs
      by_cases h2 : X.2.2 = 2
      case neg => rw [if_neg h2] at hs; cases hs
      rw [if_pos h2] at hs
      simp only [Option.some.injEq, Prod.mk.injEq] at hs; obtain ⟨rfl, rfl, rfl, rfl⟩ := hs
      have hv := hF.2.1
      rw [← a1] at hv
      exact vk_getf hx hb hv hS hown (hts _ (hok.2.1 h2)) (fun _ h9 => h9) hd (k rfl rfl)
  rw [if_neg ha] at hs
  split at hs
  case h_2 => cases hs
  rename_i ci fs he
  by_cases hcx : ci = X.1 ∧ X.2.2 = 0
  case neg => rw [if_neg hcx] at hs; cases hs
  rw [if_pos hcx] at hs
  split at hs
  case h_2 => cases hs
  rename_i v hv
  simp only [Option.some.injEq, Prod.mk.injEq] at hs; obtain ⟨rfl, rfl, rfl, rfl⟩ := hs
  obtain ⟨r, hc, hk, hcase⟩ := hok.2.2 hcx.2
  rw [← hcx.1] at hc
  have hv' : (fs.map (am_v (am_ad kd base)))[X.2.1]? = some (am_v (am_ad kd base) v) := by rw [List.getElem?_map, hv]; rfl
  rcases hcase with hlink | ⟨host, hlink⟩
  · exact va_get (D := D) (cl := cl) (tys := []) (C := r.1) (T := r.2.1) (N := r.2.2) hx hb hts (hcl ci r hc).1 hown hK (hR.P ha he) 0 rfl hc X.2.1 hk (hts _ hlink) (fun _ h9 => h9) hv' hd (k rfl rfl)
  · exact va_getN (D := D) (cl := cl) (tys := []) (C := r.1) (T := r.2.1) (N := r.2.2) hx hb hts (hcl ci r hc).1 hown hK (hR.P ha he) 0 rfl hc X.2.1 hk (hts _ hlink) (fun _ h9 => h9) hv' hd (k rfl rfl)
set_option maxHeartbeats 4000000 in
/-- loads of arrays, and the constants -/
theorem am_hload {init : Bool} {X : am_X} {I : Instr} {cst : am_K} {sn : List (Nat × String × String × String)} {sr : am_SR}
    (hx : p.tables.exec = Jvm.exec) (hb : c.code = cc) (hts : ∀ w ∈ Ts, w.before args s = true) (hown : s.vm.findClass own = some m.cls) (hd : decode cc pc = .ok (I, am_len X I)) (hok : am_ok cl Ts sn sr own nL init X I)
    (hK : va_K D cl [] s) (hT : ∀ ty ∈ tys, ArrOfT s (ca ty) ty ∧ va_RA s (ca ty) ty) (hS : va_S A s.heap H locs) (hR : am_R D cl tys (am_ad kd base) ca base h H)
    (hC1 : ∀ (a : Nat) (L : List Int32), a < 16 → cst.1[a]? = some L → va_T .int (kd a) L.length (fun j => .int (L.getD j 0)) A s s.heap)
    (hC2 : ∀ (a : Nat) (C n d : String), (a, C, n, d) ∈ sn → va_Z C n d (am_v kd (am_sv cst a)) A s s.heap) (hX : am_tx kd A cst s)
    (hC3 : ∀ (o : String) (i : Nat) (tx : String) (a : Nat), (o, i, tx, a) ∈ sr.1 → vk_R o i tx (kd a) s)
    (hI : I = .arraylength ∨ I = .iaload ∨ I = .laload ∨ I = .baload ∨ I = .aaload ∨ (∃ i, I = .getstatic i) ∨ ((∃ i, I = .ldc i) ∧ ¬ X.1 = 0) ∨ ((∃ i, I = .ldc_w i) ∧ ¬ X.1 = 0))
    (hs : am_s cst cl tt I X pc l st h = some (pc', l', st', h'))
    (k : h' = h → l' = l → W p l0 e R s m args below meth c H locs cells slots Q (F0 m pc' ls (st'.map (am_v (am_ad kd base))))) :
    W p l0 e R s m args below meth c H locs cells slots Q (F0 m pc ls (st.map (am_v (am_ad kd base)))) := by
  have hlo : ∀ a : Nat, a < 16 → am_ad kd base a = kd a := fun a ha => by unfold am_ad; rw [if_pos ha]
  rcases hI with rfl | rfl | rfl | rfl | rfl | ⟨i, rfl⟩ | ⟨⟨i, rfl⟩, h0⟩ | ⟨⟨i, rfl⟩, h0⟩
  · simp only [am_s] at hs
    split at hs
    case h_2 => cases hs
    rename_i a st1
    by_cases ha : a < 16
    · rw [if_pos ha] at hs
      split at hs
      case h_2 => cases hs
      rename_i L hL
      simp only [Option.some.injEq, Prod.mk.injEq] at hs; obtain ⟨rfl, rfl, rfl, rfl⟩ := hs
      by_cases h12 : 12 ≤ a
      · rw [if_pos h12] at hL
        have hT1 := (hX _ _ hL).2.2
        rw [show 12 + (a - 12) = a from Nat.add_sub_cancel' h12, ← hlo a ha] at hT1
        exact va_tlen hx hb hT1 hS rfl hd (k rfl rfl)
      · rw [if_neg h12] at hL
        have hT1 := hC1 a L ha hL
        rw [← hlo a ha] at hT1
        exact va_tlen hx hb hT1 hS rfl hd (k rfl rfl)
    · rw [if_neg ha] at hs
      split at hs
      case h_2 => cases hs
      rename_i ty n z he
      simp only [Option.some.injEq, Prod.mk.injEq] at hs; obtain ⟨rfl, rfl, rfl, rfl⟩ := hs
      have ht := hR.2.2 _ _ _ he
      have hP := hR.P ha he
      rcases z with g | g | g | g | g
      · exact va_alen hx hb (am_K1 hK hT ht) hP 0 0 rfl rfl rfl hd (k rfl rfl)
      · exact va_alen hx hb (am_K1 hK hT ht) hP 0 0 rfl rfl rfl hd (k rfl rfl)
      · exact va_alen hx hb (am_K1 hK hT ht) hP 0 0 rfl rfl rfl hd (k rfl rfl)
      · exact va_alen hx hb (am_K1 hK hT ht) hP 0 0 rfl rfl rfl hd (k rfl rfl)
      · exact va_alen hx hb (am_K1 hK hT ht) hP 0 0 rfl rfl rfl hd (k rfl rfl)
  · simp only [am_s] at hs
    split at hs
    case h_2 => cases hs
    rename_i i a st1
    by_cases ha : a < 16
    · rw [if_pos ha] at hs
      split at hs
      case h_2 => cases hs
      rename_i L hL
      by_cases hin : i < 0 ∨ L.length ≤ i.toNatClampNeg
      · rw [if_pos hin] at hs; cases hs
      rw [if_neg hin] at hs
      simp only [Option.some.injEq, Prod.mk.injEq] at hs; obtain ⟨rfl, rfl, rfl, rfl⟩ := hs
      have hT1 := hC1 a L ha hL
      rw [← hlo a ha] at hT1
      exact va_ti hx hb hT1 hS hin rfl hd (k rfl rfl)
    · rw [if_neg ha] at hs
      split at hs
      case h_2 => cases hs
      rename_i n g he
      by_cases hin : i < 0 ∨ n ≤ i.toNatClampNeg
      · rw [if_pos hin] at hs; cases hs
      rw [if_neg hin] at hs
      simp only [Option.some.injEq, Prod.mk.injEq] at hs; obtain ⟨rfl, rfl, rfl, rfl⟩ := hs
      exact va_iald hx hb (am_K1 hK hT (hR.2.2 _ _ _ he)) (hR.P ha he) 0 0 rfl rfl hin hd (k rfl rfl)
  · simp only [am_s] at hs
    split at hs
    case h_2 => cases hs
    rename_i i a st1
    by_cases ha : a < 16
    · rw [if_pos ha] at hs; cases hs
    · rw [if_neg ha] at hs
      split at hs
      case h_2 => cases hs
      rename_i n g he
      by_cases hin : i < 0 ∨ n ≤ i.toNatClampNeg
      · rw [if_pos hin] at hs; cases hs
      rw [if_neg hin] at hs
      simp only [Option.some.injEq, Prod.mk.injEq] at hs; obtain ⟨rfl, rfl, rfl, rfl⟩ := hs
      exact va_lald hx hb (am_K1 hK hT (hR.2.2 _ _ _ he)) (hR.P ha he) 0 0 rfl rfl hin hd (k rfl rfl)
  · simp only [am_s] at hs
    split at hs
    case h_2 => cases hs
    rename_i i a st1
    by_cases ha : a < 16
    · rw [if_pos ha] at hs
      by_cases h12 : 12 ≤ a
      case neg => rw [if_neg h12] at hs; cases hs
      rw [if_pos h12] at hs
      split at hs
      case h_2 => cases hs
      rename_i L hL
      by_cases hin : i < 0 ∨ L.length ≤ i.toNatClampNeg
      · rw [if_pos hin] at hs; cases hs
      rw [if_neg hin] at hs
      simp only [Option.some.injEq, Prod.mk.injEq] at hs; obtain ⟨rfl, rfl, rfl, rfl⟩ := hs
      have hT1 := (hX _ _ hL).2.2
      rw [show 12 + (a - 12) = a from Nat.add_sub_cancel' h12, ← hlo a ha] at hT1
      exact va_tb hx hb hT1 hS hin rfl hd (k rfl rfl)
    · rw [if_neg ha] at hs
      split at hs
      case h_3 => cases hs
      · rename_i n g he
        by_cases hin : i < 0 ∨ n ≤ i.toNatClampNeg
        · rw [if_pos hin] at hs; cases hs
        rw [if_neg hin] at hs
        simp only [Option.some.injEq, Prod.mk.injEq] at hs; obtain ⟨rfl, rfl, rfl, rfl⟩ := hs
        exact va_bald hx hb (am_K1 hK hT (hR.2.2 _ _ _ he)) (hR.P ha he) 0 0 rfl rfl hin hd (k rfl rfl)
      · rename_i n g he
        by_cases hin : i < 0 ∨ n ≤ i.toNatClampNeg
        · rw [if_pos hin] at hs; cases hs
        rw [if_neg hin] at hs
        simp only [Option.some.injEq, Prod.mk.injEq] at hs; obtain ⟨rfl, rfl, rfl, rfl⟩ := hs
        exact va_zald hx hb (am_K1 hK hT (hR.2.2 _ _ _ he)) (hR.P ha he) 0 0 rfl rfl hin hd (k rfl rfl)
  · simp only [am_s] at hs
    split at hs
    case h_2 => cases hs
    rename_i i a st1
    by_cases ha : a < 16
    · rw [if_pos ha] at hs; cases hs
    · rw [if_neg ha] at hs
      split at hs
      case h_2 => cases hs
      rename_i C n g he
      by_cases hin : i < 0 ∨ n ≤ i.toNatClampNeg
      · rw [if_pos hin] at hs; cases hs
      rw [if_neg hin] at hs
      simp only [Option.some.injEq, Prod.mk.injEq] at hs; obtain ⟨rfl, rfl, rfl, rfl⟩ := hs
      refine va_aldq (C := C) hx hb (am_K1 hK hT (hR.2.2 _ _ _ he)) (hR.P ha he) 0 0 rfl rfl hin hd ?_
      have hv : va_rf ((g i.toNatClampNeg).map (am_ad kd base)) = am_v (am_ad kd base) (va_rf (g i.toNatClampNeg)) := by cases g i.toNatClampNeg <;> rfl
      show W p l0 e R s m args below meth c H locs cells slots Q (F0 m _ ls (va_rf ((g i.toNatClampNeg).map (am_ad kd base)) :: _))
      rw [hv]
      exact k rfl rfl
  · simp only [am_s] at hs
    by_cases ha : am_lowv (am_sv cst X.2.1) = true
    case neg => rw [if_neg ha] at hs; cases hs
    rw [if_pos ha] at hs
    simp only [Option.some.injEq, Prod.mk.injEq] at hs; obtain ⟨rfl, rfl, rfl, rfl⟩ := hs
    obtain ⟨C, n, d, hn, hcase⟩ := hok
    have hZ := hC2 _ _ _ _ hn
    have hvv : am_v kd (am_sv cst X.2.1) = am_v (am_ad kd base) (am_sv cst X.2.1) := by
      generalize am_sv cst X.2.1 = w at ha
      cases w with
      | ref q => exact congrArg Value.ref (hlo q (of_decide_eq_true ha)).symm
      | _ => rfl
    rw [hvv] at hZ
    rcases hcase with hlink | ⟨host, hlink⟩
    · exact va_gets hx hb hZ hS hown (hts _ hlink) (fun _ h9 => h9) hd (k rfl rfl)
    · exact va_getsN hx hb hZ hS hown (hts _ hlink) (fun _ h9 => h9) hd (k rfl rfl)
  · simp only [am_s, if_neg h0] at hs
    by_cases ha : X.2.1 < 16
    case neg => rw [if_neg ha] at hs; cases hs
    rw [if_pos ha] at hs
    simp only [Option.some.injEq, Prod.mk.injEq] at hs; obtain ⟨rfl, rfl, rfl, rfl⟩ := hs
    obtain ⟨tx, hm⟩ := hok.2 h0
    have hZ := hC3 _ _ _ _ hm
    rw [← hlo _ ha] at hZ
    exact va_ldcS hx hb hown hZ hd (k rfl rfl)
  · simp only [am_s, if_neg h0] at hs
    by_cases ha : X.2.1 < 16
    case neg => rw [if_neg ha] at hs; cases hs
    rw [if_pos ha] at hs
    simp only [Option.some.injEq, Prod.mk.injEq] at hs; obtain ⟨rfl, rfl, rfl, rfl⟩ := hs
    obtain ⟨tx, hm⟩ := hok.2 h0
    have hZ := hC3 _ _ _ _ hm
    rw [← hlo _ ha] at hZ
    exact am_ldcwS hx hb hown hZ hd (k rfl rfl)
set_option maxHeartbeats 4000000 in
/-- stores into arrays -/
theorem am_hstore {X : am_X} {I : Instr} {cst : am_K}
    (hx : p.tables.exec = Jvm.exec) (hb : c.code = cc) (hd : decode cc pc = .ok (I, am_len X I))
    (hK : va_K D cl [] s) (hT : ∀ ty ∈ tys, ArrOfT s (ca ty) ty ∧ va_RA s (ca ty) ty) (hA : ∀ q, base ≤ q → A q) (hS : va_S A s.heap H locs) (hR : am_R D cl tys (am_ad kd base) ca base h H)
    (hI : I = .iastore ∨ I = .lastore ∨ I = .bastore ∨ I = .aastore)
    (hs : am_s cst cl tt I X pc l st h = some (pc', l', st', h'))
    (k : ∀ (H' : Heap) (locs' : List Loc), am_R D cl tys (am_ad kd base) ca base h' H' → va_S A s.heap H' locs' → l' = l → W p l0 e R s m args below meth c H' locs' cells slots Q (F0 m pc' ls (st'.map (am_v (am_ad kd base))))) :
    W p l0 e R s m args below meth c H locs cells slots Q (F0 m pc ls (st.map (am_v (am_ad kd base)))) := by
  rcases hI with rfl | rfl | rfl | rfl
  · simp only [am_s] at hs
    split at hs
    case h_2 => cases hs
    rename_i x i a st1
    by_cases ha : a < 16
    · rw [if_pos ha] at hs; cases hs
    rw [if_neg ha] at hs
    split at hs
    case h_2 => cases hs
    rename_i n g he
    by_cases hin : i < 0 ∨ n ≤ i.toNatClampNeg
    · rw [if_pos hin] at hs; cases hs
    rw [if_neg hin] at hs
    simp only [Option.some.injEq, Prod.mk.injEq] at hs; obtain ⟨rfl, rfl, rfl, rfl⟩ := hs
    have ht := hR.2.2 _ _ _ he
    refine W.iast hx hb (hR.at ha he) ((hT _ ht).1 n (fun j => .int (g j))) (fun q => by cases q) (by show ¬ (i < 0 ∨ (arrV _ _ _).slots.size ≤ _); rw [arrV_size]; exact hin) rfl rfl hd fun H1 e1 z oq => ?_
    refine k H1 _ (hR.set ha he z oq ?_ (fun ty y hy => by cases hy; exact ht)) (hS.put z oq (hA _ (by rw [am_ad_hi ha]; omega))) rfl
    show H1[am_ad kd base a]? = some (vp_cell _ _)
    rw [e1, vp_cell_i, vp_cell_i, arrV_store]
    congr 2
    funext q
    by_cases hq : q = i.toNatClampNeg
    · subst hq; simp [updV, upd]
    · simp [updV, upd, hq]
  · simp only [am_s] at hs
    split at hs
    case h_2 => cases hs
    rename_i x i a st1
    by_cases ha : a < 16
    · rw [if_pos ha] at hs; cases hs
    rw [if_neg ha] at hs
    split at hs
    case h_2 => cases hs
    rename_i n g he
    by_cases hin : i < 0 ∨ n ≤ i.toNatClampNeg
    · rw [if_pos hin] at hs; cases hs
    rw [if_neg hin] at hs
    simp only [Option.some.injEq, Prod.mk.injEq] at hs; obtain ⟨rfl, rfl, rfl, rfl⟩ := hs
    have ht := hR.2.2 _ _ _ he
    refine W.last hx hb (hR.at ha he) ((hT _ ht).1 n (fun j => .long (g j))) (fun q => by cases q) (by show ¬ (i < 0 ∨ (arrV _ _ _).slots.size ≤ _); rw [arrV_size]; exact hin) rfl rfl hd fun H1 e1 z oq => ?_
    refine k H1 _ (hR.set ha he z oq ?_ (fun ty y hy => by cases hy; exact ht)) (hS.put z oq (hA _ (by rw [am_ad_hi ha]; omega))) rfl
    show H1[am_ad kd base a]? = some (vp_cell _ _)
    rw [e1, vp_cell_l, vp_cell_l, arrV_store]
    congr 2
    funext q
    by_cases hq : q = i.toNatClampNeg
    · subst hq; simp [updV, vp_updL]
    · simp [updV, vp_updL, hq]
  · simp only [am_s] at hs
    split at hs
    case h_2 => cases hs
    rename_i x i a st1
    by_cases ha : a < 16
    · rw [if_pos ha] at hs; cases hs
    rw [if_neg ha] at hs
    split at hs
    case h_3 => cases hs
    · rename_i n g he
      by_cases hin : i < 0 ∨ n ≤ i.toNatClampNeg
      · rw [if_pos hin] at hs; cases hs
      rw [if_neg hin] at hs
      simp only [Option.some.injEq, Prod.mk.injEq] at hs; obtain ⟨rfl, rfl, rfl, rfl⟩ := hs
      have ht := hR.2.2 _ _ _ he
      refine W.bast hx hb (hR.at ha he) ((hT _ ht).1 n (fun j => .int (g j))) (fun q => by cases q) (by show ¬ (i < 0 ∨ (arrV _ _ _).slots.size ≤ _); rw [arrV_size]; exact hin) rfl rfl hd fun H1 e1 z oq => ?_
      refine k H1 _ (hR.set ha he z oq ?_ (fun ty y hy => by cases hy; exact ht)) (hS.put z oq (hA _ (by rw [am_ad_hi ha]; omega))) rfl
      show H1[am_ad kd base a]? = some (vp_cell _ _)
      rw [e1, vp_cell_i, vp_cell_i, arrV_store]
      congr 2
      funext q
      by_cases hq : q = i.toNatClampNeg
      · subst hq; simp [updV, upd, vp_nar]; try rfl
      · simp [updV, upd, hq]
    · rename_i n g he
      by_cases hin : i < 0 ∨ n ≤ i.toNatClampNeg
      · rw [if_pos hin] at hs; cases hs
      rw [if_neg hin] at hs
      simp only [Option.some.injEq, Prod.mk.injEq] at hs; obtain ⟨rfl, rfl, rfl, rfl⟩ := hs
      have ht := hR.2.2 _ _ _ he
      refine W.zast hx hb (hR.at ha he) ((hT _ ht).1 n (fun j => .int (g j))) (fun q => by cases q) (by show ¬ (i < 0 ∨ (arrV _ _ _).slots.size ≤ _); rw [arrV_size]; exact hin) rfl rfl hd fun H1 e1 z oq => ?_
      refine k H1 _ (hR.set ha he z oq ?_ (fun ty y hy => by cases hy; exact ht)) (hS.put z oq (hA _ (by rw [am_ad_hi ha]; omega))) rfl
      show H1[am_ad kd base a]? = some (vp_cell _ _)
      rw [e1, vp_cell_i, vp_cell_i, arrV_store]
      congr 2
      funext q
      by_cases hq : q = i.toNatClampNeg
      · subst hq; simp [updV, upd, vp_nar]; try rfl
      · simp [updV, upd, hq]
  · simp only [am_s] at hs
    split at hs
    case h_2 => cases hs
    rename_i v i a st1
    by_cases ha : a < 16
    · rw [if_pos ha] at hs; cases hs
    rw [if_neg ha] at hs
    split at hs
    case h_2 => cases hs
    rename_i C n g he
    by_cases hin : i < 0 ∨ n ≤ i.toNatClampNeg
    · rw [if_pos hin] at hs; cases hs
    rw [if_neg hin] at hs
    by_cases hv : v < 16
    · rw [if_pos hv] at hs; cases hs
    rw [if_neg hv] at hs
    split at hs
    case h_2 => cases hs
    rename_i ci vs hve
    split at hs
    case h_2 => cases hs
    rename_i r hc
    by_cases hC : C = r.1
    case neg => rw [if_neg hC] at hs; cases hs
    rw [if_pos hC] at hs
    simp only [Option.some.injEq, Prod.mk.injEq] at hs; obtain ⟨rfl, rfl, rfl, rfl⟩ := hs
    have ht := hR.2.2 _ _ _ he
    have hlt : i.toNatClampNeg < n := Nat.not_le.mp fun q => hin (Or.inr q)
    have h0 : ¬ i < 0 := fun q => hin (Or.inl q)
    obtain ⟨r', hr', cellV, g1, g2, g3, -⟩ := hR.at hv hve
    have hcls := (hK.1 ci r hc).2
    subst hC
    obtain ⟨kA, comp, k1, k2, k3, -⟩ := (hT _ ht).2
    have hcomp : comp = D.1 ci := Option.some.inj (k3.symm.trans hcls.1)
    subst hcomp
    obtain ⟨kC, hkC, -⟩ := hcls.2
    refine W.aast hx hb (hR.at ha he) (fun q h => by cases h) (fun h => by cases h) k1 k2 rfl hkC ⟨h0, by show _ < (arrV _ _ _).slots.size; rw [arrV_size]; exact hlt⟩ g1 (fun q h => by rw [g3] at h; cases h) (by rw [g2]; exact hkC) (by rw [g2]; exact va_assign hcls) rfl rfl hd fun H1 e1 z oq => ?_
    refine k H1 _ (hR.set ha he z oq ?_ (fun ty y hy => by cases hy; exact ht)) (hS.put z oq (hA _ (by rw [am_ad_hi ha]; omega))) rfl
    show H1[am_ad kd base a]? = some (vp_cell _ _)
    rw [e1, vp_cell_q, vp_cell_q, arrV_store]
    congr 2
    funext q
    by_cases hq : q = i.toNatClampNeg
    · subst hq; simp [updV, va_up, va_rf]
    · simp [updV, va_up, hq]
end AM2
end
section
/-! cells that are made; the state behind it and its slots -/
def am_a (cl : List vw_C) (tt : List (List FieldType)) (I : Instr) (X : am_X) (pc : Nat) (l : am_L) (st : List Value) (h : am_H) : Option (am_F × Nat) :=
  match I with
  | .new _ => match cl[X.1]? with
    | some r => if (tt.getD X.1 []).length = r.2.2 then some ((pc + 3, l, .ref (16 + h.length) :: st, h ++ [.inr (X.1, (tt.getD X.1 []).map defaultValue)]), r.2.2) else none
    | none => none
  | .newarray t => match st with
    | .int n :: st => if n < 0 ∨ 60000000 < n.toNatClampNeg then none else match t with
      | .int => some ((pc + 2, l, .ref (16 + h.length) :: st, h ++ [.inl (.int, n.toNatClampNeg, .inl (fun _ => 0))]), n.toNatClampNeg)
      | .long => some ((pc + 2, l, .ref (16 + h.length) :: st, h ++ [.inl (.long, n.toNatClampNeg, .inr (.inl (fun _ => 0)))]), n.toNatClampNeg)
      | .byte => some ((pc + 2, l, .ref (16 + h.length) :: st, h ++ [.inl (.byte, n.toNatClampNeg, .inl (fun _ => 0))]), n.toNatClampNeg)
      | .boolean => some ((pc + 2, l, .ref (16 + h.length) :: st, h ++ [.inl (.boolean, n.toNatClampNeg, .inl (fun _ => 0))]), n.toNatClampNeg)
      | _ => none
    | _ => none
  | .anewarray _ => match st with
    | .int n :: st => if n < 0 ∨ 60000000 < n.toNatClampNeg then none else match cl[X.1]? with
      | some r => some ((pc + 3, l, .ref (16 + h.length) :: st, h ++ [.inl (.object r.1, n.toNatClampNeg, .inr (.inr (.inr (.inr (fun _ => none)))))]), n.toNatClampNeg)
      | none => none
    | _ => none
  | _ => none
/-- what a table must say of an instruction that makes a cell -/
def am_oka (cl : List vw_C) (tys : List FieldType) (Ts : List Cond) (own : String) (X : am_X) : Instr → Prop
  | .new i => ∃ r : vw_C, cl[X.1]? = some r ∧ Cond.classLink own i r.1 ∈ Ts ∧ Cond.instantiable r.1 r.2.2 ∈ Ts ∧ Cond.initialized r.1 ∈ Ts
  | .newarray t => Cond.arrayClass (newarray.typeOf t) ∈ Ts ∧ newarray.typeOf t ∈ tys
  | .anewarray i => ∃ r : vw_C, cl[X.1]? = some r ∧ Cond.classLink own i r.1 ∈ Ts ∧ .object r.1 ∈ tys
  | _ => True
section AM3
variable {p : Program} {l0 : Launch} {e : Env} {R : Room} {s : State} {m : MethodId} {args : Array Value} {below : List Frame} {meth : Method} {c : Code} {H : Heap} {locs : List Loc} {cells slots : Nat} {Q : State → Prop}
variable {cc : ByteArray} {pc pc' : Nat} {ls : Array Slot} {l l' : am_L} {st st' : List Value} {h h' : am_H} {nL : Nat}
variable {D : va_G} {cl : List vw_C} {tys : List FieldType} {kd : Nat → Nat} {ca : FieldType → ClassId} {base : Nat} {A : Nat → Prop} {Ts : List Cond} {tt : List (List FieldType)} {own : String}
theorem am_R.push {H1 : Heap} {e1 : am_E} (hR : am_R D cl tys (am_ad kd base) ca base h H) (z : H1.size = H.size + 1) (o1 : ∀ q, q < H.size → H1[q]? = H[q]?) (he : va_at D cl (H.size, am_e (am_ad kd base) ca e1) H1) (ht : ∀ ty x, e1 = .inl (ty, x) → ty ∈ tys) :
    am_R D cl tys (am_ad kd base) ca base (h ++ [e1]) H1 := by
  refine ⟨fun i x hx => ?_, by rw [z, hR.2.1, List.length_append]; rfl, fun i ty x hx => ?_⟩
  · by_cases hi : i < h.length
    · rw [List.getElem?_append_left hi] at hx
      exact (hR.1 i x hx).kept (o1 _ (by show base + i < _; rw [hR.2.1]; omega))
    · rw [List.getElem?_append_right (by omega)] at hx
      have hz : i - h.length < 1 := (List.getElem?_eq_some_iff.mp hx).1
      have hi0 : i = h.length := by omega
      subst hi0
      rw [Nat.sub_self] at hx
      cases hx
      rw [← hR.2.1]
      exact he
  · by_cases hi : i < h.length
    · rw [List.getElem?_append_left hi] at hx
      exact hR.2.2 i ty x hx
    · rw [List.getElem?_append_right (by omega)] at hx
      have hz : i - h.length < 1 := (List.getElem?_eq_some_iff.mp hx).1
      have hi0 : i = h.length := by omega
      subst hi0
      rw [Nat.sub_self] at hx
      cases hx
      exact ht _ _ rfl
theorem am_ad_new (hR : am_R D cl tys (am_ad kd base) ca base h H) : Value.ref H.size = am_v (am_ad kd base) (.ref (16 + h.length)) := by
  show Value.ref H.size = .ref (am_ad kd base (16 + h.length))
  rw [am_ad_hi (by omega), hR.2.1, Nat.add_sub_cancel_left]
theorem am_S_push {H1 : Heap} (hS : va_S A s.heap H locs) (z : H1.size = H.size + 1) (o1 : ∀ q, q < H.size → H1[q]? = H[q]?) : va_S A s.heap H1 locs :=
  ⟨Nat.le_trans hS.1 (by omega), fun x h1 h2 => (o1 x (Nat.lt_of_lt_of_le h1 hS.1)).trans (hS.2.1 x h1 h2), hS.2.2⟩
theorem am_dv (f : Nat → Nat) (ty : FieldType) : am_v f (defaultValue ty) = defaultValue ty := by cases ty <;> rfl
set_option maxHeartbeats 4000000 in
theorem am_halloc {X : am_X} {I : Instr} {k0 : Nat}
    (hx : p.tables.exec = Jvm.exec) (hb : c.code = cc) (hts : ∀ w ∈ Ts, w.before args s = true) (hown : s.vm.findClass own = some m.cls) (hd : decode cc pc = .ok (I, am_len X I)) (hok : am_oka cl tys Ts own X I)
    (hcl : am_clok cl tt Ts) (hK : va_K D cl [] s) (hT : ∀ ty ∈ tys, ArrOfT s (ca ty) ty ∧ va_RA s (ca ty) ty) (hO : ∀ C, .object C ∈ tys → va_AO C s) (hS : va_S A s.heap H locs) (hR : am_R D cl tys (am_ad kd base) ca base h H)
    (hs : am_a cl tt I X pc l st h = some ((pc', l', st', h'), k0)) (hcells : cells + 1 ≤ R.cells) (hslots : slots + k0 ≤ R.slots)
    (k : ∀ (H' : Heap), am_R D cl tys (am_ad kd base) ca base h' H' → va_S A s.heap H' locs → l' = l → W p l0 e R s m args below meth c H' locs (cells + 1) (slots + k0) Q (F0 m pc' ls (st'.map (am_v (am_ad kd base))))) :
    W p l0 e R s m args below meth c H locs cells slots Q (F0 m pc ls (st.map (am_v (am_ad kd base)))) := by
  cases I with
  | new i =>
    obtain ⟨r, hc, hw1, hw2, hw3⟩ := hok
    simp only [am_a, hc] at hs
    by_cases hlen : (tt.getD X.1 []).length = r.2.2
    case neg => rw [if_neg hlen] at hs; cases hs
    rw [if_pos hlen] at hs
    simp only [Option.some.injEq, Prod.mk.injEq] at hs; obtain ⟨⟨rfl, rfl, rfl, rfl⟩, rfl⟩ := hs
    have hKn := hK.1 X.1 _ hc
    refine W.newcK hx hb hown (hts _ hw1) (hts _ hw2) (hts _ hw3) rfl hd hcells hslots hKn.2.1 rfl fun H1 kC hkC e1 z1 o1 => ?_
    refine W.eq (g2 := F0 m (pc + 3) ls (am_v (am_ad kd base) (.ref (16 + h.length)) :: st.map (am_v (am_ad kd base)))) (by rw [← am_ad_new hR]) ?_
    refine k H1 (hR.push z1 o1 ?_ (fun ty x hx => by cases hx)) (am_S_push hS z1 o1) rfl
    refine ⟨r, hc, (u_born _ hts (hcl _ r hc).1 hKn hkC e1 (hcl _ r hc).2.1).to (fun j hj => ?_)⟩
    have hj' : j < (tt.getD X.1 []).length := by rw [hlen]; exact hj
    simp only [vp_V, List.getD_eq_getElem?_getD, List.getElem?_map, List.map_map]
    rw [List.getD_eq_getElem?_getD] at hj'
    rw [List.getElem?_eq_getElem hj']
    simp only [Option.getD_some, Option.map_some, Function.comp, am_dv]
  | newarray t =>
    obtain ⟨hw, hty⟩ := hok
    simp only [am_a] at hs
    split at hs
    case h_2 => cases hs
    rename_i n st1
    by_cases hn : n < 0 ∨ 60000000 < n.toNatClampNeg
    · rw [if_pos hn] at hs; cases hs
    rw [if_neg hn] at hs
    have hn0 : ¬ n < 0 := fun q => hn (Or.inl q)
    have hn1 : n.toNatClampNeg ≤ 60000000 := Nat.not_lt.mp fun q => hn (Or.inr q)
    have hnm : s.vm.findClass ("[" ++ (newarray.typeOf t).toString) = some (ca (newarray.typeOf t)) := by
      have := (hT _ hty).2
      cases t <;> exact this
    cases t <;> simp only at hs <;> first
      | (cases hs; done)
      | (simp only [Option.some.injEq, Prod.mk.injEq] at hs; obtain ⟨⟨rfl, rfl, rfl, rfl⟩, rfl⟩ := hs
         refine va_newaK hx hb (hts _ hw) rfl hd rfl hn0 rfl (by simp only [newarray.typeOf, componentBytes]; omega) hcells hslots rfl fun H1 cA e1 z1 o1 hAr hNm => ?_
         refine W.eq (g2 := F0 m (pc + 2) ls (am_v (am_ad kd base) (.ref (16 + h.length)) :: st1.map (am_v (am_ad kd base)))) (by rw [← am_ad_new hR]) ?_
         have hcA := Option.some.inj (hNm.symm.trans hnm)
         subst hcA
         exact k H1 (hR.push z1 o1 e1 (fun ty x hx => by cases hx; exact hty)) (am_S_push hS z1 o1) rfl)
  | anewarray i =>
    obtain ⟨r, hc, hw1, hty⟩ := hok
    have hw2 := hO r.1 hty
    simp only [am_a, hc] at hs
    split at hs
    case h_2 => cases hs
    rename_i n st1
    by_cases hn : n < 0 ∨ 60000000 < n.toNatClampNeg
    · rw [if_pos hn] at hs; cases hs
    rw [if_neg hn] at hs
    have hn0 : ¬ n < 0 := fun q => hn (Or.inl q)
    have hn1 : n.toNatClampNeg ≤ 60000000 := Nat.not_lt.mp fun q => hn (Or.inr q)
    simp only [Option.some.injEq, Prod.mk.injEq] at hs; obtain ⟨⟨rfl, rfl, rfl, rfl⟩, rfl⟩ := hs
    refine W.anew hx hb hown (hts _ hw1) (va_AO.use hw2) rfl hd rfl hn0 (by omega) hcells hslots fun cA kA comp f1 f2 f3 f4 => ?_
    generalize hH1 : H.push ({ cls := cA, slots := Array.replicate n.toNatClampNeg .null, vm := .none } : Cell) = H1
    have z1 : H1.size = H.size + 1 := by rw [← hH1, Array.size_push]
    have e1 : H1[H.size]? = some (arrV cA n.toNatClampNeg (fun _ => .null)) := by rw [← hH1, Array.getElem?_push_size, ← arrV_new]
    have o1 : ∀ q : Nat, q < H.size → H1[q]? = H[q]? := fun q hq => by rw [← hH1, Array.getElem?_push, if_neg (Nat.ne_of_lt hq)]
    refine W.eq (g2 := F0 m (pc + 3) ls (am_v (am_ad kd base) (.ref (16 + h.length)) :: st1.map (am_v (am_ad kd base)))) (by rw [← am_ad_new hR]) ?_
    obtain ⟨_, _, _, _, _, hnm⟩ := (hT _ hty).2
    have hcA := Option.some.inj (f1.symm.trans hnm)
    subst hcA
    exact k H1 (hR.push z1 o1 e1 (fun ty x hx => by cases hx; exact hty)) (am_S_push hS z1 o1) rfl
  | _ => simp [am_a] at hs
end AM3
end
section
/-! answers: the value, the heap, the cells and the slots that were made -/
abbrev am_Q : Type := Option Value × am_H × Nat × Nat
def am_find (pc : Nat) : List (Nat × Instr × am_X) → Option (Instr × am_X)
  | [] => none
  | q :: L => if q.1 = pc then some q.2 else am_find pc L
/-- the value that a return hands out -/
def am_r (ret : Option FieldType) (I : Instr) (st : List Value) : Option (Option Value) :=
  match I with
  | .ireturn => match st with
    | [.int v] => match ret with
      | some .int => some (some (.int v))
      | some .boolean => if v = 0 ∨ v = 1 then some (some (.int v)) else none
      | some .byte => if v.toInt8.toInt32 = v then some (some (.int v)) else none
      | some .char => if v.toUInt32.toUInt16.toUInt32.toInt32 = v then some (some (.int v)) else none
      | _ => none
    | _ => none
  | .lreturn => match st with
    | [.long v] => if ret = some .long then some (some (.long v)) else none
    | _ => none
  | .areturn => match st with
    | [.ref a] => match ret with
      | some (.object _) => some (some (.ref a))
      | some (.array _) => some (some (.ref a))
      | _ => none
    | [.null] => match ret with
      | some (.object _) => some (some .null)
      | some (.array _) => some (some .null)
      | _ => none
    | _ => none
  | .return_ => match st with
    | [] => if ret = none then some none else none
    | _ => none
  | _ => none
/-- the receiver of a call: an object of the class, or a constant text -/
def am_rc (cl : List vw_C) (strs : List Nat) (C : String) (v : Value) (h : am_H) : Prop :=
  ∃ a, v = .ref a ∧ ((¬ a < 16 ∧ ∃ ci fs r, h[a - 16]? = some (.inr (ci, fs)) ∧ cl[ci]? = some r ∧ r.1 = C) ∨ (a < 16 ∧ a ∈ strs ∧ C = "java/lang/String"))
/-- a call by its table: N values off the stack, the first of them below -/
def am_c (cl : List vw_C) (P : List am_M) (strs : List Nat) (I : Instr) (X : am_X) (st : List Value) (h : am_H) : Prop :=
  X.2.1 ≤ st.length ∧ ((st.drop X.2.1).map fun v => v.category).sum ≤ 8 ∧ X.2.2 = 0 ∧
  match I with
  | .invokestatic _ => True
  | .invokevirtual _ => ∃ v As M, (st.take X.2.1).reverse = v :: As ∧ P[X.1]? = some M ∧ am_rc cl strs M.1.cls v h
  | .invokespecial _ => ∃ a As, (st.take X.2.1).reverse = .ref a :: As
  | _ => False
/-- arraycopy of ints -/
def am_copy (I : Instr) (X : am_X) (st : List Value) (h : am_H) : Option (List Value × am_H) :=
  match I with
  | .invokestatic _ => if X.2.2 = 2 then (match st with
    | .int n :: .int dp :: .ref b :: .int sp :: .ref a :: st => if a < 16 ∨ b < 16 ∨ n < 0 ∨ dp < 0 ∨ sp < 0 ∨ ¬ (st.map fun v => v.category).sum ≤ 8 then none else (match h[a - 16]?, h[b - 16]? with
      | some (.inl (.int, n0, .inl f)), some (.inl (.int, n1, .inl g)) => if sp.toNatClampNeg + n.toNatClampNeg ≤ n0 ∧ dp.toNatClampNeg + n.toNatClampNeg ≤ n1 then some (st, h.set (b - 16) (.inl (.int, n1, .inl (va_cpy f g sp.toNatClampNeg dp.toNatClampNeg n.toNatClampNeg)))) else none
      | _, _ => none)
    | _ => none) else none
  | _ => none
/-- Object's own constructor -/
def am_obj (I : Instr) (X : am_X) (st : List Value) : Option (List Value) :=
  match I with
  | .invokespecial _ => if X.2.2 = 1 then (match st with
    | .ref _ :: st => if (st.map fun v => v.category).sum ≤ 8 then some st else none
    | _ => none) else none
  | _ => none
section AM4
variable (cst : am_K) (cl : List vw_C) (tt : List (List FieldType)) (P : List am_M) (strs : List Nat) (call : Nat → List Value → am_H → am_Q → Prop) (M : am_M)
/-- a run of a method from a point to its end, within n instructions of its own -/
def am_Go : Nat → Nat → am_L → List Value → am_H → am_Q → Prop
  | 0, _, _, _, _, _ => False
  | n + 1, pc, l, st, h, r => ∃ I X, am_find pc M.2.2.2.2 = some (I, X) ∧
      ((∃ F, am_s cst cl tt I X pc l st h = some F ∧ am_Go n F.1 F.2.1 F.2.2.1 F.2.2.2 r) ∨
       (∃ F k r1, am_a cl tt I X pc l st h = some (F, k) ∧ am_Go n F.1 F.2.1 F.2.2.1 F.2.2.2 r1 ∧ r = (r1.1, r1.2.1, 1 + r1.2.2.1, k + r1.2.2.2)) ∨
       (∃ v, am_r M.2.2.2.1 I st = some v ∧ r = (v, h, 0, 0)) ∨
       (∃ r1 r2, am_c cl P strs I X st h ∧ call X.1 (st.take X.2.1).reverse h r1 ∧ am_Go n (pc + 3) l (r1.1.toList ++ st.drop X.2.1) r1.2.1 r2 ∧ r = (r2.1, r2.2.1, r1.2.2.1 + r2.2.2.1, r1.2.2.2 + r2.2.2.2)) ∨
       (∃ st1, am_obj I X st = some st1 ∧ am_Go n (pc + 3) l st1 h r) ∨
       (∃ st1 h1, am_copy I X st h = some (st1, h1) ∧ am_Go n (pc + 3) l st1 h1 r))
end AM4
/-- what a table must say of a call -/
def am_okc (P : List am_M) (Ts : List Cond) (sr : am_SR) (own : String) (X : am_X) : Instr → Prop
  | .invokevirtual i => X.2.2 = 0 → ∃ M, P[X.1]? = some M ∧ Cond.instanceMethod M.1 ∈ Ts ∧ Cond.selects M.1.cls M.1 M.1 ∈ Ts ∧ Cond.initialized M.1.cls ∈ Ts ∧ (M.1.cls ≠ "java/lang/invoke/MethodHandle" ∧ M.1.cls ≠ "java/lang/invoke/VarHandle" ∧ (parseMethodDescriptor M.1.desc).map (fun d => d.parameters.length + 1) = some X.2.1) ∧ (Cond.methodLink own i M.1 ∈ Ts ∨ ∃ host, (own, i, M.1, host) ∈ sr.2)
  | .invokestatic i => (X.2.2 = 0 → ∃ M, P[X.1]? = some M ∧ Cond.static M.1 ∈ Ts ∧ Cond.initialized M.1.cls ∈ Ts ∧ (M.1.cls ≠ "java/lang/invoke/MethodHandle" ∧ M.1.cls ≠ "java/lang/invoke/VarHandle" ∧ (parseMethodDescriptor M.1.desc).map (fun d => d.parameters.length) = some X.2.1) ∧ (Cond.methodLink own i M.1 ∈ Ts ∨ ∃ host, (own, i, M.1, host) ∈ sr.2)) ∧
      (X.2.2 = 2 → Cond.methodLink own i arraycopyName ∈ Ts ∧ Cond.native arraycopyName ∈ Ts ∧ Cond.static arraycopyName ∈ Ts ∧ Cond.initialized "java/lang/System" ∈ Ts)
  | .invokespecial i => (X.2.2 = 0 → ∃ M, P[X.1]? = some M ∧ M.1.name = "<init>" ∧ M.2.2.2.1 = none ∧ Cond.instanceMethod M.1 ∈ Ts ∧ Cond.initialized M.1.cls ∈ Ts ∧ (M.1.cls ≠ "java/lang/invoke/MethodHandle" ∧ M.1.cls ≠ "java/lang/invoke/VarHandle" ∧ (parseMethodDescriptor M.1.desc).map (fun d => d.parameters.length + 1) = some X.2.1) ∧ (Cond.methodLink own i M.1 ∈ Ts ∨ ∃ host, (own, i, M.1, host) ∈ sr.2)) ∧
      (X.2.2 = 1 → Cond.methodLink own i Lib.objectInit ∈ Ts ∧ Cond.instanceMethod Lib.objectInit ∈ Ts ∧ Cond.code Lib.objectInit ⟨#[0xb1]⟩ 1 none ∈ Ts)
  | _ => True
/-- what holds of the tables and constants at every method's entry -/
def am_W (D : va_G) (cl : List vw_C) (tys : List FieldType) (ca : FieldType → ClassId) (kd : Nat → Nat) (A : Nat → Prop) (cst : am_K) (sn : List (Nat × String × String × String)) (sr : am_SR) (strs : List Nat) (lens : List Nat) (byts : List (List Int32)) (adV : Nat → Nat) (U : State) : Prop :=
  va_K D cl [] U ∧ (∀ ty ∈ tys, ArrOfT U (ca ty) ty ∧ va_RA U (ca ty) ty) ∧
  (∀ (a : Nat) (L : List Int32), a < 16 → cst.1[a]? = some L → va_T .int (kd a) L.length (fun j => .int (L.getD j 0)) A U U.heap) ∧
  (∀ (a : Nat) (C n d : String), (a, C, n, d) ∈ sn → va_Z C n d (am_v kd (am_sv cst a)) A U U.heap) ∧
  (∀ (o : String) (i : Nat) (tx : String) (a : Nat), (o, i, tx, a) ∈ sr.1 → vk_R o i tx (kd a) U) ∧
  (∀ a ∈ strs, va_O "java/lang/String" (kd a) A U U.heap) ∧
  am_tx kd A cst U ∧ (∀ q ∈ sr.2, va_Nw (.methodLinkNest q.1 q.2.1 q.2.2.1 q.2.2.2) U) ∧ ∀ C, .object C ∈ tys → va_AO C U
section AM5
variable {D : va_G} {cl : List vw_C} {tys : List FieldType} {ca : FieldType → ClassId} {kd : Nat → Nat} {A : Nat → Prop} {cst : am_K} {sn : List (Nat × String × String × String)} {sr : am_SR} {strs : List Nat} {lens : List Nat} {byts : List (List Int32)} {adV : Nat → Nat}
theorem am_W.to {s U : State} (hw : am_W D cl tys ca kd A cst sn sr strs lens byts adV s) (hW : s.WarmedH U.vm) (hq : ∀ a : Nat, a < s.heap.size → ¬ A a → U.heap[a]? = s.heap[a]?) : am_W D cl tys ca kd A cst sn sr strs lens byts adV U := by
  obtain ⟨h1, h2, h3, h4, h5, h6, h7, h8, h9⟩ := hw
  have ha := hW.alike
  exact ⟨h1.moved ha, fun ty ht => ⟨arrOfT_moved ha (h2 ty ht).1, (h2 ty ht).2.moved ha⟩, fun a L x y => ((h3 a L x y).moved ha).kept hq, fun a C n d x => ((h4 a C n d x).moved ha).kept hq, fun o i tx a x => (h5 o i tx a x).warm hW, fun a x => ((h6 a x).moved ha).kept hq, fun i L x => ⟨((h7 i L x).1.moved ha).kept hq, ((h7 i L x).2.1.moved ha).kept hq, ((h7 i L x).2.2.moved ha).kept hq⟩, fun q hx => va_Nw.warmM hW (h8 q hx), fun C hC => va_AO.moved ha (h9 C hC)⟩
theorem am_W.call {U : State} {g : JFrame} {mk : MethodId} {a : Array Value} (hw : am_W D cl tys ca kd A cst sn sr strs lens byts adV U) : am_W D cl tys ca kd A cst sn sr strs lens byts adV (U.calling g mk a) := by
  obtain ⟨h1, h2, h3, h4, h5, h6, h7, h8, h9⟩ := hw
  have ha : U.vm.Alike (U.calling g mk a).vm := Vm.Alike.refl U.vm
  exact ⟨h1.moved ha, fun ty ht => ⟨arrOfT_moved ha (h2 ty ht).1, (h2 ty ht).2.moved ha⟩, fun a L x y => (h3 a L x y).moved ha, fun a C n d x => (h4 a C n d x).moved ha, fun o i tx a x => (h5 o i tx a x).same rfl, fun a x => (h6 a x).moved ha, fun i L x => ⟨(h7 i L x).1.moved ha, (h7 i L x).2.1.moved ha, (h7 i L x).2.2.moved ha⟩, fun q hx => va_Nw.same rfl rfl (h8 q hx), fun C hC => va_AO.moved ha (h9 C hC)⟩
end AM5
end
section
section AM6
variable {D : va_G} {cl : List vw_C} {tys : List FieldType} {ca : FieldType → ClassId} {kd : Nat → Nat} {base : Nat} {A : Nat → Prop} {cst : am_K} {sn : List (Nat × String × String × String)} {sr : am_SR} {strs : List Nat} {lens : List Nat} {byts : List (List Int32)} {adV : Nat → Nat} {tt : List (List FieldType)} {P : List am_M} {Ts : List Cond} {call : Nat → List Value → am_H → am_Q → Prop} {l0 : Launch}
variable (D cl tys ca kd base A cst sn sr strs lens byts adV)
def am_Pc (av : List Value) (h : am_H) : Array Value → State → Prop := fun v U => v = (av.map (am_v (am_ad kd base))).toArray ∧ am_R D cl tys (am_ad kd base) ca base h U.heap ∧ am_W D cl tys ca kd A cst sn sr strs lens byts adV U
def am_Qc (r : am_Q) : Array Value → State → Outcome → State → Prop := fun _ st o t => o = .returned (r.1.map (am_v (am_ad kd base))) ∧ am_R D cl tys (am_ad kd base) ca base r.2.1 t.heap ∧ va_F A st t
variable {D cl tys ca kd base A cst sn sr strs lens byts adV}
theorem am_blind {av : List Value} {h : am_H} : FrameBlind (am_Pc D cl tys ca kd base A cst sn sr strs lens byts adV av h) := fun _ _ _ _ hq => ⟨hq.1, hq.2.1, hq.2.2.call⟩
/-- what is asked of the program's table, of its words, and of the callees -/
def am_ctx (cl : List vw_C) (tys : List FieldType) (tt : List (List FieldType)) (P : List am_M) (Ts : List Cond) : Prop :=
  am_clok cl tt Ts ∧ (∀ w ∈ Ts, (w.onTables && w.keeps) = true ∨ ∃ ty, w = .arrayClass ty) ∧ ∀ (mi : Nat) (M : am_M), P[mi]? = some M → Cond.code M.1 M.2.1 M.2.2.1 M.2.2.2.1 ∈ Ts ∧ M.2.2.1 ≤ 100
def am_tab (cl : List vw_C) (tys : List FieldType) (P : List am_M) (Ts : List Cond) (sn : List (Nat × String × String × String)) (sr : am_SR) (M : am_M) (init : Bool) : Prop :=
  ∀ (pc : Nat) (I : Instr) (X : am_X), am_find pc M.2.2.2.2 = some (I, X) → decode M.2.1 pc = .ok (I, am_len X I) ∧ am_ok cl Ts sn sr M.1.cls M.2.2.1 init X I ∧ am_oka cl tys Ts M.1.cls X I ∧ am_okc P Ts sr M.1.cls X I
theorem am_goodIn (hC : am_ctx cl tys tt P Ts) {mi : Nat} {M : am_M} (hM : P[mi]? = some M) : GoodIn Ts (Cond.code M.1 M.2.1 M.2.2.1 M.2.2.2.1 :: Ts) := by
  intro w hw
  rcases List.mem_cons.mp hw with rfl | h
  · exact ⟨(hC.2.2 mi M hM).1, hC.2.1 _ (hC.2.2 mi M hM).1⟩
  · exact ⟨h, hC.2.1 w h⟩
variable {p : Program} {e : Env} {R : Room} {s : State} {m : MethodId} {args : Array Value} {below : List Frame} {meth : Method} {c : Code} {H : Heap} {locs : List Loc} {cells slots : Nat} {Q : State → Prop}
theorem am_after {r : am_Q} {a : Array Value} {pc mc ms : Nat} {ls : Array Slot} {st0 rest : List Value} (hr : va_Run p l0 e R s m args below meth c H locs cells slots mc ms (F0 m pc ls st0) rest (am_Qc D cl tys ca kd base A r a) A) (hS : va_S A s.heap H locs)
    (kk : ∀ (H1 : Heap) (locs1 : List Loc), am_R D cl tys (am_ad kd base) ca base r.2.1 H1 → va_S A s.heap H1 locs1 → W p l0 e R s m args below meth c H1 locs1 (cells + mc) (slots + ms) Q (F0 m (pc + 3) ls ((r.1.map (am_v (am_ad kd base))).toList ++ rest))) : W p l0 e R s m args below meth c H locs cells slots Q (F0 m pc ls st0) := by
  intro T hT X
  obtain ⟨v, st₀, t, T', L, h0, X', hL, e1, e2, ⟨hv, hR, hz, hk⟩, st⟩ := hr T hT X
  cases hv
  rw [h0] at hz hk
  obtain ⟨t2, a1, b1⟩ := kk T'.heap (locs ++ L) (by rw [e1]; exact hR) ⟨Nat.le_trans hS.1 (by rw [e1]; exact hz), fun q h1 h2 => by rw [e1, hk q (Nat.lt_of_lt_of_le h1 hS.1) h2]; exact hS.2.1 q h1 h2, fun q hq => by
      rcases List.mem_append.mp hq with h | h
      · exact hS.2.2 q h
      · exact hL q h⟩ T' rfl X'
  exact ⟨t2, st t2 a1, b1⟩
theorem am_obj_some {I : Instr} {X : am_X} {st st1 : List Value} (h : am_obj I X st = some st1) : ∃ i a, I = .invokespecial i ∧ X.2.2 = 1 ∧ st = .ref a :: st1 ∧ (st1.map fun v => v.category).sum ≤ 8 := by
  unfold am_obj at h
  split at h
  case h_2 => cases h
  by_cases hX : X.2.2 = 1
  case neg => rw [if_neg hX] at h; cases h
  rw [if_pos hX] at h
  split at h
  case h_2 => cases h
  rename_i a st2
  by_cases hs : (st2.map fun v => v.category).sum ≤ 8
  case neg => rw [if_neg hs] at h; cases h
  rw [if_pos hs] at h
  cases h
  exact ⟨_, _, rfl, hX, rfl, hs⟩
theorem am_cats (f : Nat → Nat) (st : List Value) : ((st.map (am_v f)).map fun v => v.category) = st.map fun v => v.category := by
  rw [List.map_map]
  apply List.map_congr_left
  intro v _
  exact am_v_cat f v
end AM6
end
section
section AM7
variable {D : va_G} {cl : List vw_C} {tys : List FieldType} {ca : FieldType → ClassId} {kd : Nat → Nat} {base : Nat} {A : Nat → Prop} {cst : am_K} {sn : List (Nat × String × String × String)} {sr : am_SR} {strs : List Nat} {lens : List Nat} {byts : List (List Int32)} {adV : Nat → Nat} {tt : List (List FieldType)} {P : List am_M} {Ts : List Cond} {call : Nat → List Value → am_H → am_Q → Prop} {l0 : Launch}
variable {p : Program} {e : Env} {R : Room} {s : State} {m : MethodId} {args : Array Value} {below : List Frame} {meth : Method} {c : Code} {H : Heap} {locs : List Loc} {cells slots : Nat} {Q : State → Prop}
theorem am_clamp {z : Int32} (hz : ¬ z < 0) : z.toInt = (z.toNatClampNeg : Int) := by
  have hz0 : (0 : Int) ≤ z.toInt := by
    have := Int32.not_lt.mp hz
    simpa using Int32.le_iff_toInt_le.mp this
  show z.toInt = ((z.toInt.toNat : Nat) : Int)
  omega
set_option maxHeartbeats 4000000 in
theorem am_hcopy {cc : ByteArray} {pc : Nat} {ls : Array Slot} {I : Instr} {X : am_X} {st st1 : List Value} {h h1 : am_H} {own : String}
    (hx : p.tables.exec = Jvm.exec) (hb : c.code = cc) (hml : c.maxLocals = ls.size) (hts : ∀ w ∈ Ts, w.before args s = true) (hown : s.vm.findClass own = some m.cls) (hd : decode cc pc = .ok (I, am_len X I)) (hok : am_okc P Ts sr own X I)
    (hT : ∀ ty ∈ tys, ArrOfT s (ca ty) ty ∧ va_RA s (ca ty) ty) (hA : ∀ q, base ≤ q → A q) (hS : va_S A s.heap H locs) (hR : am_R D cl tys (am_ad kd base) ca base h H)
    (hs : am_copy I X st h = some (st1, h1)) (hf : 1 ≤ R.frames) (hlo : 100 ≤ R.locals)
    (k : ∀ (H' : Heap) (locs' : List Loc), am_R D cl tys (am_ad kd base) ca base h1 H' → va_S A s.heap H' locs' → W p l0 e R s m args below meth c H' locs' cells slots Q (F0 m (pc + 3) ls (st1.map (am_v (am_ad kd base))))) :
    W p l0 e R s m args below meth c H locs cells slots Q (F0 m pc ls (st.map (am_v (am_ad kd base)))) := by
  unfold am_copy at hs
  split at hs
  case h_2 => cases hs
  rename_i i
  by_cases hX : X.2.2 = 2
  case neg => rw [if_neg hX] at hs; cases hs
  rw [if_pos hX] at hs
  split at hs
  case h_2 => cases hs
  rename_i n dp b sp a st2
  split at hs
  · cases hs
  rename_i hneg
  simp only [not_or, Decidable.not_not] at hneg
  obtain ⟨ha, hb2, hn, hdp, hsp, hsum⟩ := hneg
  split at hs
  case h_2 => cases hs
  rename_i n0 f n1 g hea heb
  split at hs
  case isFalse => cases hs
  rename_i hlen
  cases hs
  obtain ⟨hw1, hw2, hw3, hw4⟩ := hok.2 hX
  have hta := hR.2.2 _ _ _ hea
  intro T hT0 XS
  have hc0 : H[am_ad kd base a]? = some (vp_cell (ca .int) (n0, .inl f)) := hR.at ha hea
  have hc1 : H[am_ad kd base b]? = some (vp_cell (ca .int) (n1, .inl g)) := hR.at hb2 heb
  obtain ⟨-, k0, hk0, cm0, hkk0⟩ := (hT _ hta).1 n0 (fun j => .int (f j))
  obtain ⟨-, k1, hk1, cm1, hkk1⟩ := (hT _ hta).1 n1 (fun j => .int (g j))
  obtain ⟨vm', X', step⟩ := XS.arraycopy hx hown (hts _ hw1) (hts _ hw2) (hts _ hw3) (hts _ hw4) (src := am_ad kd base a) (dst := am_ad kd base b) (cs := vp_cell (ca .int) (n0, .inl f)) (cd := vp_cell (ca .int) (n1, .inl g)) (srcPos := sp) (destPos := dp) (n := n) (by rw [hT0]; exact hc0) (by rw [hT0]; exact hc1)
    (fun _ h => by cases h) (fun _ h => by cases h) (fun h => by cases h) (fun h => by cases h) hk0 hk1 hkk0 hkk1 (by simp [refKind]) hsp hdp hn
    (by rw [am_clamp hsp, am_clamp hn]; show ¬ _ > ((arrV (ca .int) n0 (fun j => .int (f j))).slots.size : Int); rw [arrV_size]; omega)
    (by rw [am_clamp hdp, am_clamp hn]; show ¬ _ > ((arrV (ca .int) n1 (fun j => .int (g j))).slots.size : Int); rw [arrV_size]; omega)
    (fun vm₁ _ i hi => by
      have e : (vp_cell (ca .int) (n0, .inl f)).slots.getD (sp.toNatClampNeg + i) .null = .int (f (sp.toNatClampNeg + i)) := by
        show (arrV (ca .int) n0 (fun j => .int (f j))).slots.getD _ _ = _
        rw [Array.getD_eq_getD_getElem?, arrV_read _ _ (by omega)]
        rfl
      refine ⟨?_, ?_⟩
      · rw [e]; rfl
      · rw [e]; exact trivial)
    (g := F0 m pc ls (.int n :: .int dp :: .ref (am_ad kd base b) :: .int sp :: .ref (am_ad kd base a) :: st1.map (am_v (am_ad kd base)))) rfl (by rw [hml]) (rest := st1.map (am_v (am_ad kd base))) rfl (by rw [hb]; exact hd) hf (by
      rw [am_cats]
      show 2 * 0 + _ + (nativeFrameWords "java/lang/System" "arraycopy" 5 + 11) ≤ _
      have : nativeFrameWords "java/lang/System" "arraycopy" 5 = 7 := by decide
      rw [this]
      omega)
  have e1 : copied (vp_cell (ca .int) (n0, .inl f)) (vp_cell (ca .int) (n1, .inl g)) sp dp n = vp_cell (ca .int) (n1, .inl (va_cpy f g sp.toNatClampNeg dp.toNatClampNeg n.toNatClampNeg)) := va_copied (fun z => .int z) (ca .int) (ca .int) f g hlen.1
  rw [e1] at X' step
  have hl : am_ad kd base b < H.size := (Array.getElem?_eq_some_iff.mp hc1).1
  generalize hcell : vp_cell (ca .int) (n1, .inl (va_cpy f g sp.toNatClampNeg dp.toNatClampNeg n.toNatClampNeg)) = cellN at X' step
  have hheap : ((T.setVm vm').setCell (am_ad kd base b) cellN).heap = H.setIfInBounds (am_ad kd base b) cellN := by rw [← hT0]; rfl
  have oq : ∀ q : Nat, q ≠ am_ad kd base b → (H.setIfInBounds (am_ad kd base b) cellN)[q]? = H[q]? := fun q hq => by simp [Array.getElem?_setIfInBounds, Ne.symm hq]
  have hAb : A (am_ad kd base b) := hA _ (by rw [am_ad_hi hb2]; omega)
  obtain ⟨t, a1, b1⟩ := k _ _ (hR.set hb2 heb (H1 := H.setIfInBounds (am_ad kd base b) cellN) (by simp) oq (show (H.setIfInBounds (am_ad kd base b) cellN)[am_ad kd base b]? = some _ by rw [← hcell]; simp [Array.getElem?_setIfInBounds, hl, am_e]) (fun ty y hy => by cases hy; exact hta))
    ⟨by simp; exact hS.1, fun q g1 g2 => by
      rw [oq q (fun e => g2 (by rw [e]; exact hAb))]
      exact hS.2.1 q g1 g2, fun q hq => by
      rcases List.mem_append.mp hq with h | h
      · exact hS.2.2 q h
      · obtain ⟨z, -, hz⟩ := List.mem_map.mp h
        rw [← hz]
        exact hAb⟩ _ hheap X'
  exact ⟨t, step t a1, b1⟩
end AM7
end
section
section AM8
variable {D : va_G} {cl : List vw_C} {tys : List FieldType} {ca : FieldType → ClassId} {kd : Nat → Nat} {base : Nat} {A : Nat → Prop} {cst : am_K} {sn : List (Nat × String × String × String)} {sr : am_SR} {strs : List Nat} {lens : List Nat} {byts : List (List Int32)} {adV : Nat → Nat} {tt : List (List FieldType)} {P : List am_M} {Ts : List Cond} {call : Nat → List Value → am_H → am_Q → Prop} {l0 : Launch}
variable {p : Program} {e : Env} {R : Room} {s : State} {m : MethodId} {args : Array Value} {below : List Frame} {meth : Method} {c : Code} {H : Heap} {locs : List Loc} {cells slots : Nat} {Q : State → Prop}
/-- what the callees are known to do, at a depth -/
def am_calls (D : va_G) (cl : List vw_C) (tys : List FieldType) (ca : FieldType → ClassId) (kd : Nat → Nat) (base : Nat) (A : Nat → Prop) (cst : am_K) (sn : List (Nat × String × String × String)) (sr : am_SR) (strs : List Nat) (lens : List Nat) (byts : List (List Int32)) (adV : Nat → Nat) (P : List am_M) (Ts : List Cond) (l0 : Launch) (d : Nat) (call : Nat → List Value → am_H → am_Q → Prop) : Prop :=
  ∀ (mi : Nat) (M : am_M) (av : List Value) (h : am_H) (r : am_Q), P[mi]? = some M → call mi av h r →
    Met l0 M.1 (Cond.code M.1 M.2.1 M.2.2.1 M.2.2.2.1 :: Ts) ({ frames := d, cells := r.2.2.1, slots := r.2.2.2, locals := 200 * d } : Room) (am_Pc D cl tys ca kd base A cst sn sr strs lens byts adV av h) (am_Qc D cl tys ca kd base A r) r.2.2.1 r.2.2.2 A
theorem am_recv {C : String} {v : Value} {h : am_H} (hw : am_W D cl tys ca kd A cst sn sr strs lens byts adV s) (hS : va_S A s.heap H locs) (hR : am_R D cl tys (am_ad kd base) ca base h H) (hv : am_rc cl strs C v h) :
    ∃ a, v = .ref a ∧ ∃ cell : Cell, H[am_ad kd base a]? = some cell ∧ cell.vm.isStatics = false ∧ s.vm.findClass C = some cell.cls := by
  obtain ⟨a, rfl, (⟨ha, ci, fs, r, he, hc, hC⟩ | ⟨ha, hin, hC⟩)⟩ := hv
  · refine ⟨a, rfl, ?_⟩
    obtain ⟨r', h1, cell, q1, q2, q3, -⟩ := hR.at ha he
    exact ⟨cell, q1, by rw [q3]; rfl, by rw [q2, ← hC]; exact (hw.1.1 ci r hc).2.1⟩
  · refine ⟨a, rfl, ?_⟩
    obtain ⟨cell, q1, q2, q3, q4⟩ := hw.2.2.2.2.2.1 a hin
    refine ⟨cell, ?_, q2, by rw [hC]; exact q3⟩
    have : am_ad kd base a = kd a := by unfold am_ad; rw [if_pos ha]
    rw [this, hS.2.1 _ (Array.getElem?_eq_some_iff.mp q1).1 q4]
    exact q1
theorem am_desc {x : Option MethodDescriptor} {N n : Nat} (h : x.map (fun d => d.parameters.length + 1) = some N) (hn : N = n + 1) : x.map (fun d => d.parameters.length) = some n := by
  cases x with
  | none => cases h
  | some y =>
    simp only [Option.map_some, Option.some.injEq] at h ⊢
    omega
set_option maxHeartbeats 4000000 in
theorem am_hcall {cc : ByteArray} {pc d : Nat} {ls : Array Slot} {I : Instr} {X : am_X} {st : List Value} {h : am_H} {r1 : am_Q} {own : String}
    (hx : p.tables.exec = Jvm.exec) (hb : c.code = cc) (hml : c.maxLocals = ls.size) (hts : ∀ w ∈ Ts, w.before args s = true) (hown : s.vm.findClass own = some m.cls) (hd : decode cc pc = .ok (I, am_len X I)) (hok : am_okc P Ts sr own X I)
    (hC : am_ctx cl tys tt P Ts) (hw : am_W D cl tys ca kd A cst sn sr strs lens byts adV s) (hcs : am_calls D cl tys ca kd base A cst sn sr strs lens byts adV P Ts l0 d call)
    (hS : va_S A s.heap H locs) (hR : am_R D cl tys (am_ad kd base) ca base h H)
    (hc : am_c cl P strs I X st h) (hcl : call X.1 (st.take X.2.1).reverse h r1) (hRf : d + 1 ≤ R.frames) (hRl : 200 * d + 200 ≤ R.locals) (hcells : cells + r1.2.2.1 ≤ R.cells) (hslots : slots + r1.2.2.2 ≤ R.slots)
    (k : ∀ (H' : Heap) (locs' : List Loc), am_R D cl tys (am_ad kd base) ca base r1.2.1 H' → va_S A s.heap H' locs' → W p l0 e R s m args below meth c H' locs' (cells + r1.2.2.1) (slots + r1.2.2.2) Q (F0 m (pc + 3) ls ((r1.1.toList ++ st.drop X.2.1).map (am_v (am_ad kd base))))) :
    W p l0 e R s m args below meth c H locs cells slots Q (F0 m pc ls (st.map (am_v (am_ad kd base)))) := by
  obtain ⟨hN, hsum, h0, hI⟩ := hc
  have hsum' : 2 * (F0 m pc ls (st.map (am_v (am_ad kd base)))).monitorRoom + (((st.drop X.2.1).map (am_v (am_ad kd base))).map fun v => v.category).sum ≤ 8 := by
    rw [am_cats]; exact lv_room hsum
  have hk : ∀ (H' : Heap) (locs' : List Loc), am_R D cl tys (am_ad kd base) ca base r1.2.1 H' → va_S A s.heap H' locs' → W p l0 e R s m args below meth c H' locs' (cells + r1.2.2.1) (slots + r1.2.2.2) Q (F0 m (pc + 3) ls ((r1.1.map (am_v (am_ad kd base))).toList ++ (st.drop X.2.1).map (am_v (am_ad kd base)))) := by
    intro H' locs' q1 q2
    refine W.eq ?_ (k H' locs' q1 q2)
    rw [List.map_append]
    congr 2
    cases r1.1 <;> rfl
  have hpre : ∀ U : State, U.heap = H → s.WarmedH U.vm → am_Pc D cl tys ca kd base A cst sn sr strs lens byts adV (st.take X.2.1).reverse h (((st.take X.2.1).reverse.map (am_v (am_ad kd base))).toArray) U := fun U hU hW => ⟨rfl, by rw [hU]; exact hR, hw.to hW (fun a g1 g2 => by rw [hU]; exact hS.2.1 a g1 g2)⟩
  cases I with
  | invokestatic i =>
    obtain ⟨M, hM, hst, hin, hdd, hlink⟩ := hok.1 h0
    have hstk : st.map (am_v (am_ad kd base)) = ((st.take X.2.1).reverse.map (am_v (am_ad kd base))).reverse ++ (st.drop X.2.1).map (am_v (am_ad kd base)) := by
      rw [List.map_reverse, List.reverse_reverse, ← List.map_append, List.take_append_drop]
    have hlen : ((st.take X.2.1).reverse.map (am_v (am_ad kd base))).length = X.2.1 := by simp; omega
    have hmL := (hC.2.2 _ M hM).2
    rcases hlink with hlink | ⟨host, hlink⟩
    · exact am_after (va_runS (Ts := Ts) ⟨hx, hb, hml, hown, hts⟩ (hcs _ M _ _ _ hM hcl) ⟨callB_of X.2.1 hts (am_goodIn hC hM) rfl rfl rfl (hts _ hin) (hts _ hlink) hdd ⟨hRf, by show 8 + (_ + 11) + 200 * d ≤ _; omega⟩, hts _ hst⟩ ⟨am_blind, hpre⟩ rfl hlen rfl hstk hsum' hd ⟨hcells, hslots⟩) hS hk
    · exact am_after (va_runSN (Ts := Ts) (host := host) ⟨hx, hb, hml, hown, hts⟩ (hcs _ M _ _ _ hM hcl) ⟨va_cnB X.2.1 hts (am_goodIn hC hM) rfl rfl rfl (hw.2.2.2.2.2.2.2.1 _ hlink) (hts _ hin) hdd ⟨hRf, by show 8 + (_ + 11) + 200 * d ≤ _; omega⟩, hts _ hst, trivial⟩ ⟨am_blind, hpre⟩ rfl hlen rfl hstk hsum' hd ⟨hcells, hslots⟩) hS hk
  | invokevirtual i =>
    obtain ⟨M, hM, hins, hsel, hin, hdd, hlink⟩ := hok h0
    obtain ⟨v, As, M', hA, hM', hrc⟩ := hI
    cases hM.symm.trans hM'
    obtain ⟨a, rfl, hcell⟩ := am_recv hw hS hR hrc
    rw [hA] at hpre hcl
    have hN' : X.2.1 = As.length + 1 := by
      have := congrArg List.length hA
      simp at this
      omega
    have htk : st.take X.2.1 = As.reverse ++ [.ref a] := by
      have := congrArg List.reverse hA
      simpa using this
    have hstk : st.map (am_v (am_ad kd base)) = (As.map (am_v (am_ad kd base))).reverse ++ .ref (am_ad kd base a) :: (st.drop X.2.1).map (am_v (am_ad kd base)) := by
      have e1 : st = (As.reverse ++ [.ref a]) ++ st.drop X.2.1 := by rw [← htk, List.take_append_drop]
      have e2 := congrArg (List.map (am_v (am_ad kd base))) e1
      rw [e2]
      simp [List.map_append, List.map_reverse, am_v]
    have hlen : (As.map (am_v (am_ad kd base))).length = As.length := List.length_map _
    have hmL := (hC.2.2 _ M hM).2
    rcases hlink with hlink | ⟨host, hlink⟩
    · exact am_after (va_runV (Ts := Ts) (C := M.1.cls) ⟨hx, hb, hml, hown, hts⟩ (hcs _ M _ _ _ hM hcl) ⟨callB_of As.length hts (am_goodIn hC hM) rfl rfl rfl (hts _ hin) (hts _ hlink) ⟨hdd.1, hdd.2.1, am_desc hdd.2.2 hN'⟩ ⟨hRf, by show 8 + (_ + 11) + 200 * d ≤ _; omega⟩, hts _ hins, hts _ hsel⟩ ⟨am_blind, hcell, hpre⟩ rfl hlen rfl hstk hsum' hd ⟨hcells, hslots⟩) hS hk
    · exact am_after (va_runVN (Ts := Ts) (C := M.1.cls) (host := host) ⟨hx, hb, hml, hown, hts⟩ (hcs _ M _ _ _ hM hcl) ⟨va_cnB As.length hts (am_goodIn hC hM) rfl rfl rfl (hw.2.2.2.2.2.2.2.1 _ hlink) (hts _ hin) ⟨hdd.1, hdd.2.1, am_desc hdd.2.2 hN'⟩ ⟨hRf, by show 8 + (_ + 11) + 200 * d ≤ _; omega⟩, hts _ hins, hts _ hsel⟩ ⟨am_blind, hcell, hpre⟩ rfl hlen rfl hstk hsum' hd ⟨hcells, hslots⟩) hS hk
  | invokespecial i =>
    obtain ⟨M, hM, hnm, hrt, hins, hin, hdd, hlink⟩ := hok.1 h0
    obtain ⟨a, As, hA⟩ := hI
    rw [hA] at hpre hcl
    have hN' : X.2.1 = As.length + 1 := by
      have := congrArg List.length hA
      simp at this
      omega
    have htk : st.take X.2.1 = As.reverse ++ [.ref a] := by
      have := congrArg List.reverse hA
      simpa using this
    have hstk : st.map (am_v (am_ad kd base)) = (As.map (am_v (am_ad kd base))).reverse ++ .ref (am_ad kd base a) :: (st.drop X.2.1).map (am_v (am_ad kd base)) := by
      have e1 : st = (As.reverse ++ [.ref a]) ++ st.drop X.2.1 := by rw [← htk, List.take_append_drop]
      have e2 := congrArg (List.map (am_v (am_ad kd base))) e1
      rw [e2]
      simp [List.map_append, List.map_reverse, am_v]
    have hlen : (As.map (am_v (am_ad kd base))).length = As.length := List.length_map _
    have hmL := (hC.2.2 _ M hM).2
    have hMet := hcs _ M _ _ _ hM hcl
    have hG := am_goodIn hC hM
    obtain ⟨y, bytes, maxL, ret, L⟩ := M
    dsimp only at hrt hMet hG hmL hnm hins hin hdd hlink
    subst hrt
    rcases hlink with hlink | ⟨host, hlink⟩
    · exact am_after (va_runI (Ts := Ts) ⟨hx, hb, hml, hown, hts⟩ hMet ⟨callB_of As.length hts hG rfl rfl rfl (hts _ hin) (hts _ hlink) ⟨hdd.1, hdd.2.1, am_desc hdd.2.2 hN'⟩ ⟨hRf, by show 8 + (_ + 11) + 200 * d ≤ _; omega⟩, hnm, hts _ hins⟩ ⟨am_blind, hpre⟩ rfl hlen rfl hstk hsum' hd ⟨hcells, hslots⟩) hS hk
    · exact am_after (va_runIN (Ts := Ts) (host := host) ⟨hx, hb, hml, hown, hts⟩ hMet ⟨va_cnB As.length hts hG rfl rfl rfl (hw.2.2.2.2.2.2.2.1 _ hlink) (hts _ hin) ⟨hdd.1, hdd.2.1, am_desc hdd.2.2 hN'⟩ ⟨hRf, by show 8 + (_ + 11) + 200 * d ≤ _; omega⟩, hnm, hts _ hins⟩ ⟨am_blind, hpre⟩ rfl hlen rfl hstk hsum' hd ⟨hcells, hslots⟩) hS hk
  | _ => exact hI.elim
end AM8
end
section
theorem am_kinds (X : am_X) (I : Instr) : am_isP X I ∨ (∃ i, I = .getfield i) ∨ (∃ i, I = .putfield i) ∨ (I = .arraylength ∨ I = .iaload ∨ I = .laload ∨ I = .baload ∨ I = .aaload ∨ (∃ i, I = .getstatic i) ∨ ((∃ i, I = .ldc i) ∧ ¬ X.1 = 0) ∨ ((∃ i, I = .ldc_w i) ∧ ¬ X.1 = 0)) ∨ (I = .iastore ∨ I = .lastore ∨ I = .bastore ∨ I = .aastore) := by
  cases I with
  | ldc i =>
    by_cases h : X.1 = 0
    · exact Or.inl h
    · exact Or.inr (Or.inr (Or.inr (Or.inl (Or.inr (Or.inr (Or.inr (Or.inr (Or.inr (Or.inr (Or.inl ⟨⟨i, rfl⟩, h⟩))))))))))
  | ldc_w i =>
    by_cases h : X.1 = 0
    · exact Or.inl h
    · exact Or.inr (Or.inr (Or.inr (Or.inl (Or.inr (Or.inr (Or.inr (Or.inr (Or.inr (Or.inr (Or.inr ⟨⟨i, rfl⟩, h⟩))))))))))
  | getfield i => exact Or.inr (Or.inl ⟨i, rfl⟩)
  | putfield i => exact Or.inr (Or.inr (Or.inl ⟨i, rfl⟩))
  | arraylength => simp
  | iaload => simp
  | laload => simp
  | baload => simp
  | aaload => simp
  | getstatic i => simp
  | iastore => simp
  | lastore => simp
  | bastore => simp
  | aastore => simp
  | _ => exact Or.inl trivial
theorem am_args_lc (f : Nat → Nat) : ∀ (av : List Value) (i : Nat), lv_args i (av.map (am_v f)) = am_lc f (lv_args i av)
  | [], _ => rfl
  | v :: av, i => by
    simp only [List.map_cons, lv_args, am_lc, am_v_cat]
    congr 1
    exact am_args_lc f av _
theorem am_sl_len (f : Nat → Nat) (av : List Value) : (lg_sl (av.map (am_v f))).length = (lg_sl av).length := by
  unfold lg_sl
  rw [List.flatMap_map]
  simp only [List.length_flatMap]
  congr 1
  apply List.map_congr_left
  intro v _
  simp only [am_v_cat]
  split <;> rfl
section AM9
variable {D : va_G} {cl : List vw_C} {tys : List FieldType} {ca : FieldType → ClassId} {kd : Nat → Nat} {base : Nat} {A : Nat → Prop} {cst : am_K} {sn : List (Nat × String × String × String)} {sr : am_SR} {strs : List Nat} {lens : List Nat} {byts : List (List Int32)} {adV : Nat → Nat} {tt : List (List FieldType)} {P : List am_M} {Ts : List Cond} {call : Nat → List Value → am_H → am_Q → Prop} {l0 : Launch}
variable {p : Program} {e : Env} {R : Room} {s : State} {m : MethodId} {args : Array Value} {below : List Frame} {meth : Method} {c : Code} {Q : State → Prop}
set_option maxHeartbeats 4000000 in
/-- a run of the abstract machine is a walk of the Java machine -/
theorem am_sim {M : am_M} {init : Bool} {d : Nat} (hx : p.tables.exec = Jvm.exec) (hb : c.code = M.2.1) (hml : c.maxLocals = M.2.2.1) (hts : ∀ w ∈ Ts, w.before args s = true) (hown : s.vm.findClass M.1.cls = some m.cls) (hinit : init = true → meth.name = "<init>")
    (htab : am_tab cl tys P Ts sn sr M init) (hC : am_ctx cl tys tt P Ts) (hw : am_W D cl tys ca kd A cst sn sr strs lens byts adV s) (hcs : am_calls D cl tys ca kd base A cst sn sr strs lens byts adV P Ts l0 d call) (hA : ∀ q, base ≤ q → A q) (hRf : d + 1 ≤ R.frames) (hRl : 200 * d + 200 ≤ R.locals) :
    ∀ (n pc : Nat) (l : am_L) (st : List Value) (h : am_H) (r : am_Q) (H : Heap) (locs : List Loc) (cells slots : Nat) (ls : Array Slot), am_Go cst cl tt P strs call M n pc l st h r → lv_has ls M.2.2.1 (am_lc (am_ad kd base) l) → am_R D cl tys (am_ad kd base) ca base h H → va_S A s.heap H locs → cells + r.2.2.1 ≤ R.cells → slots + r.2.2.2 ≤ R.slots →
      (∀ (pcr : Nat) (I : Instr) (X : am_X) (st' : List Value) (ls' : Array Slot) (H' : Heap) (locs' : List Loc), am_find pcr M.2.2.2.2 = some (I, X) → am_r M.2.2.2.1 I st' = some r.1 → am_R D cl tys (am_ad kd base) ca base r.2.1 H' → va_S A s.heap H' locs' → W p l0 e R s m args below meth c H' locs' (cells + r.2.2.1) (slots + r.2.2.2) Q (F0 m pcr ls' (st'.map (am_v (am_ad kd base))))) →
      W p l0 e R s m args below meth c H locs cells slots Q (F0 m pc ls (st.map (am_v (am_ad kd base)))) := by
  intro n
  induction n with
  | zero => intro pc l st h r H locs cells slots ls hgo; exact hgo.elim
  | succ n ih =>
    intro pc l st h r H locs cells slots ls hgo hl hR hS hcells hslots hret
    obtain ⟨I, X, hf, hcase⟩ := hgo
    obtain ⟨hd, hok, hoka, hokc⟩ := htab pc I X hf
    rcases hcase with ⟨F, hs, hgo⟩ | ⟨F, k0, r1, hs, hgo, rfl⟩ | ⟨v, hv, rfl⟩ | ⟨r1, r2, hc, hcl, hgo, rfl⟩ | ⟨st1, hs, hgo⟩ | ⟨st1, h1, hs, hgo⟩
    · obtain ⟨pc', l', st', h'⟩ := F
      rcases am_kinds X I with hk | ⟨i, rfl⟩ | ⟨i, rfl⟩ | hk | hk
      · refine am_pure hx hb hts hown hd hok hl hs hk (fun hh ls' hl' => ?_)
        subst hh
        exact ih _ _ _ _ _ _ _ _ _ _ hgo hl' hR hS hcells hslots hret
      · refine am_hget hx hb hts hown hd hok hC.1 hw.1 hR hS hw.2.2.2.2.2.2.1 hs (fun hh hll => ?_)
        subst hh; subst hll
        exact ih _ _ _ _ _ _ _ _ _ _ hgo hl hR hS hcells hslots hret
      · refine am_hput hx hb hts hown hd hok hC.1 hw.1 hinit hA hS hR hs (fun H' locs' hR' hS' hll => ?_)
        subst hll
        exact ih _ _ _ _ _ _ _ _ _ _ hgo hl hR' hS' hcells hslots hret
      · refine am_hload hx hb hts hown hd hok hw.1 hw.2.1 hS hR hw.2.2.1 hw.2.2.2.1 hw.2.2.2.2.2.2.1 hw.2.2.2.2.1 hk hs (fun hh hll => ?_)
        subst hh; subst hll
        exact ih _ _ _ _ _ _ _ _ _ _ hgo hl hR hS hcells hslots hret
      · refine am_hstore hx hb hd hw.1 hw.2.1 hA hS hR hk hs (fun H' locs' hR' hS' hll => ?_)
        subst hll
        exact ih _ _ _ _ _ _ _ _ _ _ hgo hl hR' hS' hcells hslots hret
    · obtain ⟨pc', l', st', h'⟩ := F
      dsimp only at hcells hslots hret
      refine am_halloc hx hb hts hown hd hoka hC.1 hw.1 hw.2.1 hw.2.2.2.2.2.2.2.2 hS hR hs (by omega) (by omega) (fun H' hR' hS' hll => ?_)
      subst hll
      refine ih _ _ _ _ _ _ _ _ _ _ hgo hl hR' hS' (by omega) (by omega) (fun pcr I' X' st2 ls2 H2 locs2 g1 g2 g3 g4 => ?_)
      have := hret pcr I' X' st2 ls2 H2 locs2 g1 g2 g3 g4
      rwa [← Nat.add_assoc, ← Nat.add_assoc] at this
    · exact hret pc I X st ls H locs hf hv hR hS
    · dsimp only at hcells hslots hret
      refine am_hcall hx hb (hml.trans hl.1.symm) hts hown hd hokc hC hw hcs hS hR hc hcl hRf hRl (by omega) (by omega) (fun H' locs' hR' hS' => ?_)
      refine ih _ _ _ _ _ _ _ _ _ _ hgo hl hR' hS' (by omega) (by omega) (fun pcr I' X' st2 ls2 H2 locs2 g1 g2 g3 g4 => ?_)
      have := hret pcr I' X' st2 ls2 H2 locs2 g1 g2 g3 g4
      rwa [← Nat.add_assoc, ← Nat.add_assoc] at this
    · obtain ⟨i, a, rfl, hX, rfl, hsum⟩ := am_obj_some hs
      obtain ⟨w1, w2, w3⟩ := hokc.2 hX
      refine W.objInit hx hb hown (hts _ w1) (hts _ w2) (hts _ w3) rfl (hl.1.trans hml.symm) rfl hd (by omega) ?_ ?_
      · rw [am_cats]
        have := lv_room (m := m) (pc := pc) (ls := ls) (rest := []) hsum
        show 2 * 0 + _ + 12 ≤ _
        omega
      · exact ih _ _ _ _ _ _ _ _ _ _ hgo hl hR hS hcells hslots hret
    · refine am_hcopy hx hb (hml.trans hl.1.symm) hts hown hd hokc hw.2.1 hA hS hR hs (by omega) (by omega) (fun H' locs' hR' hS' => ?_)
      exact ih _ _ _ _ _ _ _ _ _ _ hgo hl hR' hS' hcells hslots hret
end AM9
/-- a run of a method from its entry, at a depth; bi: what else may be called -/
def am_Run (cst : am_K) (cl : List vw_C) (tt : List (List FieldType)) (P : List am_M) (strs : List Nat) (bi : Nat → List Value → am_H → am_Q → Prop) : Nat → Nat → List Value → am_H → am_Q → Prop
  | 0, _, _, _, _ => False
  | d + 1, mi, av, h, r => (3 ≤ d ∧ bi mi av h r) ∨ ∃ M n, P[mi]? = some M ∧ (lg_sl av).length ≤ M.2.2.1 ∧ am_Go cst cl tt P strs (am_Run cst cl tt P strs bi d) M n 0 (lv_args 0 av) [] h r
end
section
section AM10
variable {D : va_G} {cl : List vw_C} {tys : List FieldType} {ca : FieldType → ClassId} {kd : Nat → Nat} {base : Nat} {A : Nat → Prop} {cst : am_K} {sn : List (Nat × String × String × String)} {sr : am_SR} {strs : List Nat} {lens : List Nat} {byts : List (List Int32)} {adV : Nat → Nat} {tt : List (List FieldType)} {P : List am_M} {Ts : List Cond} {bi : Nat → List Value → am_H → am_Q → Prop} {l0 : Launch}
/-- the tables of all methods -/
def am_tabs (cl : List vw_C) (tys : List FieldType) (P : List am_M) (Ts : List Cond) (sn : List (Nat × String × String × String)) (sr : am_SR) : Prop :=
  ∀ (mi : Nat) (M : am_M), P[mi]? = some M → plainFor M.1 = true ∧ am_tab cl tys P Ts sn sr M (M.1.name == "<init>")
theorem am_r_end {p : Program} {e : Env} {R : Room} {s : State} {m : MethodId} {args : Array Value} {below : List Frame} {meth : Method} {c : Code} {H : Heap} {locs : List Loc} {cells slots : Nat} {cc : ByteArray} {pc : Nat} {ls : Array Slot} {ret : Option FieldType} {I : Instr} {X : am_X} {st : List Value} {v : Option Value} {f : Nat → Nat} {Qc : Array Value → State → Outcome → State → Prop} {free : Addr → Prop}
    (hx : p.tables.exec = Jvm.exec) (hb : c.code = cc) (hr : meth.sig.returnType = ret) (hlocks : meth.locks = false) (hd : decode cc pc = .ok (I, am_len X I)) (hv : am_r ret I st = some v)
    (hq : ∀ t : State, t.heap = H → s.WarmedH t.vm → Qc args s (.returned (v.map (am_v f))) t) (hf : ∀ q ∈ locs, free q.base) :
    W p l0 e R s m args below meth c H locs cells slots (MQ below Qc args s cells slots free) (F0 m pc ls (st.map (am_v f))) := by
  cases I with
  | ireturn =>
    simp only [am_r] at hv
    split at hv
    case h_2 => cases hv
    rename_i x
    split at hv
    · cases hv
      exact W.iret hx hb hr hq hf hd hlocks
    · by_cases h01 : x = 0 ∨ x = 1
      case neg => rw [if_neg h01] at hv; cases hv
      rw [if_pos h01] at hv
      cases hv
      refine W.zret (ty := .boolean) hx hb hr ?_ hq hf hd hlocks
      rcases h01 with rfl | rfl
      · exact (by decide : narrow .boolean (.int 0) = .int 0)
      · exact (by decide : narrow .boolean (.int 1) = .int 1)
    · by_cases h01 : x.toInt8.toInt32 = x
      case neg => rw [if_neg h01] at hv; cases hv
      rw [if_pos h01] at hv
      cases hv
      exact W.zret (ty := .byte) hx hb hr (congrArg Value.int h01) hq hf hd hlocks
    · by_cases h01 : x.toUInt32.toUInt16.toUInt32.toInt32 = x
      case neg => rw [if_neg h01] at hv; cases hv
      rw [if_pos h01] at hv
      cases hv
      exact W.zret (ty := .char) hx hb hr (congrArg Value.int h01) hq hf hd hlocks
    · cases hv
  | lreturn =>
    simp only [am_r] at hv
    split at hv
    case h_2 => cases hv
    by_cases h1 : ret = some .long
    case neg => rw [if_neg h1] at hv; cases hv
    rw [if_pos h1] at hv
    cases hv
    exact W.lret hx hb (hr.trans h1) hq hf hd hlocks
  | areturn =>
    simp only [am_r] at hv
    split at hv
    · split at hv
      · cases hv
        exact W.aret hx hb hr (Or.inl ⟨_, rfl⟩) (Or.inr ⟨_, rfl⟩) hq hf hd hlocks
      · cases hv
        exact W.aret hx hb hr (Or.inr ⟨_, rfl⟩) (Or.inr ⟨_, rfl⟩) hq hf hd hlocks
      · cases hv
    · split at hv
      · cases hv
        exact W.aret hx hb hr (Or.inl ⟨_, rfl⟩) (Or.inl rfl) hq hf hd hlocks
      · cases hv
        exact W.aret hx hb hr (Or.inr ⟨_, rfl⟩) (Or.inl rfl) hq hf hd hlocks
      · cases hv
    · cases hv
  | return_ =>
    simp only [am_r] at hv
    split at hv
    case h_2 => cases hv
    by_cases h1 : ret = none
    case neg => rw [if_neg h1] at hv; cases hv
    rw [if_pos h1] at hv
    cases hv
    exact W.vret hx hb (hr.trans h1) hq hf hd hlocks
  | _ => simp [am_r] at hv
set_option maxHeartbeats 4000000 in
/-- every run is a contract -/
theorem am_met (hC : am_ctx cl tys tt P Ts) (hP : am_tabs cl tys P Ts sn sr) (hA : ∀ q, base ≤ q → A q)
    (hbi : ∀ (d mi : Nat) (M : am_M) (av : List Value) (h : am_H) (r : am_Q), 3 ≤ d → P[mi]? = some M → bi mi av h r →
      Met l0 M.1 (Cond.code M.1 M.2.1 M.2.2.1 M.2.2.2.1 :: Ts) ({ frames := d + 1, cells := r.2.2.1, slots := r.2.2.2, locals := 200 * (d + 1) } : Room) (am_Pc D cl tys ca kd base A cst sn sr strs lens byts adV av h) (am_Qc D cl tys ca kd base A r) r.2.2.1 r.2.2.2 A) :
    ∀ d : Nat, am_calls D cl tys ca kd base A cst sn sr strs lens byts adV P Ts l0 d (am_Run cst cl tt P strs bi d) := by
  intro d
  induction d with
  | zero => intro mi M av h r hM hrun; exact hrun.elim
  | succ d ih =>
    intro mi M av h r hM hrun
    rcases hrun with ⟨hd, hb⟩ | ⟨M', n, hM', hsl, hgo⟩
    · exact hbi d mi M av h r hd hM hb
    cases hM.symm.trans hM'
    obtain ⟨hpl, htab⟩ := hP mi M hM
    refine va_MetF (cc := M.2.1) (maxL := M.2.2.1) (ret := M.2.2.2.1) hpl rfl ?_
    intro p e s m args below meth c s₁ B hml hv
    obtain ⟨rfl, hR, hw⟩ := hv
    have hx := B.exec
    have hb := B.bytes
    have hr := B.returns
    have hts0 := atoms_spec (ws := Cond.code M.1 M.2.1 M.2.2.1 M.2.2.2.1 :: Ts) B.pre
    have hts : ∀ w ∈ Ts, w.before (av.map (am_v (am_ad kd base))).toArray s = true := fun w hw => hts0 w (List.mem_cons_of_mem _ hw)
    have hown : s.vm.findClass M.1.cls = some m.cls := findClass_of_methodNamed B.named
    have hlocks := B.notSynchronized
    have hl := lv_entry (av.map (am_v (am_ad kd base))) (n := M.2.2.1) (by rw [am_sl_len]; exact hsl)
    rw [am_args_lc] at hl
    rw [lg_entry_eq]
    refine am_sim (R := (headSpec (Cond.code M.1 M.2.1 M.2.2.1 M.2.2.2.1 :: Ts) ({ frames := d + 1, cells := r.2.2.1, slots := r.2.2.2, locals := 200 * (d + 1) } : Room)).room) (d := d) hx hb hml hts hown (fun hi => ?_) htab hC hw ih hA (Nat.le_refl (d + 1)) (Nat.le_of_eq (by show 200 * d + 200 = 200 * (d + 1); omega)) n 0 (lv_args 0 av) [] h r s.heap [] 0 0 _ hgo hl hR va_S.rf (by rw [Nat.zero_add]; exact Nat.le_refl r.2.2.1) (by rw [Nat.zero_add]; exact Nat.le_refl r.2.2.2) (fun pcr I X st' ls' H' locs' hf hv hR' hS' => ?_)
    · have := (name_of_methodNamed B.named B.method).1
      rw [this]
      simpa using hi
    · rw [Nat.zero_add, Nat.zero_add]
      exact am_r_end hx hb hr hlocks (htab pcr I X hf).1 hv (fun t ht _ => ⟨rfl, by rw [ht]; exact hR', hS'.F ht⟩) hS'.2.2
end AM10
end
section
/-! the check of the tables by program: link lists of a class, each with its place among the words -/
/-- fields read, fields written (0: not final, 1: final, in a constructor), int constants, long constants, texts, statics, classes made, arrays of a class, element types, virtual, static, constructors, Object's constructor, arraycopy -/
abbrev am_LT : Type := List (Nat × Nat × Nat × Nat) × List (Nat × Nat × Nat × Nat × Nat) × List (Nat × Int × Nat) × List (Nat × Int × Nat) × List (Nat × Nat) × List (Nat × Nat × Nat) × List (Nat × Nat × Nat × Nat × Nat) × List (Nat × Nat × Nat × Nat) × List (ArrayType × Nat) × List (Nat × Nat × Nat × Nat × Nat × Nat × Nat) × List (Nat × Nat × Nat × Nat × Nat × Nat) × List (Nat × Nat × Nat × Nat × Nat × Nat) × List (Nat × Nat × Nat × Nat) × List (Nat × Nat × Nat × Nat × Nat)
/-- the words in chunks; a place is 1000 times the chunk's and the place in it -/
def am_hit (Tc : List (List Cond)) (p : Nat) (w : Cond) : Bool :=
  match Tc[p / 1000]? with
  | some c => decide (c[p % 1000]? = some w) && goodWord w
  | none => false
theorem am_hit_mem {Ts : List Cond} {Tc : List (List Cond)} (hc : ∀ c ∈ Tc, ∀ w ∈ c, goodWord w = true → w ∈ Ts) {p : Nat} {w : Cond} (h : am_hit Tc p w = true) : w ∈ Ts := by
  unfold am_hit at h
  split at h
  · rename_i c hx
    rw [Bool.and_eq_true] at h
    exact hc c (List.mem_of_getElem? hx) w (List.mem_of_getElem? (of_decide_eq_true h.1)) h.2
  · cases h
/-- a link to a method, plain or of a nest mate -/
def am_hitM (Tc : List (List Cond)) (nl : List (String × Nat × MethodName × String)) (p : Nat) (own : String) (i : Nat) (y : MethodName) : Bool :=
  am_hit Tc p (.methodLink own i y) || nl.any fun z => decide (z.1 = own ∧ z.2.1 = i ∧ z.2.2.1 = y)
theorem am_hitM_mem {Ts : List Cond} {Tc : List (List Cond)} (hc : ∀ c ∈ Tc, ∀ w ∈ c, goodWord w = true → w ∈ Ts) {nl : List (String × Nat × MethodName × String)} {p i : Nat} {own : String} {y : MethodName} (h : am_hitM Tc nl p own i y = true) : Cond.methodLink own i y ∈ Ts ∨ ∃ host, (own, i, y, host) ∈ nl := by
  unfold am_hitM at h
  rw [Bool.or_eq_true] at h
  rcases h with h | h
  · exact Or.inl (am_hit_mem hc h)
  · obtain ⟨z, hz, hq⟩ := List.any_eq_true.mp h
    obtain ⟨e1, e2, e3⟩ := of_decide_eq_true hq
    refine Or.inr ⟨z.2.2.2, ?_⟩
    rw [← e1, ← e2, ← e3]
    exact hz
def am_noMH (C : String) : Bool := decide (C ≠ "java/lang/invoke/MethodHandle" ∧ C ≠ "java/lang/invoke/VarHandle")
/-- the link lists of a class are as the words have them -/
def am_lkb (cl : List vw_C) (tys : List FieldType) (P : List am_M) (Tc : List (List Cond)) (sn : List (Nat × String × String × String)) (sr : am_SR) (own : String) (T : am_LT) : Bool :=
  (T.1.all fun q => if q.2.1 = 1001 then am_hit Tc q.2.2.2 (.fieldLink own q.1 "java/lang/String" "value" "[B") else if q.2.1 = 1002 then am_hit Tc q.2.2.2 (.fieldLink own q.1 "java/lang/String" "coder" "B") else match cl[q.2.1]? with
    | some r => decide (q.2.2.1 < r.2.2) && am_hit Tc q.2.2.2 (.fieldLink own q.1 (r.2.1 q.2.2.1).1 (r.2.1 q.2.2.1).2.1 (r.2.1 q.2.2.1).2.2.1)
    | none => false) &&
  ((T.2.1.all fun q => match cl[q.2.1]? with
    | some r => decide (q.2.2.1 < r.2.2) && am_hit Tc q.2.2.2.1 (.fieldLink own q.1 (r.2.1 q.2.2.1).1 (r.2.1 q.2.2.1).2.1 (r.2.1 q.2.2.1).2.2.1) && (if q.2.2.2.2 = 0 then decide ((r.2.1 q.2.2.1).2.2.2 = false) else decide ((r.2.1 q.2.2.1).2.2.2 = true ∧ (r.2.1 q.2.2.1).1 = own))
    | none => false) &&
  ((T.2.2.1.all fun q => am_hit Tc q.2.2 (.constant own q.1 (Int32.ofInt q.2.1))) &&
  ((T.2.2.2.1.all fun q => am_hit Tc q.2.2 (.constantLong own q.1 (Int64.ofInt q.2.1))) &&
  ((T.2.2.2.2.1.all fun q => sr.1.any fun z => decide (z.1 = own ∧ z.2.1 = q.1 ∧ z.2.2.2 = q.2)) &&
  ((T.2.2.2.2.2.1.all fun q => sn.any fun z => decide (z.1 = q.2.1) && am_hit Tc q.2.2 (.fieldLink own q.1 z.2.1 z.2.2.1 z.2.2.2)) &&
  ((T.2.2.2.2.2.2.1.all fun q => match cl[q.2.1]? with
    | some r => am_hit Tc q.2.2.1 (.classLink own q.1 r.1) && (am_hit Tc q.2.2.2.1 (.instantiable r.1 r.2.2) && am_hit Tc q.2.2.2.2 (.initialized r.1))
    | none => false) &&
  ((T.2.2.2.2.2.2.2.1.all fun q => match cl[q.2.1]? with
    | some r => am_hit Tc q.2.2.1 (.classLink own q.1 r.1) && decide (.object r.1 ∈ tys)
    | none => false) &&
  ((T.2.2.2.2.2.2.2.2.1.all fun q => am_hit Tc q.2 (.arrayClass (newarray.typeOf q.1)) && decide (newarray.typeOf q.1 ∈ tys)) &&
  ((T.2.2.2.2.2.2.2.2.2.1.all fun q => match P[q.2.1]? with
    | some M => am_noMH M.1.cls && (decide ((parseMethodDescriptor M.1.desc).map (fun d => d.parameters.length + 1) = some q.2.2.1) && (am_hitM Tc sr.2 q.2.2.2.1 own q.1 M.1 && (am_hit Tc q.2.2.2.2.1 (.instanceMethod M.1) && (am_hit Tc q.2.2.2.2.2.1 (.selects M.1.cls M.1 M.1) && am_hit Tc q.2.2.2.2.2.2 (.initialized M.1.cls)))))
    | none => false) &&
  ((T.2.2.2.2.2.2.2.2.2.2.1.all fun q => match P[q.2.1]? with
    | some M => am_noMH M.1.cls && (decide ((parseMethodDescriptor M.1.desc).map (fun d => d.parameters.length) = some q.2.2.1) && (am_hitM Tc sr.2 q.2.2.2.1 own q.1 M.1 && (am_hit Tc q.2.2.2.2.1 (.static M.1) && am_hit Tc q.2.2.2.2.2 (.initialized M.1.cls))))
    | none => false) &&
  ((T.2.2.2.2.2.2.2.2.2.2.2.1.all fun q => match P[q.2.1]? with
    | some M => decide (M.1.name = "<init>") && (decide (M.2.2.2.1 = none) && (am_noMH M.1.cls && (decide ((parseMethodDescriptor M.1.desc).map (fun d => d.parameters.length + 1) = some q.2.2.1) && (am_hitM Tc sr.2 q.2.2.2.1 own q.1 M.1 && (am_hit Tc q.2.2.2.2.1 (.instanceMethod M.1) && am_hit Tc q.2.2.2.2.2 (.initialized M.1.cls))))))
    | none => false) &&
  ((T.2.2.2.2.2.2.2.2.2.2.2.2.1.all fun q => am_hit Tc q.2.1 (.methodLink own q.1 Lib.objectInit) && (am_hit Tc q.2.2.1 (.instanceMethod Lib.objectInit) && am_hit Tc q.2.2.2 (.code Lib.objectInit ⟨#[0xb1]⟩ 1 none))) &&
  (T.2.2.2.2.2.2.2.2.2.2.2.2.2.all fun q => am_hit Tc q.2.1 (.methodLink own q.1 arraycopyName) && (am_hit Tc q.2.2.1 (.native arraycopyName) && (am_hit Tc q.2.2.2.1 (.static arraycopyName) && am_hit Tc q.2.2.2.2 (.initialized "java/lang/System"))))))))))))))))
/-- an instruction is one of a class' lists -/
def am_ckb (T : am_LT) (nL : Nat) (init : Bool) (q : Nat × Instr × am_X) : Bool :=
  match q.2.1 with
  | .getfield i => T.1.any fun z => z.1 == i && (if q.2.2.2.2 = 0 then decide (z.2.1 < 1000) && (z.2.1 == q.2.2.1 && z.2.2.1 == q.2.2.2.1) else if q.2.2.2.2 = 1 then z.2.1 == 1001 else z.2.1 == 1002)
  | .putfield i => T.2.1.any fun z => z.1 == i && (z.2.1 == q.2.2.1 && (z.2.2.1 == q.2.2.2.1 && (z.2.2.2.2 == 0 || init)))
  | .ldc i => if q.2.2.1 = 0 then T.2.2.1.any fun z => z.1 == i && decide (z.2.1 = q.2.2.2.2) else T.2.2.2.2.1.any fun z => z.1 == i && z.2 == q.2.2.2.1
  | .ldc_w i => if q.2.2.1 = 0 then T.2.2.1.any fun z => z.1 == i && decide (z.2.1 = q.2.2.2.2) else T.2.2.2.2.1.any fun z => z.1 == i && z.2 == q.2.2.2.1
  | .ldc2_w i => T.2.2.2.1.any fun z => z.1 == i && decide (z.2.1 = q.2.2.2.2)
  | .getstatic i => T.2.2.2.2.2.1.any fun z => z.1 == i && z.2.1 == q.2.2.2.1
  | .new i => T.2.2.2.2.2.2.1.any fun z => z.1 == i && z.2.1 == q.2.2.1
  | .anewarray i => T.2.2.2.2.2.2.2.1.any fun z => z.1 == i && z.2.1 == q.2.2.1
  | .newarray t => T.2.2.2.2.2.2.2.2.1.any fun z => decide (z.1 = t)
  | .invokevirtual i => T.2.2.2.2.2.2.2.2.2.1.any fun z => z.1 == i && (z.2.1 == q.2.2.1 && z.2.2.1 == q.2.2.2.1)
  | .invokestatic i => if q.2.2.2.2 = 0 then T.2.2.2.2.2.2.2.2.2.2.1.any fun z => z.1 == i && (z.2.1 == q.2.2.1 && z.2.2.1 == q.2.2.2.1) else decide (q.2.2.2.2 = 2) && T.2.2.2.2.2.2.2.2.2.2.2.2.2.any fun z => z.1 == i
  | .invokespecial i => if q.2.2.2.2 = 0 then T.2.2.2.2.2.2.2.2.2.2.2.1.any fun z => z.1 == i && (z.2.1 == q.2.2.1 && z.2.2.1 == q.2.2.2.1) else decide (q.2.2.2.2 = 1) && T.2.2.2.2.2.2.2.2.2.2.2.2.1.any fun z => z.1 == i
  | .istore i => decide (i < nL)
  | .istore_n i => decide ((i : Nat) < nL)
  | .astore i => decide (i < nL)
  | .astore_n i => decide ((i : Nat) < nL)
  | .lstore i => decide (i + 1 < nL)
  | .lstore_n i => decide ((i : Nat) + 1 < nL)
  | .iinc i _ => decide (i < nL)
  | _ => true
theorem am_find_mem {pc : Nat} {I : Instr} {X : am_X} : ∀ {L : List (Nat × Instr × am_X)}, am_find pc L = some (I, X) → (pc, I, X) ∈ L
  | [], h => by cases h
  | q :: L, h => by
    unfold am_find at h
    by_cases hq : q.1 = pc
    · rw [if_pos hq] at h
      have h2 := Option.some.inj h
      obtain ⟨a, b⟩ := q
      dsimp only at hq h2
      subst hq; subst h2
      exact List.mem_cons_self
    · rw [if_neg hq] at h
      exact List.mem_cons_of_mem _ (am_find_mem h)
set_option maxHeartbeats 4000000 in
theorem am_tab_of {cl : List vw_C} {tys : List FieldType} {P : List am_M} {Ts : List Cond} {sn : List (Nat × String × String × String)} {sr : am_SR} {M : am_M} {init : Bool} {T : am_LT} {Tc : List (List Cond)} (hTc : ∀ c ∈ Tc, ∀ w ∈ c, goodWord w = true → w ∈ Ts)
    (hT : am_lkb cl tys P Tc sn sr M.1.cls T = true) (hM : (M.2.2.2.2.all (am_ckb T M.2.2.1 init)) = true) (hD : ∀ q ∈ M.2.2.2.2, decode M.2.1 q.1 = .ok (q.2.1, am_len q.2.2 q.2.1)) : am_tab cl tys P Ts sn sr M init := by
  intro pc I X hf
  have hq := List.all_eq_true.mp hM _ (am_find_mem hf)
  unfold am_ckb at hq
  have hd : decode M.2.1 pc = .ok (I, am_len X I) := hD (pc, I, X) (am_find_mem hf)
  refine ⟨hd, ?_⟩
  unfold am_lkb at hT
  simp only [Bool.and_eq_true, List.all_eq_true] at hT
  obtain ⟨t1, t2, t3, t4, t5, t6, t7, t8, t9, t10, t11, t12, t13, t14⟩ := hT
  cases I with
  | getfield i =>
    refine ⟨⟨fun h1 => ?_, fun h2 => ?_, fun h0 => ?_⟩, trivial, trivial⟩
    · obtain ⟨z, hz, hc⟩ := List.any_eq_true.mp hq
      dsimp only at hc
      rw [if_neg (by rw [h1]; decide), if_pos h1] at hc
      simp only [Bool.and_eq_true, beq_iff_eq] at hc
      obtain ⟨rfl, c1⟩ := hc
      have g := t1 z hz
      rw [if_pos c1] at g
      exact am_hit_mem hTc g
    · obtain ⟨z, hz, hc⟩ := List.any_eq_true.mp hq
      dsimp only at hc
      rw [if_neg (by rw [h2]; decide), if_neg (by rw [h2]; decide)] at hc
      simp only [Bool.and_eq_true, beq_iff_eq] at hc
      obtain ⟨rfl, c1⟩ := hc
      have g := t1 z hz
      rw [if_neg (by rw [c1]; decide), if_pos c1] at g
      exact am_hit_mem hTc g
    · obtain ⟨z, hz, hc⟩ := List.any_eq_true.mp hq
      dsimp only at hc
      rw [if_pos h0] at hc
      simp only [Bool.and_eq_true, beq_iff_eq, decide_eq_true_eq] at hc
      obtain ⟨rfl, c0, c1, c2⟩ := hc
      have h1 := t1 z hz
      rw [if_neg (by omega), if_neg (by omega)] at h1
      split at h1
      · rename_i r hr
        simp only [Bool.and_eq_true, decide_eq_true_eq] at h1
        rw [c1] at hr
        rw [c2] at h1
        exact ⟨r, hr, h1.1, Or.inl (am_hit_mem hTc h1.2)⟩
      · cases h1
  | putfield i =>
    refine ⟨?_, trivial, trivial⟩
    obtain ⟨z, hz, hc⟩ := List.any_eq_true.mp hq
    simp only [Bool.and_eq_true, beq_iff_eq, Bool.or_eq_true] at hc
    obtain ⟨rfl, c1, c2, c3⟩ := hc
    have h1 := t2 z hz
    split at h1
    · rename_i r hr
      simp only [Bool.and_eq_true, decide_eq_true_eq] at h1
      rw [c1] at hr
      rw [c2] at h1
      refine ⟨r, hr, h1.1.1, Or.inl ⟨am_hit_mem hTc h1.1.2, ?_⟩⟩
      by_cases h0 : z.2.2.2.2 = 0
      · have h2 := h1.2
        rw [if_pos h0] at h2
        exact Or.inl (of_decide_eq_true h2)
      · have h2 := h1.2
        rw [if_neg h0] at h2
        have h3 := of_decide_eq_true h2
        exact Or.inr ⟨h3.1, c3.resolve_left h0, h3.2⟩
    · cases h1
  | ldc i =>
    refine ⟨⟨fun h0 => ?_, fun h0 => ?_⟩, trivial, trivial⟩
    · have h0' : (pc, Instr.ldc i, X).2.2.1 = 0 := h0
      dsimp only at hq
      rw [if_pos h0] at hq
      obtain ⟨z, hz, hc⟩ := List.any_eq_true.mp hq
      simp only [Bool.and_eq_true, beq_iff_eq, decide_eq_true_eq] at hc
      obtain ⟨rfl, c1⟩ := hc
      rw [← c1]
      exact am_hit_mem hTc (t3 z hz)
    · dsimp only at hq
      rw [if_neg h0] at hq
      obtain ⟨z, hz, hc⟩ := List.any_eq_true.mp hq
      simp only [Bool.and_eq_true, beq_iff_eq] at hc
      obtain ⟨rfl, c1⟩ := hc
      obtain ⟨y, hy, hy2⟩ := List.any_eq_true.mp (t5 z hz)
      obtain ⟨e1, e2, e3⟩ := of_decide_eq_true hy2
      refine ⟨y.2.2.1, ?_⟩
      rw [← e1, ← e2, ← c1, ← e3]
      exact hy
  | ldc_w i =>
    refine ⟨⟨fun h0 => ?_, fun h0 => ?_⟩, trivial, trivial⟩
    · dsimp only at hq
      rw [if_pos h0] at hq
      obtain ⟨z, hz, hc⟩ := List.any_eq_true.mp hq
      simp only [Bool.and_eq_true, beq_iff_eq, decide_eq_true_eq] at hc
      obtain ⟨rfl, c1⟩ := hc
      rw [← c1]
      exact am_hit_mem hTc (t3 z hz)
    · dsimp only at hq
      rw [if_neg h0] at hq
      obtain ⟨z, hz, hc⟩ := List.any_eq_true.mp hq
      simp only [Bool.and_eq_true, beq_iff_eq] at hc
      obtain ⟨rfl, c1⟩ := hc
      obtain ⟨y, hy, hy2⟩ := List.any_eq_true.mp (t5 z hz)
      obtain ⟨e1, e2, e3⟩ := of_decide_eq_true hy2
      refine ⟨y.2.2.1, ?_⟩
      rw [← e1, ← e2, ← c1, ← e3]
      exact hy
  | ldc2_w i =>
    refine ⟨?_, trivial, trivial⟩
    obtain ⟨z, hz, hc⟩ := List.any_eq_true.mp hq
    simp only [Bool.and_eq_true, beq_iff_eq, decide_eq_true_eq] at hc
    obtain ⟨rfl, c1⟩ := hc
    show Cond.constantLong _ _ (Int64.ofInt X.2.2) ∈ Ts
    rw [← c1]
    exact am_hit_mem hTc (t4 z hz)
  | getstatic i =>
    refine ⟨?_, trivial, trivial⟩
    obtain ⟨z, hz, hc⟩ := List.any_eq_true.mp hq
    simp only [Bool.and_eq_true, beq_iff_eq] at hc
    obtain ⟨rfl, c1⟩ := hc
    obtain ⟨y, hy, hy2⟩ := List.any_eq_true.mp (t6 z hz)
    rw [Bool.and_eq_true] at hy2
    have e1 := of_decide_eq_true hy2.1
    refine ⟨y.2.1, y.2.2.1, y.2.2.2, ?_, Or.inl (am_hit_mem hTc hy2.2)⟩
    rw [← c1, ← e1]
    exact hy
  | new i =>
    refine ⟨trivial, ?_, trivial⟩
    obtain ⟨z, hz, hc⟩ := List.any_eq_true.mp hq
    simp only [Bool.and_eq_true, beq_iff_eq] at hc
    obtain ⟨rfl, c1⟩ := hc
    have h1 := t7 z hz
    split at h1
    · rename_i r hr
      simp only [Bool.and_eq_true] at h1
      rw [c1] at hr
      exact ⟨r, hr, am_hit_mem hTc h1.1, am_hit_mem hTc h1.2.1, am_hit_mem hTc h1.2.2⟩
    · cases h1
  | anewarray i =>
    refine ⟨trivial, ?_, trivial⟩
    obtain ⟨z, hz, hc⟩ := List.any_eq_true.mp hq
    simp only [Bool.and_eq_true, beq_iff_eq] at hc
    obtain ⟨rfl, c1⟩ := hc
    have h1 := t8 z hz
    split at h1
    · rename_i r hr
      simp only [Bool.and_eq_true] at h1
      rw [c1] at hr
      exact ⟨r, hr, am_hit_mem hTc h1.1, of_decide_eq_true h1.2⟩
    · cases h1
  | newarray t =>
    refine ⟨trivial, ?_, trivial⟩
    obtain ⟨z, hz, hc⟩ := List.any_eq_true.mp hq
    have hc := of_decide_eq_true hc
    subst hc
    have h1 := t9 z hz
    exact ⟨am_hit_mem hTc h1.1, of_decide_eq_true h1.2⟩
  | invokevirtual i =>
    refine ⟨trivial, trivial, fun h0 => ?_⟩
    obtain ⟨z, hz, hc⟩ := List.any_eq_true.mp hq
    simp only [Bool.and_eq_true, beq_iff_eq] at hc
    obtain ⟨rfl, c1, c2⟩ := hc
    have h1 := t10 z hz
    split at h1
    · rename_i N hN
      simp only [Bool.and_eq_true] at h1
      obtain ⟨g1, g2, g3, g4, g5, g6⟩ := h1
      rw [c1] at hN
      rw [c2] at g2
      have g1' := of_decide_eq_true g1
      exact ⟨N, hN, am_hit_mem hTc g4, am_hit_mem hTc g5, am_hit_mem hTc g6, ⟨g1'.1, g1'.2, of_decide_eq_true g2⟩, am_hitM_mem hTc g3⟩
    · cases h1
  | invokestatic i =>
    refine ⟨trivial, trivial, fun h0 => ?_, fun h2 => ?_⟩
    · dsimp only at hq
      rw [if_pos h0] at hq
      obtain ⟨z, hz, hc⟩ := List.any_eq_true.mp hq
      simp only [Bool.and_eq_true, beq_iff_eq] at hc
      obtain ⟨rfl, c1, c2⟩ := hc
      have h1 := t11 z hz
      split at h1
      · rename_i N hN
        simp only [Bool.and_eq_true] at h1
        obtain ⟨g1, g2, g3, g4, g5⟩ := h1
        rw [c1] at hN
        rw [c2] at g2
        have g1' := of_decide_eq_true g1
        exact ⟨N, hN, am_hit_mem hTc g4, am_hit_mem hTc g5, ⟨g1'.1, g1'.2, of_decide_eq_true g2⟩, am_hitM_mem hTc g3⟩
      · cases h1
    · dsimp only at hq
      rw [if_neg (by rw [h2]; decide)] at hq
      rw [Bool.and_eq_true] at hq
      obtain ⟨z, hz, hc⟩ := List.any_eq_true.mp hq.2
      simp only [beq_iff_eq] at hc
      subst hc
      have h1 := t14 z hz
      exact ⟨am_hit_mem hTc h1.1, am_hit_mem hTc h1.2.1, am_hit_mem hTc h1.2.2.1, am_hit_mem hTc h1.2.2.2⟩
  | invokespecial i =>
    refine ⟨trivial, trivial, fun h0 => ?_, fun h2 => ?_⟩
    · dsimp only at hq
      rw [if_pos h0] at hq
      obtain ⟨z, hz, hc⟩ := List.any_eq_true.mp hq
      simp only [Bool.and_eq_true, beq_iff_eq] at hc
      obtain ⟨rfl, c1, c2⟩ := hc
      have h1 := t12 z hz
      split at h1
      · rename_i N hN
        simp only [Bool.and_eq_true] at h1
        obtain ⟨g1, g2, g3, g4, g5, g6, g7⟩ := h1
        rw [c1] at hN
        rw [c2] at g4
        have g3' := of_decide_eq_true g3
        exact ⟨N, hN, of_decide_eq_true g1, of_decide_eq_true g2, am_hit_mem hTc g6, am_hit_mem hTc g7, ⟨g3'.1, g3'.2, of_decide_eq_true g4⟩, am_hitM_mem hTc g5⟩
      · cases h1
    · dsimp only at hq
      rw [if_neg (by rw [h2]; decide)] at hq
      rw [Bool.and_eq_true] at hq
      obtain ⟨z, hz, hc⟩ := List.any_eq_true.mp hq.2
      simp only [beq_iff_eq] at hc
      subst hc
      have h1 := t13 z hz
      exact ⟨am_hit_mem hTc h1.1, am_hit_mem hTc h1.2.1, am_hit_mem hTc h1.2.2⟩
  | istore i => exact ⟨(of_decide_eq_true hq : i < M.2.2.1), trivial, trivial⟩
  | istore_n i => exact ⟨(of_decide_eq_true hq : (i : Nat) < M.2.2.1), trivial, trivial⟩
  | astore i => exact ⟨(of_decide_eq_true hq : i < M.2.2.1), trivial, trivial⟩
  | astore_n i => exact ⟨(of_decide_eq_true hq : (i : Nat) < M.2.2.1), trivial, trivial⟩
  | lstore i => exact ⟨(of_decide_eq_true hq : i + 1 < M.2.2.1), trivial, trivial⟩
  | lstore_n i => exact ⟨(of_decide_eq_true hq : (i : Nat) + 1 < M.2.2.1), trivial, trivial⟩
  | iinc i _ => exact ⟨(of_decide_eq_true hq : i < M.2.2.1), trivial, trivial⟩
  | _ => exact ⟨trivial, trivial, trivial⟩
end
section
theorem am_rb {α β : Type} (r : Decoder α) (f : α → Decoder β) (a : ByteArray) (p : Nat) : (r >>= f).runAt a p = (r.runAt a p) >>= fun q => (f q.1).runAt a q.2 := rfl
theorem am_u1 {a : ByteArray} {p : Nat} {b : UInt8} (h : a[p]? = some b) : (Reader.u1 : Decoder Nat).runAt a p = .ok (b.toNat, p + 1) := by
  have hp : p < a.size := by
    have := h
    simp only [getElem?_def] at this
    split at this
    · assumption
    · cases this
  have hb : a[p] = b := by
    have := h
    rw [getElem?_pos a p hp] at this
    exact Option.some.inj this
  show (if h : p < a.size then _ else _ : Decoder Nat).runAt a p = _
  rw [dif_pos hp, hb]
  rfl
theorem am_u2 {a : ByteArray} {p : Nat} {b c : UInt8} (h : a[p]? = some b) (h1 : a[p + 1]? = some c) : (Reader.u2 : Decoder Nat).runAt a p = .ok (b.toNat * 256 + c.toNat, p + 2) := by
  unfold Reader.u2
  rw [am_rb, am_u1 h]
  show ((Reader.u1 : Decoder Nat) >>= fun lo => pure (b.toNat * 256 + lo)).runAt a (p + 1) = _
  rw [am_rb, am_u1 h1]
  rfl
theorem am_rm {α β : Type} (f : α → β) (r : Decoder α) (a : ByteArray) (p : Nat) : (f <$> r : Decoder β).runAt a p = (r.runAt a p) >>= fun q => .ok (f q.1, q.2) := rfl
theorem am_s1 {a : ByteArray} {p : Nat} {b : UInt8} (h : a[p]? = some b) : (Reader.s1 : Decoder Int).runAt a p = .ok (Reader.signed 8 b.toNat, p + 1) := by
  unfold Reader.s1
  rw [am_rm, am_u1 h]
  rfl
theorem am_s2 {a : ByteArray} {p : Nat} {b c : UInt8} (h : a[p]? = some b) (h1 : a[p + 1]? = some c) : (Reader.s2 : Decoder Int).runAt a p = .ok (Reader.signed 16 (b.toNat * 256 + c.toNat), p + 2) := by
  unfold Reader.s2
  rw [am_rm, am_u2 h h1]
  rfl
theorem am_dec {a : ByteArray} {pc : Nat} {I : Instr} {n : Nat} (h : (Decoder.instr pc).runAt a pc = .ok (I, pc + n)) : decode a pc = .ok (I, n) := by
  unfold decode
  rw [h]
  show Except.ok (I, pc + n - pc) = _
  rw [Nat.add_sub_cancel_left]
/-- the instructions that are used, but for the switches, by their first three bytes -/
def am_dc (op : Nat) (b c : UInt8) : Option (Instr × Nat) :=
  match op with
  | 1 => some (.aconst_null, 1)
  | 2 => some (.iconst (-1), 1)
  | 3 => some (.iconst 0, 1)
  | 4 => some (.iconst 1, 1)
  | 5 => some (.iconst 2, 1)
  | 6 => some (.iconst 3, 1)
  | 7 => some (.iconst 4, 1)
  | 8 => some (.iconst 5, 1)
  | 9 => some (.lconst 0, 1)
  | 10 => some (.lconst 1, 1)
  | 26 => some (.iload_n 0, 1)
  | 27 => some (.iload_n 1, 1)
  | 28 => some (.iload_n 2, 1)
  | 29 => some (.iload_n 3, 1)
  | 30 => some (.lload_n 0, 1)
  | 31 => some (.lload_n 1, 1)
  | 32 => some (.lload_n 2, 1)
  | 33 => some (.lload_n 3, 1)
  | 42 => some (.aload_n 0, 1)
  | 43 => some (.aload_n 1, 1)
  | 44 => some (.aload_n 2, 1)
  | 45 => some (.aload_n 3, 1)
  | 46 => some (.iaload, 1)
  | 47 => some (.laload, 1)
  | 50 => some (.aaload, 1)
  | 51 => some (.baload, 1)
  | 59 => some (.istore_n 0, 1)
  | 60 => some (.istore_n 1, 1)
  | 61 => some (.istore_n 2, 1)
  | 62 => some (.istore_n 3, 1)
  | 63 => some (.lstore_n 0, 1)
  | 64 => some (.lstore_n 1, 1)
  | 65 => some (.lstore_n 2, 1)
  | 66 => some (.lstore_n 3, 1)
  | 75 => some (.astore_n 0, 1)
  | 76 => some (.astore_n 1, 1)
  | 77 => some (.astore_n 2, 1)
  | 78 => some (.astore_n 3, 1)
  | 79 => some (.iastore, 1)
  | 80 => some (.lastore, 1)
  | 83 => some (.aastore, 1)
  | 84 => some (.bastore, 1)
  | 87 => some (.pop, 1)
  | 89 => some (.dup, 1)
  | 92 => some (.dup2, 1)
  | 96 => some (.iadd, 1)
  | 97 => some (.ladd, 1)
  | 100 => some (.isub, 1)
  | 101 => some (.lsub, 1)
  | 104 => some (.imul, 1)
  | 105 => some (.lmul, 1)
  | 108 => some (.idiv, 1)
  | 112 => some (.irem, 1)
  | 120 => some (.ishl, 1)
  | 122 => some (.ishr, 1)
  | 124 => some (.iushr, 1)
  | 126 => some (.iand, 1)
  | 128 => some (.ior, 1)
  | 130 => some (.ixor, 1)
  | 133 => some (.i2l, 1)
  | 136 => some (.l2i, 1)
  | 145 => some (.i2b, 1)
  | 146 => some (.i2c, 1)
  | 148 => some (.lcmp, 1)
  | 172 => some (.ireturn, 1)
  | 173 => some (.lreturn, 1)
  | 176 => some (.areturn, 1)
  | 177 => some (.return_, 1)
  | 190 => some (.arraylength, 1)
  | 18 => some (.ldc b.toNat, 2)
  | 21 => some (.iload b.toNat, 2)
  | 22 => some (.lload b.toNat, 2)
  | 25 => some (.aload b.toNat, 2)
  | 54 => some (.istore b.toNat, 2)
  | 55 => some (.lstore b.toNat, 2)
  | 58 => some (.astore b.toNat, 2)
  | 19 => some (.ldc_w (b.toNat * 256 + c.toNat), 3)
  | 20 => some (.ldc2_w (b.toNat * 256 + c.toNat), 3)
  | 178 => some (.getstatic (b.toNat * 256 + c.toNat), 3)
  | 180 => some (.getfield (b.toNat * 256 + c.toNat), 3)
  | 181 => some (.putfield (b.toNat * 256 + c.toNat), 3)
  | 182 => some (.invokevirtual (b.toNat * 256 + c.toNat), 3)
  | 183 => some (.invokespecial (b.toNat * 256 + c.toNat), 3)
  | 184 => some (.invokestatic (b.toNat * 256 + c.toNat), 3)
  | 187 => some (.new (b.toNat * 256 + c.toNat), 3)
  | 189 => some (.anewarray (b.toNat * 256 + c.toNat), 3)
  | 17 => some (.sipush (Reader.signed 16 (b.toNat * 256 + c.toNat)), 3)
  | 153 => some (.ifCond .eq (Reader.signed 16 (b.toNat * 256 + c.toNat)), 3)
  | 154 => some (.ifCond .ne (Reader.signed 16 (b.toNat * 256 + c.toNat)), 3)
  | 155 => some (.ifCond .lt (Reader.signed 16 (b.toNat * 256 + c.toNat)), 3)
  | 156 => some (.ifCond .ge (Reader.signed 16 (b.toNat * 256 + c.toNat)), 3)
  | 157 => some (.ifCond .gt (Reader.signed 16 (b.toNat * 256 + c.toNat)), 3)
  | 158 => some (.ifCond .le (Reader.signed 16 (b.toNat * 256 + c.toNat)), 3)
  | 159 => some (.if_icmp .eq (Reader.signed 16 (b.toNat * 256 + c.toNat)), 3)
  | 160 => some (.if_icmp .ne (Reader.signed 16 (b.toNat * 256 + c.toNat)), 3)
  | 161 => some (.if_icmp .lt (Reader.signed 16 (b.toNat * 256 + c.toNat)), 3)
  | 162 => some (.if_icmp .ge (Reader.signed 16 (b.toNat * 256 + c.toNat)), 3)
  | 163 => some (.if_icmp .gt (Reader.signed 16 (b.toNat * 256 + c.toNat)), 3)
  | 164 => some (.if_icmp .le (Reader.signed 16 (b.toNat * 256 + c.toNat)), 3)
  | 167 => some (.goto (Reader.signed 16 (b.toNat * 256 + c.toNat)), 3)
  | 198 => some (.ifnull (Reader.signed 16 (b.toNat * 256 + c.toNat)), 3)
  | 199 => some (.ifnonnull (Reader.signed 16 (b.toNat * 256 + c.toNat)), 3)
  | 16 => some (.bipush (Reader.signed 8 b.toNat), 2)
  | 132 => some (.iinc b.toNat (Reader.signed 8 c.toNat), 3)
  | 188 => match b.toNat with
    | 4 => some (.newarray .boolean, 2)
    | 8 => some (.newarray .byte, 2)
    | 10 => some (.newarray .int, 2)
    | 11 => some (.newarray .long, 2)
    | _ => none
  | _ => none
theorem am_d1 {a : ByteArray} {pc : Nat} {op b c : UInt8} (h : a[pc]? = some op) (ho : op.toNat = 1) : decode a pc = .ok (.aconst_null, 1) := by
  refine am_dec ?_
  unfold Decoder.instr
  rw [am_rb, am_u1 h, ho]
  rfl
theorem am_d2 {a : ByteArray} {pc : Nat} {op b c : UInt8} (h : a[pc]? = some op) (ho : op.toNat = 2) : decode a pc = .ok (.iconst (-1), 1) := by
  refine am_dec ?_
  unfold Decoder.instr
  rw [am_rb, am_u1 h, ho]
  rfl
theorem am_d3 {a : ByteArray} {pc : Nat} {op b c : UInt8} (h : a[pc]? = some op) (ho : op.toNat = 3) : decode a pc = .ok (.iconst 0, 1) := by
  refine am_dec ?_
  unfold Decoder.instr
  rw [am_rb, am_u1 h, ho]
  rfl
theorem am_d4 {a : ByteArray} {pc : Nat} {op b c : UInt8} (h : a[pc]? = some op) (ho : op.toNat = 4) : decode a pc = .ok (.iconst 1, 1) := by
  refine am_dec ?_
  unfold Decoder.instr
  rw [am_rb, am_u1 h, ho]
  rfl
theorem am_d5 {a : ByteArray} {pc : Nat} {op b c : UInt8} (h : a[pc]? = some op) (ho : op.toNat = 5) : decode a pc = .ok (.iconst 2, 1) := by
  refine am_dec ?_
  unfold Decoder.instr
  rw [am_rb, am_u1 h, ho]
  rfl
theorem am_d6 {a : ByteArray} {pc : Nat} {op b c : UInt8} (h : a[pc]? = some op) (ho : op.toNat = 6) : decode a pc = .ok (.iconst 3, 1) := by
  refine am_dec ?_
  unfold Decoder.instr
  rw [am_rb, am_u1 h, ho]
  rfl
theorem am_d7 {a : ByteArray} {pc : Nat} {op b c : UInt8} (h : a[pc]? = some op) (ho : op.toNat = 7) : decode a pc = .ok (.iconst 4, 1) := by
  refine am_dec ?_
  unfold Decoder.instr
  rw [am_rb, am_u1 h, ho]
  rfl
theorem am_d8 {a : ByteArray} {pc : Nat} {op b c : UInt8} (h : a[pc]? = some op) (ho : op.toNat = 8) : decode a pc = .ok (.iconst 5, 1) := by
  refine am_dec ?_
  unfold Decoder.instr
  rw [am_rb, am_u1 h, ho]
  rfl
theorem am_d9 {a : ByteArray} {pc : Nat} {op b c : UInt8} (h : a[pc]? = some op) (ho : op.toNat = 9) : decode a pc = .ok (.lconst 0, 1) := by
  refine am_dec ?_
  unfold Decoder.instr
  rw [am_rb, am_u1 h, ho]
  rfl
theorem am_d10 {a : ByteArray} {pc : Nat} {op b c : UInt8} (h : a[pc]? = some op) (ho : op.toNat = 10) : decode a pc = .ok (.lconst 1, 1) := by
  refine am_dec ?_
  unfold Decoder.instr
  rw [am_rb, am_u1 h, ho]
  rfl
theorem am_d26 {a : ByteArray} {pc : Nat} {op b c : UInt8} (h : a[pc]? = some op) (ho : op.toNat = 26) : decode a pc = .ok (.iload_n 0, 1) := by
  refine am_dec ?_
  unfold Decoder.instr
  rw [am_rb, am_u1 h, ho]
  rfl
theorem am_d27 {a : ByteArray} {pc : Nat} {op b c : UInt8} (h : a[pc]? = some op) (ho : op.toNat = 27) : decode a pc = .ok (.iload_n 1, 1) := by
  refine am_dec ?_
  unfold Decoder.instr
  rw [am_rb, am_u1 h, ho]
  rfl
theorem am_d28 {a : ByteArray} {pc : Nat} {op b c : UInt8} (h : a[pc]? = some op) (ho : op.toNat = 28) : decode a pc = .ok (.iload_n 2, 1) := by
  refine am_dec ?_
  unfold Decoder.instr
  rw [am_rb, am_u1 h, ho]
  rfl
theorem am_d29 {a : ByteArray} {pc : Nat} {op b c : UInt8} (h : a[pc]? = some op) (ho : op.toNat = 29) : decode a pc = .ok (.iload_n 3, 1) := by
  refine am_dec ?_
  unfold Decoder.instr
  rw [am_rb, am_u1 h, ho]
  rfl
theorem am_d30 {a : ByteArray} {pc : Nat} {op b c : UInt8} (h : a[pc]? = some op) (ho : op.toNat = 30) : decode a pc = .ok (.lload_n 0, 1) := by
  refine am_dec ?_
  unfold Decoder.instr
  rw [am_rb, am_u1 h, ho]
  rfl
theorem am_d31 {a : ByteArray} {pc : Nat} {op b c : UInt8} (h : a[pc]? = some op) (ho : op.toNat = 31) : decode a pc = .ok (.lload_n 1, 1) := by
  refine am_dec ?_
  unfold Decoder.instr
  rw [am_rb, am_u1 h, ho]
  rfl
theorem am_d32 {a : ByteArray} {pc : Nat} {op b c : UInt8} (h : a[pc]? = some op) (ho : op.toNat = 32) : decode a pc = .ok (.lload_n 2, 1) := by
  refine am_dec ?_
  unfold Decoder.instr
  rw [am_rb, am_u1 h, ho]
  rfl
theorem am_d33 {a : ByteArray} {pc : Nat} {op b c : UInt8} (h : a[pc]? = some op) (ho : op.toNat = 33) : decode a pc = .ok (.lload_n 3, 1) := by
  refine am_dec ?_
  unfold Decoder.instr
  rw [am_rb, am_u1 h, ho]
  rfl
theorem am_d42 {a : ByteArray} {pc : Nat} {op b c : UInt8} (h : a[pc]? = some op) (ho : op.toNat = 42) : decode a pc = .ok (.aload_n 0, 1) := by
  refine am_dec ?_
  unfold Decoder.instr
  rw [am_rb, am_u1 h, ho]
  rfl
theorem am_d43 {a : ByteArray} {pc : Nat} {op b c : UInt8} (h : a[pc]? = some op) (ho : op.toNat = 43) : decode a pc = .ok (.aload_n 1, 1) := by
  refine am_dec ?_
  unfold Decoder.instr
  rw [am_rb, am_u1 h, ho]
  rfl
theorem am_d44 {a : ByteArray} {pc : Nat} {op b c : UInt8} (h : a[pc]? = some op) (ho : op.toNat = 44) : decode a pc = .ok (.aload_n 2, 1) := by
  refine am_dec ?_
  unfold Decoder.instr
  rw [am_rb, am_u1 h, ho]
  rfl
theorem am_d45 {a : ByteArray} {pc : Nat} {op b c : UInt8} (h : a[pc]? = some op) (ho : op.toNat = 45) : decode a pc = .ok (.aload_n 3, 1) := by
  refine am_dec ?_
  unfold Decoder.instr
  rw [am_rb, am_u1 h, ho]
  rfl
theorem am_d46 {a : ByteArray} {pc : Nat} {op b c : UInt8} (h : a[pc]? = some op) (ho : op.toNat = 46) : decode a pc = .ok (.iaload, 1) := by
  refine am_dec ?_
  unfold Decoder.instr
  rw [am_rb, am_u1 h, ho]
  rfl
theorem am_d47 {a : ByteArray} {pc : Nat} {op b c : UInt8} (h : a[pc]? = some op) (ho : op.toNat = 47) : decode a pc = .ok (.laload, 1) := by
  refine am_dec ?_
  unfold Decoder.instr
  rw [am_rb, am_u1 h, ho]
  rfl
theorem am_d50 {a : ByteArray} {pc : Nat} {op b c : UInt8} (h : a[pc]? = some op) (ho : op.toNat = 50) : decode a pc = .ok (.aaload, 1) := by
  refine am_dec ?_
  unfold Decoder.instr
  rw [am_rb, am_u1 h, ho]
  rfl
theorem am_d51 {a : ByteArray} {pc : Nat} {op b c : UInt8} (h : a[pc]? = some op) (ho : op.toNat = 51) : decode a pc = .ok (.baload, 1) := by
  refine am_dec ?_
  unfold Decoder.instr
  rw [am_rb, am_u1 h, ho]
  rfl
theorem am_d59 {a : ByteArray} {pc : Nat} {op b c : UInt8} (h : a[pc]? = some op) (ho : op.toNat = 59) : decode a pc = .ok (.istore_n 0, 1) := by
  refine am_dec ?_
  unfold Decoder.instr
  rw [am_rb, am_u1 h, ho]
  rfl
theorem am_d60 {a : ByteArray} {pc : Nat} {op b c : UInt8} (h : a[pc]? = some op) (ho : op.toNat = 60) : decode a pc = .ok (.istore_n 1, 1) := by
  refine am_dec ?_
  unfold Decoder.instr
  rw [am_rb, am_u1 h, ho]
  rfl
theorem am_d61 {a : ByteArray} {pc : Nat} {op b c : UInt8} (h : a[pc]? = some op) (ho : op.toNat = 61) : decode a pc = .ok (.istore_n 2, 1) := by
  refine am_dec ?_
  unfold Decoder.instr
  rw [am_rb, am_u1 h, ho]
  rfl
theorem am_d62 {a : ByteArray} {pc : Nat} {op b c : UInt8} (h : a[pc]? = some op) (ho : op.toNat = 62) : decode a pc = .ok (.istore_n 3, 1) := by
  refine am_dec ?_
  unfold Decoder.instr
  rw [am_rb, am_u1 h, ho]
  rfl
theorem am_d63 {a : ByteArray} {pc : Nat} {op b c : UInt8} (h : a[pc]? = some op) (ho : op.toNat = 63) : decode a pc = .ok (.lstore_n 0, 1) := by
  refine am_dec ?_
  unfold Decoder.instr
  rw [am_rb, am_u1 h, ho]
  rfl
theorem am_d64 {a : ByteArray} {pc : Nat} {op b c : UInt8} (h : a[pc]? = some op) (ho : op.toNat = 64) : decode a pc = .ok (.lstore_n 1, 1) := by
  refine am_dec ?_
  unfold Decoder.instr
  rw [am_rb, am_u1 h, ho]
  rfl
theorem am_d65 {a : ByteArray} {pc : Nat} {op b c : UInt8} (h : a[pc]? = some op) (ho : op.toNat = 65) : decode a pc = .ok (.lstore_n 2, 1) := by
  refine am_dec ?_
  unfold Decoder.instr
  rw [am_rb, am_u1 h, ho]
  rfl
theorem am_d66 {a : ByteArray} {pc : Nat} {op b c : UInt8} (h : a[pc]? = some op) (ho : op.toNat = 66) : decode a pc = .ok (.lstore_n 3, 1) := by
  refine am_dec ?_
  unfold Decoder.instr
  rw [am_rb, am_u1 h, ho]
  rfl
theorem am_d75 {a : ByteArray} {pc : Nat} {op b c : UInt8} (h : a[pc]? = some op) (ho : op.toNat = 75) : decode a pc = .ok (.astore_n 0, 1) := by
  refine am_dec ?_
  unfold Decoder.instr
  rw [am_rb, am_u1 h, ho]
  rfl
theorem am_d76 {a : ByteArray} {pc : Nat} {op b c : UInt8} (h : a[pc]? = some op) (ho : op.toNat = 76) : decode a pc = .ok (.astore_n 1, 1) := by
  refine am_dec ?_
  unfold Decoder.instr
  rw [am_rb, am_u1 h, ho]
  rfl
theorem am_d77 {a : ByteArray} {pc : Nat} {op b c : UInt8} (h : a[pc]? = some op) (ho : op.toNat = 77) : decode a pc = .ok (.astore_n 2, 1) := by
  refine am_dec ?_
  unfold Decoder.instr
  rw [am_rb, am_u1 h, ho]
  rfl
theorem am_d78 {a : ByteArray} {pc : Nat} {op b c : UInt8} (h : a[pc]? = some op) (ho : op.toNat = 78) : decode a pc = .ok (.astore_n 3, 1) := by
  refine am_dec ?_
  unfold Decoder.instr
  rw [am_rb, am_u1 h, ho]
  rfl
theorem am_d79 {a : ByteArray} {pc : Nat} {op b c : UInt8} (h : a[pc]? = some op) (ho : op.toNat = 79) : decode a pc = .ok (.iastore, 1) := by
  refine am_dec ?_
  unfold Decoder.instr
  rw [am_rb, am_u1 h, ho]
  rfl
theorem am_d80 {a : ByteArray} {pc : Nat} {op b c : UInt8} (h : a[pc]? = some op) (ho : op.toNat = 80) : decode a pc = .ok (.lastore, 1) := by
  refine am_dec ?_
  unfold Decoder.instr
  rw [am_rb, am_u1 h, ho]
  rfl
theorem am_d83 {a : ByteArray} {pc : Nat} {op b c : UInt8} (h : a[pc]? = some op) (ho : op.toNat = 83) : decode a pc = .ok (.aastore, 1) := by
  refine am_dec ?_
  unfold Decoder.instr
  rw [am_rb, am_u1 h, ho]
  rfl
theorem am_d84 {a : ByteArray} {pc : Nat} {op b c : UInt8} (h : a[pc]? = some op) (ho : op.toNat = 84) : decode a pc = .ok (.bastore, 1) := by
  refine am_dec ?_
  unfold Decoder.instr
  rw [am_rb, am_u1 h, ho]
  rfl
theorem am_d87 {a : ByteArray} {pc : Nat} {op b c : UInt8} (h : a[pc]? = some op) (ho : op.toNat = 87) : decode a pc = .ok (.pop, 1) := by
  refine am_dec ?_
  unfold Decoder.instr
  rw [am_rb, am_u1 h, ho]
  rfl
theorem am_d89 {a : ByteArray} {pc : Nat} {op b c : UInt8} (h : a[pc]? = some op) (ho : op.toNat = 89) : decode a pc = .ok (.dup, 1) := by
  refine am_dec ?_
  unfold Decoder.instr
  rw [am_rb, am_u1 h, ho]
  rfl
theorem am_d92 {a : ByteArray} {pc : Nat} {op b c : UInt8} (h : a[pc]? = some op) (ho : op.toNat = 92) : decode a pc = .ok (.dup2, 1) := by
  refine am_dec ?_
  unfold Decoder.instr
  rw [am_rb, am_u1 h, ho]
  rfl
theorem am_d96 {a : ByteArray} {pc : Nat} {op b c : UInt8} (h : a[pc]? = some op) (ho : op.toNat = 96) : decode a pc = .ok (.iadd, 1) := by
  refine am_dec ?_
  unfold Decoder.instr
  rw [am_rb, am_u1 h, ho]
  rfl
theorem am_d97 {a : ByteArray} {pc : Nat} {op b c : UInt8} (h : a[pc]? = some op) (ho : op.toNat = 97) : decode a pc = .ok (.ladd, 1) := by
  refine am_dec ?_
  unfold Decoder.instr
  rw [am_rb, am_u1 h, ho]
  rfl
theorem am_d100 {a : ByteArray} {pc : Nat} {op b c : UInt8} (h : a[pc]? = some op) (ho : op.toNat = 100) : decode a pc = .ok (.isub, 1) := by
  refine am_dec ?_
  unfold Decoder.instr
  rw [am_rb, am_u1 h, ho]
  rfl
theorem am_d101 {a : ByteArray} {pc : Nat} {op b c : UInt8} (h : a[pc]? = some op) (ho : op.toNat = 101) : decode a pc = .ok (.lsub, 1) := by
  refine am_dec ?_
  unfold Decoder.instr
  rw [am_rb, am_u1 h, ho]
  rfl
theorem am_d104 {a : ByteArray} {pc : Nat} {op b c : UInt8} (h : a[pc]? = some op) (ho : op.toNat = 104) : decode a pc = .ok (.imul, 1) := by
  refine am_dec ?_
  unfold Decoder.instr
  rw [am_rb, am_u1 h, ho]
  rfl
theorem am_d105 {a : ByteArray} {pc : Nat} {op b c : UInt8} (h : a[pc]? = some op) (ho : op.toNat = 105) : decode a pc = .ok (.lmul, 1) := by
  refine am_dec ?_
  unfold Decoder.instr
  rw [am_rb, am_u1 h, ho]
  rfl
theorem am_d108 {a : ByteArray} {pc : Nat} {op b c : UInt8} (h : a[pc]? = some op) (ho : op.toNat = 108) : decode a pc = .ok (.idiv, 1) := by
  refine am_dec ?_
  unfold Decoder.instr
  rw [am_rb, am_u1 h, ho]
  rfl
theorem am_d112 {a : ByteArray} {pc : Nat} {op b c : UInt8} (h : a[pc]? = some op) (ho : op.toNat = 112) : decode a pc = .ok (.irem, 1) := by
  refine am_dec ?_
  unfold Decoder.instr
  rw [am_rb, am_u1 h, ho]
  rfl
theorem am_d120 {a : ByteArray} {pc : Nat} {op b c : UInt8} (h : a[pc]? = some op) (ho : op.toNat = 120) : decode a pc = .ok (.ishl, 1) := by
  refine am_dec ?_
  unfold Decoder.instr
  rw [am_rb, am_u1 h, ho]
  rfl
theorem am_d122 {a : ByteArray} {pc : Nat} {op b c : UInt8} (h : a[pc]? = some op) (ho : op.toNat = 122) : decode a pc = .ok (.ishr, 1) := by
  refine am_dec ?_
  unfold Decoder.instr
  rw [am_rb, am_u1 h, ho]
  rfl
theorem am_d124 {a : ByteArray} {pc : Nat} {op b c : UInt8} (h : a[pc]? = some op) (ho : op.toNat = 124) : decode a pc = .ok (.iushr, 1) := by
  refine am_dec ?_
  unfold Decoder.instr
  rw [am_rb, am_u1 h, ho]
  rfl
theorem am_d126 {a : ByteArray} {pc : Nat} {op b c : UInt8} (h : a[pc]? = some op) (ho : op.toNat = 126) : decode a pc = .ok (.iand, 1) := by
  refine am_dec ?_
  unfold Decoder.instr
  rw [am_rb, am_u1 h, ho]
  rfl
theorem am_d128 {a : ByteArray} {pc : Nat} {op b c : UInt8} (h : a[pc]? = some op) (ho : op.toNat = 128) : decode a pc = .ok (.ior, 1) := by
  refine am_dec ?_
  unfold Decoder.instr
  rw [am_rb, am_u1 h, ho]
  rfl
theorem am_d130 {a : ByteArray} {pc : Nat} {op b c : UInt8} (h : a[pc]? = some op) (ho : op.toNat = 130) : decode a pc = .ok (.ixor, 1) := by
  refine am_dec ?_
  unfold Decoder.instr
  rw [am_rb, am_u1 h, ho]
  rfl
theorem am_d133 {a : ByteArray} {pc : Nat} {op b c : UInt8} (h : a[pc]? = some op) (ho : op.toNat = 133) : decode a pc = .ok (.i2l, 1) := by
  refine am_dec ?_
  unfold Decoder.instr
  rw [am_rb, am_u1 h, ho]
  rfl
theorem am_d136 {a : ByteArray} {pc : Nat} {op b c : UInt8} (h : a[pc]? = some op) (ho : op.toNat = 136) : decode a pc = .ok (.l2i, 1) := by
  refine am_dec ?_
  unfold Decoder.instr
  rw [am_rb, am_u1 h, ho]
  rfl
theorem am_d145 {a : ByteArray} {pc : Nat} {op b c : UInt8} (h : a[pc]? = some op) (ho : op.toNat = 145) : decode a pc = .ok (.i2b, 1) := by
  refine am_dec ?_
  unfold Decoder.instr
  rw [am_rb, am_u1 h, ho]
  rfl
theorem am_d146 {a : ByteArray} {pc : Nat} {op b c : UInt8} (h : a[pc]? = some op) (ho : op.toNat = 146) : decode a pc = .ok (.i2c, 1) := by
  refine am_dec ?_
  unfold Decoder.instr
  rw [am_rb, am_u1 h, ho]
  rfl
theorem am_d148 {a : ByteArray} {pc : Nat} {op b c : UInt8} (h : a[pc]? = some op) (ho : op.toNat = 148) : decode a pc = .ok (.lcmp, 1) := by
  refine am_dec ?_
  unfold Decoder.instr
  rw [am_rb, am_u1 h, ho]
  rfl
theorem am_d172 {a : ByteArray} {pc : Nat} {op b c : UInt8} (h : a[pc]? = some op) (ho : op.toNat = 172) : decode a pc = .ok (.ireturn, 1) := by
  refine am_dec ?_
  unfold Decoder.instr
  rw [am_rb, am_u1 h, ho]
  rfl
theorem am_d173 {a : ByteArray} {pc : Nat} {op b c : UInt8} (h : a[pc]? = some op) (ho : op.toNat = 173) : decode a pc = .ok (.lreturn, 1) := by
  refine am_dec ?_
  unfold Decoder.instr
  rw [am_rb, am_u1 h, ho]
  rfl
theorem am_d176 {a : ByteArray} {pc : Nat} {op b c : UInt8} (h : a[pc]? = some op) (ho : op.toNat = 176) : decode a pc = .ok (.areturn, 1) := by
  refine am_dec ?_
  unfold Decoder.instr
  rw [am_rb, am_u1 h, ho]
  rfl
theorem am_d177 {a : ByteArray} {pc : Nat} {op b c : UInt8} (h : a[pc]? = some op) (ho : op.toNat = 177) : decode a pc = .ok (.return_, 1) := by
  refine am_dec ?_
  unfold Decoder.instr
  rw [am_rb, am_u1 h, ho]
  rfl
theorem am_d190 {a : ByteArray} {pc : Nat} {op b c : UInt8} (h : a[pc]? = some op) (ho : op.toNat = 190) : decode a pc = .ok (.arraylength, 1) := by
  refine am_dec ?_
  unfold Decoder.instr
  rw [am_rb, am_u1 h, ho]
  rfl
theorem am_d18 {a : ByteArray} {pc : Nat} {op b c : UInt8} (h : a[pc]? = some op) (ho : op.toNat = 18) (h1 : a[pc + 1]? = some b) : decode a pc = .ok (.ldc b.toNat, 2) := by
  refine am_dec ?_
  unfold Decoder.instr
  rw [am_rb, am_u1 h, ho]
  show ((Reader.u1 : Decoder Nat) >>= fun i => pure (Instr.ldc i)).runAt a (pc + 1) = _
  rw [am_rb, am_u1 h1]
  rfl
theorem am_d21 {a : ByteArray} {pc : Nat} {op b c : UInt8} (h : a[pc]? = some op) (ho : op.toNat = 21) (h1 : a[pc + 1]? = some b) : decode a pc = .ok (.iload b.toNat, 2) := by
  refine am_dec ?_
  unfold Decoder.instr
  rw [am_rb, am_u1 h, ho]
  show ((Reader.u1 : Decoder Nat) >>= fun i => pure (Instr.iload i)).runAt a (pc + 1) = _
  rw [am_rb, am_u1 h1]
  rfl
theorem am_d22 {a : ByteArray} {pc : Nat} {op b c : UInt8} (h : a[pc]? = some op) (ho : op.toNat = 22) (h1 : a[pc + 1]? = some b) : decode a pc = .ok (.lload b.toNat, 2) := by
  refine am_dec ?_
  unfold Decoder.instr
  rw [am_rb, am_u1 h, ho]
  show ((Reader.u1 : Decoder Nat) >>= fun i => pure (Instr.lload i)).runAt a (pc + 1) = _
  rw [am_rb, am_u1 h1]
  rfl
theorem am_d25 {a : ByteArray} {pc : Nat} {op b c : UInt8} (h : a[pc]? = some op) (ho : op.toNat = 25) (h1 : a[pc + 1]? = some b) : decode a pc = .ok (.aload b.toNat, 2) := by
  refine am_dec ?_
  unfold Decoder.instr
  rw [am_rb, am_u1 h, ho]
  show ((Reader.u1 : Decoder Nat) >>= fun i => pure (Instr.aload i)).runAt a (pc + 1) = _
  rw [am_rb, am_u1 h1]
  rfl
theorem am_d54 {a : ByteArray} {pc : Nat} {op b c : UInt8} (h : a[pc]? = some op) (ho : op.toNat = 54) (h1 : a[pc + 1]? = some b) : decode a pc = .ok (.istore b.toNat, 2) := by
  refine am_dec ?_
  unfold Decoder.instr
  rw [am_rb, am_u1 h, ho]
  show ((Reader.u1 : Decoder Nat) >>= fun i => pure (Instr.istore i)).runAt a (pc + 1) = _
  rw [am_rb, am_u1 h1]
  rfl
theorem am_d55 {a : ByteArray} {pc : Nat} {op b c : UInt8} (h : a[pc]? = some op) (ho : op.toNat = 55) (h1 : a[pc + 1]? = some b) : decode a pc = .ok (.lstore b.toNat, 2) := by
  refine am_dec ?_
  unfold Decoder.instr
  rw [am_rb, am_u1 h, ho]
  show ((Reader.u1 : Decoder Nat) >>= fun i => pure (Instr.lstore i)).runAt a (pc + 1) = _
  rw [am_rb, am_u1 h1]
  rfl
theorem am_d58 {a : ByteArray} {pc : Nat} {op b c : UInt8} (h : a[pc]? = some op) (ho : op.toNat = 58) (h1 : a[pc + 1]? = some b) : decode a pc = .ok (.astore b.toNat, 2) := by
  refine am_dec ?_
  unfold Decoder.instr
  rw [am_rb, am_u1 h, ho]
  show ((Reader.u1 : Decoder Nat) >>= fun i => pure (Instr.astore i)).runAt a (pc + 1) = _
  rw [am_rb, am_u1 h1]
  rfl
theorem am_d19 {a : ByteArray} {pc : Nat} {op b c : UInt8} (h : a[pc]? = some op) (ho : op.toNat = 19) (h1 : a[pc + 1]? = some b) (h2 : a[pc + 2]? = some c) : decode a pc = .ok (.ldc_w (b.toNat * 256 + c.toNat), 3) := by
  refine am_dec ?_
  unfold Decoder.instr
  rw [am_rb, am_u1 h, ho]
  show ((Reader.u2 : Decoder Nat) >>= fun i => pure (Instr.ldc_w i)).runAt a (pc + 1) = _
  rw [am_rb, am_u2 h1 h2]
  rfl
theorem am_d20 {a : ByteArray} {pc : Nat} {op b c : UInt8} (h : a[pc]? = some op) (ho : op.toNat = 20) (h1 : a[pc + 1]? = some b) (h2 : a[pc + 2]? = some c) : decode a pc = .ok (.ldc2_w (b.toNat * 256 + c.toNat), 3) := by
  refine am_dec ?_
  unfold Decoder.instr
  rw [am_rb, am_u1 h, ho]
  show ((Reader.u2 : Decoder Nat) >>= fun i => pure (Instr.ldc2_w i)).runAt a (pc + 1) = _
  rw [am_rb, am_u2 h1 h2]
  rfl
theorem am_d178 {a : ByteArray} {pc : Nat} {op b c : UInt8} (h : a[pc]? = some op) (ho : op.toNat = 178) (h1 : a[pc + 1]? = some b) (h2 : a[pc + 2]? = some c) : decode a pc = .ok (.getstatic (b.toNat * 256 + c.toNat), 3) := by
  refine am_dec ?_
  unfold Decoder.instr
  rw [am_rb, am_u1 h, ho]
  show ((Reader.u2 : Decoder Nat) >>= fun i => pure (Instr.getstatic i)).runAt a (pc + 1) = _
  rw [am_rb, am_u2 h1 h2]
  rfl
theorem am_d180 {a : ByteArray} {pc : Nat} {op b c : UInt8} (h : a[pc]? = some op) (ho : op.toNat = 180) (h1 : a[pc + 1]? = some b) (h2 : a[pc + 2]? = some c) : decode a pc = .ok (.getfield (b.toNat * 256 + c.toNat), 3) := by
  refine am_dec ?_
  unfold Decoder.instr
  rw [am_rb, am_u1 h, ho]
  show ((Reader.u2 : Decoder Nat) >>= fun i => pure (Instr.getfield i)).runAt a (pc + 1) = _
  rw [am_rb, am_u2 h1 h2]
  rfl
theorem am_d181 {a : ByteArray} {pc : Nat} {op b c : UInt8} (h : a[pc]? = some op) (ho : op.toNat = 181) (h1 : a[pc + 1]? = some b) (h2 : a[pc + 2]? = some c) : decode a pc = .ok (.putfield (b.toNat * 256 + c.toNat), 3) := by
  refine am_dec ?_
  unfold Decoder.instr
  rw [am_rb, am_u1 h, ho]
  show ((Reader.u2 : Decoder Nat) >>= fun i => pure (Instr.putfield i)).runAt a (pc + 1) = _
  rw [am_rb, am_u2 h1 h2]
  rfl
theorem am_d182 {a : ByteArray} {pc : Nat} {op b c : UInt8} (h : a[pc]? = some op) (ho : op.toNat = 182) (h1 : a[pc + 1]? = some b) (h2 : a[pc + 2]? = some c) : decode a pc = .ok (.invokevirtual (b.toNat * 256 + c.toNat), 3) := by
  refine am_dec ?_
  unfold Decoder.instr
  rw [am_rb, am_u1 h, ho]
  show ((Reader.u2 : Decoder Nat) >>= fun i => pure (Instr.invokevirtual i)).runAt a (pc + 1) = _
  rw [am_rb, am_u2 h1 h2]
  rfl
theorem am_d183 {a : ByteArray} {pc : Nat} {op b c : UInt8} (h : a[pc]? = some op) (ho : op.toNat = 183) (h1 : a[pc + 1]? = some b) (h2 : a[pc + 2]? = some c) : decode a pc = .ok (.invokespecial (b.toNat * 256 + c.toNat), 3) := by
  refine am_dec ?_
  unfold Decoder.instr
  rw [am_rb, am_u1 h, ho]
  show ((Reader.u2 : Decoder Nat) >>= fun i => pure (Instr.invokespecial i)).runAt a (pc + 1) = _
  rw [am_rb, am_u2 h1 h2]
  rfl
theorem am_d184 {a : ByteArray} {pc : Nat} {op b c : UInt8} (h : a[pc]? = some op) (ho : op.toNat = 184) (h1 : a[pc + 1]? = some b) (h2 : a[pc + 2]? = some c) : decode a pc = .ok (.invokestatic (b.toNat * 256 + c.toNat), 3) := by
  refine am_dec ?_
  unfold Decoder.instr
  rw [am_rb, am_u1 h, ho]
  show ((Reader.u2 : Decoder Nat) >>= fun i => pure (Instr.invokestatic i)).runAt a (pc + 1) = _
  rw [am_rb, am_u2 h1 h2]
  rfl
theorem am_d187 {a : ByteArray} {pc : Nat} {op b c : UInt8} (h : a[pc]? = some op) (ho : op.toNat = 187) (h1 : a[pc + 1]? = some b) (h2 : a[pc + 2]? = some c) : decode a pc = .ok (.new (b.toNat * 256 + c.toNat), 3) := by
  refine am_dec ?_
  unfold Decoder.instr
  rw [am_rb, am_u1 h, ho]
  show ((Reader.u2 : Decoder Nat) >>= fun i => pure (Instr.new i)).runAt a (pc + 1) = _
  rw [am_rb, am_u2 h1 h2]
  rfl
theorem am_d189 {a : ByteArray} {pc : Nat} {op b c : UInt8} (h : a[pc]? = some op) (ho : op.toNat = 189) (h1 : a[pc + 1]? = some b) (h2 : a[pc + 2]? = some c) : decode a pc = .ok (.anewarray (b.toNat * 256 + c.toNat), 3) := by
  refine am_dec ?_
  unfold Decoder.instr
  rw [am_rb, am_u1 h, ho]
  show ((Reader.u2 : Decoder Nat) >>= fun i => pure (Instr.anewarray i)).runAt a (pc + 1) = _
  rw [am_rb, am_u2 h1 h2]
  rfl
theorem am_d17 {a : ByteArray} {pc : Nat} {op b c : UInt8} (h : a[pc]? = some op) (ho : op.toNat = 17) (h1 : a[pc + 1]? = some b) (h2 : a[pc + 2]? = some c) : decode a pc = .ok (.sipush (Reader.signed 16 (b.toNat * 256 + c.toNat)), 3) := by
  refine am_dec ?_
  unfold Decoder.instr
  rw [am_rb, am_u1 h, ho]
  show ((Reader.s2 : Decoder Int) >>= fun i => pure (Instr.sipush i)).runAt a (pc + 1) = _
  rw [am_rb, am_s2 h1 h2]
  rfl
theorem am_d153 {a : ByteArray} {pc : Nat} {op b c : UInt8} (h : a[pc]? = some op) (ho : op.toNat = 153) (h1 : a[pc + 1]? = some b) (h2 : a[pc + 2]? = some c) : decode a pc = .ok (.ifCond .eq (Reader.signed 16 (b.toNat * 256 + c.toNat)), 3) := by
  refine am_dec ?_
  unfold Decoder.instr
  rw [am_rb, am_u1 h, ho]
  show ((Reader.s2 : Decoder Int) >>= fun i => pure (Instr.ifCond .eq i)).runAt a (pc + 1) = _
  rw [am_rb, am_s2 h1 h2]
  rfl
theorem am_d154 {a : ByteArray} {pc : Nat} {op b c : UInt8} (h : a[pc]? = some op) (ho : op.toNat = 154) (h1 : a[pc + 1]? = some b) (h2 : a[pc + 2]? = some c) : decode a pc = .ok (.ifCond .ne (Reader.signed 16 (b.toNat * 256 + c.toNat)), 3) := by
  refine am_dec ?_
  unfold Decoder.instr
  rw [am_rb, am_u1 h, ho]
  show ((Reader.s2 : Decoder Int) >>= fun i => pure (Instr.ifCond .ne i)).runAt a (pc + 1) = _
  rw [am_rb, am_s2 h1 h2]
  rfl
theorem am_d155 {a : ByteArray} {pc : Nat} {op b c : UInt8} (h : a[pc]? = some op) (ho : op.toNat = 155) (h1 : a[pc + 1]? = some b) (h2 : a[pc + 2]? = some c) : decode a pc = .ok (.ifCond .lt (Reader.signed 16 (b.toNat * 256 + c.toNat)), 3) := by
  refine am_dec ?_
  unfold Decoder.instr
  rw [am_rb, am_u1 h, ho]
  show ((Reader.s2 : Decoder Int) >>= fun i => pure (Instr.ifCond .lt i)).runAt a (pc + 1) = _
  rw [am_rb, am_s2 h1 h2]
  rfl
theorem am_d156 {a : ByteArray} {pc : Nat} {op b c : UInt8} (h : a[pc]? = some op) (ho : op.toNat = 156) (h1 : a[pc + 1]? = some b) (h2 : a[pc + 2]? = some c) : decode a pc = .ok (.ifCond .ge (Reader.signed 16 (b.toNat * 256 + c.toNat)), 3) := by
  refine am_dec ?_
  unfold Decoder.instr
  rw [am_rb, am_u1 h, ho]
  show ((Reader.s2 : Decoder Int) >>= fun i => pure (Instr.ifCond .ge i)).runAt a (pc + 1) = _
  rw [am_rb, am_s2 h1 h2]
  rfl
theorem am_d157 {a : ByteArray} {pc : Nat} {op b c : UInt8} (h : a[pc]? = some op) (ho : op.toNat = 157) (h1 : a[pc + 1]? = some b) (h2 : a[pc + 2]? = some c) : decode a pc = .ok (.ifCond .gt (Reader.signed 16 (b.toNat * 256 + c.toNat)), 3) := by
  refine am_dec ?_
  unfold Decoder.instr
  rw [am_rb, am_u1 h, ho]
  show ((Reader.s2 : Decoder Int) >>= fun i => pure (Instr.ifCond .gt i)).runAt a (pc + 1) = _
  rw [am_rb, am_s2 h1 h2]
  rfl
theorem am_d158 {a : ByteArray} {pc : Nat} {op b c : UInt8} (h : a[pc]? = some op) (ho : op.toNat = 158) (h1 : a[pc + 1]? = some b) (h2 : a[pc + 2]? = some c) : decode a pc = .ok (.ifCond .le (Reader.signed 16 (b.toNat * 256 + c.toNat)), 3) := by
  refine am_dec ?_
  unfold Decoder.instr
  rw [am_rb, am_u1 h, ho]
  show ((Reader.s2 : Decoder Int) >>= fun i => pure (Instr.ifCond .le i)).runAt a (pc + 1) = _
  rw [am_rb, am_s2 h1 h2]
  rfl
theorem am_d159 {a : ByteArray} {pc : Nat} {op b c : UInt8} (h : a[pc]? = some op) (ho : op.toNat = 159) (h1 : a[pc + 1]? = some b) (h2 : a[pc + 2]? = some c) : decode a pc = .ok (.if_icmp .eq (Reader.signed 16 (b.toNat * 256 + c.toNat)), 3) := by
  refine am_dec ?_
  unfold Decoder.instr
  rw [am_rb, am_u1 h, ho]
  show ((Reader.s2 : Decoder Int) >>= fun i => pure (Instr.if_icmp .eq i)).runAt a (pc + 1) = _
  rw [am_rb, am_s2 h1 h2]
  rfl
theorem am_d160 {a : ByteArray} {pc : Nat} {op b c : UInt8} (h : a[pc]? = some op) (ho : op.toNat = 160) (h1 : a[pc + 1]? = some b) (h2 : a[pc + 2]? = some c) : decode a pc = .ok (.if_icmp .ne (Reader.signed 16 (b.toNat * 256 + c.toNat)), 3) := by
  refine am_dec ?_
  unfold Decoder.instr
  rw [am_rb, am_u1 h, ho]
  show ((Reader.s2 : Decoder Int) >>= fun i => pure (Instr.if_icmp .ne i)).runAt a (pc + 1) = _
  rw [am_rb, am_s2 h1 h2]
  rfl
theorem am_d161 {a : ByteArray} {pc : Nat} {op b c : UInt8} (h : a[pc]? = some op) (ho : op.toNat = 161) (h1 : a[pc + 1]? = some b) (h2 : a[pc + 2]? = some c) : decode a pc = .ok (.if_icmp .lt (Reader.signed 16 (b.toNat * 256 + c.toNat)), 3) := by
  refine am_dec ?_
  unfold Decoder.instr
  rw [am_rb, am_u1 h, ho]
  show ((Reader.s2 : Decoder Int) >>= fun i => pure (Instr.if_icmp .lt i)).runAt a (pc + 1) = _
  rw [am_rb, am_s2 h1 h2]
  rfl
theorem am_d162 {a : ByteArray} {pc : Nat} {op b c : UInt8} (h : a[pc]? = some op) (ho : op.toNat = 162) (h1 : a[pc + 1]? = some b) (h2 : a[pc + 2]? = some c) : decode a pc = .ok (.if_icmp .ge (Reader.signed 16 (b.toNat * 256 + c.toNat)), 3) := by
  refine am_dec ?_
  unfold Decoder.instr
  rw [am_rb, am_u1 h, ho]
  show ((Reader.s2 : Decoder Int) >>= fun i => pure (Instr.if_icmp .ge i)).runAt a (pc + 1) = _
  rw [am_rb, am_s2 h1 h2]
  rfl
theorem am_d163 {a : ByteArray} {pc : Nat} {op b c : UInt8} (h : a[pc]? = some op) (ho : op.toNat = 163) (h1 : a[pc + 1]? = some b) (h2 : a[pc + 2]? = some c) : decode a pc = .ok (.if_icmp .gt (Reader.signed 16 (b.toNat * 256 + c.toNat)), 3) := by
  refine am_dec ?_
  unfold Decoder.instr
  rw [am_rb, am_u1 h, ho]
  show ((Reader.s2 : Decoder Int) >>= fun i => pure (Instr.if_icmp .gt i)).runAt a (pc + 1) = _
  rw [am_rb, am_s2 h1 h2]
  rfl
theorem am_d164 {a : ByteArray} {pc : Nat} {op b c : UInt8} (h : a[pc]? = some op) (ho : op.toNat = 164) (h1 : a[pc + 1]? = some b) (h2 : a[pc + 2]? = some c) : decode a pc = .ok (.if_icmp .le (Reader.signed 16 (b.toNat * 256 + c.toNat)), 3) := by
  refine am_dec ?_
  unfold Decoder.instr
  rw [am_rb, am_u1 h, ho]
  show ((Reader.s2 : Decoder Int) >>= fun i => pure (Instr.if_icmp .le i)).runAt a (pc + 1) = _
  rw [am_rb, am_s2 h1 h2]
  rfl
theorem am_d167 {a : ByteArray} {pc : Nat} {op b c : UInt8} (h : a[pc]? = some op) (ho : op.toNat = 167) (h1 : a[pc + 1]? = some b) (h2 : a[pc + 2]? = some c) : decode a pc = .ok (.goto (Reader.signed 16 (b.toNat * 256 + c.toNat)), 3) := by
  refine am_dec ?_
  unfold Decoder.instr
  rw [am_rb, am_u1 h, ho]
  show ((Reader.s2 : Decoder Int) >>= fun i => pure (Instr.goto i)).runAt a (pc + 1) = _
  rw [am_rb, am_s2 h1 h2]
  rfl
theorem am_d198 {a : ByteArray} {pc : Nat} {op b c : UInt8} (h : a[pc]? = some op) (ho : op.toNat = 198) (h1 : a[pc + 1]? = some b) (h2 : a[pc + 2]? = some c) : decode a pc = .ok (.ifnull (Reader.signed 16 (b.toNat * 256 + c.toNat)), 3) := by
  refine am_dec ?_
  unfold Decoder.instr
  rw [am_rb, am_u1 h, ho]
  show ((Reader.s2 : Decoder Int) >>= fun i => pure (Instr.ifnull i)).runAt a (pc + 1) = _
  rw [am_rb, am_s2 h1 h2]
  rfl
theorem am_d199 {a : ByteArray} {pc : Nat} {op b c : UInt8} (h : a[pc]? = some op) (ho : op.toNat = 199) (h1 : a[pc + 1]? = some b) (h2 : a[pc + 2]? = some c) : decode a pc = .ok (.ifnonnull (Reader.signed 16 (b.toNat * 256 + c.toNat)), 3) := by
  refine am_dec ?_
  unfold Decoder.instr
  rw [am_rb, am_u1 h, ho]
  show ((Reader.s2 : Decoder Int) >>= fun i => pure (Instr.ifnonnull i)).runAt a (pc + 1) = _
  rw [am_rb, am_s2 h1 h2]
  rfl
theorem am_d16 {a : ByteArray} {pc : Nat} {op b c : UInt8} (h : a[pc]? = some op) (ho : op.toNat = 16) (h1 : a[pc + 1]? = some b) : decode a pc = .ok (.bipush (Reader.signed 8 b.toNat), 2) := by
  refine am_dec ?_
  unfold Decoder.instr
  rw [am_rb, am_u1 h, ho]
  show ((Reader.s1 : Decoder Int) >>= fun i => pure (Instr.bipush i)).runAt a (pc + 1) = _
  rw [am_rb, am_s1 h1]
  rfl
theorem am_d132 {a : ByteArray} {pc : Nat} {op b c : UInt8} (h : a[pc]? = some op) (ho : op.toNat = 132) (h1 : a[pc + 1]? = some b) (h2 : a[pc + 2]? = some c) : decode a pc = .ok (.iinc b.toNat (Reader.signed 8 c.toNat), 3) := by
  refine am_dec ?_
  unfold Decoder.instr
  rw [am_rb, am_u1 h, ho]
  show ((Reader.u1 : Decoder Nat) >>= fun i => (Reader.s1 : Decoder Int) >>= fun j => pure (Instr.iinc i j)).runAt a (pc + 1) = _
  rw [am_rb, am_u1 h1]
  show ((Reader.s1 : Decoder Int) >>= fun j => pure (Instr.iinc b.toNat j)).runAt a (pc + 2) = _
  rw [am_rb, am_s1 h2]
  rfl
theorem am_d188_4 {a : ByteArray} {pc : Nat} {op b : UInt8} (h : a[pc]? = some op) (ho : op.toNat = 188) (h1 : a[pc + 1]? = some b) (hb : b.toNat = 4) : decode a pc = .ok (.newarray .boolean, 2) := by
  refine am_dec ?_
  unfold Decoder.instr
  rw [am_rb, am_u1 h, ho]
  show (Decoder.newarray pc).runAt a (pc + 1) = _
  unfold Decoder.newarray
  rw [am_rb, am_u1 h1, hb]
  rfl
theorem am_d188_8 {a : ByteArray} {pc : Nat} {op b : UInt8} (h : a[pc]? = some op) (ho : op.toNat = 188) (h1 : a[pc + 1]? = some b) (hb : b.toNat = 8) : decode a pc = .ok (.newarray .byte, 2) := by
  refine am_dec ?_
  unfold Decoder.instr
  rw [am_rb, am_u1 h, ho]
  show (Decoder.newarray pc).runAt a (pc + 1) = _
  unfold Decoder.newarray
  rw [am_rb, am_u1 h1, hb]
  rfl
theorem am_d188_10 {a : ByteArray} {pc : Nat} {op b : UInt8} (h : a[pc]? = some op) (ho : op.toNat = 188) (h1 : a[pc + 1]? = some b) (hb : b.toNat = 10) : decode a pc = .ok (.newarray .int, 2) := by
  refine am_dec ?_
  unfold Decoder.instr
  rw [am_rb, am_u1 h, ho]
  show (Decoder.newarray pc).runAt a (pc + 1) = _
  unfold Decoder.newarray
  rw [am_rb, am_u1 h1, hb]
  rfl
theorem am_d188_11 {a : ByteArray} {pc : Nat} {op b : UInt8} (h : a[pc]? = some op) (ho : op.toNat = 188) (h1 : a[pc + 1]? = some b) (hb : b.toNat = 11) : decode a pc = .ok (.newarray .long, 2) := by
  refine am_dec ?_
  unfold Decoder.instr
  rw [am_rb, am_u1 h, ho]
  show (Decoder.newarray pc).runAt a (pc + 1) = _
  unfold Decoder.newarray
  rw [am_rb, am_u1 h1, hb]
  rfl
theorem am_dc_ok {a : ByteArray} {pc : Nat} {op b c : UInt8} {I : Instr} {n : Nat} (hc : am_dc op.toNat b c = some (I, n)) (h : a[pc]? = some op) (h1 : 2 ≤ n → a[pc + 1]? = some b) (h2 : 3 ≤ n → a[pc + 2]? = some c) : decode a pc = .ok (I, n) := by
  unfold am_dc at hc
  split at hc
  · rename_i ho; cases hc; exact am_d1 (b := b) (c := c) h ho
  · rename_i ho; cases hc; exact am_d2 (b := b) (c := c) h ho
  · rename_i ho; cases hc; exact am_d3 (b := b) (c := c) h ho
  · rename_i ho; cases hc; exact am_d4 (b := b) (c := c) h ho
  · rename_i ho; cases hc; exact am_d5 (b := b) (c := c) h ho
  · rename_i ho; cases hc; exact am_d6 (b := b) (c := c) h ho
  · rename_i ho; cases hc; exact am_d7 (b := b) (c := c) h ho
  · rename_i ho; cases hc; exact am_d8 (b := b) (c := c) h ho
  · rename_i ho; cases hc; exact am_d9 (b := b) (c := c) h ho
  · rename_i ho; cases hc; exact am_d10 (b := b) (c := c) h ho
  · rename_i ho; cases hc; exact am_d26 (b := b) (c := c) h ho
  · rename_i ho; cases hc; exact am_d27 (b := b) (c := c) h ho
  · rename_i ho; cases hc; exact am_d28 (b := b) (c := c) h ho
  · rename_i ho; cases hc; exact am_d29 (b := b) (c := c) h ho
  · rename_i ho; cases hc; exact am_d30 (b := b) (c := c) h ho
  · rename_i ho; cases hc; exact am_d31 (b := b) (c := c) h ho
  · rename_i ho; cases hc; exact am_d32 (b := b) (c := c) h ho
  · rename_i ho; cases hc; exact am_d33 (b := b) (c := c) h ho
  · rename_i ho; cases hc; exact am_d42 (b := b) (c := c) h ho
  · rename_i ho; cases hc; exact am_d43 (b := b) (c := c) h ho
  · rename_i ho; cases hc; exact am_d44 (b := b) (c := c) h ho
  · rename_i ho; cases hc; exact am_d45 (b := b) (c := c) h ho
  · rename_i ho; cases hc; exact am_d46 (b := b) (c := c) h ho
  · rename_i ho; cases hc; exact am_d47 (b := b) (c := c) h ho
  · rename_i ho; cases hc; exact am_d50 (b := b) (c := c) h ho
  · rename_i ho; cases hc; exact am_d51 (b := b) (c := c) h ho
  · rename_i ho; cases hc; exact am_d59 (b := b) (c := c) h ho
  · rename_i ho; cases hc; exact am_d60 (b := b) (c := c) h ho
  · rename_i ho; cases hc; exact am_d61 (b := b) (c := c) h ho
  · rename_i ho; cases hc; exact am_d62 (b := b) (c := c) h ho
  · rename_i ho; cases hc; exact am_d63 (b := b) (c := c) h ho
  · rename_i ho; cases hc; exact am_d64 (b := b) (c := c) h ho
  · rename_i ho; cases hc; exact am_d65 (b := b) (c := c) h ho
  · rename_i ho; cases hc; exact am_d66 (b := b) (c := c) h ho
  · rename_i ho; cases hc; exact am_d75 (b := b) (c := c) h ho
  · rename_i ho; cases hc; exact am_d76 (b := b) (c := c) h ho
  · rename_i ho; cases hc; exact am_d77 (b := b) (c := c) h ho
  · rename_i ho; cases hc; exact am_d78 (b := b) (c := c) h ho
  · rename_i ho; cases hc; exact am_d79 (b := b) (c := c) h ho
  · rename_i ho; cases hc; exact am_d80 (b := b) (c := c) h ho
  · rename_i ho; cases hc; exact am_d83 (b := b) (c := c) h ho
  · rename_i ho; cases hc; exact am_d84 (b := b) (c := c) h ho
  · rename_i ho; cases hc; exact am_d87 (b := b) (c := c) h ho
  · rename_i ho; cases hc; exact am_d89 (b := b) (c := c) h ho
  · rename_i ho; cases hc; exact am_d92 (b := b) (c := c) h ho
  · rename_i ho; cases hc; exact am_d96 (b := b) (c := c) h ho
  · rename_i ho; cases hc; exact am_d97 (b := b) (c := c) h ho
  · rename_i ho; cases hc; exact am_d100 (b := b) (c := c) h ho
  · rename_i ho; cases hc; exact am_d101 (b := b) (c := c) h ho
  · rename_i ho; cases hc; exact am_d104 (b := b) (c := c) h ho
  · rename_i ho; cases hc; exact am_d105 (b := b) (c := c) h ho
  · rename_i ho; cases hc; exact am_d108 (b := b) (c := c) h ho
  · rename_i ho; cases hc; exact am_d112 (b := b) (c := c) h ho
  · rename_i ho; cases hc; exact am_d120 (b := b) (c := c) h ho
  · rename_i ho; cases hc; exact am_d122 (b := b) (c := c) h ho
  · rename_i ho; cases hc; exact am_d124 (b := b) (c := c) h ho
  · rename_i ho; cases hc; exact am_d126 (b := b) (c := c) h ho
  · rename_i ho; cases hc; exact am_d128 (b := b) (c := c) h ho
  · rename_i ho; cases hc; exact am_d130 (b := b) (c := c) h ho
  · rename_i ho; cases hc; exact am_d133 (b := b) (c := c) h ho
  · rename_i ho; cases hc; exact am_d136 (b := b) (c := c) h ho
  · rename_i ho; cases hc; exact am_d145 (b := b) (c := c) h ho
  · rename_i ho; cases hc; exact am_d146 (b := b) (c := c) h ho
  · rename_i ho; cases hc; exact am_d148 (b := b) (c := c) h ho
  · rename_i ho; cases hc; exact am_d172 (b := b) (c := c) h ho
  · rename_i ho; cases hc; exact am_d173 (b := b) (c := c) h ho
  · rename_i ho; cases hc; exact am_d176 (b := b) (c := c) h ho
  · rename_i ho; cases hc; exact am_d177 (b := b) (c := c) h ho
  · rename_i ho; cases hc; exact am_d190 (b := b) (c := c) h ho
  · rename_i ho; cases hc; exact am_d18 (c := c) h ho (h1 (by decide))
  · rename_i ho; cases hc; exact am_d21 (c := c) h ho (h1 (by decide))
  · rename_i ho; cases hc; exact am_d22 (c := c) h ho (h1 (by decide))
  · rename_i ho; cases hc; exact am_d25 (c := c) h ho (h1 (by decide))
  · rename_i ho; cases hc; exact am_d54 (c := c) h ho (h1 (by decide))
  · rename_i ho; cases hc; exact am_d55 (c := c) h ho (h1 (by decide))
  · rename_i ho; cases hc; exact am_d58 (c := c) h ho (h1 (by decide))
  · rename_i ho; cases hc; exact am_d19 h ho (h1 (by decide)) (h2 (by decide))
  · rename_i ho; cases hc; exact am_d20 h ho (h1 (by decide)) (h2 (by decide))
  · rename_i ho; cases hc; exact am_d178 h ho (h1 (by decide)) (h2 (by decide))
  · rename_i ho; cases hc; exact am_d180 h ho (h1 (by decide)) (h2 (by decide))
  · rename_i ho; cases hc; exact am_d181 h ho (h1 (by decide)) (h2 (by decide))
  · rename_i ho; cases hc; exact am_d182 h ho (h1 (by decide)) (h2 (by decide))
  · rename_i ho; cases hc; exact am_d183 h ho (h1 (by decide)) (h2 (by decide))
  · rename_i ho; cases hc; exact am_d184 h ho (h1 (by decide)) (h2 (by decide))
  · rename_i ho; cases hc; exact am_d187 h ho (h1 (by decide)) (h2 (by decide))
  · rename_i ho; cases hc; exact am_d189 h ho (h1 (by decide)) (h2 (by decide))
  · rename_i ho; cases hc; exact am_d17 h ho (h1 (by decide)) (h2 (by decide))
  · rename_i ho; cases hc; exact am_d153 h ho (h1 (by decide)) (h2 (by decide))
  · rename_i ho; cases hc; exact am_d154 h ho (h1 (by decide)) (h2 (by decide))
  · rename_i ho; cases hc; exact am_d155 h ho (h1 (by decide)) (h2 (by decide))
  · rename_i ho; cases hc; exact am_d156 h ho (h1 (by decide)) (h2 (by decide))
  · rename_i ho; cases hc; exact am_d157 h ho (h1 (by decide)) (h2 (by decide))
  · rename_i ho; cases hc; exact am_d158 h ho (h1 (by decide)) (h2 (by decide))
  · rename_i ho; cases hc; exact am_d159 h ho (h1 (by decide)) (h2 (by decide))
  · rename_i ho; cases hc; exact am_d160 h ho (h1 (by decide)) (h2 (by decide))
  · rename_i ho; cases hc; exact am_d161 h ho (h1 (by decide)) (h2 (by decide))
  · rename_i ho; cases hc; exact am_d162 h ho (h1 (by decide)) (h2 (by decide))
  · rename_i ho; cases hc; exact am_d163 h ho (h1 (by decide)) (h2 (by decide))
  · rename_i ho; cases hc; exact am_d164 h ho (h1 (by decide)) (h2 (by decide))
  · rename_i ho; cases hc; exact am_d167 h ho (h1 (by decide)) (h2 (by decide))
  · rename_i ho; cases hc; exact am_d198 h ho (h1 (by decide)) (h2 (by decide))
  · rename_i ho; cases hc; exact am_d199 h ho (h1 (by decide)) (h2 (by decide))
  · rename_i ho; cases hc; exact am_d16 (c := c) h ho (h1 (by decide))
  · rename_i ho; cases hc; exact am_d132 h ho (h1 (by decide)) (h2 (by decide))
  · rename_i ho
    split at hc
    · rename_i hb; cases hc; exact am_d188_4 h ho (h1 (by decide)) hb
    · rename_i hb; cases hc; exact am_d188_8 h ho (h1 (by decide)) hb
    · rename_i hb; cases hc; exact am_d188_10 h ho (h1 (by decide)) hb
    · rename_i hb; cases hc; exact am_d188_11 h ho (h1 (by decide)) hb
    · cases hc
  · cases hc
end
section
def am_isSw : Instr → Bool
  | .tableswitch .. => true
  | _ => false
/-- the bytes beside the instructions (what isn't listed is passed over); what a switch says is looked at apart -/
def am_walk : List UInt8 → Nat → List (Nat × Instr × am_X) → Bool
  | _, _, [] => true
  | bs0, pc0, q :: L => decide (pc0 ≤ q.1) && (if am_isSw q.2.1 = true then am_walk ((bs0.drop (q.1 - pc0)).drop q.2.2.1) (q.1 + q.2.2.1) L else match bs0.drop (q.1 - pc0) with
    | [] => false
    | op :: bs1 => match am_dc op.toNat (bs1.headD 0) (bs1.tail.headD 0) with
      | none => false
      | some (I, n) => decide (I = q.2.1) && (decide (n = am_len q.2.2 q.2.1) && ((n == 1 || (bs1.head?.isSome && (n == 2 || bs1.tail.head?.isSome))) && am_walk ((op :: bs1).drop n) (q.1 + n) L)))
theorem am_ba (a : ByteArray) (p : Nat) : a[p]? = a.data.toList[p]? := by
  by_cases h : p < a.size
  · rw [getElem?_pos a p h]
    have h2 : p < a.data.toList.length := by rw [Array.length_toList]; exact h
    rw [List.getElem?_eq_getElem h2]
    rfl
  · rw [getElem?_neg a p h]
    have h2 : a.data.toList.length ≤ p := by rw [Array.length_toList]; exact Nat.not_lt.mp h
    rw [List.getElem?_eq_none h2]
theorem am_walk_ok {a : ByteArray} : ∀ (L : List (Nat × Instr × am_X)) (bs : List UInt8) (pc : Nat), bs = a.data.toList.drop pc → am_walk bs pc L = true → ∀ q ∈ L, am_isSw q.2.1 = false → decode a q.1 = .ok (q.2.1, am_len q.2.2 q.2.1)
  | [], _, _, _, _, q, hq, _ => absurd hq List.not_mem_nil
  | z :: L, bs, pc0, hb0, hw, q, hq, hs => by
    unfold am_walk at hw
    rw [Bool.and_eq_true] at hw
    obtain ⟨hz0, hw⟩ := hw
    have hz := of_decide_eq_true hz0
    have hb : bs.drop (z.1 - pc0) = a.data.toList.drop z.1 := by
      rw [hb0, List.drop_drop, Nat.add_sub_cancel' hz]
    by_cases hsw : am_isSw z.2.1 = true
    · rw [if_pos hsw, hb] at hw
      rcases List.mem_cons.mp hq with rfl | hq
      · rw [hsw] at hs; cases hs
      · exact am_walk_ok L _ _ (by rw [List.drop_drop]) hw q hq hs
    · rw [if_neg hsw] at hw
      split at hw
      · cases hw
      rename_i op bs1 hbs
      rw [hbs] at hb
      split at hw
      · cases hw
      rename_i I n hdc
      simp only [Bool.and_eq_true, decide_eq_true_eq, Bool.or_eq_true, beq_iff_eq] at hw
      obtain ⟨hI, hn, hx, hw⟩ := hw
      have get : ∀ j, a[z.1 + j]? = (op :: bs1)[j]? := by
        intro j
        rw [am_ba, hb, List.getElem?_drop]
      rcases List.mem_cons.mp hq with rfl | hq
      · have h0 : a[q.1]? = some op := get 0
        have key : decode a q.1 = .ok (I, n) := by
          refine am_dc_ok hdc h0 (fun h2 => ?_) (fun h3 => ?_)
          · rcases hx with hx | hx
            · omega
            · obtain ⟨b, hb1⟩ := Option.isSome_iff_exists.mp hx.1
              rw [get 1]
              cases bs1 with
              | nil => cases hb1
              | cons b1 r => rfl
          · rcases hx with hx | hx
            · omega
            · rcases hx.2 with hy | hy
              · omega
              · obtain ⟨b, hb1⟩ := Option.isSome_iff_exists.mp hy
                rw [get 2]
                cases bs1 with
                | nil => cases hb1
                | cons b1 r =>
                  cases r with
                  | nil => cases hb1
                  | cons b2 r2 => rfl
        rw [key, hI, hn]
      · exact am_walk_ok L _ _ (by rw [hb, List.drop_drop]) hw q hq hs
/-- all that is asked of a method's table -/
def am_all (T : am_LT) (init : Bool) (M : am_M) : Bool :=
  M.2.2.2.2.all (am_ckb T M.2.2.1 init) && (am_walk M.2.1.data.toList 0 M.2.2.2.2 && M.2.2.2.2.all (fun q => !am_isSw q.2.1 || decide (decode M.2.1 q.1 = .ok (q.2.1, am_len q.2.2 q.2.1))))
theorem am_tab_all {cl : List vw_C} {tys : List FieldType} {P : List am_M} {Ts : List Cond} {sn : List (Nat × String × String × String)} {sr : am_SR} {M : am_M} {init : Bool} {T : am_LT} {Tc : List (List Cond)} (hTc : ∀ c ∈ Tc, ∀ w ∈ c, goodWord w = true → w ∈ Ts)
    (hT : am_lkb cl tys P Tc sn sr M.1.cls T = true) (h : am_all T init M = true) : am_tab cl tys P Ts sn sr M init := by
  unfold am_all at h
  simp only [Bool.and_eq_true] at h
  refine am_tab_of hTc hT h.1 (fun q hq => ?_)
  by_cases hs : am_isSw q.2.1 = true
  · have := List.all_eq_true.mp h.2.2 q hq
    rw [hs] at this
    exact of_decide_eq_true (by simpa using this)
  · exact am_walk_ok _ _ 0 (by simp) h.2.1 q hq (by simpa using hs)
end
section
/-- a class' layout words, by their places -/
def am_cwb (Tc : List (List Cond)) (C : String) (T : u_T) (ps : List Nat) (N : Nat) : Bool := decide (ps.length = N) && (List.range N).all fun k => am_hit Tc (ps.getD k 0) (u_lay C T k)
theorem am_cwb_ok {Ts : List Cond} {Tc : List (List Cond)} (hTc : ∀ c ∈ Tc, ∀ w ∈ c, goodWord w = true → w ∈ Ts) {C : String} {T : u_T} {ps : List Nat} {N : Nat} (h : am_cwb Tc C T ps N = true) : ∀ w ∈ u_ws C T N, w ∈ Ts := by
  intro w hw
  unfold am_cwb at h
  rw [Bool.and_eq_true] at h
  obtain ⟨k, hk, rfl⟩ := List.mem_map.mp hw
  exact am_hit_mem hTc (List.all_eq_true.mp h.2 k hk)
end
