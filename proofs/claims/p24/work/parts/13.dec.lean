theorem am_rb {α β : Type} (r : Decoder α) (f : α → Decoder β) (a : ByteArray) (p : Nat) : (r >>= f).runAt a p = (r.runAt a p) >>= fun q => (f q.1).runAt a q.2 := rfl
theorem am_u1 {a : ByteArray} {p : Nat} {b : UInt8} (h : a[p]? = some b) : (Reader.u1 : Decoder Nat).runAt a p = .ok (b.toNat, p + 1) := by
  have hp : p < a.size := by
    have := h
    simp only [getElem?_def] at this
    split at this
    · assumption
    · cases this
  have hb : a[p] = b := by
    have := h
    rw [getElem?_pos a p hp] at this
    exact Option.some.inj this
  show (if h : p < a.size then _ else _ : Decoder Nat).runAt a p = _
  rw [dif_pos hp, hb]
  rfl
theorem am_u2 {a : ByteArray} {p : Nat} {b c : UInt8} (h : a[p]? = some b) (h1 : a[p + 1]? = some c) : (Reader.u2 : Decoder Nat).runAt a p = .ok (b.toNat * 256 + c.toNat, p + 2) := by
  unfold Reader.u2
  rw [am_rb, am_u1 h]
  show ((Reader.u1 : Decoder Nat) >>= fun lo => pure (b.toNat * 256 + lo)).runAt a (p + 1) = _
  rw [am_rb, am_u1 h1]
  rfl
theorem am_rm {α β : Type} (f : α → β) (r : Decoder α) (a : ByteArray) (p : Nat) : (f <$> r : Decoder β).runAt a p = (r.runAt a p) >>= fun q => .ok (f q.1, q.2) := rfl
theorem am_s1 {a : ByteArray} {p : Nat} {b : UInt8} (h : a[p]? = some b) : (Reader.s1 : Decoder Int).runAt a p = .ok (Reader.signed 8 b.toNat, p + 1) := by
  unfold Reader.s1
  rw [am_rm, am_u1 h]
  rfl
theorem am_s2 {a : ByteArray} {p : Nat} {b c : UInt8} (h : a[p]? = some b) (h1 : a[p + 1]? = some c) : (Reader.s2 : Decoder Int).runAt a p = .ok (Reader.signed 16 (b.toNat * 256 + c.toNat), p + 2) := by
  unfold Reader.s2
  rw [am_rm, am_u2 h h1]
  rfl
theorem am_dec {a : ByteArray} {pc : Nat} {I : Instr} {n : Nat} (h : (Decoder.instr pc).runAt a pc = .ok (I, pc + n)) : decode a pc = .ok (I, n) := by
  unfold decode
  rw [h]
  show Except.ok (I, pc + n - pc) = _
  rw [Nat.add_sub_cancel_left]
/-- the instructions that are used, but for the switches, by their first three bytes -/
def am_dc (op : Nat) (b c : UInt8) : Option (Instr × Nat) :=
  match op with
  | 1 => some (.aconst_null, 1)
  | 2 => some (.iconst (-1), 1)
  | 3 => some (.iconst 0, 1)
  | 4 => some (.iconst 1, 1)
  | 5 => some (.iconst 2, 1)
  | 6 => some (.iconst 3, 1)
  | 7 => some (.iconst 4, 1)
  | 8 => some (.iconst 5, 1)
  | 9 => some (.lconst 0, 1)
  | 10 => some (.lconst 1, 1)
  | 26 => some (.iload_n 0, 1)
  | 27 => some (.iload_n 1, 1)
  | 28 => some (.iload_n 2, 1)
  | 29 => some (.iload_n 3, 1)
  | 30 => some (.lload_n 0, 1)
  | 31 => some (.lload_n 1, 1)
  | 32 => some (.lload_n 2, 1)
  | 33 => some (.lload_n 3, 1)
  | 42 => some (.aload_n 0, 1)
  | 43 => some (.aload_n 1, 1)
  | 44 => some (.aload_n 2, 1)
  | 45 => some (.aload_n 3, 1)
  | 46 => some (.iaload, 1)
  | 47 => some (.laload, 1)
  | 50 => some (.aaload, 1)
  | 51 => some (.baload, 1)
  | 59 => some (.istore_n 0, 1)
  | 60 => some (.istore_n 1, 1)
  | 61 => some (.istore_n 2, 1)
  | 62 => some (.istore_n 3, 1)
  | 63 => some (.lstore_n 0, 1)
  | 64 => some (.lstore_n 1, 1)
  | 65 => some (.lstore_n 2, 1)
  | 66 => some (.lstore_n 3, 1)
  | 75 => some (.astore_n 0, 1)
  | 76 => some (.astore_n 1, 1)
  | 77 => some (.astore_n 2, 1)
  | 78 => some (.astore_n 3, 1)
  | 79 => some (.iastore, 1)
  | 80 => some (.lastore, 1)
  | 83 => some (.aastore, 1)
  | 84 => some (.bastore, 1)
  | 87 => some (.pop, 1)
  | 89 => some (.dup, 1)
  | 92 => some (.dup2, 1)
  | 96 => some (.iadd, 1)
  | 97 => some (.ladd, 1)
  | 100 => some (.isub, 1)
  | 101 => some (.lsub, 1)
  | 104 => some (.imul, 1)
  | 105 => some (.lmul, 1)
  | 108 => some (.idiv, 1)
  | 112 => some (.irem, 1)
  | 120 => some (.ishl, 1)
  | 122 => some (.ishr, 1)
  | 124 => some (.iushr, 1)
  | 126 => some (.iand, 1)
  | 128 => some (.ior, 1)
  | 130 => some (.ixor, 1)
  | 133 => some (.i2l, 1)
  | 136 => some (.l2i, 1)
  | 145 => some (.i2b, 1)
  | 146 => some (.i2c, 1)
  | 148 => some (.lcmp, 1)
  | 172 => some (.ireturn, 1)
  | 173 => some (.lreturn, 1)
  | 176 => some (.areturn, 1)
  | 177 => some (.return_, 1)
  | 190 => some (.arraylength, 1)
  | 18 => some (.ldc b.toNat, 2)
  | 21 => some (.iload b.toNat, 2)
  | 22 => some (.lload b.toNat, 2)
  | 25 => some (.aload b.toNat, 2)
  | 54 => some (.istore b.toNat, 2)
  | 55 => some (.lstore b.toNat, 2)
  | 58 => some (.astore b.toNat, 2)
  | 19 => some (.ldc_w (b.toNat * 256 + c.toNat), 3)
  | 20 => some (.ldc2_w (b.toNat * 256 + c.toNat), 3)
  | 178 => some (.getstatic (b.toNat * 256 + c.toNat), 3)
  | 180 => some (.getfield (b.toNat * 256 + c.toNat), 3)
  | 181 => some (.putfield (b.toNat * 256 + c.toNat), 3)
  | 182 => some (.invokevirtual (b.toNat * 256 + c.toNat), 3)
  | 183 => some (.invokespecial (b.toNat * 256 + c.toNat), 3)
  | 184 => some (.invokestatic (b.toNat * 256 + c.toNat), 3)
  | 187 => some (.new (b.toNat * 256 + c.toNat), 3)
  | 189 => some (.anewarray (b.toNat * 256 + c.toNat), 3)
  | 17 => some (.sipush (Reader.signed 16 (b.toNat * 256 + c.toNat)), 3)
  | 153 => some (.ifCond .eq (Reader.signed 16 (b.toNat * 256 + c.toNat)), 3)
  | 154 => some (.ifCond .ne (Reader.signed 16 (b.toNat * 256 + c.toNat)), 3)
  | 155 => some (.ifCond .lt (Reader.signed 16 (b.toNat * 256 + c.toNat)), 3)
  | 156 => some (.ifCond .ge (Reader.signed 16 (b.toNat * 256 + c.toNat)), 3)
  | 157 => some (.ifCond .gt (Reader.signed 16 (b.toNat * 256 + c.toNat)), 3)
  | 158 => some (.ifCond .le (Reader.signed 16 (b.toNat * 256 + c.toNat)), 3)
  | 159 => some (.if_icmp .eq (Reader.signed 16 (b.toNat * 256 + c.toNat)), 3)
  | 160 => some (.if_icmp .ne (Reader.signed 16 (b.toNat * 256 + c.toNat)), 3)
  | 161 => some (.if_icmp .lt (Reader.signed 16 (b.toNat * 256 + c.toNat)), 3)
  | 162 => some (.if_icmp .ge (Reader.signed 16 (b.toNat * 256 + c.toNat)), 3)
  | 163 => some (.if_icmp .gt (Reader.signed 16 (b.toNat * 256 + c.toNat)), 3)
  | 164 => some (.if_icmp .le (Reader.signed 16 (b.toNat * 256 + c.toNat)), 3)
  | 167 => some (.goto (Reader.signed 16 (b.toNat * 256 + c.toNat)), 3)
  | 198 => some (.ifnull (Reader.signed 16 (b.toNat * 256 + c.toNat)), 3)
  | 199 => some (.ifnonnull (Reader.signed 16 (b.toNat * 256 + c.toNat)), 3)
  | 16 => some (.bipush (Reader.signed 8 b.toNat), 2)
  | 132 => some (.iinc b.toNat (Reader.signed 8 c.toNat), 3)
  | 188 => match b.toNat with
    | 4 => some (.newarray .boolean, 2)
    | 8 => some (.newarray .byte, 2)
    | 10 => some (.newarray .int, 2)
    | 11 => some (.newarray .long, 2)
    | _ => none
  | _ => none
theorem am_d1 {a : ByteArray} {pc : Nat} {op b c : UInt8} (h : a[pc]? = some op) (ho : op.toNat = 1) : decode a pc = .ok (.aconst_null, 1) := by
  refine am_dec ?_
  unfold Decoder.instr
  rw [am_rb, am_u1 h, ho]
  rfl
theorem am_d2 {a : ByteArray} {pc : Nat} {op b c : UInt8} (h : a[pc]? = some op) (ho : op.toNat = 2) : decode a pc = .ok (.iconst (-1), 1) := by
  refine am_dec ?_
  unfold Decoder.instr
  rw [am_rb, am_u1 h, ho]
  rfl
theorem am_d3 {a : ByteArray} {pc : Nat} {op b c : UInt8} (h : a[pc]? = some op) (ho : op.toNat = 3) : decode a pc = .ok (.iconst 0, 1) := by
  refine am_dec ?_
  unfold Decoder.instr
  rw [am_rb, am_u1 h, ho]
  rfl
theorem am_d4 {a : ByteArray} {pc : Nat} {op b c : UInt8} (h : a[pc]? = some op) (ho : op.toNat = 4) : decode a pc = .ok (.iconst 1, 1) := by
  refine am_dec ?_
  unfold Decoder.instr
  rw [am_rb, am_u1 h, ho]
  rfl
theorem am_d5 {a : ByteArray} {pc : Nat} {op b c : UInt8} (h : a[pc]? = some op) (ho : op.toNat = 5) : decode a pc = .ok (.iconst 2, 1) := by
  refine am_dec ?_
  unfold Decoder.instr
  rw [am_rb, am_u1 h, ho]
  rfl
theorem am_d6 {a : ByteArray} {pc : Nat} {op b c : UInt8} (h : a[pc]? = some op) (ho : op.toNat = 6) : decode a pc = .ok (.iconst 3, 1) := by
  refine am_dec ?_
  unfold Decoder.instr
  rw [am_rb, am_u1 h, ho]
  rfl
theorem am_d7 {a : ByteArray} {pc : Nat} {op b c : UInt8} (h : a[pc]? = some op) (ho : op.toNat = 7) : decode a pc = .ok (.iconst 4, 1) := by
  refine am_dec ?_
  unfold Decoder.instr
  rw [am_rb, am_u1 h, ho]
  rfl
theorem am_d8 {a : ByteArray} {pc : Nat} {op b c : UInt8} (h : a[pc]? = some op) (ho : op.toNat = 8) : decode a pc = .ok (.iconst 5, 1) := by
  refine am_dec ?_
  unfold Decoder.instr
  rw [am_rb, am_u1 h, ho]
  rfl
theorem am_d9 {a : ByteArray} {pc : Nat} {op b c : UInt8} (h : a[pc]? = some op) (ho : op.toNat = 9) : decode a pc = .ok (.lconst 0, 1) := by
  refine am_dec ?_
  unfold Decoder.instr
  rw [am_rb, am_u1 h, ho]
  rfl
theorem am_d10 {a : ByteArray} {pc : Nat} {op b c : UInt8} (h : a[pc]? = some op) (ho : op.toNat = 10) : decode a pc = .ok (.lconst 1, 1) := by
  refine am_dec ?_
  unfold Decoder.instr
  rw [am_rb, am_u1 h, ho]
  rfl
theorem am_d26 {a : ByteArray} {pc : Nat} {op b c : UInt8} (h : a[pc]? = some op) (ho : op.toNat = 26) : decode a pc = .ok (.iload_n 0, 1) := by
  refine am_dec ?_
  unfold Decoder.instr
  rw [am_rb, am_u1 h, ho]
  rfl
theorem am_d27 {a : ByteArray} {pc : Nat} {op b c : UInt8} (h : a[pc]? = some op) (ho : op.toNat = 27) : decode a pc = .ok (.iload_n 1, 1) := by
  refine am_dec ?_
  unfold Decoder.instr
  rw [am_rb, am_u1 h, ho]
  rfl
theorem am_d28 {a : ByteArray} {pc : Nat} {op b c : UInt8} (h : a[pc]? = some op) (ho : op.toNat = 28) : decode a pc = .ok (.iload_n 2, 1) := by
  refine am_dec ?_
  unfold Decoder.instr
  rw [am_rb, am_u1 h, ho]
  rfl
theorem am_d29 {a : ByteArray} {pc : Nat} {op b c : UInt8} (h : a[pc]? = some op) (ho : op.toNat = 29) : decode a pc = .ok (.iload_n 3, 1) := by
  refine am_dec ?_
  unfold Decoder.instr
  rw [am_rb, am_u1 h, ho]
  rfl
theorem am_d30 {a : ByteArray} {pc : Nat} {op b c : UInt8} (h : a[pc]? = some op) (ho : op.toNat = 30) : decode a pc = .ok (.lload_n 0, 1) := by
  refine am_dec ?_
  unfold Decoder.instr
  rw [am_rb, am_u1 h, ho]
  rfl
theorem am_d31 {a : ByteArray} {pc : Nat} {op b c : UInt8} (h : a[pc]? = some op) (ho : op.toNat = 31) : decode a pc = .ok (.lload_n 1, 1) := by
  refine am_dec ?_
  unfold Decoder.instr
  rw [am_rb, am_u1 h, ho]
  rfl
theorem am_d32 {a : ByteArray} {pc : Nat} {op b c : UInt8} (h : a[pc]? = some op) (ho : op.toNat = 32) : decode a pc = .ok (.lload_n 2, 1) := by
  refine am_dec ?_
  unfold Decoder.instr
  rw [am_rb, am_u1 h, ho]
  rfl
theorem am_d33 {a : ByteArray} {pc : Nat} {op b c : UInt8} (h : a[pc]? = some op) (ho : op.toNat = 33) : decode a pc = .ok (.lload_n 3, 1) := by
  refine am_dec ?_
  unfold Decoder.instr
  rw [am_rb, am_u1 h, ho]
  rfl
theorem am_d42 {a : ByteArray} {pc : Nat} {op b c : UInt8} (h : a[pc]? = some op) (ho : op.toNat = 42) : decode a pc = .ok (.aload_n 0, 1) := by
  refine am_dec ?_
  unfold Decoder.instr
  rw [am_rb, am_u1 h, ho]
  rfl
theorem am_d43 {a : ByteArray} {pc : Nat} {op b c : UInt8} (h : a[pc]? = some op) (ho : op.toNat = 43) : decode a pc = .ok (.aload_n 1, 1) := by
  refine am_dec ?_
  unfold Decoder.instr
  rw [am_rb, am_u1 h, ho]
  rfl
theorem am_d44 {a : ByteArray} {pc : Nat} {op b c : UInt8} (h : a[pc]? = some op) (ho : op.toNat = 44) : decode a pc = .ok (.aload_n 2, 1) := by
  refine am_dec ?_
  unfold Decoder.instr
  rw [am_rb, am_u1 h, ho]
  rfl
theorem am_d45 {a : ByteArray} {pc : Nat} {op b c : UInt8} (h : a[pc]? = some op) (ho : op.toNat = 45) : decode a pc = .ok (.aload_n 3, 1) := by
  refine am_dec ?_
  unfold Decoder.instr
  rw [am_rb, am_u1 h, ho]
  rfl
theorem am_d46 {a : ByteArray} {pc : Nat} {op b c : UInt8} (h : a[pc]? = some op) (ho : op.toNat = 46) : decode a pc = .ok (.iaload, 1) := by
  refine am_dec ?_
  unfold Decoder.instr
  rw [am_rb, am_u1 h, ho]
  rfl
theorem am_d47 {a : ByteArray} {pc : Nat} {op b c : UInt8} (h : a[pc]? = some op) (ho : op.toNat = 47) : decode a pc = .ok (.laload, 1) := by
  refine am_dec ?_
  unfold Decoder.instr
  rw [am_rb, am_u1 h, ho]
  rfl
theorem am_d50 {a : ByteArray} {pc : Nat} {op b c : UInt8} (h : a[pc]? = some op) (ho : op.toNat = 50) : decode a pc = .ok (.aaload, 1) := by
  refine am_dec ?_
  unfold Decoder.instr
  rw [am_rb, am_u1 h, ho]
  rfl
theorem am_d51 {a : ByteArray} {pc : Nat} {op b c : UInt8} (h : a[pc]? = some op) (ho : op.toNat = 51) : decode a pc = .ok (.baload, 1) := by
  refine am_dec ?_
  unfold Decoder.instr
  rw [am_rb, am_u1 h, ho]
  rfl
theorem am_d59 {a : ByteArray} {pc : Nat} {op b c : UInt8} (h : a[pc]? = some op) (ho : op.toNat = 59) : decode a pc = .ok (.istore_n 0, 1) := by
  refine am_dec ?_
  unfold Decoder.instr
  rw [am_rb, am_u1 h, ho]
  rfl
theorem am_d60 {a : ByteArray} {pc : Nat} {op b c : UInt8} (h : a[pc]? = some op) (ho : op.toNat = 60) : decode a pc = .ok (.istore_n 1, 1) := by
  refine am_dec ?_
  unfold Decoder.instr
  rw [am_rb, am_u1 h, ho]
  rfl
theorem am_d61 {a : ByteArray} {pc : Nat} {op b c : UInt8} (h : a[pc]? = some op) (ho : op.toNat = 61) : decode a pc = .ok (.istore_n 2, 1) := by
  refine am_dec ?_
  unfold Decoder.instr
  rw [am_rb, am_u1 h, ho]
  rfl
theorem am_d62 {a : ByteArray} {pc : Nat} {op b c : UInt8} (h : a[pc]? = some op) (ho : op.toNat = 62) : decode a pc = .ok (.istore_n 3, 1) := by
  refine am_dec ?_
  unfold Decoder.instr
  rw [am_rb, am_u1 h, ho]
  rfl
theorem am_d63 {a : ByteArray} {pc : Nat} {op b c : UInt8} (h : a[pc]? = some op) (ho : op.toNat = 63) : decode a pc = .ok (.lstore_n 0, 1) := by
  refine am_dec ?_
  unfold Decoder.instr
  rw [am_rb, am_u1 h, ho]
  rfl
theorem am_d64 {a : ByteArray} {pc : Nat} {op b c : UInt8} (h : a[pc]? = some op) (ho : op.toNat = 64) : decode a pc = .ok (.lstore_n 1, 1) := by
  refine am_dec ?_
  unfold Decoder.instr
  rw [am_rb, am_u1 h, ho]
  rfl
theorem am_d65 {a : ByteArray} {pc : Nat} {op b c : UInt8} (h : a[pc]? = some op) (ho : op.toNat = 65) : decode a pc = .ok (.lstore_n 2, 1) := by
  refine am_dec ?_
  unfold Decoder.instr
  rw [am_rb, am_u1 h, ho]
  rfl
theorem am_d66 {a : ByteArray} {pc : Nat} {op b c : UInt8} (h : a[pc]? = some op) (ho : op.toNat = 66) : decode a pc = .ok (.lstore_n 3, 1) := by
  refine am_dec ?_
  unfold Decoder.instr
  rw [am_rb, am_u1 h, ho]
  rfl
theorem am_d75 {a : ByteArray} {pc : Nat} {op b c : UInt8} (h : a[pc]? = some op) (ho : op.toNat = 75) : decode a pc = .ok (.astore_n 0, 1) := by
  refine am_dec ?_
  unfold Decoder.instr
  rw [am_rb, am_u1 h, ho]
  rfl
theorem am_d76 {a : ByteArray} {pc : Nat} {op b c : UInt8} (h : a[pc]? = some op) (ho : op.toNat = 76) : decode a pc = .ok (.astore_n 1, 1) := by
  refine am_dec ?_
  unfold Decoder.instr
  rw [am_rb, am_u1 h, ho]
  rfl
theorem am_d77 {a : ByteArray} {pc : Nat} {op b c : UInt8} (h : a[pc]? = some op) (ho : op.toNat = 77) : decode a pc = .ok (.astore_n 2, 1) := by
  refine am_dec ?_
  unfold Decoder.instr
  rw [am_rb, am_u1 h, ho]
  rfl
theorem am_d78 {a : ByteArray} {pc : Nat} {op b c : UInt8} (h : a[pc]? = some op) (ho : op.toNat = 78) : decode a pc = .ok (.astore_n 3, 1) := by
  refine am_dec ?_
  unfold Decoder.instr
  rw [am_rb, am_u1 h, ho]
  rfl
theorem am_d79 {a : ByteArray} {pc : Nat} {op b c : UInt8} (h : a[pc]? = some op) (ho : op.toNat = 79) : decode a pc = .ok (.iastore, 1) := by
  refine am_dec ?_
  unfold Decoder.instr
  rw [am_rb, am_u1 h, ho]
  rfl
theorem am_d80 {a : ByteArray} {pc : Nat} {op b c : UInt8} (h : a[pc]? = some op) (ho : op.toNat = 80) : decode a pc = .ok (.lastore, 1) := by
  refine am_dec ?_
  unfold Decoder.instr
  rw [am_rb, am_u1 h, ho]
  rfl
theorem am_d83 {a : ByteArray} {pc : Nat} {op b c : UInt8} (h : a[pc]? = some op) (ho : op.toNat = 83) : decode a pc = .ok (.aastore, 1) := by
  refine am_dec ?_
  unfold Decoder.instr
  rw [am_rb, am_u1 h, ho]
  rfl
theorem am_d84 {a : ByteArray} {pc : Nat} {op b c : UInt8} (h : a[pc]? = some op) (ho : op.toNat = 84) : decode a pc = .ok (.bastore, 1) := by
  refine am_dec ?_
  unfold Decoder.instr
  rw [am_rb, am_u1 h, ho]
  rfl
theorem am_d87 {a : ByteArray} {pc : Nat} {op b c : UInt8} (h : a[pc]? = some op) (ho : op.toNat = 87) : decode a pc = .ok (.pop, 1) := by
  refine am_dec ?_
  unfold Decoder.instr
  rw [am_rb, am_u1 h, ho]
  rfl
theorem am_d89 {a : ByteArray} {pc : Nat} {op b c : UInt8} (h : a[pc]? = some op) (ho : op.toNat = 89) : decode a pc = .ok (.dup, 1) := by
  refine am_dec ?_
  unfold Decoder.instr
  rw [am_rb, am_u1 h, ho]
  rfl
theorem am_d92 {a : ByteArray} {pc : Nat} {op b c : UInt8} (h : a[pc]? = some op) (ho : op.toNat = 92) : decode a pc = .ok (.dup2, 1) := by
  refine am_dec ?_
  unfold Decoder.instr
  rw [am_rb, am_u1 h, ho]
  rfl
theorem am_d96 {a : ByteArray} {pc : Nat} {op b c : UInt8} (h : a[pc]? = some op) (ho : op.toNat = 96) : decode a pc = .ok (.iadd, 1) := by
  refine am_dec ?_
  unfold Decoder.instr
  rw [am_rb, am_u1 h, ho]
  rfl
theorem am_d97 {a : ByteArray} {pc : Nat} {op b c : UInt8} (h : a[pc]? = some op) (ho : op.toNat = 97) : decode a pc = .ok (.ladd, 1) := by
  refine am_dec ?_
  unfold Decoder.instr
  rw [am_rb, am_u1 h, ho]
  rfl
theorem am_d100 {a : ByteArray} {pc : Nat} {op b c : UInt8} (h : a[pc]? = some op) (ho : op.toNat = 100) : decode a pc = .ok (.isub, 1) := by
  refine am_dec ?_
  unfold Decoder.instr
  rw [am_rb, am_u1 h, ho]
  rfl
theorem am_d101 {a : ByteArray} {pc : Nat} {op b c : UInt8} (h : a[pc]? = some op) (ho : op.toNat = 101) : decode a pc = .ok (.lsub, 1) := by
  refine am_dec ?_
  unfold Decoder.instr
  rw [am_rb, am_u1 h, ho]
  rfl
theorem am_d104 {a : ByteArray} {pc : Nat} {op b c : UInt8} (h : a[pc]? = some op) (ho : op.toNat = 104) : decode a pc = .ok (.imul, 1) := by
  refine am_dec ?_
  unfold Decoder.instr
  rw [am_rb, am_u1 h, ho]
  rfl
theorem am_d105 {a : ByteArray} {pc : Nat} {op b c : UInt8} (h : a[pc]? = some op) (ho : op.toNat = 105) : decode a pc = .ok (.lmul, 1) := by
  refine am_dec ?_
  unfold Decoder.instr
  rw [am_rb, am_u1 h, ho]
  rfl
theorem am_d108 {a : ByteArray} {pc : Nat} {op b c : UInt8} (h : a[pc]? = some op) (ho : op.toNat = 108) : decode a pc = .ok (.idiv, 1) := by
  refine am_dec ?_
  unfold Decoder.instr
  rw [am_rb, am_u1 h, ho]
  rfl
theorem am_d112 {a : ByteArray} {pc : Nat} {op b c : UInt8} (h : a[pc]? = some op) (ho : op.toNat = 112) : decode a pc = .ok (.irem, 1) := by
  refine am_dec ?_
  unfold Decoder.instr
  rw [am_rb, am_u1 h, ho]
  rfl
theorem am_d120 {a : ByteArray} {pc : Nat} {op b c : UInt8} (h : a[pc]? = some op) (ho : op.toNat = 120) : decode a pc = .ok (.ishl, 1) := by
  refine am_dec ?_
  unfold Decoder.instr
  rw [am_rb, am_u1 h, ho]
  rfl
theorem am_d122 {a : ByteArray} {pc : Nat} {op b c : UInt8} (h : a[pc]? = some op) (ho : op.toNat = 122) : decode a pc = .ok (.ishr, 1) := by
  refine am_dec ?_
  unfold Decoder.instr
  rw [am_rb, am_u1 h, ho]
  rfl
theorem am_d124 {a : ByteArray} {pc : Nat} {op b c : UInt8} (h : a[pc]? = some op) (ho : op.toNat = 124) : decode a pc = .ok (.iushr, 1) := by
  refine am_dec ?_
  unfold Decoder.instr
  rw [am_rb, am_u1 h, ho]
  rfl
theorem am_d126 {a : ByteArray} {pc : Nat} {op b c : UInt8} (h : a[pc]? = some op) (ho : op.toNat = 126) : decode a pc = .ok (.iand, 1) := by
  refine am_dec ?_
  unfold Decoder.instr
  rw [am_rb, am_u1 h, ho]
  rfl
theorem am_d128 {a : ByteArray} {pc : Nat} {op b c : UInt8} (h : a[pc]? = some op) (ho : op.toNat = 128) : decode a pc = .ok (.ior, 1) := by
  refine am_dec ?_
  unfold Decoder.instr
  rw [am_rb, am_u1 h, ho]
  rfl
theorem am_d130 {a : ByteArray} {pc : Nat} {op b c : UInt8} (h : a[pc]? = some op) (ho : op.toNat = 130) : decode a pc = .ok (.ixor, 1) := by
  refine am_dec ?_
  unfold Decoder.instr
  rw [am_rb, am_u1 h, ho]
  rfl
theorem am_d133 {a : ByteArray} {pc : Nat} {op b c : UInt8} (h : a[pc]? = some op) (ho : op.toNat = 133) : decode a pc = .ok (.i2l, 1) := by
  refine am_dec ?_
  unfold Decoder.instr
  rw [am_rb, am_u1 h, ho]
  rfl
theorem am_d136 {a : ByteArray} {pc : Nat} {op b c : UInt8} (h : a[pc]? = some op) (ho : op.toNat = 136) : decode a pc = .ok (.l2i, 1) := by
  refine am_dec ?_
  unfold Decoder.instr
  rw [am_rb, am_u1 h, ho]
  rfl
theorem am_d145 {a : ByteArray} {pc : Nat} {op b c : UInt8} (h : a[pc]? = some op) (ho : op.toNat = 145) : decode a pc = .ok (.i2b, 1) := by
  refine am_dec ?_
  unfold Decoder.instr
  rw [am_rb, am_u1 h, ho]
  rfl
theorem am_d146 {a : ByteArray} {pc : Nat} {op b c : UInt8} (h : a[pc]? = some op) (ho : op.toNat = 146) : decode a pc = .ok (.i2c, 1) := by
  refine am_dec ?_
  unfold Decoder.instr
  rw [am_rb, am_u1 h, ho]
  rfl
theorem am_d148 {a : ByteArray} {pc : Nat} {op b c : UInt8} (h : a[pc]? = some op) (ho : op.toNat = 148) : decode a pc = .ok (.lcmp, 1) := by
  refine am_dec ?_
  unfold Decoder.instr
  rw [am_rb, am_u1 h, ho]
  rfl
theorem am_d172 {a : ByteArray} {pc : Nat} {op b c : UInt8} (h : a[pc]? = some op) (ho : op.toNat = 172) : decode a pc = .ok (.ireturn, 1) := by
  refine am_dec ?_
  unfold Decoder.instr
  rw [am_rb, am_u1 h, ho]
  rfl
theorem am_d173 {a : ByteArray} {pc : Nat} {op b c : UInt8} (h : a[pc]? = some op) (ho : op.toNat = 173) : decode a pc = .ok (.lreturn, 1) := by
  refine am_dec ?_
  unfold Decoder.instr
  rw [am_rb, am_u1 h, ho]
  rfl
theorem am_d176 {a : ByteArray} {pc : Nat} {op b c : UInt8} (h : a[pc]? = some op) (ho : op.toNat = 176) : decode a pc = .ok (.areturn, 1) := by
  refine am_dec ?_
  unfold Decoder.instr
  rw [am_rb, am_u1 h, ho]
  rfl
theorem am_d177 {a : ByteArray} {pc : Nat} {op b c : UInt8} (h : a[pc]? = some op) (ho : op.toNat = 177) : decode a pc = .ok (.return_, 1) := by
  refine am_dec ?_
  unfold Decoder.instr
  rw [am_rb, am_u1 h, ho]
  rfl
theorem am_d190 {a : ByteArray} {pc : Nat} {op b c : UInt8} (h : a[pc]? = some op) (ho : op.toNat = 190) : decode a pc = .ok (.arraylength, 1) := by
  refine am_dec ?_
  unfold Decoder.instr
  rw [am_rb, am_u1 h, ho]
  rfl
theorem am_d18 {a : ByteArray} {pc : Nat} {op b c : UInt8} (h : a[pc]? = some op) (ho : op.toNat = 18) (h1 : a[pc + 1]? = some b) : decode a pc = .ok (.ldc b.toNat, 2) := by
  refine am_dec ?_
  unfold Decoder.instr
  rw [am_rb, am_u1 h, ho]
  show ((Reader.u1 : Decoder Nat) >>= fun i => pure (Instr.ldc i)).runAt a (pc + 1) = _
  rw [am_rb, am_u1 h1]
  rfl
theorem am_d21 {a : ByteArray} {pc : Nat} {op b c : UInt8} (h : a[pc]? = some op) (ho : op.toNat = 21) (h1 : a[pc + 1]? = some b) : decode a pc = .ok (.iload b.toNat, 2) := by
  refine am_dec ?_
  unfold Decoder.instr
  rw [am_rb, am_u1 h, ho]
  show ((Reader.u1 : Decoder Nat) >>= fun i => pure (Instr.iload i)).runAt a (pc + 1) = _
  rw [am_rb, am_u1 h1]
  rfl
theorem am_d22 {a : ByteArray} {pc : Nat} {op b c : UInt8} (h : a[pc]? = some op) (ho : op.toNat = 22) (h1 : a[pc + 1]? = some b) : decode a pc = .ok (.lload b.toNat, 2) := by
  refine am_dec ?_
  unfold Decoder.instr
  rw [am_rb, am_u1 h, ho]
  show ((Reader.u1 : Decoder Nat) >>= fun i => pure (Instr.lload i)).runAt a (pc + 1) = _
  rw [am_rb, am_u1 h1]
  rfl
theorem am_d25 {a : ByteArray} {pc : Nat} {op b c : UInt8} (h : a[pc]? = some op) (ho : op.toNat = 25) (h1 : a[pc + 1]? = some b) : decode a pc = .ok (.aload b.toNat, 2) := by
  refine am_dec ?_
  unfold Decoder.instr
  rw [am_rb, am_u1 h, ho]
  show ((Reader.u1 : Decoder Nat) >>= fun i => pure (Instr.aload i)).runAt a (pc + 1) = _
  rw [am_rb, am_u1 h1]
  rfl
theorem am_d54 {a : ByteArray} {pc : Nat} {op b c : UInt8} (h : a[pc]? = some op) (ho : op.toNat = 54) (h1 : a[pc + 1]? = some b) : decode a pc = .ok (.istore b.toNat, 2) := by
  refine am_dec ?_
  unfold Decoder.instr
  rw [am_rb, am_u1 h, ho]
  show ((Reader.u1 : Decoder Nat) >>= fun i => pure (Instr.istore i)).runAt a (pc + 1) = _
  rw [am_rb, am_u1 h1]
  rfl
theorem am_d55 {a : ByteArray} {pc : Nat} {op b c : UInt8} (h : a[pc]? = some op) (ho : op.toNat = 55) (h1 : a[pc + 1]? = some b) : decode a pc = .ok (.lstore b.toNat, 2) := by
  refine am_dec ?_
  unfold Decoder.instr
  rw [am_rb, am_u1 h, ho]
  show ((Reader.u1 : Decoder Nat) >>= fun i => pure (Instr.lstore i)).runAt a (pc + 1) = _
  rw [am_rb, am_u1 h1]
  rfl
theorem am_d58 {a : ByteArray} {pc : Nat} {op b c : UInt8} (h : a[pc]? = some op) (ho : op.toNat = 58) (h1 : a[pc + 1]? = some b) : decode a pc = .ok (.astore b.toNat, 2) := by
  refine am_dec ?_
  unfold Decoder.instr
  rw [am_rb, am_u1 h, ho]
  show ((Reader.u1 : Decoder Nat) >>= fun i => pure (Instr.astore i)).runAt a (pc + 1) = _
  rw [am_rb, am_u1 h1]
  rfl
theorem am_d19 {a : ByteArray} {pc : Nat} {op b c : UInt8} (h : a[pc]? = some op) (ho : op.toNat = 19) (h1 : a[pc + 1]? = some b) (h2 : a[pc + 2]? = some c) : decode a pc = .ok (.ldc_w (b.toNat * 256 + c.toNat), 3) := by
  refine am_dec ?_
  unfold Decoder.instr
  rw [am_rb, am_u1 h, ho]
  show ((Reader.u2 : Decoder Nat) >>= fun i => pure (Instr.ldc_w i)).runAt a (pc + 1) = _
  rw [am_rb, am_u2 h1 h2]
  rfl
theorem am_d20 {a : ByteArray} {pc : Nat} {op b c : UInt8} (h : a[pc]? = some op) (ho : op.toNat = 20) (h1 : a[pc + 1]? = some b) (h2 : a[pc + 2]? = some c) : decode a pc = .ok (.ldc2_w (b.toNat * 256 + c.toNat), 3) := by
  refine am_dec ?_
  unfold Decoder.instr
  rw [am_rb, am_u1 h, ho]
  show ((Reader.u2 : Decoder Nat) >>= fun i => pure (Instr.ldc2_w i)).runAt a (pc + 1) = _
  rw [am_rb, am_u2 h1 h2]
  rfl
theorem am_d178 {a : ByteArray} {pc : Nat} {op b c : UInt8} (h : a[pc]? = some op) (ho : op.toNat = 178) (h1 : a[pc + 1]? = some b) (h2 : a[pc + 2]? = some c) : decode a pc = .ok (.getstatic (b.toNat * 256 + c.toNat), 3) := by
  refine am_dec ?_
  unfold Decoder.instr
  rw [am_rb, am_u1 h, ho]
  show ((Reader.u2 : Decoder Nat) >>= fun i => pure (Instr.getstatic i)).runAt a (pc + 1) = _
  rw [am_rb, am_u2 h1 h2]
  rfl
theorem am_d180 {a : ByteArray} {pc : Nat} {op b c : UInt8} (h : a[pc]? = some op) (ho : op.toNat = 180) (h1 : a[pc + 1]? = some b) (h2 : a[pc + 2]? = some c) : decode a pc = .ok (.getfield (b.toNat * 256 + c.toNat), 3) := by
  refine am_dec ?_
  unfold Decoder.instr
  rw [am_rb, am_u1 h, ho]
  show ((Reader.u2 : Decoder Nat) >>= fun i => pure (Instr.getfield i)).runAt a (pc + 1) = _
  rw [am_rb, am_u2 h1 h2]
  rfl
theorem am_d181 {a : ByteArray} {pc : Nat} {op b c : UInt8} (h : a[pc]? = some op) (ho : op.toNat = 181) (h1 : a[pc + 1]? = some b) (h2 : a[pc + 2]? = some c) : decode a pc = .ok (.putfield (b.toNat * 256 + c.toNat), 3) := by
  refine am_dec ?_
  unfold Decoder.instr
  rw [am_rb, am_u1 h, ho]
  show ((Reader.u2 : Decoder Nat) >>= fun i => pure (Instr.putfield i)).runAt a (pc + 1) = _
  rw [am_rb, am_u2 h1 h2]
  rfl
theorem am_d182 {a : ByteArray} {pc : Nat} {op b c : UInt8} (h : a[pc]? = some op) (ho : op.toNat = 182) (h1 : a[pc + 1]? = some b) (h2 : a[pc + 2]? = some c) : decode a pc = .ok (.invokevirtual (b.toNat * 256 + c.toNat), 3) := by
  refine am_dec ?_
  unfold Decoder.instr
  rw [am_rb, am_u1 h, ho]
  show ((Reader.u2 : Decoder Nat) >>= fun i => pure (Instr.invokevirtual i)).runAt a (pc + 1) = _
  rw [am_rb, am_u2 h1 h2]
  rfl
theorem am_d183 {a : ByteArray} {pc : Nat} {op b c : UInt8} (h : a[pc]? = some op) (ho : op.toNat = 183) (h1 : a[pc + 1]? = some b) (h2 : a[pc + 2]? = some c) : decode a pc = .ok (.invokespecial (b.toNat * 256 + c.toNat), 3) := by
  refine am_dec ?_
  unfold Decoder.instr
  rw [am_rb, am_u1 h, ho]
  show ((Reader.u2 : Decoder Nat) >>= fun i => pure (Instr.invokespecial i)).runAt a (pc + 1) = _
  rw [am_rb, am_u2 h1 h2]
  rfl
theorem am_d184 {a : ByteArray} {pc : Nat} {op b c : UInt8} (h : a[pc]? = some op) (ho : op.toNat = 184) (h1 : a[pc + 1]? = some b) (h2 : a[pc + 2]? = some c) : decode a pc = .ok (.invokestatic (b.toNat * 256 + c.toNat), 3) := by
  refine am_dec ?_
  unfold Decoder.instr
  rw [am_rb, am_u1 h, ho]
  show ((Reader.u2 : Decoder Nat) >>= fun i => pure (Instr.invokestatic i)).runAt a (pc + 1) = _
  rw [am_rb, am_u2 h1 h2]
  rfl
theorem am_d187 {a : ByteArray} {pc : Nat} {op b c : UInt8} (h : a[pc]? = some op) (ho : op.toNat = 187) (h1 : a[pc + 1]? = some b) (h2 : a[pc + 2]? = some c) : decode a pc = .ok (.new (b.toNat * 256 + c.toNat), 3) := by
  refine am_dec ?_
  unfold Decoder.instr
  rw [am_rb, am_u1 h, ho]
  show ((Reader.u2 : Decoder Nat) >>= fun i => pure (Instr.new i)).runAt a (pc + 1) = _
  rw [am_rb, am_u2 h1 h2]
  rfl
theorem am_d189 {a : ByteArray} {pc : Nat} {op b c : UInt8} (h : a[pc]? = some op) (ho : op.toNat = 189) (h1 : a[pc + 1]? = some b) (h2 : a[pc + 2]? = some c) : decode a pc = .ok (.anewarray (b.toNat * 256 + c.toNat), 3) := by
  refine am_dec ?_
  unfold Decoder.instr
  rw [am_rb, am_u1 h, ho]
  show ((Reader.u2 : Decoder Nat) >>= fun i => pure (Instr.anewarray i)).runAt a (pc + 1) = _
  rw [am_rb, am_u2 h1 h2]
  rfl
theorem am_d17 {a : ByteArray} {pc : Nat} {op b c : UInt8} (h : a[pc]? = some op) (ho : op.toNat = 17) (h1 : a[pc + 1]? = some b) (h2 : a[pc + 2]? = some c) : decode a pc = .ok (.sipush (Reader.signed 16 (b.toNat * 256 + c.toNat)), 3) := by
  refine am_dec ?_
  unfold Decoder.instr
  rw [am_rb, am_u1 h, ho]
  show ((Reader.s2 : Decoder Int) >>= fun i => pure (Instr.sipush i)).runAt a (pc + 1) = _
  rw [am_rb, am_s2 h1 h2]
  rfl
theorem am_d153 {a : ByteArray} {pc : Nat} {op b c : UInt8} (h : a[pc]? = some op) (ho : op.toNat = 153) (h1 : a[pc + 1]? = some b) (h2 : a[pc + 2]? = some c) : decode a pc = .ok (.ifCond .eq (Reader.signed 16 (b.toNat * 256 + c.toNat)), 3) := by
  refine am_dec ?_
  unfold Decoder.instr
  rw [am_rb, am_u1 h, ho]
  show ((Reader.s2 : Decoder Int) >>= fun i => pure (Instr.ifCond .eq i)).runAt a (pc + 1) = _
  rw [am_rb, am_s2 h1 h2]
  rfl
theorem am_d154 {a : ByteArray} {pc : Nat} {op b c : UInt8} (h : a[pc]? = some op) (ho : op.toNat = 154) (h1 : a[pc + 1]? = some b) (h2 : a[pc + 2]? = some c) : decode a pc = .ok (.ifCond .ne (Reader.signed 16 (b.toNat * 256 + c.toNat)), 3) := by
  refine am_dec ?_
  unfold Decoder.instr
  rw [am_rb, am_u1 h, ho]
  show ((Reader.s2 : Decoder Int) >>= fun i => pure (Instr.ifCond .ne i)).runAt a (pc + 1) = _
  rw [am_rb, am_s2 h1 h2]
  rfl
theorem am_d155 {a : ByteArray} {pc : Nat} {op b c : UInt8} (h : a[pc]? = some op) (ho : op.toNat = 155) (h1 : a[pc + 1]? = some b) (h2 : a[pc + 2]? = some c) : decode a pc = .ok (.ifCond .lt (Reader.signed 16 (b.toNat * 256 + c.toNat)), 3) := by
  refine am_dec ?_
  unfold Decoder.instr
  rw [am_rb, am_u1 h, ho]
  show ((Reader.s2 : Decoder Int) >>= fun i => pure (Instr.ifCond .lt i)).runAt a (pc + 1) = _
  rw [am_rb, am_s2 h1 h2]
  rfl
theorem am_d156 {a : ByteArray} {pc : Nat} {op b c : UInt8} (h : a[pc]? = some op) (ho : op.toNat = 156) (h1 : a[pc + 1]? = some b) (h2 : a[pc + 2]? = some c) : decode a pc = .ok (.ifCond .ge (Reader.signed 16 (b.toNat * 256 + c.toNat)), 3) := by
  refine am_dec ?_
  unfold Decoder.instr
  rw [am_rb, am_u1 h, ho]
  show ((Reader.s2 : Decoder Int) >>= fun i => pure (Instr.ifCond .ge i)).runAt a (pc + 1) = _
  rw [am_rb, am_s2 h1 h2]
  rfl
theorem am_d157 {a : ByteArray} {pc : Nat} {op b c : UInt8} (h : a[pc]? = some op) (ho : op.toNat = 157) (h1 : a[pc + 1]? = some b) (h2 : a[pc + 2]? = some c) : decode a pc = .ok (.ifCond .gt (Reader.signed 16 (b.toNat * 256 + c.toNat)), 3) := by
  refine am_dec ?_
  unfold Decoder.instr
  rw [am_rb, am_u1 h, ho]
  show ((Reader.s2 : Decoder Int) >>= fun i => pure (Instr.ifCond .gt i)).runAt a (pc + 1) = _
  rw [am_rb, am_s2 h1 h2]
  rfl
theorem am_d158 {a : ByteArray} {pc : Nat} {op b c : UInt8} (h : a[pc]? = some op) (ho : op.toNat = 158) (h1 : a[pc + 1]? = some b) (h2 : a[pc + 2]? = some c) : decode a pc = .ok (.ifCond .le (Reader.signed 16 (b.toNat * 256 + c.toNat)), 3) := by
  refine am_dec ?_
  unfold Decoder.instr
  rw [am_rb, am_u1 h, ho]
  show ((Reader.s2 : Decoder Int) >>= fun i => pure (Instr.ifCond .le i)).runAt a (pc + 1) = _
  rw [am_rb, am_s2 h1 h2]
  rfl
theorem am_d159 {a : ByteArray} {pc : Nat} {op b c : UInt8} (h : a[pc]? = some op) (ho : op.toNat = 159) (h1 : a[pc + 1]? = some b) (h2 : a[pc + 2]? = some c) : decode a pc = .ok (.if_icmp .eq (Reader.signed 16 (b.toNat * 256 + c.toNat)), 3) := by
  refine am_dec ?_
  unfold Decoder.instr
  rw [am_rb, am_u1 h, ho]
  show ((Reader.s2 : Decoder Int) >>= fun i => pure (Instr.if_icmp .eq i)).runAt a (pc + 1) = _
  rw [am_rb, am_s2 h1 h2]
  rfl
theorem am_d160 {a : ByteArray} {pc : Nat} {op b c : UInt8} (h : a[pc]? = some op) (ho : op.toNat = 160) (h1 : a[pc + 1]? = some b) (h2 : a[pc + 2]? = some c) : decode a pc = .ok (.if_icmp .ne (Reader.signed 16 (b.toNat * 256 + c.toNat)), 3) := by
  refine am_dec ?_
  unfold Decoder.instr
  rw [am_rb, am_u1 h, ho]
  show ((Reader.s2 : Decoder Int) >>= fun i => pure (Instr.if_icmp .ne i)).runAt a (pc + 1) = _
  rw [am_rb, am_s2 h1 h2]
  rfl
theorem am_d161 {a : ByteArray} {pc : Nat} {op b c : UInt8} (h : a[pc]? = some op) (ho : op.toNat = 161) (h1 : a[pc + 1]? = some b) (h2 : a[pc + 2]? = some c) : decode a pc = .ok (.if_icmp .lt (Reader.signed 16 (b.toNat * 256 + c.toNat)), 3) := by
  refine am_dec ?_
  unfold Decoder.instr
  rw [am_rb, am_u1 h, ho]
  show ((Reader.s2 : Decoder Int) >>= fun i => pure (Instr.if_icmp .lt i)).runAt a (pc + 1) = _
  rw [am_rb, am_s2 h1 h2]
  rfl
theorem am_d162 {a : ByteArray} {pc : Nat} {op b c : UInt8} (h : a[pc]? = some op) (ho : op.toNat = 162) (h1 : a[pc + 1]? = some b) (h2 : a[pc + 2]? = some c) : decode a pc = .ok (.if_icmp .ge (Reader.signed 16 (b.toNat * 256 + c.toNat)), 3) := by
  refine am_dec ?_
  unfold Decoder.instr
  rw [am_rb, am_u1 h, ho]
  show ((Reader.s2 : Decoder Int) >>= fun i => pure (Instr.if_icmp .ge i)).runAt a (pc + 1) = _
  rw [am_rb, am_s2 h1 h2]
  rfl
theorem am_d163 {a : ByteArray} {pc : Nat} {op b c : UInt8} (h : a[pc]? = some op) (ho : op.toNat = 163) (h1 : a[pc + 1]? = some b) (h2 : a[pc + 2]? = some c) : decode a pc = .ok (.if_icmp .gt (Reader.signed 16 (b.toNat * 256 + c.toNat)), 3) := by
  refine am_dec ?_
  unfold Decoder.instr
  rw [am_rb, am_u1 h, ho]
  show ((Reader.s2 : Decoder Int) >>= fun i => pure (Instr.if_icmp .gt i)).runAt a (pc + 1) = _
  rw [am_rb, am_s2 h1 h2]
  rfl
theorem am_d164 {a : ByteArray} {pc : Nat} {op b c : UInt8} (h : a[pc]? = some op) (ho : op.toNat = 164) (h1 : a[pc + 1]? = some b) (h2 : a[pc + 2]? = some c) : decode a pc = .ok (.if_icmp .le (Reader.signed 16 (b.toNat * 256 + c.toNat)), 3) := by
  refine am_dec ?_
  unfold Decoder.instr
  rw [am_rb, am_u1 h, ho]
  show ((Reader.s2 : Decoder Int) >>= fun i => pure (Instr.if_icmp .le i)).runAt a (pc + 1) = _
  rw [am_rb, am_s2 h1 h2]
  rfl
theorem am_d167 {a : ByteArray} {pc : Nat} {op b c : UInt8} (h : a[pc]? = some op) (ho : op.toNat = 167) (h1 : a[pc + 1]? = some b) (h2 : a[pc + 2]? = some c) : decode a pc = .ok (.goto (Reader.signed 16 (b.toNat * 256 + c.toNat)), 3) := by
  refine am_dec ?_
  unfold Decoder.instr
  rw [am_rb, am_u1 h, ho]
  show ((Reader.s2 : Decoder Int) >>= fun i => pure (Instr.goto i)).runAt a (pc + 1) = _
  rw [am_rb, am_s2 h1 h2]
  rfl
theorem am_d198 {a : ByteArray} {pc : Nat} {op b c : UInt8} (h : a[pc]? = some op) (ho : op.toNat = 198) (h1 : a[pc + 1]? = some b) (h2 : a[pc + 2]? = some c) : decode a pc = .ok (.ifnull (Reader.signed 16 (b.toNat * 256 + c.toNat)), 3) := by
  refine am_dec ?_
  unfold Decoder.instr
  rw [am_rb, am_u1 h, ho]
  show ((Reader.s2 : Decoder Int) >>= fun i => pure (Instr.ifnull i)).runAt a (pc + 1) = _
  rw [am_rb, am_s2 h1 h2]
  rfl
theorem am_d199 {a : ByteArray} {pc : Nat} {op b c : UInt8} (h : a[pc]? = some op) (ho : op.toNat = 199) (h1 : a[pc + 1]? = some b) (h2 : a[pc + 2]? = some c) : decode a pc = .ok (.ifnonnull (Reader.signed 16 (b.toNat * 256 + c.toNat)), 3) := by
  refine am_dec ?_
  unfold Decoder.instr
  rw [am_rb, am_u1 h, ho]
  show ((Reader.s2 : Decoder Int) >>= fun i => pure (Instr.ifnonnull i)).runAt a (pc + 1) = _
  rw [am_rb, am_s2 h1 h2]
  rfl
theorem am_d16 {a : ByteArray} {pc : Nat} {op b c : UInt8} (h : a[pc]? = some op) (ho : op.toNat = 16) (h1 : a[pc + 1]? = some b) : decode a pc = .ok (.bipush (Reader.signed 8 b.toNat), 2) := by
  refine am_dec ?_
  unfold Decoder.instr
  rw [am_rb, am_u1 h, ho]
  show ((Reader.s1 : Decoder Int) >>= fun i => pure (Instr.bipush i)).runAt a (pc + 1) = _
  rw [am_rb, am_s1 h1]
  rfl
theorem am_d132 {a : ByteArray} {pc : Nat} {op b c : UInt8} (h : a[pc]? = some op) (ho : op.toNat = 132) (h1 : a[pc + 1]? = some b) (h2 : a[pc + 2]? = some c) : decode a pc = .ok (.iinc b.toNat (Reader.signed 8 c.toNat), 3) := by
  refine am_dec ?_
  unfold Decoder.instr
  rw [am_rb, am_u1 h, ho]
  show ((Reader.u1 : Decoder Nat) >>= fun i => (Reader.s1 : Decoder Int) >>= fun j => pure (Instr.iinc i j)).runAt a (pc + 1) = _
  rw [am_rb, am_u1 h1]
  show ((Reader.s1 : Decoder Int) >>= fun j => pure (Instr.iinc b.toNat j)).runAt a (pc + 2) = _
  rw [am_rb, am_s1 h2]
  rfl
theorem am_d188_4 {a : ByteArray} {pc : Nat} {op b : UInt8} (h : a[pc]? = some op) (ho : op.toNat = 188) (h1 : a[pc + 1]? = some b) (hb : b.toNat = 4) : decode a pc = .ok (.newarray .boolean, 2) := by
  refine am_dec ?_
  unfold Decoder.instr
  rw [am_rb, am_u1 h, ho]
  show (Decoder.newarray pc).runAt a (pc + 1) = _
  unfold Decoder.newarray
  rw [am_rb, am_u1 h1, hb]
  rfl
theorem am_d188_8 {a : ByteArray} {pc : Nat} {op b : UInt8} (h : a[pc]? = some op) (ho : op.toNat = 188) (h1 : a[pc + 1]? = some b) (hb : b.toNat = 8) : decode a pc = .ok (.newarray .byte, 2) := by
  refine am_dec ?_
  unfold Decoder.instr
  rw [am_rb, am_u1 h, ho]
  show (Decoder.newarray pc).runAt a (pc + 1) = _
  unfold Decoder.newarray
  rw [am_rb, am_u1 h1, hb]
  rfl
theorem am_d188_10 {a : ByteArray} {pc : Nat} {op b : UInt8} (h : a[pc]? = some op) (ho : op.toNat = 188) (h1 : a[pc + 1]? = some b) (hb : b.toNat = 10) : decode a pc = .ok (.newarray .int, 2) := by
  refine am_dec ?_
  unfold Decoder.instr
  rw [am_rb, am_u1 h, ho]
  show (Decoder.newarray pc).runAt a (pc + 1) = _
  unfold Decoder.newarray
  rw [am_rb, am_u1 h1, hb]
  rfl
theorem am_d188_11 {a : ByteArray} {pc : Nat} {op b : UInt8} (h : a[pc]? = some op) (ho : op.toNat = 188) (h1 : a[pc + 1]? = some b) (hb : b.toNat = 11) : decode a pc = .ok (.newarray .long, 2) := by
  refine am_dec ?_
  unfold Decoder.instr
  rw [am_rb, am_u1 h, ho]
  show (Decoder.newarray pc).runAt a (pc + 1) = _
  unfold Decoder.newarray
  rw [am_rb, am_u1 h1, hb]
  rfl
theorem am_dc_ok {a : ByteArray} {pc : Nat} {op b c : UInt8} {I : Instr} {n : Nat} (hc : am_dc op.toNat b c = some (I, n)) (h : a[pc]? = some op) (h1 : 2 ≤ n → a[pc + 1]? = some b) (h2 : 3 ≤ n → a[pc + 2]? = some c) : decode a pc = .ok (I, n) := by
  unfold am_dc at hc
  split at hc
  · rename_i ho; cases hc; exact am_d1 (b := b) (c := c) h ho
  · rename_i ho; cases hc; exact am_d2 (b := b) (c := c) h ho
  · rename_i ho; cases hc; exact am_d3 (b := b) (c := c) h ho
  · rename_i ho; cases hc; exact am_d4 (b := b) (c := c) h ho
  · rename_i ho; cases hc; exact am_d5 (b := b) (c := c) h ho
  · rename_i ho; cases hc; exact am_d6 (b := b) (c := c) h ho
  · rename_i ho; cases hc; exact am_d7 (b := b) (c := c) h ho
  · rename_i ho; cases hc; exact am_d8 (b := b) (c := c) h ho
  · rename_i ho; cases hc; exact am_d9 (b := b) (c := c) h ho
  · rename_i ho; cases hc; exact am_d10 (b := b) (c := c) h ho
  · rename_i ho; cases hc; exact am_d26 (b := b) (c := c) h ho
  · rename_i ho; cases hc; exact am_d27 (b := b) (c := c) h ho
  · rename_i ho; cases hc; exact am_d28 (b := b) (c := c) h ho
  · rename_i ho; cases hc; exact am_d29 (b := b) (c := c) h ho
  · rename_i ho; cases hc; exact am_d30 (b := b) (c := c) h ho
  · rename_i ho; cases hc; exact am_d31 (b := b) (c := c) h ho
  · rename_i ho; cases hc; exact am_d32 (b := b) (c := c) h ho
  · rename_i ho; cases hc; exact am_d33 (b := b) (c := c) h ho
  · rename_i ho; cases hc; exact am_d42 (b := b) (c := c) h ho
  · rename_i ho; cases hc; exact am_d43 (b := b) (c := c) h ho
  · rename_i ho; cases hc; exact am_d44 (b := b) (c := c) h ho
  · rename_i ho; cases hc; exact am_d45 (b := b) (c := c) h ho
  · rename_i ho; cases hc; exact am_d46 (b := b) (c := c) h ho
  · rename_i ho; cases hc; exact am_d47 (b := b) (c := c) h ho
  · rename_i ho; cases hc; exact am_d50 (b := b) (c := c) h ho
  · rename_i ho; cases hc; exact am_d51 (b := b) (c := c) h ho
  · rename_i ho; cases hc; exact am_d59 (b := b) (c := c) h ho
  · rename_i ho; cases hc; exact am_d60 (b := b) (c := c) h ho
  · rename_i ho; cases hc; exact am_d61 (b := b) (c := c) h ho
  · rename_i ho; cases hc; exact am_d62 (b := b) (c := c) h ho
  · rename_i ho; cases hc; exact am_d63 (b := b) (c := c) h ho
  · rename_i ho; cases hc; exact am_d64 (b := b) (c := c) h ho
  · rename_i ho; cases hc; exact am_d65 (b := b) (c := c) h ho
  · rename_i ho; cases hc; exact am_d66 (b := b) (c := c) h ho
  · rename_i ho; cases hc; exact am_d75 (b := b) (c := c) h ho
  · rename_i ho; cases hc; exact am_d76 (b := b) (c := c) h ho
  · rename_i ho; cases hc; exact am_d77 (b := b) (c := c) h ho
  · rename_i ho; cases hc; exact am_d78 (b := b) (c := c) h ho
  · rename_i ho; cases hc; exact am_d79 (b := b) (c := c) h ho
  · rename_i ho; cases hc; exact am_d80 (b := b) (c := c) h ho
  · rename_i ho; cases hc; exact am_d83 (b := b) (c := c) h ho
  · rename_i ho; cases hc; exact am_d84 (b := b) (c := c) h ho
  · rename_i ho; cases hc; exact am_d87 (b := b) (c := c) h ho
  · rename_i ho; cases hc; exact am_d89 (b := b) (c := c) h ho
  · rename_i ho; cases hc; exact am_d92 (b := b) (c := c) h ho
  · rename_i ho; cases hc; exact am_d96 (b := b) (c := c) h ho
  · rename_i ho; cases hc; exact am_d97 (b := b) (c := c) h ho
  · rename_i ho; cases hc; exact am_d100 (b := b) (c := c) h ho
  · rename_i ho; cases hc; exact am_d101 (b := b) (c := c) h ho
  · rename_i ho; cases hc; exact am_d104 (b := b) (c := c) h ho
  · rename_i ho; cases hc; exact am_d105 (b := b) (c := c) h ho
  · rename_i ho; cases hc; exact am_d108 (b := b) (c := c) h ho
  · rename_i ho; cases hc; exact am_d112 (b := b) (c := c) h ho
  · rename_i ho; cases hc; exact am_d120 (b := b) (c := c) h ho
  · rename_i ho; cases hc; exact am_d122 (b := b) (c := c) h ho
  · rename_i ho; cases hc; exact am_d124 (b := b) (c := c) h ho
  · rename_i ho; cases hc; exact am_d126 (b := b) (c := c) h ho
  · rename_i ho; cases hc; exact am_d128 (b := b) (c := c) h ho
  · rename_i ho; cases hc; exact am_d130 (b := b) (c := c) h ho
  · rename_i ho; cases hc; exact am_d133 (b := b) (c := c) h ho
  · rename_i ho; cases hc; exact am_d136 (b := b) (c := c) h ho
  · rename_i ho; cases hc; exact am_d145 (b := b) (c := c) h ho
  · rename_i ho; cases hc; exact am_d146 (b := b) (c := c) h ho
  · rename_i ho; cases hc; exact am_d148 (b := b) (c := c) h ho
  · rename_i ho; cases hc; exact am_d172 (b := b) (c := c) h ho
  · rename_i ho; cases hc; exact am_d173 (b := b) (c := c) h ho
  · rename_i ho; cases hc; exact am_d176 (b := b) (c := c) h ho
  · rename_i ho; cases hc; exact am_d177 (b := b) (c := c) h ho
  · rename_i ho; cases hc; exact am_d190 (b := b) (c := c) h ho
  · rename_i ho; cases hc; exact am_d18 (c := c) h ho (h1 (by decide))
  · rename_i ho; cases hc; exact am_d21 (c := c) h ho (h1 (by decide))
  · rename_i ho; cases hc; exact am_d22 (c := c) h ho (h1 (by decide))
  · rename_i ho; cases hc; exact am_d25 (c := c) h ho (h1 (by decide))
  · rename_i ho; cases hc; exact am_d54 (c := c) h ho (h1 (by decide))
  · rename_i ho; cases hc; exact am_d55 (c := c) h ho (h1 (by decide))
  · rename_i ho; cases hc; exact am_d58 (c := c) h ho (h1 (by decide))
  · rename_i ho; cases hc; exact am_d19 h ho (h1 (by decide)) (h2 (by decide))
  · rename_i ho; cases hc; exact am_d20 h ho (h1 (by decide)) (h2 (by decide))
  · rename_i ho; cases hc; exact am_d178 h ho (h1 (by decide)) (h2 (by decide))
  · rename_i ho; cases hc; exact am_d180 h ho (h1 (by decide)) (h2 (by decide))
  · rename_i ho; cases hc; exact am_d181 h ho (h1 (by decide)) (h2 (by decide))
  · rename_i ho; cases hc; exact am_d182 h ho (h1 (by decide)) (h2 (by decide))
  · rename_i ho; cases hc; exact am_d183 h ho (h1 (by decide)) (h2 (by decide))
  · rename_i ho; cases hc; exact am_d184 h ho (h1 (by decide)) (h2 (by decide))
  · rename_i ho; cases hc; exact am_d187 h ho (h1 (by decide)) (h2 (by decide))
  · rename_i ho; cases hc; exact am_d189 h ho (h1 (by decide)) (h2 (by decide))
  · rename_i ho; cases hc; exact am_d17 h ho (h1 (by decide)) (h2 (by decide))
  · rename_i ho; cases hc; exact am_d153 h ho (h1 (by decide)) (h2 (by decide))
  · rename_i ho; cases hc; exact am_d154 h ho (h1 (by decide)) (h2 (by decide))
  · rename_i ho; cases hc; exact am_d155 h ho (h1 (by decide)) (h2 (by decide))
  · rename_i ho; cases hc; exact am_d156 h ho (h1 (by decide)) (h2 (by decide))
  · rename_i ho; cases hc; exact am_d157 h ho (h1 (by decide)) (h2 (by decide))
  · rename_i ho; cases hc; exact am_d158 h ho (h1 (by decide)) (h2 (by decide))
  · rename_i ho; cases hc; exact am_d159 h ho (h1 (by decide)) (h2 (by decide))
  · rename_i ho; cases hc; exact am_d160 h ho (h1 (by decide)) (h2 (by decide))
  · rename_i ho; cases hc; exact am_d161 h ho (h1 (by decide)) (h2 (by decide))
  · rename_i ho; cases hc; exact am_d162 h ho (h1 (by decide)) (h2 (by decide))
  · rename_i ho; cases hc; exact am_d163 h ho (h1 (by decide)) (h2 (by decide))
  · rename_i ho; cases hc; exact am_d164 h ho (h1 (by decide)) (h2 (by decide))
  · rename_i ho; cases hc; exact am_d167 h ho (h1 (by decide)) (h2 (by decide))
  · rename_i ho; cases hc; exact am_d198 h ho (h1 (by decide)) (h2 (by decide))
  · rename_i ho; cases hc; exact am_d199 h ho (h1 (by decide)) (h2 (by decide))
  · rename_i ho; cases hc; exact am_d16 (c := c) h ho (h1 (by decide))
  · rename_i ho; cases hc; exact am_d132 h ho (h1 (by decide)) (h2 (by decide))
  · rename_i ho
    split at hc
    · rename_i hb; cases hc; exact am_d188_4 h ho (h1 (by decide)) hb
    · rename_i hb; cases hc; exact am_d188_8 h ho (h1 (by decide)) hb
    · rename_i hb; cases hc; exact am_d188_10 h ho (h1 (by decide)) hb
    · rename_i hb; cases hc; exact am_d188_11 h ho (h1 (by decide)) hb
    · cases hc
  · cases hc
