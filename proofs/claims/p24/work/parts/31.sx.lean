/-! an interval machine beside the abstract machine: ints that are known, or lie between bounds and may be a symbol and a number; longs that are known or not; places of cells that are known -/
abbrev sx_V : Type := Int ⊕ (Int × Int × Option (Nat × Int)) ⊕ Option Int ⊕ Option Nat
abbrev sx_B : Type := List (Int × Int)
abbrev sx_L : Type := List (Nat × sx_V)
/-- a row: its type, its length, what it holds where nothing else is said, what else is said; an object: its class, what is said of fields, and behind that in rows of eight -/
abbrev sx_E : Type := (FieldType × Nat × sx_V × sx_L) ⊕ (Nat × sx_L × List (List sx_V))
/-- cells that changed, cells as they stood in rows by sixteen, how many (a milliard: nobody knows) -/
abbrev sx_H : Type := List (Nat × sx_E) × List (List (Nat × sx_E)) × Nat
/-- the constant rows by address -/
abbrev sx_K : Type := List (Nat × List Int)
abbrev sx_c (c : Int) : sx_V := .inl c
abbrev sx_i (lo hi : Int) (t : Option (Nat × Int)) : sx_V := .inr (.inl (lo, hi, t))
abbrev sx_j (t : Option Int) : sx_V := .inr (.inr (.inl t))
abbrev sx_a (a : Nat) : sx_V := .inr (.inr (.inr (some a)))
abbrev sx_n : sx_V := .inr (.inr (.inr none))
abbrev sx_min : Int := .negSucc 2147483647
abbrev sx_max : Int := .ofNat 2147483647
abbrev sx_top : sx_V := sx_i sx_min sx_max none
def sx_le (a b : Int) : Bool := match Int.sub b a with
  | .ofNat _ => true
  | .negSucc _ => false
def sx_eq : Int → Int → Bool
  | .ofNat m, .ofNat n => Nat.beq m n
  | .negSucc m, .negSucc n => Nat.beq m n
  | _, _ => false
def sx_mx (a b : Int) : Int := bif sx_le a b then b else a
def sx_mn (a b : Int) : Int := bif sx_le a b then a else b
def sx_w (z : Int) : Int := bif sx_le sx_min z && sx_le z sx_max then z else Int.bmod z 4294967296
def sx_get {α : Type} (i : Nat) : List (Nat × α) → Option α
  | [] => none
  | q :: l => bif Nat.beq q.1 i then some q.2 else sx_get i l
def sx_put {α : Type} (i : Nat) (v : α) : List (Nat × α) → List (Nat × α)
  | [] => [(i, v)]
  | q :: l => bif Nat.beq q.1 i then (i, v) :: l else q :: sx_put i v l
def sx_ch {α : Type} (w i : Nat) (L : List (List α)) : Option α := match L[i / w]? with
  | some r => r[i % w]?
  | none => none
def sx_N {α : Type} (n : Nat) (k : Nat → α) : α := match n with
  | 0 => k 0
  | m + 1 => k (m + 1)
def sx_hget : sx_H → Nat → Option sx_E
  | (a, b, _), i => match sx_get i a with
    | some e => some e
    | none => match b[i / 16]? with
      | some r => sx_get i r
      | none => none
def sx_hset (i : Nat) (e : sx_E) : sx_H → sx_H
  | (a, b, n) => (sx_put i e a, b, n)
def sx_hpush (e : sx_E) : sx_H → sx_H
  | (a, b, n) => sx_N n fun n => ((n, e) :: a, b, n + 1)
def sx_cat : sx_V → Nat
  | .inr (.inr (.inl _)) => 2
  | _ => 1
def sx_st1 (i : Nat) (v : sx_V) (l : sx_L) : sx_L := (i, v) :: l.filter (fun q => !(Nat.beq q.1 i) && !(Nat.beq (q.1 + 1) i && Nat.beq (sx_cat q.2) 2))
def sx_st2 (i : Nat) (v : sx_V) (l : sx_L) : sx_L := (i, v) :: l.filter (fun q => !(Nat.beq q.1 i) && (!(Nat.beq q.1 (i + 1)) && !(Nat.beq (q.1 + 1) i && Nat.beq (sx_cat q.2) 2)))
/-- the bounds of an int -/
def sx_iv (B : sx_B) : sx_V → Option (Int × Int)
  | .inl c => some (c, c)
  | .inr (.inl (lo, hi, none)) => some (lo, hi)
  | .inr (.inl (lo, hi, some (k, c))) => match B[k]? with
    | some p => some (sx_mx lo (Int.add p.1 c), sx_mn hi (Int.add p.2 c))
    | none => some (lo, hi)
  | _ => none
def sx_tag : sx_V → Option (Nat × Int)
  | .inr (.inl (_, _, t)) => t
  | _ => none
/-- an int that is known -/
def sx_con (B : sx_B) (v : sx_V) : Option Int := match sx_iv B v with
  | some p => bif sx_eq p.1 p.2 then some p.1 else none
  | none => none
/-- a sum of bounds -/
def sx_mk (lo hi : Int) (t : Option (Nat × Int)) : sx_V := bif sx_le sx_min lo && sx_le hi sx_max then sx_i lo hi t else sx_top
def sx_add (B : sx_B) (x y : sx_V) : Option sx_V := match x, y with
  | .inl a, .inl b => some (sx_c (sx_w (Int.add a b)))
  | x, y => match sx_iv B x, sx_iv B y with
    | some p, some q => some (sx_mk (Int.add p.1 q.1) (Int.add p.2 q.2) (match x, y with
      | .inr (.inl (_, _, some (k, c))), .inl b => some (k, Int.add c b)
      | .inl b, .inr (.inl (_, _, some (k, c))) => some (k, Int.add c b)
      | _, _ => none))
    | _, _ => none
def sx_sub (B : sx_B) (x y : sx_V) : Option sx_V := match x, y with
  | .inl a, .inl b => some (sx_c (sx_w (Int.sub a b)))
  | x, y => match sx_iv B x, sx_iv B y with
    | some p, some q => some (sx_mk (Int.sub p.1 q.2) (Int.sub p.2 q.1) (match x, y with
      | .inr (.inl (_, _, some (k, c))), .inl b => some (k, Int.sub c b)
      | _, _ => none))
    | _, _ => none
/-- an operation on two ints, by itself where both are known, else anything -/
def sx_op (B : sx_B) (f : Int32 → Int32 → Int32) (x y : sx_V) : Option sx_V := match sx_con B x, sx_con B y with
  | some a, some b => some (sx_c (f (Int32.ofInt a) (Int32.ofInt b)).toInt)
  | _, _ => match sx_iv B x, sx_iv B y with
    | some _, some _ => some sx_top
    | _, _ => none
/-- a known factor, and bounds -/
def sx_mc (a : Int) (p : Int × Int) : sx_V := bif sx_le 0 a then sx_mk (Int.mul a p.1) (Int.mul a p.2) none else sx_top
def sx_mul (B : sx_B) (x y : sx_V) : Option sx_V := match sx_iv B x, sx_iv B y with
  | some p, some q => bif sx_eq p.1 p.2 then (bif sx_eq q.1 q.2 then some (sx_c (sx_w (Int.mul p.1 q.1))) else bif sx_eq p.1 0 then some (sx_c 0) else some (sx_mc p.1 q)) else bif sx_eq q.1 q.2 then (bif sx_eq q.1 0 then some (sx_c 0) else some (sx_mc q.1 p)) else some sx_top
  | _, _ => none
/-- whether a comparison is sure: less, less or even, even -/
def sx_lt (p q : Int × Int) : Option Bool := bif sx_le q.1 p.2 then (bif sx_le q.2 p.1 then some false else none) else some true
def sx_ev (p q : Int × Int) : Option Bool := bif sx_le q.1 p.2 && sx_le p.1 q.2 then (bif sx_eq p.1 p.2 && (sx_eq q.1 q.2 && sx_eq p.1 q.1) then some true else none) else some false
def sx_dec (c : ClassFile.Cond) (p q : Int × Int) : Option Bool := match c with
  | .eq => sx_ev p q
  | .ne => (sx_ev p q).map not
  | .lt => sx_lt p q
  | .ge => (sx_lt p q).map not
  | .gt => sx_lt q p
  | .le => (sx_lt q p).map not
def sx_neg : ClassFile.Cond → ClassFile.Cond
  | .eq => .ne
  | .ne => .eq
  | .lt => .ge
  | .ge => .lt
  | .gt => .le
  | .le => .gt
def sx_flip : ClassFile.Cond → ClassFile.Cond
  | .eq => .eq
  | .ne => .ne
  | .lt => .gt
  | .ge => .le
  | .gt => .lt
  | .le => .ge
def sx_box (k : Nat) (lo hi : Int) (B : sx_B) : List sx_B := bif sx_le lo hi then [B.set k (lo, hi)] else []
/-- the boxes in which 'symbol k and cc' may stand so to what lies between the bounds q -/
def sx_ref (c : ClassFile.Cond) (k : Nat) (cc : Int) (q : Int × Int) (B : sx_B) : List sx_B := match B[k]? with
  | none => [B]
  | some p => match c with
    | .lt => sx_box k p.1 (sx_mn p.2 (Int.sub (Int.sub q.2 1) cc)) B
    | .le => sx_box k p.1 (sx_mn p.2 (Int.sub q.2 cc)) B
    | .gt => sx_box k (sx_mx p.1 (Int.sub (Int.add q.1 1) cc)) p.2 B
    | .ge => sx_box k (sx_mx p.1 (Int.sub q.1 cc)) p.2 B
    | .eq => sx_box k (sx_mx p.1 (Int.sub q.1 cc)) (sx_mn p.2 (Int.sub q.2 cc)) B
    | .ne => bif sx_eq q.1 q.2 then sx_box k p.1 (sx_mn p.2 (Int.sub (Int.sub q.2 1) cc)) B ++ sx_box k (sx_mx p.1 (Int.sub (Int.add q.1 1) cc)) p.2 B else [B]
def sx_br (c : ClassFile.Cond) (x y : sx_V) (B : sx_B) : Option (List (Bool × sx_B)) := match sx_iv B x, sx_iv B y with
  | some p, some q => match sx_dec c p q with
    | some b => some [(b, B)]
    | none => match sx_tag x with
      | some (k, cc) => some ((sx_ref c k cc q B).map (fun b => (true, b)) ++ (sx_ref (sx_neg c) k cc q B).map (fun b => (false, b)))
      | none => match sx_tag y with
        | some (k, cc) => some ((sx_ref (sx_flip c) k cc p B).map (fun b => (true, b)) ++ (sx_ref (sx_flip (sx_neg c)) k cc p B).map (fun b => (false, b)))
        | none => some [(true, B), (false, B)]
  | _, _ => none
abbrev sx_S : Type := sx_B × Nat × sx_L × List sx_V × sx_H
def sx_to (pc : Nat) (off : Int) : Nat := (Int.add (.ofNat pc) off).toNat
def sx_jump (pc : Nat) (off : Int) : Bool := sx_le 0 (Int.add (.ofNat pc) off)
def sx_fork (o : Option (List (Bool × sx_B))) (pc : Nat) (off : Int) (l : sx_L) (st : List sx_V) (h : sx_H) : Option (List sx_S) := bif sx_jump pc off then (match o with
  | some bs => some (bs.map fun b => (b.2, (bif b.1 then sx_to pc off else pc + 3), l, st, h))
  | none => none) else none
def sx_one (B : sx_B) (pc : Nat) (l : sx_L) (o : Option sx_V) (st : List sx_V) (h : sx_H) : Option (List sx_S) := match o with
  | some v => some [(B, pc, l, v :: st, h)]
  | none => none
/-- a field that holds what it held when it was made -/
def sx_zero : FieldType → Option sx_V
  | .int => some (sx_c 0)
  | .boolean => some (sx_c 0)
  | .long => some (sx_j (some 0))
  | .object _ => some sx_n
  | .array _ => some sx_n
  | _ => none
def sx_fld (tt : List (List FieldType)) (ci j : Nat) (ov : sx_L) (bs : List (List sx_V)) : Option sx_V := match sx_get j ov with
  | some v => some v
  | none => match bs with
    | [] => match (tt.getD ci [])[j]? with
      | some t => sx_zero t
      | none => none
    | bs => sx_ch 8 j bs
def sx_fit (t : FieldType) (B : sx_B) (v : sx_V) : Bool := match t, v with
  | .int, .inl _ => true
  | .int, .inr (.inl _) => true
  | .long, .inr (.inr (.inl _)) => true
  | .boolean, v => match sx_iv B v with
    | some p => sx_le 0 p.1 && sx_le p.2 1
    | none => false
  | .object _, .inr (.inr (.inr _)) => true
  | .array _, .inr (.inr (.inr _)) => true
  | _, _ => false
def sx_elt (d : sx_V) (ov : sx_L) (j : Nat) : sx_V := match sx_get j ov with
  | some v => v
  | none => d
def sx_same : sx_V → sx_V → Bool
  | .inl a, .inl b => sx_eq a b
  | .inr (.inl (a, b, none)), .inr (.inl (c, d, none)) => sx_eq a c && sx_eq b d
  | .inr (.inl (a, b, some (k, e))), .inr (.inl (c, d, some (j, f))) => sx_eq a c && (sx_eq b d && (Nat.beq k j && sx_eq e f))
  | .inr (.inr (.inl (some a))), .inr (.inr (.inl (some b))) => sx_eq a b
  | .inr (.inr (.inl none)), .inr (.inr (.inl none)) => true
  | .inr (.inr (.inr (some a))), .inr (.inr (.inr (some b))) => Nat.beq a b
  | .inr (.inr (.inr none)), .inr (.inr (.inr none)) => true
  | _, _ => false
def sx_istop : sx_V → Bool
  | .inr (.inl (a, b, none)) => sx_eq a sx_min && sx_eq b sx_max
  | _ => false
/-- a write; what is written as it stood is no change -/
def sx_wr (d : sx_V) (j : Nat) (v : sx_V) (ov : sx_L) : sx_L := bif sx_same v (sx_elt d ov j) then ov else sx_put j v ov
/-- a place in a row of n -/
def sx_in (B : sx_B) (v : sx_V) (n : Nat) : Option Nat := match sx_con B v with
  | some c => match c with
    | .ofNat j => bif Nat.blt j n then some j else none
    | .negSucc _ => none
  | none => none
/-- an unsure place in a row of n -/
def sx_inn (B : sx_B) (v : sx_V) (n : Nat) : Bool := match sx_iv B v with
  | some p => sx_le 0 p.1 && sx_le (Int.add p.2 1) (.ofNat n)
  | none => false
def sx_isI : sx_V → Bool
  | .inl _ => true
  | .inr (.inl _) => true
  | _ => false
def sx_isJ : sx_V → Bool
  | .inr (.inr (.inl _)) => true
  | _ => false
def sx_isA : sx_V → Bool
  | .inr (.inr (.inr _)) => true
  | _ => false
def sx_load (f : sx_V → Bool) (i : Nat) (l : sx_L) : Option sx_V := match sx_get i l with
  | some v => bif f v then some v else none
  | none => none
/-- a known int is worked out before it is handed on -/
def sx_vf {α : Type} (v : sx_V) (k : sx_V → α) : α := match v with
  | .inl (.ofNat n) => sx_N n fun n => k (.inl (.ofNat n))
  | .inl (.negSucc n) => sx_N n fun n => k (.inl (.negSucc n))
  | v => k v
def sx_psh (B : sx_B) (pc : Nat) (l : sx_L) (o : Option sx_V) (st : List sx_V) (h : sx_H) : Option (List sx_S) := match o with
  | some v => sx_vf v fun v => some [(B, pc, l, v :: st, h)]
  | none => none
def sx_sto (f : sx_V → Bool) (B : sx_B) (pc : Nat) (g : sx_V → sx_L) (st : List sx_V) (h : sx_H) : Option (List sx_S) := match st with
  | v :: st => bif f v then some [(B, pc, g v, st, h)] else none
  | [] => none
def sx_bin (B : sx_B) (pc : Nat) (l : sx_L) (f : sx_V → sx_V → Option sx_V) (st : List sx_V) (h : sx_H) : Option (List sx_S) := match st with
  | y :: x :: st => sx_psh B (pc + 1) l (f x y) st h
  | _ => none
def sx_un (B : sx_B) (pc : Nat) (l : sx_L) (f : sx_V → Option sx_V) (st : List sx_V) (h : sx_H) : Option (List sx_S) := match st with
  | x :: st => sx_psh B (pc + 1) l (f x) st h
  | _ => none
def sx_op1 (B : sx_B) (f : Int32 → Int32) (x : sx_V) : Option sx_V := match sx_con B x with
  | some a => some (sx_c (f (Int32.ofInt a)).toInt)
  | none => match sx_iv B x with
    | some _ => some sx_top
    | none => none
/-- a number that no long is: the tag of a long -/
def sx_jt : Int := 100000000000000000000
def sx_jk (t : Option Int) : Option Int := match t with
  | some a => bif sx_eq a sx_jt then none else some a
  | none => none
/-- an operation on two longs -/
def sx_opj (f : Int64 → Int64 → Int64) : sx_V → sx_V → Option sx_V
  | .inr (.inr (.inl s)), .inr (.inr (.inl t)) => (match sx_jk s, sx_jk t with
    | some a, some b => some (sx_j (some (f (Int64.ofInt a) (Int64.ofInt b)).toInt))
    | _, _ => some (sx_j none))
  | _, _ => none
def sx_cmp : sx_V → sx_V → Option sx_V
  | .inr (.inr (.inl s)), .inr (.inr (.inl t)) => (match sx_jk s, sx_jk t with
    | some a, some b => some (sx_c (lg_cmp (Int64.ofInt a) (Int64.ofInt b)).toInt)
    | _, _ => some (sx_i (-1) 1 none))
  | _, _ => none
def sx_i2l (B : sx_B) (x : sx_V) : Option sx_V := match sx_con B x with
  | some a => some (sx_j (some a))
  | none => match sx_iv B x with
    | some _ => some (sx_j none)
    | none => none
def sx_l2i : sx_V → Option sx_V
  | .inr (.inr (.inl s)) => (match sx_jk s with
    | some a => some (sx_c (Int64.ofInt a).toInt32.toInt)
    | none => some sx_top)
  | _ => none
/-- the cell that a place names, if it is none of the constants -/
def sx_cell (h : sx_H) (v : sx_V) : Option (Nat × sx_E) := match v with
  | .inr (.inr (.inr (some a))) => bif Nat.blt a 16 then none else match sx_hget h (a - 16) with
    | some e => some (a - 16, e)
    | none => none
  | _ => none
/-- the script's element j, and a constant row's -/
def sx_low (K : sx_K) (B : sx_B) (a : Nat) (i : sx_V) : Option sx_V := bif Nat.beq a 4 then (match B[7]? with
  | some p => match sx_con B i with
    | some (.ofNat j) => bif sx_le (.ofNat (j + 1)) p.1 && Nat.blt j 7 then (match B[j]? with
      | some q => bif sx_eq q.1 q.2 then some (sx_c q.1) else some (sx_i sx_min sx_max (some (j, 0)))
      | none => none) else none
    | _ => none
  | none => none) else match sx_get a K with
  | some r => match sx_con B i with
    | some (.ofNat j) => match r[j]? with
      | some c => some (sx_c c)
      | none => none
    | _ => none
  | none => none
def sx_isrow (f : FieldType → Bool) : sx_E → Option (FieldType × Nat × sx_V × sx_L)
  | .inl e => bif f e.1 then some e else none
  | .inr _ => none
def sx_tI : FieldType → Bool
  | .int => true
  | _ => false
def sx_tJ : FieldType → Bool
  | .long => true
  | _ => false
def sx_tB : FieldType → Bool
  | .byte => true
  | .boolean => true
  | _ => false
def sx_aload (f : FieldType → Bool) (low : Nat → sx_V → Option sx_V) (B : sx_B) (pc : Nat) (l : sx_L) (st : List sx_V) (h : sx_H) : Option (List sx_S) := match st with
  | i :: .inr (.inr (.inr (some a))) :: st => bif Nat.blt a 16 then sx_psh B (pc + 1) l (low a i) st h else match sx_hget h (a - 16) with
    | some e => match sx_isrow f e with
      | some e => match sx_in B i e.2.1 with
        | some j => sx_psh B (pc + 1) l (some (sx_elt e.2.2.1 e.2.2.2 j)) st h
        | none => bif e.2.2.2.isEmpty && sx_inn B i e.2.1 then sx_psh B (pc + 1) l (some e.2.2.1) st h else none
      | none => none
    | none => none
  | _ => none
def sx_astore (f : FieldType → Bool) (g : FieldType → sx_V → Option sx_V) (B : sx_B) (pc : Nat) (l : sx_L) (st : List sx_V) (h : sx_H) : Option (List sx_S) := match st with
  | v :: i :: .inr (.inr (.inr (some a))) :: st => bif Nat.blt a 16 then none else match sx_hget h (a - 16) with
    | some e => match sx_isrow f e with
      | some e => match sx_in B i e.2.1, g e.1 v with
        | some j, some v => some [(B, pc + 1, l, st, sx_hset (a - 16) (.inl (e.1, e.2.1, e.2.2.1, sx_wr e.2.2.1 j v e.2.2.2)) h)]
        | none, some v => bif e.2.2.2.isEmpty && (sx_istop e.2.2.1 && (sx_isI v && sx_inn B i e.2.1)) then some [(B, pc + 1, l, st, sx_hset (a - 16) (.inl e) h)] else none
        | _, _ => none
      | none => none
    | none => none
  | _ => none
def sx_nar (B : sx_B) (t : FieldType) (v : sx_V) : Option sx_V := match sx_con B v with
  | some c => some (sx_c (vp_nar t (Int32.ofInt c)).toInt)
  | none => match sx_iv B v with
    | some _ => some sx_top
    | none => none
abbrev sx_Hd : Type := sx_K → List (List FieldType) → am_X → Nat → sx_B → sx_L → List sx_V → sx_H → Option (List sx_S)
def sx_s (I : Instr) : Option sx_Hd :=
  match I with
  | .iconst n => some fun K tt X pc B l st h => sx_psh B (pc + 1) l (some (sx_c (sx_w n))) st h
  | .bipush n => some fun K tt X pc B l st h => sx_psh B (pc + 2) l (bif sx_le (-128) n && sx_le n 127 then some (sx_c n) else none) st h
  | .sipush n => some fun K tt X pc B l st h => sx_psh B (pc + 3) l (bif sx_le (-32768) n && sx_le n 32767 then some (sx_c n) else none) st h
  | .lconst n => some fun K tt X pc B l st h => sx_psh B (pc + 1) l (some (sx_j (some (.ofNat n.val)))) st h
  | .aconst_null => some fun K tt X pc B l st h => sx_psh B (pc + 1) l (some sx_n) st h
  | .ldc _ => some fun K tt X pc B l st h => sx_psh B (pc + 2) l (bif Nat.beq X.1 0 then some (sx_c (sx_w X.2.2)) else bif Nat.blt X.2.1 16 then some (sx_a X.2.1) else none) st h
  | .ldc_w _ => some fun K tt X pc B l st h => sx_psh B (pc + 3) l (bif Nat.beq X.1 0 then some (sx_c (sx_w X.2.2)) else bif Nat.blt X.2.1 16 then some (sx_a X.2.1) else none) st h
  | .ldc2_w _ => some fun K tt X pc B l st h => sx_psh B (pc + 3) l (some (sx_j (some (Int64.ofInt X.2.2).toInt))) st h
  | .getstatic _ => some fun K tt X pc B l st h => sx_psh B (pc + 3) l (some (bif Nat.blt X.2.1 8 then sx_a X.2.1 else bif Nat.beq X.2.1 8 then sx_c 1 else sx_a 7)) st h
  | .iload i => some fun K tt X pc B l st h => sx_psh B (pc + 2) l (sx_load sx_isI i l) st h
  | .iload_n i => some fun K tt X pc B l st h => sx_psh B (pc + 1) l (sx_load sx_isI i.val l) st h
  | .lload i => some fun K tt X pc B l st h => sx_psh B (pc + 2) l (sx_load sx_isJ i l) st h
  | .lload_n i => some fun K tt X pc B l st h => sx_psh B (pc + 1) l (sx_load sx_isJ i.val l) st h
  | .aload i => some fun K tt X pc B l st h => sx_psh B (pc + 2) l (sx_load sx_isA i l) st h
  | .aload_n i => some fun K tt X pc B l st h => sx_psh B (pc + 1) l (sx_load sx_isA i.val l) st h
  | .istore i => some fun K tt X pc B l st h => sx_sto sx_isI B (pc + 2) (fun v => sx_st1 i v l) st h
  | .istore_n i => some fun K tt X pc B l st h => sx_sto sx_isI B (pc + 1) (fun v => sx_st1 i.val v l) st h
  | .lstore i => some fun K tt X pc B l st h => sx_sto sx_isJ B (pc + 2) (fun v => sx_st2 i v l) st h
  | .lstore_n i => some fun K tt X pc B l st h => sx_sto sx_isJ B (pc + 1) (fun v => sx_st2 i.val v l) st h
  | .astore i => some fun K tt X pc B l st h => sx_sto sx_isA B (pc + 2) (fun v => sx_st1 i v l) st h
  | .astore_n i => some fun K tt X pc B l st h => sx_sto sx_isA B (pc + 1) (fun v => sx_st1 i.val v l) st h
  | .iinc i n => some fun K tt X pc B l st h => match sx_get i l with
    | some x => match sx_add B x (sx_c (sx_w n)) with
      | some v => sx_vf v fun v => some [(B, pc + 3, sx_st1 i v l, st, h)]
      | none => none
    | none => none
  | .iadd => some fun K tt X pc B l st h => sx_bin B pc l (sx_add B) st h
  | .isub => some fun K tt X pc B l st h => sx_bin B pc l (sx_sub B) st h
  | .imul => some fun K tt X pc B l st h => sx_bin B pc l (sx_mul B) st h
  | .idiv => some fun K tt X pc B l st h => sx_bin B pc l (fun x y => match sx_con B y with
    | some c => bif sx_eq c 0 then none else sx_op B (fun x y => x / y) x y
    | none => none) st h
  | .irem => some fun K tt X pc B l st h => sx_bin B pc l (fun x y => match sx_con B y with
    | some c => bif sx_eq c 0 then none else sx_op B (fun x y => x - x / y * y) x y
    | none => none) st h
  | .iand => some fun K tt X pc B l st h => sx_bin B pc l (sx_op B fun x y => x &&& y) st h
  | .ior => some fun K tt X pc B l st h => sx_bin B pc l (sx_op B fun x y => x ||| y) st h
  | .ixor => some fun K tt X pc B l st h => sx_bin B pc l (sx_op B fun x y => x ^^^ y) st h
  | .ishl => some fun K tt X pc B l st h => sx_bin B pc l (sx_op B fun x y => x <<< (y &&& 31)) st h
  | .ishr => some fun K tt X pc B l st h => sx_bin B pc l (sx_op B fun x y => x >>> (y &&& 31)) st h
  | .iushr => some fun K tt X pc B l st h => sx_bin B pc l (sx_op B fun x y => (x.toUInt32 >>> (y.toUInt32 &&& Int32.toUInt32 31)).toInt32) st h
  | .ladd => some fun K tt X pc B l st h => sx_bin B pc l (sx_opj fun x y => x + y) st h
  | .lsub => some fun K tt X pc B l st h => sx_bin B pc l (sx_opj fun x y => x - y) st h
  | .lmul => some fun K tt X pc B l st h => sx_bin B pc l (sx_opj fun x y => x * y) st h
  | .lcmp => some fun K tt X pc B l st h => sx_bin B pc l sx_cmp st h
  | .i2l => some fun K tt X pc B l st h => sx_un B pc l (sx_i2l B) st h
  | .l2i => some fun K tt X pc B l st h => sx_un B pc l sx_l2i st h
  | .i2c => some fun K tt X pc B l st h => sx_un B pc l (sx_op1 B fun x => (x.toUInt32 % 65536).toInt32) st h
  | .i2b => some fun K tt X pc B l st h => sx_un B pc l (sx_op1 B fun x => x.toInt8.toInt32) st h
  | .pop => some fun K tt X pc B l st h => match st with
    | v :: st => bif Nat.beq (sx_cat v) 1 then some [(B, pc + 1, l, st, h)] else none
    | _ => none
  | .dup => some fun K tt X pc B l st h => match st with
    | v :: st => bif Nat.beq (sx_cat v) 1 then some [(B, pc + 1, l, v :: v :: st, h)] else none
    | _ => none
  | .dup2 => some fun K tt X pc B l st h => match st with
    | v :: w :: st => bif Nat.beq (sx_cat v) 1 && Nat.beq (sx_cat w) 1 then some [(B, pc + 1, l, v :: w :: v :: w :: st, h)] else none
    | _ => none
  | .goto off => some fun K tt X pc B l st h => bif sx_jump pc off then some [(B, sx_to pc off, l, st, h)] else none
  | .ifCond c off => some fun K tt X pc B l st h => match st with
    | x :: st => sx_fork (sx_br c x (sx_c 0) B) pc off l st h
    | _ => none
  | .if_icmp c off => some fun K tt X pc B l st h => match st with
    | y :: x :: st => sx_fork (sx_br c x y B) pc off l st h
    | _ => none
  | .ifnull off => some fun K tt X pc B l st h => match st with
    | .inr (.inr (.inr (some a))) :: st => bif Nat.beq a 7 then none else some [(B, pc + 3, l, st, h)]
    | .inr (.inr (.inr none)) :: st => bif sx_jump pc off then some [(B, sx_to pc off, l, st, h)] else none
    | _ => none
  | .ifnonnull off => some fun K tt X pc B l st h => match st with
    | .inr (.inr (.inr none)) :: st => some [(B, pc + 3, l, st, h)]
    | .inr (.inr (.inr (some a))) :: st => bif Nat.beq a 7 then none else bif sx_jump pc off then some [(B, sx_to pc off, l, st, h)] else none
    | _ => none
  | .tableswitch dflt lo hi offs => some fun K tt X pc B l st h => match st with
    | x :: st => match sx_con B x with
      | some c => bif sx_le lo c && sx_le c hi then (match offs.toList[(Int.sub c lo).toNat]? with
        | some off => bif sx_jump pc off then some [(B, sx_to pc off, l, st, h)] else none
        | none => none) else (bif sx_jump pc dflt then some [(B, sx_to pc dflt, l, st, h)] else none)
      | none => match sx_iv B x with
        | some p => bif (sx_le (Int.add p.2 1) lo || sx_le (Int.add hi 1) p.1) && sx_jump pc dflt then some [(B, sx_to pc dflt, l, st, h)] else none
        | none => none
    | _ => none
  | .getfield _ => some fun K tt X pc B l st h => match st with
    | .inr (.inr (.inr (some a))) :: st => bif Nat.blt a 16 then (bif Nat.ble 8 a && Nat.blt a 12 then (bif sx_eq X.2.2 1 then sx_psh B (pc + 3) l (some (sx_a (a + 4))) st h else bif sx_eq X.2.2 2 then sx_psh B (pc + 3) l (some (sx_c 0)) st h else none) else none) else match sx_hget h (a - 16) with
      | some (.inr e) => bif Nat.beq e.1 X.1 && sx_eq X.2.2 0 then sx_psh B (pc + 3) l (sx_fld tt e.1 X.2.1 e.2.1 e.2.2) st h else none
      | _ => none
    | _ => none
  | .putfield _ => some fun K tt X pc B l st h => match st with
    | v :: .inr (.inr (.inr (some a))) :: st => bif Nat.blt a 16 then none else match sx_hget h (a - 16) with
      | some (.inr e) => bif Nat.beq e.1 X.1 then (match (tt.getD e.1 [])[X.2.1]? with
        | some t => bif sx_fit t B v then some [(B, pc + 3, l, st, sx_hset (a - 16) (.inr (e.1, sx_put X.2.1 v e.2.1, e.2.2)) h)] else none
        | none => none) else none
      | _ => none
    | _ => none
  | .arraylength => some fun K tt X pc B l st h => match st with
    | .inr (.inr (.inr (some a))) :: st => bif Nat.blt a 16 then (bif Nat.beq a 4 then (match B[7]? with
      | some p => bif sx_le 0 p.1 then sx_psh B (pc + 1) l (some (sx_i 0 sx_max (some (7, 0)))) st h else none
      | none => none) else match sx_get a K with
      | some r => bif Nat.ble r.length 60000000 then sx_psh B (pc + 1) l (some (sx_c (.ofNat r.length))) st h else none
      | none => none) else match sx_hget h (a - 16) with
      | some (.inl e) => bif Nat.ble e.2.1 60000000 then sx_psh B (pc + 1) l (some (sx_c (.ofNat e.2.1))) st h else none
      | _ => none
    | _ => none
  | .iaload => some fun K tt X pc B l st h => sx_aload sx_tI (fun a i => bif Nat.blt a 8 then sx_low K B a i else none) B pc l st h
  | .laload => some fun K tt X pc B l st h => sx_aload sx_tJ (fun _ _ => none) B pc l st h
  | .baload => some fun K tt X pc B l st h => sx_aload sx_tB (fun a i => bif Nat.ble 12 a then sx_low K B a i else none) B pc l st h
  | .iastore => some fun K tt X pc B l st h => sx_astore sx_tI (fun _ v => bif sx_isI v then some v else none) B pc l st h
  | .lastore => some fun K tt X pc B l st h => sx_astore sx_tJ (fun _ v => bif sx_isJ v then some v else none) B pc l st h
  | .bastore => some fun K tt X pc B l st h => sx_astore sx_tB (sx_nar B) B pc l st h
  | _ => none
/-- cells that are made, and their slots -/
def sx_new (cl : List vw_C) (tt : List (List FieldType)) (I : Instr) (X : am_X) (pc : Nat) (B : sx_B) (st : List sx_V) (h : sx_H) : Option (Nat × List sx_V × sx_H × Nat) :=
  bif Nat.blt h.2.2 999999999 then (match I with
  | .new _ => match cl[X.1]? with
    | some r => bif Nat.beq (tt.getD X.1 []).length r.2.2 then some (pc + 3, sx_a (16 + h.2.2) :: st, sx_hpush (.inr (X.1, [], [])) h, r.2.2) else none
    | none => none
  | .newarray t => match st with
    | v :: st => match sx_in B v 60000001 with
      | some n => match t with
        | .int => some (pc + 2, sx_a (16 + h.2.2) :: st, sx_hpush (.inl (.int, n, sx_c 0, [])) h, n)
        | .long => some (pc + 2, sx_a (16 + h.2.2) :: st, sx_hpush (.inl (.long, n, sx_j (some 0), [])) h, n)
        | .byte => some (pc + 2, sx_a (16 + h.2.2) :: st, sx_hpush (.inl (.byte, n, sx_c 0, [])) h, n)
        | .boolean => some (pc + 2, sx_a (16 + h.2.2) :: st, sx_hpush (.inl (.boolean, n, sx_c 0, [])) h, n)
        | _ => none
      | none => none
    | _ => none
  | .anewarray _ => match st with
    | v :: st => match sx_in B v 60000001, cl[X.1]? with
      | some n, some r => some (pc + 3, sx_a (16 + h.2.2) :: st, sx_hpush (.inl (.object r.1, n, sx_n, [])) h, n)
      | _, _ => none
    | _ => none
  | _ => none) else none
/-- a return's value -/
def sx_r (ret : Option FieldType) (I : Instr) (B : sx_B) (st : List sx_V) : Option (Option sx_V) :=
  match I, ret, st with
  | .ireturn, some .int, [v] => bif sx_isI v then some (some v) else none
  | .ireturn, some .boolean, [v] => match sx_iv B v with
    | some p => bif sx_le 0 p.1 && sx_le p.2 1 then some (some v) else none
    | none => none
  | .ireturn, some .byte, [v] => match sx_con B v with
    | some c => bif decide ((Int32.ofInt c).toInt8.toInt32 = Int32.ofInt c) then some (some v) else none
    | none => none
  | .ireturn, some .char, [v] => match sx_con B v with
    | some c => bif decide ((Int32.ofInt c).toUInt32.toUInt16.toUInt32.toInt32 = Int32.ofInt c) then some (some v) else none
    | none => none
  | .lreturn, some .long, [v] => bif sx_isJ v then some (some v) else none
  | .areturn, some (.object _), [v] => bif sx_isA v then some (some v) else none
  | .areturn, some (.array _), [v] => bif sx_isA v then some (some v) else none
  | .return_, none, [] => some none
  | _, _, _ => none
/-- a cell that is no less than another says -/
def sx_subE (tt : List (List FieldType)) : sx_E → sx_E → Bool
  | .inl (t, n, d, ov), .inl (t', n', d', ov') => decide (t = t') && (Nat.beq n n' && (bif sx_istop d' && (ov'.isEmpty && sx_tI t') then true else bif ov.isEmpty && ov'.isEmpty then sx_same d d' else (List.range n).all fun j => sx_same (sx_elt d ov j) (sx_elt d' ov' j)))
  | .inr (ci, ov, bs), .inr (ci', ov', bs') => Nat.beq ci ci' && (match bs' with
    | [] => false
    | [[]] => ov'.all fun q => match sx_fld tt ci q.1 ov bs with
      | some v => sx_same v q.2
      | none => false
    | bs' => ov'.isEmpty && (List.range (8 * bs'.length)).all fun j => match sx_fld tt ci' j ov' bs' with
      | none => true
      | some v' => match sx_fld tt ci j ov bs with
        | some v => sx_same v v'
        | none => false)
  | _, _ => false
/-- a method whose effect is known: its number, the receiver, bounds of its arguments, cells as they must stand, cells as they stand behind it -/
abbrev sx_Y : Type := Nat × Nat × List (Int × Int) × List (Nat × sx_E) × List (Nat × sx_E)
def sx_ivs (B : sx_B) : List sx_V → List (Int × Int) → Bool
  | [], [] => true
  | v :: vs, q :: qs => (match sx_iv B v with
    | some p => sx_le q.1 p.1 && sx_le p.2 q.2
    | none => false) && sx_ivs B vs qs
  | _, _ => false
def sx_hsets : List (Nat × sx_E) → sx_H → sx_H
  | [], h => h
  | q :: qs, h => sx_hset q.1 q.2 (sx_hsets qs h)
def sx_pre (tt : List (List FieldType)) (h : sx_H) (L : List (Nat × sx_E)) : Bool := L.all fun q => match sx_hget h q.1 with
  | some e => sx_subE tt e q.2
  | none => false
def sx_yok (tt : List (List FieldType)) (B : sx_B) (h : sx_H) (y : sx_Y) (As : List sx_V) : Bool := match As with
  | v :: As => sx_same v (sx_a y.2.1) && (!(Nat.beq y.2.1 7) && (sx_ivs B As y.2.2.1 && sx_pre tt h y.2.2.2.1))
  | [] => false
/-- a method: its number, its class's number (99: String; 98: none is asked), its locals, its return, its instructions by their places in rows of 32 -/
abbrev sx_M : Type := Nat × Nat × Nat × Option FieldType × List (List (Nat × Instr × am_X))
abbrev sx_F : Type := sx_M × Nat × sx_L × List sx_V
def sx_find (pc : Nat) (C : List (List (Nat × Instr × am_X))) : Option (Instr × am_X) := match C[pc / 32]? with
  | some r => sx_get pc r
  | none => none
def sx_args : Nat → List sx_V → sx_L
  | _, [] => []
  | i, v :: vs => (i, v) :: sx_args (i + sx_cat v) vs
def sx_cats (st : List sx_V) : Nat := match st with
  | [] => 0
  | v :: st => sx_cat v + sx_cats st
/-- whether the receiver is of the method's class -/
def sx_rcv (h : sx_H) (m : sx_M) (v : sx_V) : Bool := match v with
  | .inr (.inr (.inr (some a))) => bif Nat.blt a 16 then Nat.beq m.2.1 99 && (Nat.ble 8 a && Nat.blt a 12) else match sx_hget h (a - 16) with
    | some (.inr e) => Nat.beq e.1 m.2.1 && Nat.blt m.2.1 98
    | _ => false
  | _ => false
def sx_isref : sx_V → Bool
  | .inr (.inr (.inr (some a))) => !(Nat.beq a 7)
  | _ => false
def sx_rcvs (I : Instr) (h : sx_H) (m : sx_M) (As : List sx_V) : Bool := match I with
  | .invokestatic _ => true
  | .invokevirtual _ => match As with
    | v :: _ => sx_rcv h m v
    | [] => false
  | .invokespecial _ => match As with
    | v :: _ => sx_isref v
    | [] => false
  | _ => false
def sx_copy (I : Instr) (X : am_X) (B : sx_B) (st : List sx_V) (h : sx_H) : Option (List sx_V × sx_H) := match I, st with
  | .invokestatic _, n :: dp :: b :: sp :: a :: st => bif sx_eq X.2.2 2 && Nat.ble (sx_cats st) 8 then (match sx_con B n, sx_con B dp, sx_con B sp, sx_cell h a, sx_cell h b with
    | some (.ofNat n), some (.ofNat dp), some (.ofNat sp), some (_, .inl x), some (j, .inl y) => bif sx_tI x.1 && sx_tI y.1 && Nat.beq n x.2.1 && Nat.beq n y.2.1 && Nat.beq dp 0 && Nat.beq sp 0 then some (st, sx_hset j (.inl x) h) else none
    | _, _, _, _, _ => none) else none
  | _, _ => none
def sx_obj (I : Instr) (X : am_X) (st : List sx_V) : Option (List sx_V) := match I, st with
  | .invokespecial _, v :: st => bif sx_eq X.2.2 1 && sx_isref v && Nat.ble (sx_cats st) 8 then some st else none
  | _, _ => none
def sx_isc : Instr → Bool
  | .invokestatic _ => true
  | .invokevirtual _ => true
  | .invokespecial _ => true
  | _ => false
def sx_isn : Instr → Bool
  | .new _ => true
  | .newarray _ => true
  | .anewarray _ => true
  | _ => false
def sx_isr : Instr → Bool
  | .ireturn => true
  | .lreturn => true
  | .areturn => true
  | .return_ => true
  | _ => false
abbrev sx_G : Type := Nat × sx_F × List sx_F × sx_H × sx_B × Nat × Nat
section SX0
variable (T : List (List sx_M)) (K : sx_K) (tt : List (List FieldType)) (cl : List vw_C) (sp sm : Nat) (stop : sx_G → Bool) (Y : List sx_Y) (d0 : Nat) (fin : Option sx_V → sx_H → Nat → Nat → Bool)
def sx_stepc (I : Instr) (X : am_X) (pc d : Nat) (m : sx_M) (l : sx_L) (st : List sx_V) (fs : List sx_F) (h : sx_H) (B : sx_B) (c s : Nat) : Option (List sx_G) :=
  bif sx_eq X.2.2 0 then (match Y.find? fun y => Nat.beq y.1 X.1 with
    | some y => (match sx_ch 16 X.1 T with
      | some m' => bif Nat.beq m'.1 X.1 && (Nat.ble d0 d && (Nat.ble X.2.1 st.length && (sx_rcvs I h m' (st.take X.2.1).reverse && (Nat.ble (sx_cats (st.drop X.2.1)) 8 && sx_yok tt B h y (st.take X.2.1).reverse)))) then some [(d, (m, pc + 3, l, st.drop X.2.1), fs, sx_hsets y.2.2.2.2 h, B, c, s)] else none
      | none => none)
    | none => match d, sx_ch 16 X.1 T with
    | d + 1, some m' => bif Nat.beq m'.1 X.1 && (Nat.ble X.2.1 st.length && (sx_rcvs I h m' (st.take X.2.1).reverse && (Nat.ble (sx_cats (st.drop X.2.1)) 8 && Nat.ble (sx_cats (st.take X.2.1).reverse) m'.2.2.1))) then
        some [(d, (m', 0, sx_args 0 (st.take X.2.1).reverse, []), (m, pc + 3, l, st.drop X.2.1) :: fs, h, B, c, s)] else none
    | _, _ => none) else bif sx_eq X.2.2 1 then (match sx_obj I X st with
    | some st => some [(d, (m, pc + 3, l, st), fs, h, B, c, s)]
    | none => none) else (match sx_copy I X B st h with
    | some (st, h) => some [(d, (m, pc + 3, l, st), fs, h, B, c, s)]
    | none => none)
def sx_stepr (I : Instr) (d : Nat) (m : sx_M) (st : List sx_V) (fs : List sx_F) (h : sx_H) (B : sx_B) (c s : Nat) : Option (List sx_G) :=
  match sx_r m.2.2.2.1 I B st with
  | some v => (match fs with
    | [] => bif fin v h c s then some [] else none
    | g :: fs => some [(d + 1, (g.1, g.2.1, g.2.2.1, v.toList ++ g.2.2.2), fs, h, B, c, s)])
  | none => none
def sx_stepn (I : Instr) (X : am_X) (pc d : Nat) (m : sx_M) (l : sx_L) (st : List sx_V) (fs : List sx_F) (h : sx_H) (B : sx_B) (c s : Nat) : Option (List sx_G) :=
  match sx_new cl tt I X pc B st h with
  | some (pc, st, h, k) => some [(d, (m, pc, l, st), fs, h, B, c + 1, s + k)]
  | none => none
def sx_steps (f : sx_Hd) (X : am_X) (pc d : Nat) (m : sx_M) (l : sx_L) (st : List sx_V) (fs : List sx_F) (h : sx_H) (B : sx_B) (c s : Nat) : Option (List sx_G) :=
  match f K tt X pc B l st h with
  | some ss => some (ss.map fun q => (d, (m, q.2.1, q.2.2.1, q.2.2.2.1), fs, q.2.2.2.2, q.1, c, s))
  | none => none
def sx_stepi (q : Instr × am_X) (pc d : Nat) (m : sx_M) (l : sx_L) (st : List sx_V) (fs : List sx_F) (h : sx_H) (B : sx_B) (c s : Nat) : Option (List sx_G) :=
  match sx_s q.1 with
  | some f => sx_steps K tt f q.2 pc d m l st fs h B c s
  | none => bif sx_isc q.1 then sx_stepc T tt Y d0 q.1 q.2 pc d m l st fs h B c s else bif sx_isr q.1 then sx_stepr fin q.1 d m st fs h B c s else sx_stepn tt cl q.1 q.2 pc d m l st fs h B c s
def sx_step (g : sx_G) : Option (List sx_G) := match g with
  | (d, (m, pc, l, st), fs, h, B, c, s) => sx_N pc fun pc => bif Nat.beq pc sp && Nat.beq m.1 sm then (bif stop g then some [] else none) else
    match sx_find pc m.2.2.2.2 with
    | none => none
    | some q => sx_stepi T K tt cl Y d0 fin q pc d m l st fs h B c s
/-- all runs from here end with 1 and in their room, or come to a point that is known -/
def sx_run : Nat → sx_G → Bool
  | 0, _ => false
  | n + 1, g => match sx_step T K tt cl sp sm stop Y d0 fin g with
    | some gs => gs.all (sx_run n)
    | none => false
end SX0
def sx_fin1 (v : Option sx_V) (_ : sx_H) (c s : Nat) : Bool := match v with
  | some (.inl z) => sx_eq z 1 && (Nat.ble c 600000 && Nat.ble s 7302249)
  | _ => false
/-- the boxes of a symbol at these numbers and between them -/
def sx_cut (k : Nat) : List Int → sx_B → List sx_B
  | [], B => [B]
  | p :: ps, B => sx_ref .lt k 0 (p, p) B ++ (sx_ref .eq k 0 (p, p) B ++ (sx_ref .gt k 0 (p, p) B).flatMap (sx_cut k ps))
