/-! a machine of linear words beside the abstract machine: an int is a number and symbols with factors; symbols lie between bounds, words are known to be at least 0; cells have kinds that never change, ints in cells lie in the bounds of their kind; what was read last of a cell is known -/
abbrev ly_e : Type := Int × List (Nat × Int)
/-- an int, a long, null or a place, a cell of a matter -/
abbrev ly_V : Type := ly_e ⊕ ly_e ⊕ Option Nat ⊕ (Nat × ly_e)
abbrev ly_B : Type := List (Nat × Int × Int)
abbrev ly_L : Type := List (Nat × ly_V)
/-- a region, an index in it, what stands there -/
abbrev ly_K : Type := List (Nat × ly_e × ly_e)
/-- the next symbol, bounds, words that are at least 0, what is known of cells -/
abbrev ly_Z : Type := Nat × ly_B × List ly_e × ly_K
/-- kinds of fields: an int, a long, null or a fixed place, a cell of the same matter -/
abbrev ly_F : Type := (Int × Int) ⊕ Unit ⊕ Option Nat ⊕ Nat
/-- kinds of cells: a row, an object with its fields by eight -/
abbrev ly_T : Type := (FieldType × Nat × Int × Int) ⊕ (Nat × List (List ly_F))
abbrev ly_R : Type := ly_V ⊕ (Int × Int)
abbrev ly_S : Type := ly_Z × Nat × ly_L × List ly_V
def ly_I {α : Type} (z : Int) (k : Int → α) : α := match z with
  | .ofNat n => sx_N n fun n => k (.ofNat n)
  | .negSucc n => sx_N n fun n => k (.negSucc n)
def ly_fl {α : Type} : List (Nat × Int) → (List (Nat × Int) → α) → α
  | [], k => k []
  | q :: ts, k => sx_N q.1 fun i => ly_I q.2 fun a => ly_fl ts fun ts => k ((i, a) :: ts)
def ly_fe {α : Type} (e : ly_e) (k : ly_e → α) : α := ly_I e.1 fun c => ly_fl e.2 fun ts => k (c, ts)
def ly_vf {α : Type} (v : ly_V) (k : ly_V → α) : α := match v with
  | .inl e => ly_fe e fun e => k (.inl e)
  | .inr (.inl e) => ly_fe e fun e => k (.inr (.inl e))
  | v => k v
def ly_ins (k : Nat) (a : Int) : List (Nat × Int) → List (Nat × Int)
  | [] => [(k, a)]
  | q :: ts => bif Nat.blt k q.1 then (k, a) :: q :: ts else bif Nat.beq k q.1 then (bif sx_eq (Int.add a q.2) 0 then ts else (k, Int.add a q.2) :: ts) else q :: ly_ins k a ts
def ly_mrg : List (Nat × Int) → List (Nat × Int) → List (Nat × Int)
  | [], t => t
  | q :: s, t => ly_ins q.1 q.2 (ly_mrg s t)
def ly_add (a b : ly_e) : ly_e := (Int.add a.1 b.1, ly_mrg a.2 b.2)
def ly_scl (c : Int) (a : ly_e) : ly_e := bif sx_eq c 0 then (0, []) else (Int.mul c a.1, a.2.map fun q => (q.1, Int.mul c q.2))
def ly_neg (a : ly_e) : ly_e := ly_scl (-1) a
def ly_sub (a b : ly_e) : ly_e := ly_add a (ly_neg b)
def ly_sym (n : Nat) : ly_e := (0, [(n, 1)])
def ly_teq : List (Nat × Int) → List (Nat × Int) → Bool
  | [], [] => true
  | p :: s, q :: t => bif Nat.beq p.1 q.1 && sx_eq p.2 q.2 then ly_teq s t else false
  | _, _ => false
def ly_eq (a b : ly_e) : Bool := bif sx_eq a.1 b.1 then ly_teq a.2 b.2 else false
def ly_lo (B : ly_B) : List (Nat × Int) → Int → Option Int
  | [], c => some c
  | q :: ts, c => match sx_get q.1 B with
    | some p => (match q.2 with
      | .ofNat a => ly_lo B ts (Int.add c (Int.mul (.ofNat a) p.1))
      | .negSucc a => ly_lo B ts (Int.add c (Int.mul (.negSucc a) p.2)))
    | none => none
def ly_hi (B : ly_B) : List (Nat × Int) → Int → Option Int
  | [], c => some c
  | q :: ts, c => match sx_get q.1 B with
    | some p => (match q.2 with
      | .ofNat a => ly_hi B ts (Int.add c (Int.mul (.ofNat a) p.2))
      | .negSucc a => ly_hi B ts (Int.add c (Int.mul (.negSucc a) p.1)))
    | none => none
def ly_iv (B : ly_B) (e : ly_e) : Option (Int × Int) := match ly_lo B e.2 e.1, ly_hi B e.2 e.1 with
  | some a, some b => some (a, b)
  | _, _ => none
def ly_con (B : ly_B) (e : ly_e) : Option Int := match e.2 with
  | [] => some e.1
  | _ => match ly_iv B e with
    | some p => bif sx_eq p.1 p.2 then some p.1 else none
    | none => none
/-- at least 0, by bounds alone -/
def ly_nn (B : ly_B) (e : ly_e) : Bool := match ly_lo B e.2 e.1 with
  | some z => sx_le 0 z
  | none => false
/-- how often a word is to be taken for another -/
def ly_rt (e f : ly_e) : Int := match e.2 with
  | q :: _ => (match sx_get q.1 f.2 with
    | some b => bif sx_eq q.2 1 && sx_le 2 b then b else bif sx_eq q.2 (-1) && sx_le b (-2) then Int.neg b else 1
    | none => 1)
  | [] => 1
/-- at least 0, by bounds and a word that is -/
def ly_gf1 (B : ly_B) (e f : ly_e) : Bool := bif ly_nn B (ly_sub e f) then true else ly_I (ly_rt e f) fun k => bif sx_le 2 k then ly_nn B (ly_sub (ly_scl k e) f) else false
/-- at least 0, by bounds and one of the words that are -/
def ly_ge (B : ly_B) (F : List ly_e) (e : ly_e) : Bool := bif ly_nn B e then true else F.any (ly_gf1 B e)
def ly_last : List (Nat × Int) → Option (Nat × Int)
  | [] => none
  | [q] => some q
  | _ :: t => ly_last t
def ly_ss (a b : Int) : Bool := bif sx_le 0 a then sx_le 1 b else sx_le b (-1)
/-- at least 0, by words that take its newest symbol away, some in a row -/
def ly_gd (B : ly_B) : Nat → List ly_e → ly_e → Bool
  | 0, _, _ => false
  | d + 1, F, e => match ly_last e.2 with
    | none => false
    | some q => F.any (fun f => match sx_get q.1 f.2 with
      | some b => bif ly_ss q.2 b && Nat.ble 1 (b.natAbs / Nat.gcd q.2.natAbs b.natAbs) then ly_fe (ly_sub (ly_scl (.ofNat (b.natAbs / Nat.gcd q.2.natAbs b.natAbs)) e) (ly_scl (.ofNat (q.2.natAbs / Nat.gcd q.2.natAbs b.natAbs)) f)) fun e => bif ly_nn B e then true else ly_gd B d (F.filter fun g => !(ly_eq g f)) e else false
      | none => false) || (match ly_lo B [q] 0 with
      | some z => ly_fe (ly_add (z, []) (ly_sub e (0, [q]))) fun e => ly_gd B d F e
      | none => false)
def ly_gs (B : ly_B) (F : List ly_e) (e : ly_e) : Bool := match e.2 with
  | [] => sx_le 0 e.1
  | _ => bif ly_ge B F e then true else ly_gd B 9 F e
/-- bounds of the symbols of a word that is at least 0 and at most H -/
def ly_tg (B0 : ly_B) (H : Int) : List (Nat × Int) → ly_B → ly_B
  | [], B => B
  | q :: ts, B => match sx_get q.1 B0 with
    | some p => bif sx_eq q.2 1 then (ly_I (Int.sub p.2 H) fun lo => bif sx_le lo p.1 then ly_tg B0 H ts B else ly_tg B0 H ts ((q.1, lo, p.2) :: B)) else bif sx_eq q.2 (-1) then (ly_I (Int.add p.1 H) fun hi => bif sx_le p.2 hi then ly_tg B0 H ts B else ly_tg B0 H ts ((q.1, p.1, hi) :: B)) else ly_tg B0 H ts B
    | none => ly_tg B0 H ts B
/-- what is known when a word is at least 0; none: it can't be -/
def ly_as (Z : ly_Z) (e : ly_e) : Option ly_Z := match Z with
  | (n, B, F, K) => match ly_hi B e.2 e.1 with
    | none => some (n, B, F, K)
    | some z => bif sx_le 0 z then (bif ly_nn B e then some (n, B, F, K) else match e.2 with
      | [(k, a)] => (match sx_get k B with
        | none => some (n, B, F, K)
        | some p => bif sx_eq a 1 then (ly_I (sx_mx p.1 (Int.neg e.1)) fun lo => bif sx_le lo p.2 then some (n, (k, lo, p.2) :: B, F, K) else none) else bif sx_eq a (-1) then (ly_I (sx_mn p.2 e.1) fun hi => bif sx_le p.1 hi then some (n, (k, p.1, hi) :: B, F, K) else none) else ly_fe e fun e => some (n, B, e :: F, K))
      | _ => bif ly_ge B F (ly_sub (-1, []) e) then none else bif F.any (fun f => ly_nn B (ly_sub e f)) then some (n, B, F, K) else ly_fe e fun e => some (n, ly_tg B z e.2 B, e :: F, K)) else none
def ly_kget (r : Nat) (i : ly_e) : ly_K → Option ly_e
  | [] => none
  | q :: K => bif Nat.beq q.1 r && ly_eq q.2.1 i then some q.2.2 else ly_kget r i K
/-- a word that is known not to be 0 -/
def ly_nez (K : ly_K) (e : ly_e) : Bool := match ly_kget 61000 e K with
  | some v => ly_eq v (1, [])
  | none => match ly_kget 61000 (ly_neg e) K with
    | some v => ly_eq v (1, [])
    | none => false
/-- what is known when a word is not 0: one state, or two (below and above) -/
def ly_ne (Z : ly_Z) (e : ly_e) : List ly_Z := match Z with
  | (n, B, F, K) => bif ly_nez K e then [(n, B, F, K)] else match e.2 with
    | [] => bif sx_eq e.1 0 then [] else [(n, B, F, K)]
    | [(k, a)] => (match sx_get k B with
      | none => [(n, B, F, K)]
      | some p => bif sx_eq a 1 || sx_eq a (-1) then (ly_I (bif sx_eq a 1 then Int.neg e.1 else e.1) fun v => bif sx_eq v p.1 then (ly_I (Int.add v 1) fun lo => bif sx_le lo p.2 then [(n, (k, lo, p.2) :: B, F, K)] else []) else bif sx_eq v p.2 then (ly_I (Int.sub v 1) fun hi => bif sx_le p.1 hi then [(n, (k, p.1, hi) :: B, F, K)] else []) else bif sx_le p.1 v && (sx_le v p.2 && sx_le (Int.sub p.2 p.1) 300) then (ly_I (Int.sub v 1) fun hi => ly_I (Int.add v 1) fun lo => [(n, (k, p.1, hi) :: B, F, K), (n, (k, lo, p.2) :: B, F, K)]) else [(n, B, F, (61000, e, (1, [])) :: K)]) else [(n, B, F, K)])
    | _ => bif ly_ge B F e then (ly_as (n, B, F, K) (ly_add (-1, []) e)).toList else bif ly_ge B F (ly_neg e) then (ly_as (n, B, F, K) (ly_sub (-1, []) e)).toList else ly_fe e fun e => [(n, B, F, (61000, e, (1, [])) :: K)]
/-- what is known when a word stands so to 0 -/
def ly_cn (c : ClassFile.Cond) (Z : ly_Z) (e : ly_e) : List ly_Z := match c with
  | .eq => bif ly_nez Z.2.2.2 e then [] else (match ly_as Z e with
    | some Z => (ly_as Z (ly_neg e)).toList
    | none => [])
  | .ne => ly_ne Z e
  | .lt => (ly_as Z (ly_sub (-1, []) e)).toList
  | .ge => (ly_as Z e).toList
  | .gt => (ly_as Z (ly_add (-1, []) e)).toList
  | .le => (ly_as Z (ly_neg e)).toList
def ly_goto (o : List ly_Z) (pc : Nat) (l : ly_L) (st : List ly_V) : List ly_S := o.map fun Z => (Z, pc, l, st)
def ly_fork (c : ClassFile.Cond) (e : ly_e) (Z : ly_Z) (pc : Nat) (off : Int) (l : ly_L) (st : List ly_V) : Option (List ly_S) := bif sx_jump pc off then ly_fe e fun e => some (ly_goto (ly_cn c Z e) (sx_to pc off) l st ++ ly_goto (ly_cn (sx_neg c) Z e) (pc + 3) l st) else none
def ly_sw (x : ly_e) (Z : ly_Z) (pc : Nat) (l : ly_L) (st : List ly_V) : List Int → Int → List ly_S
  | [], _ => []
  | off :: offs, lo => ly_goto (ly_cn .eq Z (ly_sub x (lo, []))) (sx_to pc off) l st ++ ly_sw x Z pc l st offs (Int.add lo 1)
/-- a sum that stays an int, or any int -/
def ly_ex (B : ly_B) (e : ly_e) : ly_R := match ly_iv B e with
  | some p => bif sx_le sx_min p.1 && sx_le p.2 sx_max then .inl (.inl e) else .inr (sx_min, sx_max)
  | none => .inr (sx_min, sx_max)
def ly_mul (B : ly_B) (a b : ly_e) : ly_R := match ly_con B a with
  | some c => ly_ex B (ly_scl c b)
  | none => match ly_con B b with
    | some c => ly_ex B (ly_scl c a)
    | none => .inr (sx_min, sx_max)
/-- an operation on two ints: by itself where both are known, else within bounds -/
def ly_op (f : Int32 → Int32 → Int32) (g : Int × Int → Int × Int → Int × Int) (B : ly_B) (a b : ly_e) : ly_R := match ly_con B a, ly_con B b with
  | some x, some y => .inl (.inl ((f (Int32.ofInt x) (Int32.ofInt y)).toInt, []))
  | _, _ => match ly_iv B a, ly_iv B b with
    | some p, some q => .inr (g p q)
    | _, _ => .inr (sx_min, sx_max)
def ly_op1 (f : Int32 → Int32) (lo hi : Int) (B : ly_B) (a : ly_e) : ly_R := match ly_con B a with
  | some x => .inl (.inl ((f (Int32.ofInt x)).toInt, []))
  | none => match ly_iv B a with
    | some p => bif sx_le lo p.1 && sx_le p.2 hi then .inl (.inl a) else .inr (lo, hi)
    | none => .inr (lo, hi)
def ly_gtop (_ _ : Int × Int) : Int × Int := (sx_min, sx_max)
def ly_gand (p q : Int × Int) : Int × Int := bif sx_le 0 p.1 then (bif sx_le 0 q.1 then (0, sx_mn p.2 q.2) else (0, p.2)) else bif sx_le 0 q.1 then (0, q.2) else (sx_min, sx_max)
def ly_gshr (p _ : Int × Int) : Int × Int := bif sx_le 0 p.1 then (0, p.2) else (sx_min, sx_max)
def ly_gdiv (p q : Int × Int) : Int × Int := bif sx_le 1 q.1 then (bif sx_le 0 p.1 then (bif sx_eq q.1 q.2 then (Int.ediv p.1 q.1, Int.ediv p.2 q.1) else (0, p.2)) else (sx_mn p.1 0, sx_mx p.2 0)) else (sx_min, sx_max)
def ly_grem (p q : Int × Int) : Int × Int := bif sx_le 1 q.1 then (bif sx_le 0 p.1 then (0, Int.sub q.2 1) else (Int.sub 1 q.2, Int.sub q.2 1)) else (sx_min, sx_max)
def ly_psh (Z : ly_Z) (pc : Nat) (l : ly_L) (o : Option ly_R) (st : List ly_V) : Option (List ly_S) := match o with
  | some (.inl v) => ly_vf v fun v => some [(Z, pc, l, v :: st)]
  | some (.inr p) => ly_I p.1 fun lo => ly_I p.2 fun hi => bif sx_eq lo hi then some [(Z, pc, l, .inl (lo, []) :: st)] else (match Z with
    | (n, B, F, K) => sx_N n fun n => some [((n + 1, (n, lo, hi) :: B, F, K), pc, l, .inl (ly_sym n) :: st)])
  | none => none
abbrev ly_mn : Int := .negSucc 9223372036854775807
abbrev ly_mx : Int := .ofNat 9223372036854775807
/-- a long that nothing is known of -/
def ly_fj (Z : ly_Z) (pc : Nat) (l : ly_L) (st : List ly_V) : Option (List ly_S) := match Z with
  | (n, B, F, K) => sx_N n fun n => some [((n + 1, (n, ly_mn, ly_mx) :: B, F, K), pc, l, .inr (.inl (ly_sym n)) :: st)]
/-- a sum that stays a long, or any long -/
def ly_pj (Z : ly_Z) (pc : Nat) (l : ly_L) (e : ly_e) (st : List ly_V) : Option (List ly_S) := match ly_iv Z.2.1 e with
  | some p => bif sx_le ly_mn p.1 && sx_le p.2 ly_mx then ly_fe e fun e => some [(Z, pc, l, .inr (.inl e) :: st)] else ly_fj Z pc l st
  | none => ly_fj Z pc l st
/-- two longs held against each other -/
def ly_cmp (Z : ly_Z) (pc : Nat) (l : ly_L) (e : ly_e) (st : List ly_V) : Option (List ly_S) := match e.2 with
  | _ :: _ :: _ => ly_fe e fun e => some (ly_goto (ly_cn .eq Z e) pc l (.inl (0, []) :: st) ++ (match Z with
    | (n, B, F, K) => sx_N n fun n => (ly_ne (n, B, F, K) e).map fun Z => match Z with
      | (_, B, F, K) => ((n + 1, (n, -1, 1) :: B, F, (61000, ly_sym n, (1, [])) :: K), pc, l, .inl (ly_sym n) :: st)))
  | _ => ly_fe e fun e => some (ly_goto (ly_cn .eq Z e) pc l (.inl (0, []) :: st) ++ (ly_goto (ly_cn .gt Z e) pc l (.inl (1, []) :: st) ++ ly_goto (ly_cn .lt Z e) pc l (.inl (-1, []) :: st)))
