/-! a machine of linear words beside the abstract machine: an int is a number and symbols with factors; symbols lie between bounds, words are known to be at least 0; cells have kinds that never change, ints in cells lie in the bounds of their kind; what was read last of a cell is known -/
abbrev ly_e : Type := Int × List (Nat × Int)
/-- an int, a long, null or a place, a cell of a matter -/
abbrev ly_V : Type := ly_e ⊕ Unit ⊕ Option Nat ⊕ (Nat × ly_e)
abbrev ly_B : Type := List (Nat × Int × Int)
abbrev ly_L : Type := List (Nat × ly_V)
/-- a region, an index in it, what stands there -/
abbrev ly_K : Type := List (Nat × ly_e × ly_e)
/-- the next symbol, bounds, words that are at least 0, what is known of cells -/
abbrev ly_Z : Type := Nat × ly_B × List ly_e × ly_K
/-- kinds of fields: an int, a long, null or a fixed place, a cell of the same matter -/
abbrev ly_F : Type := (Int × Int) ⊕ Unit ⊕ Option Nat ⊕ Nat
/-- kinds of cells: a row, an object with its fields by eight -/
abbrev ly_T : Type := (FieldType × Nat × Int × Int) ⊕ (Nat × List (List ly_F))
abbrev ly_R : Type := ly_V ⊕ (Int × Int)
abbrev ly_S : Type := ly_Z × Nat × ly_L × List ly_V
def ly_I {α : Type} (z : Int) (k : Int → α) : α := match z with
  | .ofNat n => sx_N n fun n => k (.ofNat n)
  | .negSucc n => sx_N n fun n => k (.negSucc n)
def ly_fl {α : Type} : List (Nat × Int) → (List (Nat × Int) → α) → α
  | [], k => k []
  | q :: ts, k => sx_N q.1 fun i => ly_I q.2 fun a => ly_fl ts fun ts => k ((i, a) :: ts)
def ly_fe {α : Type} (e : ly_e) (k : ly_e → α) : α := ly_I e.1 fun c => ly_fl e.2 fun ts => k (c, ts)
def ly_vf {α : Type} (v : ly_V) (k : ly_V → α) : α := match v with
  | .inl e => ly_fe e fun e => k (.inl e)
  | v => k v
def ly_ins (k : Nat) (a : Int) : List (Nat × Int) → List (Nat × Int)
  | [] => [(k, a)]
  | q :: ts => bif Nat.blt k q.1 then (k, a) :: q :: ts else bif Nat.beq k q.1 then (bif sx_eq (Int.add a q.2) 0 then ts else (k, Int.add a q.2) :: ts) else q :: ly_ins k a ts
def ly_mrg : List (Nat × Int) → List (Nat × Int) → List (Nat × Int)
  | [], t => t
  | q :: s, t => ly_ins q.1 q.2 (ly_mrg s t)
def ly_add (a b : ly_e) : ly_e := (Int.add a.1 b.1, ly_mrg a.2 b.2)
def ly_scl (c : Int) (a : ly_e) : ly_e := bif sx_eq c 0 then (0, []) else (Int.mul c a.1, a.2.map fun q => (q.1, Int.mul c q.2))
def ly_neg (a : ly_e) : ly_e := ly_scl (-1) a
def ly_sub (a b : ly_e) : ly_e := ly_add a (ly_neg b)
def ly_sym (n : Nat) : ly_e := (0, [(n, 1)])
def ly_teq : List (Nat × Int) → List (Nat × Int) → Bool
  | [], [] => true
  | p :: s, q :: t => bif Nat.beq p.1 q.1 && sx_eq p.2 q.2 then ly_teq s t else false
  | _, _ => false
def ly_eq (a b : ly_e) : Bool := bif sx_eq a.1 b.1 then ly_teq a.2 b.2 else false
def ly_lo (B : ly_B) : List (Nat × Int) → Int → Option Int
  | [], c => some c
  | q :: ts, c => match sx_get q.1 B with
    | some p => (match q.2 with
      | .ofNat a => ly_lo B ts (Int.add c (Int.mul (.ofNat a) p.1))
      | .negSucc a => ly_lo B ts (Int.add c (Int.mul (.negSucc a) p.2)))
    | none => none
def ly_hi (B : ly_B) : List (Nat × Int) → Int → Option Int
  | [], c => some c
  | q :: ts, c => match sx_get q.1 B with
    | some p => (match q.2 with
      | .ofNat a => ly_hi B ts (Int.add c (Int.mul (.ofNat a) p.2))
      | .negSucc a => ly_hi B ts (Int.add c (Int.mul (.negSucc a) p.1)))
    | none => none
def ly_iv (B : ly_B) (e : ly_e) : Option (Int × Int) := match ly_lo B e.2 e.1, ly_hi B e.2 e.1 with
  | some a, some b => some (a, b)
  | _, _ => none
def ly_con (B : ly_B) (e : ly_e) : Option Int := match e.2 with
  | [] => some e.1
  | _ => match ly_iv B e with
    | some p => bif sx_eq p.1 p.2 then some p.1 else none
    | none => none
/-- at least 0, by bounds alone -/
def ly_nn (B : ly_B) (e : ly_e) : Bool := match ly_lo B e.2 e.1 with
  | some z => sx_le 0 z
  | none => false
/-- at least 0, by bounds and at most two of the words that are -/
def ly_ge (B : ly_B) (F : List ly_e) (e : ly_e) : Bool := bif ly_nn B e then true else bif F.any (fun f => ly_nn B (ly_sub e f)) then true else F.any fun f => F.any fun g => ly_nn B (ly_sub (ly_sub e f) g)
/-- bounds of the symbols of a word that is at least 0 and at most H -/
def ly_tg (B0 : ly_B) (H : Int) : List (Nat × Int) → ly_B → ly_B
  | [], B => B
  | q :: ts, B => match sx_get q.1 B0 with
    | some p => bif sx_eq q.2 1 then (ly_I (Int.sub p.2 H) fun lo => bif sx_le lo p.1 then ly_tg B0 H ts B else ly_tg B0 H ts ((q.1, lo, p.2) :: B)) else bif sx_eq q.2 (-1) then (ly_I (Int.add p.1 H) fun hi => bif sx_le p.2 hi then ly_tg B0 H ts B else ly_tg B0 H ts ((q.1, p.1, hi) :: B)) else ly_tg B0 H ts B
    | none => ly_tg B0 H ts B
/-- what is known when a word is at least 0; none: it can't be -/
def ly_as (Z : ly_Z) (e : ly_e) : Option ly_Z := match Z with
  | (n, B, F, K) => match ly_hi B e.2 e.1 with
    | none => some (n, B, F, K)
    | some z => bif sx_le 0 z then (bif ly_nn B e then some (n, B, F, K) else match e.2 with
      | [(k, a)] => (match sx_get k B with
        | none => some (n, B, F, K)
        | some p => bif sx_eq a 1 then (ly_I (sx_mx p.1 (Int.neg e.1)) fun lo => bif sx_le lo p.2 then some (n, (k, lo, p.2) :: B, F, K) else none) else bif sx_eq a (-1) then (ly_I (sx_mn p.2 e.1) fun hi => bif sx_le p.1 hi then some (n, (k, p.1, hi) :: B, F, K) else none) else ly_fe e fun e => some (n, B, e :: F, K))
      | _ => bif ly_ge B F (ly_sub (-1, []) e) then none else ly_fe e fun e => some (n, ly_tg B z e.2 B, e :: F, K)) else none
/-- what is known when a word is not 0: one state, or two (below and above) -/
def ly_ne (Z : ly_Z) (e : ly_e) : List ly_Z := match Z with
  | (n, B, F, K) => match e.2 with
    | [] => bif sx_eq e.1 0 then [] else [(n, B, F, K)]
    | [(k, a)] => (match sx_get k B with
      | none => [(n, B, F, K)]
      | some p => bif sx_eq a 1 || sx_eq a (-1) then (ly_I (bif sx_eq a 1 then Int.neg e.1 else e.1) fun v => bif sx_eq v p.1 then (ly_I (Int.add v 1) fun lo => bif sx_le lo p.2 then [(n, (k, lo, p.2) :: B, F, K)] else []) else bif sx_eq v p.2 then (ly_I (Int.sub v 1) fun hi => bif sx_le p.1 hi then [(n, (k, p.1, hi) :: B, F, K)] else []) else bif sx_le p.1 v && (sx_le v p.2 && sx_le (Int.sub p.2 p.1) 300) then (ly_I (Int.sub v 1) fun hi => ly_I (Int.add v 1) fun lo => [(n, (k, p.1, hi) :: B, F, K), (n, (k, lo, p.2) :: B, F, K)]) else [(n, B, F, K)]) else [(n, B, F, K)])
    | _ => bif ly_ge B F e then (ly_as (n, B, F, K) (ly_add (-1, []) e)).toList else bif ly_ge B F (ly_neg e) then (ly_as (n, B, F, K) (ly_sub (-1, []) e)).toList else [(n, B, F, K)]
/-- what is known when a word stands so to 0 -/
def ly_cn (c : ClassFile.Cond) (Z : ly_Z) (e : ly_e) : List ly_Z := match c with
  | .eq => (match ly_as Z e with
    | some Z => (ly_as Z (ly_neg e)).toList
    | none => [])
  | .ne => ly_ne Z e
  | .lt => (ly_as Z (ly_sub (-1, []) e)).toList
  | .ge => (ly_as Z e).toList
  | .gt => (ly_as Z (ly_add (-1, []) e)).toList
  | .le => (ly_as Z (ly_neg e)).toList
def ly_goto (o : List ly_Z) (pc : Nat) (l : ly_L) (st : List ly_V) : List ly_S := o.map fun Z => (Z, pc, l, st)
def ly_fork (c : ClassFile.Cond) (e : ly_e) (Z : ly_Z) (pc : Nat) (off : Int) (l : ly_L) (st : List ly_V) : Option (List ly_S) := bif sx_jump pc off then ly_fe e fun e => some (ly_goto (ly_cn c Z e) (sx_to pc off) l st ++ ly_goto (ly_cn (sx_neg c) Z e) (pc + 3) l st) else none
def ly_sw (x : ly_e) (Z : ly_Z) (pc : Nat) (l : ly_L) (st : List ly_V) : List Int → Int → List ly_S
  | [], _ => []
  | off :: offs, lo => ly_goto (ly_cn .eq Z (ly_sub x (lo, []))) (sx_to pc off) l st ++ ly_sw x Z pc l st offs (Int.add lo 1)
/-- a sum that stays an int, or any int -/
def ly_ex (B : ly_B) (e : ly_e) : ly_R := match ly_iv B e with
  | some p => bif sx_le sx_min p.1 && sx_le p.2 sx_max then .inl (.inl e) else .inr (sx_min, sx_max)
  | none => .inr (sx_min, sx_max)
def ly_mul (B : ly_B) (a b : ly_e) : ly_R := match ly_con B a with
  | some c => ly_ex B (ly_scl c b)
  | none => match ly_con B b with
    | some c => ly_ex B (ly_scl c a)
    | none => .inr (sx_min, sx_max)
/-- an operation on two ints: by itself where both are known, else within bounds -/
def ly_op (f : Int32 → Int32 → Int32) (g : Int × Int → Int × Int → Int × Int) (B : ly_B) (a b : ly_e) : ly_R := match ly_con B a, ly_con B b with
  | some x, some y => .inl (.inl ((f (Int32.ofInt x) (Int32.ofInt y)).toInt, []))
  | _, _ => match ly_iv B a, ly_iv B b with
    | some p, some q => .inr (g p q)
    | _, _ => .inr (sx_min, sx_max)
def ly_op1 (f : Int32 → Int32) (lo hi : Int) (B : ly_B) (a : ly_e) : ly_R := match ly_con B a with
  | some x => .inl (.inl ((f (Int32.ofInt x)).toInt, []))
  | none => match ly_iv B a with
    | some p => bif sx_le lo p.1 && sx_le p.2 hi then .inl (.inl a) else .inr (lo, hi)
    | none => .inr (lo, hi)
def ly_gtop (_ _ : Int × Int) : Int × Int := (sx_min, sx_max)
def ly_gand (p q : Int × Int) : Int × Int := bif sx_le 0 p.1 then (bif sx_le 0 q.1 then (0, sx_mn p.2 q.2) else (0, p.2)) else bif sx_le 0 q.1 then (0, q.2) else (sx_min, sx_max)
def ly_gshr (p _ : Int × Int) : Int × Int := bif sx_le 0 p.1 then (0, p.2) else (sx_min, sx_max)
def ly_gdiv (p q : Int × Int) : Int × Int := bif sx_le 1 q.1 then (bif sx_le 0 p.1 then (bif sx_eq q.1 q.2 then (Int.ediv p.1 q.1, Int.ediv p.2 q.1) else (0, p.2)) else (sx_mn p.1 0, sx_mx p.2 0)) else (sx_min, sx_max)
def ly_grem (p q : Int × Int) : Int × Int := bif sx_le 1 q.1 then (bif sx_le 0 p.1 then (0, Int.sub q.2 1) else (Int.sub 1 q.2, Int.sub q.2 1)) else (sx_min, sx_max)
def ly_psh (Z : ly_Z) (pc : Nat) (l : ly_L) (o : Option ly_R) (st : List ly_V) : Option (List ly_S) := match o with
  | some (.inl v) => ly_vf v fun v => some [(Z, pc, l, v :: st)]
  | some (.inr p) => ly_I p.1 fun lo => ly_I p.2 fun hi => bif sx_eq lo hi then some [(Z, pc, l, .inl (lo, []) :: st)] else (match Z with
    | (n, B, F, K) => sx_N n fun n => some [((n + 1, (n, lo, hi) :: B, F, K), pc, l, .inl (ly_sym n) :: st)])
  | none => none
def ly_kget (r : Nat) (i : ly_e) : ly_K → Option ly_e
  | [] => none
  | q :: K => bif Nat.beq q.1 r && ly_eq q.2.1 i then some q.2.2 else ly_kget r i K
/-- what stands in a region: as it is known, or a new symbol -/
def ly_rv (Z : ly_Z) (r : Nat) (i : ly_e) (p : Int × Int) : ly_Z × ly_e := match Z with
  | (n, B, F, K) => match ly_kget r i K with
    | some v => ((n, B, F, K), v)
    | none => sx_N n fun n => ly_fe i fun i => ((n + 1, (n, p) :: B, F, (r, i, ly_sym n) :: K), ly_sym n)
def ly_rd (Z : ly_Z) (r : Nat) (i : ly_e) (p : Int × Int) (pc : Nat) (l : ly_L) (st : List ly_V) : Option (List ly_S) := match ly_rv Z r i p with
  | (Z, v) => some [(Z, pc, l, .inl v :: st)]
/-- two words that are never even -/
def ly_dif (B : ly_B) (a b : ly_e) : Bool := bif ly_nn B (ly_add (-1, []) (ly_sub a b)) then true else ly_nn B (ly_add (-1, []) (ly_sub b a))
def ly_has (r : Nat) (L : List Nat) : Bool := L.any fun q => Nat.beq q r
/-- a write: within its bounds, in a region that may change -/
def ly_wr (mods : List Nat) (Z : ly_Z) (r : Nat) (i : ly_e) (p : Int × Int) (v : ly_e) : Option ly_Z := match Z with
  | (n, B, F, K) => bif ly_has r mods && (ly_ge B F (ly_add (Int.neg p.1, []) v) && ly_ge B F (ly_sub (p.2, []) v)) then ly_fe i fun i => ly_fe v fun v => some (n, B, F, (r, i, v) :: K.filter fun q => bif Nat.beq q.1 r then ly_dif B q.2.1 i else true) else none
/-- a region that changes in ways that nobody follows -/
def ly_drop (mods : List Nat) (Z : ly_Z) (r : Nat) : Option ly_Z := match Z with
  | (n, B, F, K) => bif ly_has r mods then some (n, B, F, K.filter fun q => !(Nat.beq q.1 r)) else none
def ly_ths (TH : List (List ly_T)) (i : Nat) : Option ly_T := bif Nat.blt i 177 then sx_ch 16 i TH else none
def ly_thm (TH : List (List ly_T)) (j : Nat) : Option ly_T := bif Nat.blt j 19 then sx_ch 16 (177 + j) TH else none
def ly_idx (Z : ly_Z) (i : ly_V) (n : Nat) : Option ly_e := match i, Z with
  | .inl e, (_, B, F, _) => bif ly_ge B F e && ly_ge B F (ly_sub (Int.sub (.ofNat n) 1, []) e) then some e else none
  | _, _ => none
def ly_cat : ly_V → Nat
  | .inr (.inl _) => 2
  | _ => 1
def ly_st1 (i : Nat) (v : ly_V) (l : ly_L) : ly_L := (i, v) :: l.filter (fun q => !(Nat.beq q.1 i) && !(Nat.beq (q.1 + 1) i && Nat.beq (ly_cat q.2) 2))
def ly_st2 (i : Nat) (v : ly_V) (l : ly_L) : ly_L := (i, v) :: l.filter (fun q => !(Nat.beq q.1 i) && (!(Nat.beq q.1 (i + 1)) && !(Nat.beq (q.1 + 1) i && Nat.beq (ly_cat q.2) 2)))
def ly_isI : ly_V → Bool
  | .inl _ => true
  | _ => false
def ly_isJ : ly_V → Bool
  | .inr (.inl _) => true
  | _ => false
def ly_isA : ly_V → Bool
  | .inr (.inr _) => true
  | _ => false
def ly_load (f : ly_V → Bool) (i : Nat) (l : ly_L) : Option ly_R := match sx_get i l with
  | some v => bif f v then some (.inl v) else none
  | none => none
def ly_sto (f : ly_V → Bool) (Z : ly_Z) (pc : Nat) (g : ly_V → ly_L) (st : List ly_V) : Option (List ly_S) := match st with
  | v :: st => bif f v then some [(Z, pc, g v, st)] else none
  | [] => none
def ly_bin (f : ly_B → ly_e → ly_e → ly_R) (Z : ly_Z) (pc : Nat) (l : ly_L) (st : List ly_V) : Option (List ly_S) := match st with
  | .inl y :: .inl x :: st => ly_psh Z (pc + 1) l (some (f Z.2.1 x y)) st
  | _ => none
def ly_un (f : ly_B → ly_e → ly_R) (Z : ly_Z) (pc : Nat) (l : ly_L) (st : List ly_V) : Option (List ly_S) := match st with
  | .inl x :: st => ly_psh Z (pc + 1) l (some (f Z.2.1 x)) st
  | _ => none
def ly_binj (Z : ly_Z) (pc : Nat) (l : ly_L) (st : List ly_V) : Option (List ly_S) := match st with
  | .inr (.inl _) :: .inr (.inl _) :: st => some [(Z, pc + 1, l, .inr (.inl ()) :: st)]
  | _ => none
def ly_rmin : List Int → Int
  | [] => sx_max
  | a :: r => sx_mn a (ly_rmin r)
def ly_rmax : List Int → Int
  | [] => sx_min
  | a :: r => sx_mx a (ly_rmax r)
/-- an element of a constant row, or of the script -/
def ly_low (K : sx_K) (a : Nat) (i : ly_V) (Z : ly_Z) (pc : Nat) (l : ly_L) (st : List ly_V) : Option (List ly_S) := bif Nat.beq a 4 then (match ly_kget 60000 (0, []) Z.2.2.2, i with
    | some n, .inl e => bif ly_ge Z.2.1 Z.2.2.1 e && ly_ge Z.2.1 Z.2.2.1 (ly_add (-1, []) (ly_sub n e)) then ly_rd Z 60001 e (sx_min, sx_max) pc l st else none
    | _, _ => none) else match sx_get a K with
  | some r => (match ly_idx Z i r.length with
    | some e => (match ly_con Z.2.1 e with
      | some (.ofNat j) => (match r[j]? with
        | some c => ly_psh Z pc l (some (.inl (.inl (c, [])))) st
        | none => none)
      | _ => ly_psh Z pc l (some (.inr (ly_rmin r, ly_rmax r))) st)
    | none => none)
  | none => none
/-- a row of this sort at a place, and whether it is the constructors' -/
def ly_row (f : FieldType → Bool) (TH : List (List ly_T)) (v : ly_V) : Option (Option Nat × FieldType × Nat × Int × Int) := match v with
  | .inr (.inr (.inl (some a))) => bif Nat.blt a 16 then none else (match ly_ths TH (a - 16) with
    | some (.inl r) => bif f r.1 then some (some (a - 16), r) else none
    | _ => none)
  | .inr (.inr (.inr (j, _))) => (match ly_thm TH j with
    | some (.inl r) => bif f r.1 then some (none, r) else none
    | _ => none)
  | _ => none
/-- an object at a place: its region, the index in it, class and fields -/
def ly_ob (TH : List (List ly_T)) (v : ly_V) : Option (Nat × ly_e × Nat × List (List ly_F)) := match v with
  | .inr (.inr (.inl (some a))) => bif Nat.blt a 16 then none else (match ly_ths TH (a - 16) with
    | some (.inr r) => some (a - 16, (0, []), r)
    | _ => none)
  | .inr (.inr (.inr (j, e))) => (match ly_thm TH j with
    | some (.inr r) => some (177 + j, e, r)
    | _ => none)
  | _ => none
def ly_rload (f : FieldType → Bool) (K : sx_K) (lows : Nat → Bool) (TH : List (List ly_T)) (Z : ly_Z) (pc : Nat) (l : ly_L) (st : List ly_V) : Option (List ly_S) := match st with
  | i :: v :: st => (match ly_row f TH v with
    | some (some c, _, n, p) => (match ly_idx Z i n with
      | some e => ly_rd Z (256 * c) e p (pc + 1) l st
      | none => none)
    | some (none, _, n, p) => (match ly_idx Z i n with
      | some _ => ly_psh Z (pc + 1) l (some (.inr p)) st
      | none => none)
    | none => (match v with
      | .inr (.inr (.inl (some a))) => bif Nat.blt a 16 && lows a then ly_low K a i Z (pc + 1) l st else none
      | _ => none))
  | _ => none
def ly_tO : FieldType → Bool
  | .object _ => true
  | _ => false
abbrev ly_Hd : Type := sx_K → List (List FieldType) → List (List ly_T) → List Nat → List vw_C → am_X → Nat → ly_Z → ly_L → List ly_V → Option (List ly_S)
def ly_s (I : Instr) : Option ly_Hd :=
  match I with
  | .iconst n => some fun K tt TH mods cl X pc Z l st => ly_psh Z (pc + 1) l (some (.inl (.inl (sx_w n, [])))) st
  | .bipush n => some fun K tt TH mods cl X pc Z l st => ly_psh Z (pc + 2) l (bif sx_le (-128) n && sx_le n 127 then some (.inl (.inl (n, []))) else none) st
  | .sipush n => some fun K tt TH mods cl X pc Z l st => ly_psh Z (pc + 3) l (bif sx_le (-32768) n && sx_le n 32767 then some (.inl (.inl (n, []))) else none) st
  | .lconst n => some fun K tt TH mods cl X pc Z l st => some [(Z, pc + 1, l, .inr (.inl ()) :: st)]
  | .aconst_null => some fun K tt TH mods cl X pc Z l st => some [(Z, pc + 1, l, .inr (.inr (.inl none)) :: st)]
  | .ldc _ => some fun K tt TH mods cl X pc Z l st => bif Nat.beq X.1 0 then ly_psh Z (pc + 2) l (some (.inl (.inl (sx_w X.2.2, [])))) st else bif Nat.blt X.2.1 16 then some [(Z, pc + 2, l, .inr (.inr (.inl (some X.2.1))) :: st)] else none
  | .ldc_w _ => some fun K tt TH mods cl X pc Z l st => bif Nat.beq X.1 0 then ly_psh Z (pc + 3) l (some (.inl (.inl (sx_w X.2.2, [])))) st else bif Nat.blt X.2.1 16 then some [(Z, pc + 3, l, .inr (.inr (.inl (some X.2.1))) :: st)] else none
  | .ldc2_w _ => some fun K tt TH mods cl X pc Z l st => some [(Z, pc + 3, l, .inr (.inl ()) :: st)]
  | .getstatic _ => some fun K tt TH mods cl X pc Z l st => some [(Z, pc + 3, l, (bif Nat.blt X.2.1 8 then .inr (.inr (.inl (some X.2.1))) else bif Nat.beq X.2.1 8 then .inl (1, []) else .inr (.inr (.inl (some 7)))) :: st)]
  | .iload i => some fun K tt TH mods cl X pc Z l st => ly_psh Z (pc + 2) l (ly_load ly_isI i l) st
  | .iload_n i => some fun K tt TH mods cl X pc Z l st => ly_psh Z (pc + 1) l (ly_load ly_isI i.val l) st
  | .lload i => some fun K tt TH mods cl X pc Z l st => ly_psh Z (pc + 2) l (ly_load ly_isJ i l) st
  | .lload_n i => some fun K tt TH mods cl X pc Z l st => ly_psh Z (pc + 1) l (ly_load ly_isJ i.val l) st
  | .aload i => some fun K tt TH mods cl X pc Z l st => ly_psh Z (pc + 2) l (ly_load ly_isA i l) st
  | .aload_n i => some fun K tt TH mods cl X pc Z l st => ly_psh Z (pc + 1) l (ly_load ly_isA i.val l) st
  | .istore i => some fun K tt TH mods cl X pc Z l st => ly_sto ly_isI Z (pc + 2) (fun v => ly_st1 i v l) st
  | .istore_n i => some fun K tt TH mods cl X pc Z l st => ly_sto ly_isI Z (pc + 1) (fun v => ly_st1 i.val v l) st
  | .lstore i => some fun K tt TH mods cl X pc Z l st => ly_sto ly_isJ Z (pc + 2) (fun v => ly_st2 i v l) st
  | .lstore_n i => some fun K tt TH mods cl X pc Z l st => ly_sto ly_isJ Z (pc + 1) (fun v => ly_st2 i.val v l) st
  | .astore i => some fun K tt TH mods cl X pc Z l st => ly_sto ly_isA Z (pc + 2) (fun v => ly_st1 i v l) st
  | .astore_n i => some fun K tt TH mods cl X pc Z l st => ly_sto ly_isA Z (pc + 1) (fun v => ly_st1 i.val v l) st
  | .iinc i n => some fun K tt TH mods cl X pc Z l st => (match sx_get i l with
    | some (.inl x) => (match ly_psh Z (pc + 3) l (some (ly_ex Z.2.1 (ly_add x (sx_w n, [])))) [] with
      | some [(Z, pc, l, [v])] => some [(Z, pc, ly_st1 i v l, st)]
      | _ => none)
    | _ => none)
  | .iadd => some fun K tt TH mods cl X pc Z l st => ly_bin (fun B x y => ly_ex B (ly_add x y)) Z pc l st
  | .isub => some fun K tt TH mods cl X pc Z l st => ly_bin (fun B x y => ly_ex B (ly_sub x y)) Z pc l st
  | .imul => some fun K tt TH mods cl X pc Z l st => ly_bin ly_mul Z pc l st
  | .idiv => some fun K tt TH mods cl X pc Z l st => (match st with
    | .inl y :: _ => (match ly_iv Z.2.1 y with
      | some q => bif sx_le 1 q.1 then ly_bin (ly_op (fun x y => x / y) ly_gdiv) Z pc l st else none
      | none => none)
    | _ => none)
  | .irem => some fun K tt TH mods cl X pc Z l st => (match st with
    | .inl y :: _ => (match ly_iv Z.2.1 y with
      | some q => bif sx_le 1 q.1 then ly_bin (ly_op (fun x y => x - x / y * y) ly_grem) Z pc l st else none
      | none => none)
    | _ => none)
  | .iand => some fun K tt TH mods cl X pc Z l st => ly_bin (ly_op (fun x y => x &&& y) ly_gand) Z pc l st
  | .ior => some fun K tt TH mods cl X pc Z l st => ly_bin (ly_op (fun x y => x ||| y) ly_gtop) Z pc l st
  | .ixor => some fun K tt TH mods cl X pc Z l st => ly_bin (ly_op (fun x y => x ^^^ y) ly_gtop) Z pc l st
  | .ishl => some fun K tt TH mods cl X pc Z l st => ly_bin (ly_op (fun x y => x <<< (y &&& 31)) ly_gtop) Z pc l st
  | .ishr => some fun K tt TH mods cl X pc Z l st => ly_bin (ly_op (fun x y => x >>> (y &&& 31)) ly_gshr) Z pc l st
  | .iushr => some fun K tt TH mods cl X pc Z l st => ly_bin (ly_op (fun x y => (x.toUInt32 >>> (y.toUInt32 &&& Int32.toUInt32 31)).toInt32) ly_gtop) Z pc l st
  | .ladd => some fun K tt TH mods cl X pc Z l st => ly_binj Z pc l st
  | .lsub => some fun K tt TH mods cl X pc Z l st => ly_binj Z pc l st
  | .lmul => some fun K tt TH mods cl X pc Z l st => ly_binj Z pc l st
  | .lcmp => some fun K tt TH mods cl X pc Z l st => (match st with
    | .inr (.inl _) :: .inr (.inl _) :: st => ly_psh Z (pc + 1) l (some (.inr (-1, 1))) st
    | _ => none)
  | .i2l => some fun K tt TH mods cl X pc Z l st => (match st with
    | .inl _ :: st => some [(Z, pc + 1, l, .inr (.inl ()) :: st)]
    | _ => none)
  | .l2i => some fun K tt TH mods cl X pc Z l st => (match st with
    | .inr (.inl _) :: st => ly_psh Z (pc + 1) l (some (.inr (sx_min, sx_max))) st
    | _ => none)
  | .i2c => some fun K tt TH mods cl X pc Z l st => ly_un (ly_op1 (fun x => (x.toUInt32 % 65536).toInt32) 0 65535) Z pc l st
  | .i2b => some fun K tt TH mods cl X pc Z l st => ly_un (ly_op1 (fun x => x.toInt8.toInt32) (-128) 127) Z pc l st
  | .pop => some fun K tt TH mods cl X pc Z l st => (match st with
    | v :: st => bif Nat.beq (ly_cat v) 1 then some [(Z, pc + 1, l, st)] else none
    | _ => none)
  | .dup => some fun K tt TH mods cl X pc Z l st => (match st with
    | v :: st => bif Nat.beq (ly_cat v) 1 then some [(Z, pc + 1, l, v :: v :: st)] else none
    | _ => none)
  | .dup2 => some fun K tt TH mods cl X pc Z l st => (match st with
    | v :: w :: st => bif Nat.beq (ly_cat v) 1 && Nat.beq (ly_cat w) 1 then some [(Z, pc + 1, l, v :: w :: v :: w :: st)] else none
    | _ => none)
  | .goto off => some fun K tt TH mods cl X pc Z l st => bif sx_jump pc off then some [(Z, sx_to pc off, l, st)] else none
  | .ifCond c off => some fun K tt TH mods cl X pc Z l st => (match st with
    | .inl x :: st => ly_fork c x Z pc off l st
    | _ => none)
  | .if_icmp c off => some fun K tt TH mods cl X pc Z l st => (match st with
    | .inl y :: .inl x :: st => ly_fork c (ly_sub x y) Z pc off l st
    | _ => none)
  | .ifnull off => some fun K tt TH mods cl X pc Z l st => (match st with
    | .inr (.inr (.inl (some a))) :: st => bif Nat.beq a 7 then none else some [(Z, pc + 3, l, st)]
    | .inr (.inr (.inr _)) :: st => some [(Z, pc + 3, l, st)]
    | .inr (.inr (.inl none)) :: st => bif sx_jump pc off then some [(Z, sx_to pc off, l, st)] else none
    | _ => none)
  | .ifnonnull off => some fun K tt TH mods cl X pc Z l st => (match st with
    | .inr (.inr (.inl none)) :: st => some [(Z, pc + 3, l, st)]
    | .inr (.inr (.inr _)) :: st => bif sx_jump pc off then some [(Z, sx_to pc off, l, st)] else none
    | .inr (.inr (.inl (some a))) :: st => bif Nat.beq a 7 then none else bif sx_jump pc off then some [(Z, sx_to pc off, l, st)] else none
    | _ => none)
  | .tableswitch dflt lo hi offs => some fun K tt TH mods cl X pc Z l st => (match st with
    | .inl x :: st => bif sx_jump pc dflt && (offs.toList.all (sx_jump pc) && sx_eq (Int.add lo (.ofNat offs.toList.length)) (Int.add hi 1)) then some (ly_sw x Z pc l st offs.toList lo ++ (ly_goto (ly_cn .lt Z (ly_sub x (lo, []))) (sx_to pc dflt) l st ++ ly_goto (ly_cn .gt Z (ly_sub x (hi, []))) (sx_to pc dflt) l st)) else none
    | _ => none)
  | .getfield _ => some fun K tt TH mods cl X pc Z l st => (match st with
    | v :: st => (match ly_ob TH v with
      | some (c, i, ci, fs) => bif Nat.beq ci X.1 && (sx_eq X.2.2 0 && Nat.blt X.2.1 256) then (match sx_ch 8 X.2.1 fs with
        | some (.inl p) => ly_rd Z (256 * c + X.2.1) i p (pc + 3) l st
        | some (.inr (.inl _)) => some [(Z, pc + 3, l, .inr (.inl ()) :: st)]
        | some (.inr (.inr (.inl o))) => some [(Z, pc + 3, l, .inr (.inr (.inl o)) :: st)]
        | some (.inr (.inr (.inr j))) => (match v with
          | .inr (.inr (.inr (_, e))) => bif Nat.blt j 19 then some [(Z, pc + 3, l, .inr (.inr (.inr (j, e))) :: st)] else none
          | _ => none)
        | none => none) else none
      | none => (match v with
        | .inr (.inr (.inl (some a))) => bif Nat.ble 8 a && Nat.blt a 12 then (bif sx_eq X.2.2 1 then some [(Z, pc + 3, l, .inr (.inr (.inl (some (a + 4)))) :: st)] else bif sx_eq X.2.2 2 then some [(Z, pc + 3, l, .inl (0, []) :: st)] else none) else none
        | _ => none))
    | [] => none)
  | .putfield _ => some fun K tt TH mods cl X pc Z l st => (match st with
    | v :: a :: st => (match ly_ob TH a with
      | some (c, i, ci, fs) => bif Nat.beq ci X.1 && Nat.blt X.2.1 256 then (match sx_ch 8 X.2.1 fs, v with
        | some (.inl p), .inl e => bif (match (tt.getD ci [])[X.2.1]? with
          | some .int => true
          | some .boolean => sx_le 0 p.1 && sx_le p.2 1
          | _ => false) then (match ly_wr mods Z (256 * c + X.2.1) i p e with
            | some Z => some [(Z, pc + 3, l, st)]
            | none => none) else none
        | some (.inr (.inl _)), .inr (.inl _) => (match (tt.getD ci [])[X.2.1]? with
          | some .long => some [(Z, pc + 3, l, st)]
          | _ => none)
        | _, _ => none) else none
      | none => none)
    | _ => none)
  | .arraylength => some fun K tt TH mods cl X pc Z l st => (match st with
    | v :: st => (match ly_row (fun _ => true) TH v with
      | some (_, _, n, _) => bif Nat.ble n 60000000 then ly_psh Z (pc + 1) l (some (.inl (.inl (.ofNat n, [])))) st else none
      | none => (match v with
        | .inr (.inr (.inl (some a))) => bif Nat.beq a 4 then ly_rd Z 60000 (0, []) (0, 3584) (pc + 1) l st else (match sx_get a K with
          | some r => bif Nat.ble r.length 60000000 then ly_psh Z (pc + 1) l (some (.inl (.inl (.ofNat r.length, [])))) st else none
          | none => none)
        | _ => none))
    | [] => none)
  | .iaload => some fun K tt TH mods cl X pc Z l st => ly_rload sx_tI K (fun a => Nat.blt a 8) TH Z pc l st
  | .baload => some fun K tt TH mods cl X pc Z l st => ly_rload sx_tB K (fun a => Nat.ble 12 a) TH Z pc l st
  | .laload => some fun K tt TH mods cl X pc Z l st => (match st with
    | i :: a :: st => (match ly_row sx_tJ TH a with
      | some r => (match ly_idx Z i r.2.2.1 with
        | some _ => some [(Z, pc + 1, l, .inr (.inl ()) :: st)]
        | none => none)
      | none => none)
    | _ => none)
  | .aaload => some fun K tt TH mods cl X pc Z l st => (match st with
    | i :: v :: st => (match ly_row ly_tO TH v with
      | some (some _, _, n, _) => (match ly_idx Z i n with
        | some e => some [(Z, pc + 1, l, .inr (.inr (.inl none)) :: st), (Z, pc + 1, l, .inr (.inr (.inr (0, e))) :: st)]
        | none => none)
      | _ => none)
    | _ => none)
  | .iastore => some fun K tt TH mods cl X pc Z l st => (match st with
    | .inl v :: i :: a :: st => (match ly_row sx_tI TH a with
      | some (some c, _, n, p) => (match ly_idx Z i n with
        | some e => (match ly_wr mods Z (256 * c) e p v with
          | some Z => some [(Z, pc + 1, l, st)]
          | none => none)
        | none => none)
      | some (none, _, n, p) => (match ly_idx Z i n with
        | some _ => bif ly_ge Z.2.1 Z.2.2.1 (ly_add (Int.neg p.1, []) v) && ly_ge Z.2.1 Z.2.2.1 (ly_sub (p.2, []) v) then some [(Z, pc + 1, l, st)] else none
        | none => none)
      | none => none)
    | _ => none)
  | .bastore => some fun K tt TH mods cl X pc Z l st => (match st with
    | .inl _ :: i :: a :: st => (match ly_row sx_tB TH a with
      | some (some c, t, n, p) => (match ly_idx Z i n with
        | some _ => bif (match t with
          | .byte => sx_le p.1 (-128) && sx_le 127 p.2
          | _ => sx_le p.1 0 && sx_le 1 p.2) then (match ly_drop mods Z (256 * c) with
            | some Z => some [(Z, pc + 1, l, st)]
            | none => none) else none
        | none => none)
      | _ => none)
    | _ => none)
  | .lastore => some fun K tt TH mods cl X pc Z l st => (match st with
    | .inr (.inl _) :: i :: a :: st => (match ly_row sx_tJ TH a with
      | some r => (match ly_idx Z i r.2.2.1 with
        | some _ => some [(Z, pc + 1, l, st)]
        | none => none)
      | none => none)
    | _ => none)
  | .aastore => some fun K tt TH mods cl X pc Z l st => (match st with
    | .inr (.inr (.inr (0, e'))) :: i :: v :: st => (match ly_row ly_tO TH v, ly_thm TH 0 with
      | some (some _, .object C, n, _), some (.inr (ci, _)) => (match ly_idx Z i n, cl[ci]? with
        | some e, some r => bif ly_eq e e' && decide (C = r.1) then some [(Z, pc + 1, l, st)] else none
        | _, _ => none)
      | _, _ => none)
    | _ => none)
  | _ => none
