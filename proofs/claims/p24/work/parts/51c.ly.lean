/-! the machine of linear words, second half: cells, instructions -/
/-- what stands in a region: as it is known, or a new symbol -/
def ly_rv (Z : ly_Z) (r : Nat) (i : ly_e) (p : Int × Int) : ly_Z × ly_e := match Z with
  | (n, B, F, K) => match ly_kget r i K with
    | some v => ((n, B, F, K), v)
    | none => sx_N n fun n => ly_fe i fun i => ((n + 1, (n, p) :: B, F, (r, i, ly_sym n) :: K), ly_sym n)
def ly_rd (Z : ly_Z) (r : Nat) (i : ly_e) (p : Int × Int) (pc : Nat) (l : ly_L) (st : List ly_V) : Option (List ly_S) := match ly_rv Z r i p with
  | (Z, v) => some ((ly_rr r i Z).map fun Z => (Z, pc, l, .inl v :: st))
def ly_rdj (Z : ly_Z) (r : Nat) (i : ly_e) (pc : Nat) (l : ly_L) (st : List ly_V) : Option (List ly_S) := match ly_rv Z r i (ly_mn, ly_mx) with
  | (Z, v) => some [(Z, pc, l, .inr (.inl v) :: st)]
/-- two words that are never even -/
def ly_ge1 (B : ly_B) (F : List ly_e) (e : ly_e) : Bool := bif ly_nn B e then true else F.any fun f => ly_nn B (ly_sub e f)
def ly_dif (B : ly_B) (F : List ly_e) (a b : ly_e) : Bool := bif ly_ge1 B F (ly_add (-1, []) (ly_sub a b)) then true else ly_ge1 B F (ly_add (-1, []) (ly_sub b a))
def ly_has (r : Nat) (L : List Nat) : Bool := L.any fun q => Nat.beq q r

/-- an index that is none of the even rows' -/
def ly_of (a b n : Int) (B : ly_B) (F : List ly_e) (i : ly_e) : Bool := (i.2.all (fun q => sx_eq (Int.emod q.2 a) 0) && sx_le b (Int.emod i.1 a)) || ly_gs B F (ly_add (Int.neg n, []) i)
/-- a write to a matter's state that leaves what is known of state 0: state 1 or more before and behind it, or a plea's -/
def ly_zk (Z : ly_Z) (g r : Nat) (i v : ly_e) : Bool := match Z with
  | (_, B, F, K) => bif Nat.beq g 60090 && Nat.beq r 45319 then (match ly_kget 45319 i K with
      | some s => ly_gs B F (ly_add (-1, []) s) && ly_gs B F (ly_add (-1, []) v)
      | none => false) || (match ly_kget 45313 i K with
      | some q => ly_gs B F q || ly_nez K (ly_add (1, []) q)
      | none => false) else bif Nat.beq g 60091 && Nat.beq r 30464 then (match ly_kget 30464 i K with
      | some s => ly_gs B F (ly_add (-1, []) s) && ly_gs B F (ly_add (-1, []) v)
      | none => false) || (match ly_kget 28416 i K with
      | some q => ly_gs B F (ly_add (-1, []) q)
      | none => false) else bif Nat.beq g 60092 && Nat.beq r 27904 then ly_of 2 1 200 B F i else bif Nat.beq g 60093 && Nat.beq r 27392 then ly_of 40 20 4000 B F i else bif Nat.beq g 60094 && Nat.beq r 27648 then ly_of 40 20 4000 B F i else false
def ly_wr (mods : List Nat) (Z : ly_Z) (r : Nat) (i : ly_e) (p : Int × Int) (v : ly_e) : Option ly_Z := match Z with
  | (n, B, F, K) => bif ly_has r mods && ((ly_dg r).all (fun g => ly_has g mods || ly_zk (n, B, F, K) g r i v) && (ly_gs B F (ly_add (Int.neg p.1, []) v) && ly_gs B F (ly_sub (p.2, []) v))) then ly_fe i fun i => ly_fe v fun v => some (n, B, F, ly_om (n, B, F, K) r i v ++ (r, i, v) :: K.filter fun q => bif Nat.beq q.1 r then ly_dif B F q.2.1 i else !(ly_has q.1 (ly_dg r))) else none
/-- a region that changes in ways that nobody follows -/
def ly_drop (mods : List Nat) (Z : ly_Z) (r : Nat) : Option ly_Z := match Z with
  | (n, B, F, K) => bif ly_has r mods && (ly_dg r).all (fun g => ly_has g mods) then some (n, B, F, K.filter fun q => !(Nat.beq q.1 r) && !(ly_has q.1 (ly_dg r))) else none
def ly_ths (TH : List (List ly_T)) (i : Nat) : Option ly_T := bif Nat.blt i 177 then sx_ch 16 i TH else none
def ly_thm (TH : List (List ly_T)) (j : Nat) : Option ly_T := bif Nat.blt j 19 then sx_ch 16 (177 + j) TH else none
def ly_idx (Z : ly_Z) (i : ly_V) (n : Nat) : Option ly_e := match i, Z with
  | .inl e, (_, B, F, _) => bif ly_gs B F e && ly_gs B F (ly_sub (Int.sub (.ofNat n) 1, []) e) then some e else none
  | _, _ => none
def ly_cat : ly_V → Nat
  | .inr (.inl _) => 2
  | _ => 1
def ly_st1 (i : Nat) (v : ly_V) (l : ly_L) : ly_L := (i, v) :: l.filter (fun q => !(Nat.beq q.1 i) && !(Nat.beq (q.1 + 1) i && Nat.beq (ly_cat q.2) 2))
def ly_st2 (i : Nat) (v : ly_V) (l : ly_L) : ly_L := (i, v) :: l.filter (fun q => !(Nat.beq q.1 i) && (!(Nat.beq q.1 (i + 1)) && !(Nat.beq (q.1 + 1) i && Nat.beq (ly_cat q.2) 2)))
def ly_isI : ly_V → Bool
  | .inl _ => true
  | _ => false
def ly_isJ : ly_V → Bool
  | .inr (.inl _) => true
  | _ => false
def ly_isA : ly_V → Bool
  | .inr (.inr _) => true
  | _ => false
def ly_load (f : ly_V → Bool) (i : Nat) (l : ly_L) : Option ly_R := match sx_get i l with
  | some v => bif f v then some (.inl v) else none
  | none => none
def ly_sto (f : ly_V → Bool) (Z : ly_Z) (pc : Nat) (g : ly_V → ly_L) (st : List ly_V) : Option (List ly_S) := match st with
  | v :: st => bif f v then some [(Z, pc, g v, st)] else none
  | [] => none
def ly_bin (f : ly_B → ly_e → ly_e → ly_R) (Z : ly_Z) (pc : Nat) (l : ly_L) (st : List ly_V) : Option (List ly_S) := match st with
  | .inl y :: .inl x :: st => ly_psh Z (pc + 1) l (some (f Z.2.1 x y)) st
  | _ => none
def ly_un (f : ly_B → ly_e → ly_R) (Z : ly_Z) (pc : Nat) (l : ly_L) (st : List ly_V) : Option (List ly_S) := match st with
  | .inl x :: st => ly_psh Z (pc + 1) l (some (f Z.2.1 x)) st
  | _ => none
def ly_binj (f : ly_B → ly_e → ly_e → Option ly_e) (Z : ly_Z) (pc : Nat) (l : ly_L) (st : List ly_V) : Option (List ly_S) := match st with
  | .inr (.inl y) :: .inr (.inl x) :: st => (match f Z.2.1 x y with
    | some e => ly_pj Z (pc + 1) l e st
    | none => ly_fj Z (pc + 1) l st)
  | _ => none
def ly_mulj (B : ly_B) (a b : ly_e) : Option ly_e := match ly_con B a with
  | some c => some (ly_scl c b)
  | none => match ly_con B b with
    | some c => some (ly_scl c a)
    | none => none
/-- a word that isn't known, at least 0, by a small number that is -/
def ly_dv (Z : ly_Z) (st : List ly_V) : Option (ly_e × (Int × Int) × Nat × List ly_V) := match st with
  | .inl y :: .inl x :: st => (match ly_con Z.2.1 x, ly_con Z.2.1 y, ly_iv Z.2.1 x with
    | none, some (.ofNat c), some p => bif Nat.ble c 1000 then some (x, p, c, st) else none
    | _, _, _ => none)
  | _ => none
/-- a word that isn't known, its last bits -/
def ly_mk (Z : ly_Z) (st : List ly_V) : Option (ly_e × Nat × Int × List ly_V) := match st with
  | .inl y :: .inl x :: st => (match ly_con Z.2.1 x, ly_con Z.2.1 y with
    | none, some c => bif sx_eq c 255 then some (x, 8, 255, st) else bif sx_eq c 1 then some (x, 1, 1, st) else none
    | _, _ => none)
  | _ => none
/-- a word that isn't known, at least 0, less its last bits -/
def ly_sh (Z : ly_Z) (st : List ly_V) : Option (ly_e × (Int × Int) × Nat × List ly_V) := match st with
  | .inl y :: .inl x :: st => (match ly_con Z.2.1 x, ly_con Z.2.1 y, ly_iv Z.2.1 x with
    | none, some (.ofNat c), some p => bif sx_le 0 p.1 && Nat.ble c 9 then some (x, p, c, st) else none
    | _, _, _ => none)
  | _ => none
def ly_rmin : List Int → Int
  | [] => sx_max
  | a :: r => sx_mn a (ly_rmin r)
def ly_rmax : List Int → Int
  | [] => sx_min
  | a :: r => sx_mx a (ly_rmax r)
/-- an element of a constant row, or of the script -/
def ly_low (K : sx_K) (a : Nat) (i : ly_V) (Z : ly_Z) (pc : Nat) (l : ly_L) (st : List ly_V) : Option (List ly_S) := bif Nat.beq a 4 then (match ly_kget 60000 (0, []) Z.2.2.2, i with
    | some n, .inl e => bif ly_gs Z.2.1 Z.2.2.1 e && ly_gs Z.2.1 Z.2.2.1 (ly_add (-1, []) (ly_sub n e)) then ly_rd Z 60001 e (sx_min, sx_max) pc l st else none
    | _, _ => none) else match sx_get a K with
  | some r => (match ly_idx Z i r.length with
    | some e => (match ly_con Z.2.1 e with
      | some (.ofNat j) => (match r[j]? with
        | some c => ly_psh Z pc l (some (.inl (.inl (c, [])))) st
        | none => none)
      | _ => ly_psh Z pc l (some (.inr (ly_rmin r, ly_rmax r))) st)
    | none => none)
  | none => none
/-- a row of this sort at a place, and whether it is the constructors' -/
def ly_row (f : FieldType → Bool) (TH : List (List ly_T)) (v : ly_V) : Option (Option Nat × FieldType × Nat × Int × Int) := match v with
  | .inr (.inr (.inl (some a))) => bif Nat.blt a 16 then none else (match ly_ths TH (a - 16) with
    | some (.inl r) => bif f r.1 then some (some (a - 16), r) else none
    | _ => none)
  | .inr (.inr (.inr (j, _))) => (match ly_thm TH j with
    | some (.inl r) => bif f r.1 then some (none, r) else none
    | _ => none)
  | _ => none
/-- an object at a place: its region, the index in it, class and fields -/
def ly_ob (TH : List (List ly_T)) (v : ly_V) : Option (Nat × ly_e × Nat × List (List ly_F)) := match v with
  | .inr (.inr (.inl (some a))) => bif Nat.blt a 16 then none else (match ly_ths TH (a - 16) with
    | some (.inr r) => some (a - 16, (0, []), r)
    | _ => none)
  | .inr (.inr (.inr (j, e))) => (match ly_thm TH j with
    | some (.inr r) => some (177 + j, e, r)
    | _ => none)
  | _ => none
/-- a place in a row of a matter: its region and the index in it -/
def ly_mr (n : Nat) (v : ly_V) (i : ly_e) : Option (Nat × ly_e) := match v with
  | .inr (.inr (.inr (j, e))) => bif Nat.beq j 0 || Nat.blt 32 n then none else some (256 * (177 + j), ly_add (ly_scl 32 e) i)
  | _ => none
def ly_rload (f : FieldType → Bool) (K : sx_K) (lows : Nat → Bool) (TH : List (List ly_T)) (Z : ly_Z) (pc : Nat) (l : ly_L) (st : List ly_V) : Option (List ly_S) := match st with
  | i :: v :: st => (match ly_row f TH v with
    | some (some c, _, n, p) => (match ly_idx Z i n with
      | some e => ly_rd Z (256 * c) e p (pc + 1) l st
      | none => none)
    | some (none, _, n, p) => (match ly_idx Z i n with
      | some e => (match ly_mr n v e with
        | some (r, x) => ly_rd Z r x p (pc + 1) l st
        | none => none)
      | none => none)
    | none => (match v with
      | .inr (.inr (.inl (some a))) => bif Nat.blt a 16 && lows a then ly_low K a i Z (pc + 1) l st else none
      | _ => none))
  | _ => none
/-- a value that a row of bytes or booleans takes as it is -/
def ly_nar (t : FieldType) (B : ly_B) (v : ly_e) : Bool := match ly_iv B v, t with
  | some p, .byte => sx_le (-128) p.1 && sx_le p.2 127
  | some p, .boolean => sx_le 0 p.1 && sx_le p.2 1
  | _, _ => false
def ly_tO : FieldType → Bool
  | .object _ => true
  | _ => false
abbrev ly_Hd : Type := sx_K → List (List FieldType) → List (List ly_T) → List Nat → List vw_C → am_X → Nat → ly_Z → ly_L → List ly_V → Option (List ly_S)
def ly_s (I : Instr) : Option ly_Hd :=
  match I with
  | .iconst n => some fun K tt TH mods cl X pc Z l st => ly_psh Z (pc + 1) l (some (.inl (.inl (sx_w n, [])))) st
  | .bipush n => some fun K tt TH mods cl X pc Z l st => ly_psh Z (pc + 2) l (bif sx_le (-128) n && sx_le n 127 then some (.inl (.inl (n, []))) else none) st
  | .sipush n => some fun K tt TH mods cl X pc Z l st => ly_psh Z (pc + 3) l (bif sx_le (-32768) n && sx_le n 32767 then some (.inl (.inl (n, []))) else none) st
  | .lconst n => some fun K tt TH mods cl X pc Z l st => some [(Z, pc + 1, l, .inr (.inl (.ofNat n.val, [])) :: st)]
  | .aconst_null => some fun K tt TH mods cl X pc Z l st => some [(Z, pc + 1, l, .inr (.inr (.inl none)) :: st)]
  | .ldc _ => some fun K tt TH mods cl X pc Z l st => bif Nat.beq X.1 0 then ly_psh Z (pc + 2) l (some (.inl (.inl (sx_w X.2.2, [])))) st else bif Nat.blt X.2.1 16 then some [(Z, pc + 2, l, .inr (.inr (.inl (some X.2.1))) :: st)] else none
  | .ldc_w _ => some fun K tt TH mods cl X pc Z l st => bif Nat.beq X.1 0 then ly_psh Z (pc + 3) l (some (.inl (.inl (sx_w X.2.2, [])))) st else bif Nat.blt X.2.1 16 then some [(Z, pc + 3, l, .inr (.inr (.inl (some X.2.1))) :: st)] else none
  | .ldc2_w _ => some fun K tt TH mods cl X pc Z l st => bif sx_le ly_mn X.2.2 && sx_le X.2.2 ly_mx then some [(Z, pc + 3, l, .inr (.inl (X.2.2, [])) :: st)] else none
  | .getstatic _ => some fun K tt TH mods cl X pc Z l st => some [(Z, pc + 3, l, (bif Nat.blt X.2.1 8 then .inr (.inr (.inl (some X.2.1))) else bif Nat.beq X.2.1 8 then .inl (1, []) else .inr (.inr (.inl (some 7)))) :: st)]
  | .iload i => some fun K tt TH mods cl X pc Z l st => ly_psh Z (pc + 2) l (ly_load ly_isI i l) st
  | .iload_n i => some fun K tt TH mods cl X pc Z l st => ly_psh Z (pc + 1) l (ly_load ly_isI i.val l) st
  | .lload i => some fun K tt TH mods cl X pc Z l st => ly_psh Z (pc + 2) l (ly_load ly_isJ i l) st
  | .lload_n i => some fun K tt TH mods cl X pc Z l st => ly_psh Z (pc + 1) l (ly_load ly_isJ i.val l) st
  | .aload i => some fun K tt TH mods cl X pc Z l st => ly_psh Z (pc + 2) l (ly_load ly_isA i l) st
  | .aload_n i => some fun K tt TH mods cl X pc Z l st => ly_psh Z (pc + 1) l (ly_load ly_isA i.val l) st
  | .istore i => some fun K tt TH mods cl X pc Z l st => ly_sto ly_isI Z (pc + 2) (fun v => ly_st1 i v l) st
  | .istore_n i => some fun K tt TH mods cl X pc Z l st => ly_sto ly_isI Z (pc + 1) (fun v => ly_st1 i.val v l) st
  | .lstore i => some fun K tt TH mods cl X pc Z l st => ly_sto ly_isJ Z (pc + 2) (fun v => ly_st2 i v l) st
  | .lstore_n i => some fun K tt TH mods cl X pc Z l st => ly_sto ly_isJ Z (pc + 1) (fun v => ly_st2 i.val v l) st
  | .astore i => some fun K tt TH mods cl X pc Z l st => ly_sto ly_isA Z (pc + 2) (fun v => ly_st1 i v l) st
  | .astore_n i => some fun K tt TH mods cl X pc Z l st => ly_sto ly_isA Z (pc + 1) (fun v => ly_st1 i.val v l) st
  | .iinc i n => some fun K tt TH mods cl X pc Z l st => (match sx_get i l with
    | some (.inl x) => (match ly_psh Z (pc + 3) l (some (ly_ex Z.2.1 (ly_add x (sx_w n, [])))) [] with
      | some [(Z, pc, l, [v])] => some [(Z, pc, ly_st1 i v l, st)]
      | _ => none)
    | _ => none)
  | .iadd => some fun K tt TH mods cl X pc Z l st => ly_bin (fun B x y => ly_ex B (ly_add x y)) Z pc l st
  | .isub => some fun K tt TH mods cl X pc Z l st => ly_bin (fun B x y => ly_ex B (ly_sub x y)) Z pc l st
  | .imul => some fun K tt TH mods cl X pc Z l st => ly_bin ly_mul Z pc l st
  | .idiv => some fun K tt TH mods cl X pc Z l st => (match st with
    | .inl y :: _ => (match ly_iv Z.2.1 y with
      | some q => bif sx_le 1 q.1 then (match ly_dv Z st with
        | some (x, p, c, st) => ly_rd Z (62000 + c) x (ly_gdiv p (.ofNat c, .ofNat c)) (pc + 1) l st
        | none => ly_bin (ly_op (fun x y => x / y) ly_gdiv) Z pc l st) else none
      | none => none)
    | _ => none)
  | .irem => some fun K tt TH mods cl X pc Z l st => (match st with
    | .inl y :: _ => (match ly_iv Z.2.1 y with
      | some q => bif sx_le 1 q.1 then ly_bin (ly_op (fun x y => x - x / y * y) ly_grem) Z pc l st else none
      | none => none)
    | _ => none)
  | .iand => some fun K tt TH mods cl X pc Z l st => (match ly_mk Z st with
    | some (x, k, m, st) => ly_rd Z (63000 + k) x (0, m) (pc + 1) l st
    | none => ly_bin (ly_op (fun x y => x &&& y) ly_gand) Z pc l st)
  | .ior => some fun K tt TH mods cl X pc Z l st => ly_bin (ly_op (fun x y => x ||| y) ly_gtop) Z pc l st
  | .ixor => some fun K tt TH mods cl X pc Z l st => ly_bin (ly_op (fun x y => x ^^^ y) ly_gtop) Z pc l st
  | .ishl => some fun K tt TH mods cl X pc Z l st => ly_bin (ly_op (fun x y => x <<< (y &&& 31)) ly_gtop) Z pc l st
  | .ishr => some fun K tt TH mods cl X pc Z l st => (match ly_sh Z st with
    | some (x, p, c, st) => ly_rd Z (62000 + 2 ^ c) x (ly_gdiv p (.ofNat (2 ^ c), .ofNat (2 ^ c))) (pc + 1) l st
    | none => ly_bin (ly_op (fun x y => x >>> (y &&& 31)) ly_gshr) Z pc l st)
  | .iushr => some fun K tt TH mods cl X pc Z l st => ly_bin (ly_op (fun x y => (x.toUInt32 >>> (y.toUInt32 &&& Int32.toUInt32 31)).toInt32) ly_gtop) Z pc l st
  | .ladd => some fun K tt TH mods cl X pc Z l st => ly_binj (fun _ x y => some (ly_add x y)) Z pc l st
  | .lsub => some fun K tt TH mods cl X pc Z l st => ly_binj (fun _ x y => some (ly_sub x y)) Z pc l st
  | .lmul => some fun K tt TH mods cl X pc Z l st => ly_binj ly_mulj Z pc l st
  | .lcmp => some fun K tt TH mods cl X pc Z l st => (match st with
    | .inr (.inl y) :: .inr (.inl x) :: st => ly_cmp Z (pc + 1) l (ly_sub x y) st
    | _ => none)
  | .i2l => some fun K tt TH mods cl X pc Z l st => (match st with
    | .inl e :: st => some [(Z, pc + 1, l, .inr (.inl e) :: st)]
    | _ => none)
  | .l2i => some fun K tt TH mods cl X pc Z l st => (match st with
    | .inr (.inl e) :: st => ly_psh Z (pc + 1) l (some (ly_ex Z.2.1 e)) st
    | _ => none)
  | .i2c => some fun K tt TH mods cl X pc Z l st => ly_un (ly_op1 (fun x => (x.toUInt32 % 65536).toInt32) 0 65535) Z pc l st
  | .i2b => some fun K tt TH mods cl X pc Z l st => ly_un (ly_op1 (fun x => x.toInt8.toInt32) (-128) 127) Z pc l st
  | .pop => some fun K tt TH mods cl X pc Z l st => (match st with
    | v :: st => bif Nat.beq (ly_cat v) 1 then some [(Z, pc + 1, l, st)] else none
    | _ => none)
  | .dup => some fun K tt TH mods cl X pc Z l st => (match st with
    | v :: st => bif Nat.beq (ly_cat v) 1 then some [(Z, pc + 1, l, v :: v :: st)] else none
    | _ => none)
  | .dup2 => some fun K tt TH mods cl X pc Z l st => (match st with
    | v :: w :: st => bif Nat.beq (ly_cat v) 1 && Nat.beq (ly_cat w) 1 then some [(Z, pc + 1, l, v :: w :: v :: w :: st)] else none
    | _ => none)
  | .goto off => some fun K tt TH mods cl X pc Z l st => bif sx_jump pc off then some [(Z, sx_to pc off, l, st)] else none
  | .ifCond c off => some fun K tt TH mods cl X pc Z l st => (match st with
    | .inl x :: st => ly_fork c x Z pc off l st
    | _ => none)
  | .if_icmp c off => some fun K tt TH mods cl X pc Z l st => (match st with
    | .inl y :: .inl x :: st => ly_fork c (ly_sub x y) Z pc off l st
    | _ => none)
  | .ifnull off => some fun K tt TH mods cl X pc Z l st => (match st with
    | .inr (.inr (.inl (some a))) :: st => bif Nat.beq a 7 then none else some [(Z, pc + 3, l, st)]
    | .inr (.inr (.inr _)) :: st => some [(Z, pc + 3, l, st)]
    | .inr (.inr (.inl none)) :: st => bif sx_jump pc off then some [(Z, sx_to pc off, l, st)] else none
    | _ => none)
  | .ifnonnull off => some fun K tt TH mods cl X pc Z l st => (match st with
    | .inr (.inr (.inl none)) :: st => some [(Z, pc + 3, l, st)]
    | .inr (.inr (.inr _)) :: st => bif sx_jump pc off then some [(Z, sx_to pc off, l, st)] else none
    | .inr (.inr (.inl (some a))) :: st => bif Nat.beq a 7 then none else bif sx_jump pc off then some [(Z, sx_to pc off, l, st)] else none
    | _ => none)
  | .tableswitch dflt lo hi offs => some fun K tt TH mods cl X pc Z l st => (match st with
    | .inl x :: st => bif sx_jump pc dflt && (offs.toList.all (sx_jump pc) && sx_eq (Int.add lo (.ofNat offs.toList.length)) (Int.add hi 1)) then some (ly_sw x Z pc l st offs.toList lo ++ (ly_goto (ly_cn .lt Z (ly_sub x (lo, []))) (sx_to pc dflt) l st ++ ly_goto (ly_cn .gt Z (ly_sub x (hi, []))) (sx_to pc dflt) l st)) else none
    | _ => none)
  | .getfield _ => some fun K tt TH mods cl X pc Z l st => (match st with
    | v :: st => (match ly_ob TH v with
      | some (c, i, ci, fs) => bif Nat.beq ci X.1 && (sx_eq X.2.2 0 && Nat.blt X.2.1 256) then (match sx_ch 8 X.2.1 fs with
        | some (.inl p) => ly_rd Z (256 * c + X.2.1) i p (pc + 3) l st
        | some (.inr (.inl _)) => ly_rdj Z (256 * c + X.2.1) i (pc + 3) l st
        | some (.inr (.inr (.inl o))) => some [(Z, pc + 3, l, .inr (.inr (.inl o)) :: st)]
        | some (.inr (.inr (.inr j))) => (match v with
          | .inr (.inr (.inr (_, e))) => bif Nat.blt j 19 then some [(Z, pc + 3, l, .inr (.inr (.inr (j, e))) :: st)] else none
          | _ => none)
        | none => none) else none
      | none => (match v with
        | .inr (.inr (.inl (some a))) => bif Nat.ble 8 a && Nat.blt a 12 then (bif sx_eq X.2.2 1 then some [(Z, pc + 3, l, .inr (.inr (.inl (some (a + 4)))) :: st)] else bif sx_eq X.2.2 2 then some [(Z, pc + 3, l, .inl (0, []) :: st)] else none) else none
        | _ => none))
    | [] => none)
  | .putfield _ => some fun K tt TH mods cl X pc Z l st => (match st with
    | v :: a :: st => (match ly_ob TH a with
      | some (c, i, ci, fs) => bif Nat.beq ci X.1 && Nat.blt X.2.1 256 then (match sx_ch 8 X.2.1 fs, v with
        | some (.inl p), .inl e => bif (match (tt.getD ci [])[X.2.1]? with
          | some .int => true
          | some .boolean => sx_le 0 p.1 && sx_le p.2 1
          | _ => false) then (match ly_wr mods Z (256 * c + X.2.1) i p e with
            | some Z => some [(Z, pc + 3, l, st)]
            | none => none) else none
        | some (.inr (.inl _)), .inr (.inl e) => (match (tt.getD ci [])[X.2.1]? with
          | some .long => (match ly_wr mods Z (256 * c + X.2.1) i (ly_mn, ly_mx) e with
            | some Z => some [(Z, pc + 3, l, st)]
            | none => none)
          | _ => none)
        | _, _ => none) else none
      | none => none)
    | _ => none)
  | .arraylength => some fun K tt TH mods cl X pc Z l st => (match st with
    | v :: st => (match ly_row (fun _ => true) TH v with
      | some (_, _, n, _) => bif Nat.ble n 60000000 then ly_psh Z (pc + 1) l (some (.inl (.inl (.ofNat n, [])))) st else none
      | none => (match v with
        | .inr (.inr (.inl (some a))) => bif Nat.beq a 4 then ly_rd Z 60000 (0, []) (0, 3584) (pc + 1) l st else (match sx_get a K with
          | some r => bif Nat.ble r.length 60000000 then ly_psh Z (pc + 1) l (some (.inl (.inl (.ofNat r.length, [])))) st else none
          | none => none)
        | _ => none))
    | [] => none)
  | .iaload => some fun K tt TH mods cl X pc Z l st => ly_rload sx_tI K (fun a => Nat.blt a 8) TH Z pc l st
  | .baload => some fun K tt TH mods cl X pc Z l st => ly_rload sx_tB K (fun a => Nat.ble 12 a) TH Z pc l st
  | .laload => some fun K tt TH mods cl X pc Z l st => (match st with
    | i :: a :: st => (match ly_row sx_tJ TH a with
      | some (some c, _, n, _) => (match ly_idx Z i n with
        | some e => ly_rdj Z (256 * c) e (pc + 1) l st
        | none => none)
      | some (none, _, n, _) => (match ly_idx Z i n with
        | some e => (match ly_mr n a e with
          | some (r, x) => ly_rdj Z r x (pc + 1) l st
          | none => none)
        | none => none)
      | none => none)
    | _ => none)
  | .aaload => some fun K tt TH mods cl X pc Z l st => (match st with
    | i :: v :: st => (match ly_row ly_tO TH v with
      | some (some c, _, n, _) => (match ly_idx Z i n with
        | some e => bif Z.2.2.2.any (fun q => Nat.beq q.1 (256 * c) && (ly_eq q.2.1 e && ly_eq q.2.2 (1, []))) then some [(Z, pc + 1, l, .inr (.inr (.inr (0, e))) :: st)] else some [(Z, pc + 1, l, .inr (.inr (.inl none)) :: st), (Z, pc + 1, l, .inr (.inr (.inr (0, e))) :: st)]
        | none => none)
      | _ => none)
    | _ => none)
  | .iastore => some fun K tt TH mods cl X pc Z l st => (match st with
    | .inl v :: i :: a :: st => (match ly_row sx_tI TH a with
      | some (some c, _, n, p) => (match ly_idx Z i n with
        | some e => (match ly_wr mods Z (256 * c) e p v with
          | some Z => some [(Z, pc + 1, l, st)]
          | none => none)
        | none => none)
      | some (none, _, n, p) => (match ly_idx Z i n with
        | some e => (match ly_mr n a e with
          | some (r, x) => (match ly_wr mods Z r x p v with
            | some Z => some [(Z, pc + 1, l, st)]
            | none => none)
          | none => none)
        | none => none)
      | none => none)
    | _ => none)
  | .bastore => some fun K tt TH mods cl X pc Z l st => (match st with
    | .inl v :: i :: a :: st => (match ly_row sx_tB TH a with
      | some (some c, t, n, p) => (match ly_idx Z i n with
        | some e => bif (match t with
          | .byte => sx_le p.1 (-128) && sx_le 127 p.2
          | _ => sx_le p.1 0 && sx_le 1 p.2) then (match (bif ly_nar t Z.2.1 v then ly_wr mods Z (256 * c) e p v else ly_drop mods Z (256 * c)) with
            | some Z => some [(Z, pc + 1, l, st)]
            | none => none) else none
        | none => none)
      | _ => none)
    | _ => none)
  | .lastore => some fun K tt TH mods cl X pc Z l st => (match st with
    | .inr (.inl v) :: i :: a :: st => (match ly_row sx_tJ TH a with
      | some (some c, _, n, _) => (match ly_idx Z i n with
        | some e => (match ly_wr mods Z (256 * c) e (ly_mn, ly_mx) v with
          | some Z => some [(Z, pc + 1, l, st)]
          | none => none)
        | none => none)
      | some (none, _, n, _) => (match ly_idx Z i n with
        | some e => (match ly_mr n a e with
          | some (r, x) => (match ly_wr mods Z r x (ly_mn, ly_mx) v with
            | some Z => some [(Z, pc + 1, l, st)]
            | none => none)
          | none => none)
        | none => none)
      | none => none)
    | _ => none)
  | .aastore => some fun K tt TH mods cl X pc Z l st => (match st with
    | .inr (.inr (.inr (0, e'))) :: i :: v :: st => (match ly_row ly_tO TH v, ly_thm TH 0 with
      | some (some c, .object C, n, _), some (.inr (ci, _)) => (match ly_idx Z i n, cl[ci]? with
        | some e, some r => bif (ly_eq e e' && decide (C = r.1)) && (ly_dg (256 * c)).isEmpty then some [((Z.1, Z.2.1, Z.2.2.1, (256 * c, e, (1, [])) :: Z.2.2.2), pc + 1, l, st)] else none
        | _, _ => none)
      | _, _ => none)
    | _ => none)
  | _ => none
