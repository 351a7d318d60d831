/-! states at points, contracts, steps and runs of the machine of linear words -/
/-- where a symbol of a state is found: a local, a place on the stack, a region -/
abbrev ly_Q : Type := Nat × Nat × ly_e
/-- a state: where its symbols are found, how many they are, bounds, words, locals, stack, what is known of cells -/
abbrev ly_P : Type := List ly_Q × Nat × ly_B × List ly_e × ly_L × List ly_V × ly_K
/-- a contract: the state at the entry, states at the end, regions that may change, the depth, cells and slots -/
abbrev ly_C : Type := ly_P × List ly_P × List Nat × ly_e × Nat × Nat
def ly_sbt (θ : List ly_e) : List (Nat × Int) → Option ly_e
  | [] => some (0, [])
  | q :: ts => match θ[q.1]?, ly_sbt θ ts with
    | some t, some r => some (ly_add (ly_scl q.2 t) r)
    | _, _ => none
def ly_sb (θ : List ly_e) (e : ly_e) : Option ly_e := match ly_sbt θ e.2 with
  | some r => ly_fe (ly_add (e.1, []) r) some
  | none => none
def ly_sv (θ : List ly_e) : ly_V → Option ly_V
  | .inl e => (match ly_sb θ e with
    | some e => some (.inl e)
    | none => none)
  | .inr (.inl e) => (match ly_sb θ e with
    | some e => some (.inr (.inl e))
    | none => none)
  | .inr (.inr (.inl o)) => some (.inr (.inr (.inl o)))
  | .inr (.inr (.inr (j, e))) => (match ly_sb θ e with
    | some e => some (.inr (.inr (.inr (j, e))))
    | none => none)
def ly_sbs (θ : List ly_e) : List ly_e → Option (List ly_e)
  | [] => some []
  | e :: es => match ly_sb θ e, ly_sbs θ es with
    | some e, some es => some (e :: es)
    | _, _ => none
def ly_svs (θ : List ly_e) : List ly_V → Option (List ly_V)
  | [] => some []
  | e :: es => match ly_sv θ e, ly_svs θ es with
    | some e, some es => some (e :: es)
    | _, _ => none
def ly_sks (θ : List ly_e) : ly_K → Option ly_K
  | [] => some []
  | q :: es => match ly_sb θ q.2.1, ly_sb θ q.2.2, ly_sks θ es with
    | some i, some v, some es => some ((q.1, i, v) :: es)
    | _, _, _ => none
def ly_ix : ly_V → Option ly_e
  | .inl e => some e
  | .inr (.inl e) => some e
  | .inr (.inr (.inr (_, e))) => some e
  | _ => none
def ly_so (TH : List (List ly_T)) (Z : ly_Z) (l : ly_L) (st : List ly_V) (θ : List ly_e) (q : ly_Q) : Option (ly_Z × ly_e) := bif Nat.beq q.1 0 then (match sx_get q.2.1 l with
    | some v => (match ly_ix v with
      | some e => some (Z, e)
      | none => none)
    | none => none) else bif Nat.beq q.1 1 then (match st[q.2.1]? with
    | some v => (match ly_ix v with
      | some e => some (Z, e)
      | none => none)
    | none => none) else (match ly_sb θ q.2.2 with
    | some x => (match ly_kget q.2.1 x Z.2.2.2 with
      | some v => some (Z, v)
      | none => bif Nat.ble 60010 q.2.1 && Nat.blt q.2.1 61000 then ly_ri Z q.2.1 x else (match ly_ths TH (q.2.1 / 256) with
        | some (.inr (_, fs)) => (match sx_ch 8 (q.2.1 % 256) fs with
          | some (.inl p) => bif ly_eq x (0, []) then some (ly_rv Z q.2.1 x p) else none
          | some (.inr (.inl _)) => bif ly_eq x (0, []) then some (ly_rv Z q.2.1 x (ly_mn, ly_mx)) else none
          | _ => none)
        | some (.inl (t, n, p)) => bif Nat.beq (q.2.1 % 256) 0 && (sx_tI t || sx_tB t) then (match ly_idx Z (.inl x) n with
          | some _ => some (ly_rv Z q.2.1 x p)
          | none => none) else bif Nat.beq (q.2.1 % 256) 0 && sx_tJ t then (match ly_idx Z (.inl x) n with
          | some _ => some (ly_rv Z q.2.1 x (ly_mn, ly_mx))
          | none => none) else none
        | _ => none))
    | none => none)
def ly_sos (TH : List (List ly_T)) (l : ly_L) (st : List ly_V) : List ly_Q → ly_Z → List ly_e → Option (ly_Z × List ly_e)
  | [], Z, θ => some (Z, θ)
  | q :: qs, Z, θ => match ly_so TH Z l st θ q with
    | some (Z, e) => ly_sos TH l st qs Z (θ ++ [e])
    | none => none
def ly_on : Option Nat → Option Nat → Bool
  | none, none => true
  | some a, some b => Nat.beq a b
  | _, _ => false
/-- a value that is as a state says -/
def ly_vm (θ : List ly_e) (v w : ly_V) : Bool := match v, w with
  | .inl e, .inl t => (match ly_sb θ t with
    | some t => ly_eq e t
    | none => false)
  | .inr (.inl e), .inr (.inl t) => (match ly_sb θ t with
    | some t => ly_eq e t
    | none => false)
  | .inr (.inr (.inl a)), .inr (.inr (.inl b)) => ly_on a b
  | .inr (.inr (.inr (j, e))), .inr (.inr (.inr (i, t))) => bif Nat.beq j i then (match ly_sb θ t with
    | some t => ly_eq e t
    | none => false) else false
  | _, _ => false
def ly_vms (θ : List ly_e) : List ly_V → List ly_V → Bool
  | [], [] => true
  | v :: vs, w :: ws => bif ly_vm θ v w then ly_vms θ vs ws else false
  | _, _ => false
def ly_mB (Z : ly_Z) (θ : List ly_e) (B : ly_B) : Bool := B.all fun q => match θ[q.1]? with
  | some t => ly_gs Z.2.1 Z.2.2.1 (ly_add (Int.neg q.2.1, []) t) && ly_gs Z.2.1 Z.2.2.1 (ly_sub (q.2.2, []) t)
  | none => false
def ly_mF (Z : ly_Z) (θ : List ly_e) (F : List ly_e) : Bool := F.all fun f => match ly_sb θ f with
  | some f => ly_gs Z.2.1 Z.2.2.1 f
  | none => false
def ly_mL (θ : List ly_e) (l L : ly_L) : Bool := L.all fun q => match sx_get q.1 l with
  | some v => ly_vm θ v q.2
  | none => false
def ly_mK (θ : List ly_e) (K K' : ly_K) : Bool := K'.all fun q => match ly_sb θ q.2.1, ly_sb θ q.2.2 with
  | some i, some v => (match ly_kget q.1 i K with
    | some w => ly_eq w v
    | none => false)
  | _, _ => false
/-- whether what is known makes a state, and its symbols in words -/
def ly_mt (TH : List (List ly_T)) (Z : ly_Z) (l : ly_L) (st : List ly_V) (θ : List ly_e) (p : ly_P) : Option (ly_Z × List ly_e) := match p with
  | (qs, n, B, F, L, St, K) => match ly_sos TH l st qs Z θ with
    | none => none
    | some (Z, θ) => bif Nat.beq θ.length n && (ly_vms θ st St && (ly_mL θ l L && (ly_mK θ Z.2.2.2 K && (ly_mB Z θ B && ly_mF Z θ F)))) then some (Z, θ) else none
def ly_id : Nat → List ly_e
  | 0 => []
  | n + 1 => ly_id n ++ [ly_sym n]
def ly_fresh : Nat → Nat → List ly_e
  | _, 0 => []
  | n, c + 1 => ly_sym n :: ly_fresh (n + 1) c
def ly_shB (n0 n : Nat) (B : ly_B) : ly_B := (B.filter fun q => Nat.ble n0 q.1).map fun q => (n + (q.1 - n0), q.2)
/-- bounds that words which are at least 0 give -/
def ly_tgs : ly_B → List ly_e → ly_B
  | B, [] => B
  | B, f :: fs => ly_tgs (match ly_hi B f.2 f.1 with
    | some H => ly_tg B H f.2 B
    | none => B) fs
/-- what is known behind a call that ends so -/
def ly_app (mods : List Nat) (Z : ly_Z) (θ : List ly_e) (p : ly_P) : Option (ly_Z × List ly_V) := match Z, p with
  | (n, B, F, K), (_, nx, Bx, Fx, _, Sx, Kx) => match ly_sbs (θ ++ ly_fresh n (nx - θ.length)) Fx, ly_svs (θ ++ ly_fresh n (nx - θ.length)) Sx, ly_sks (θ ++ ly_fresh n (nx - θ.length)) Kx with
    | some Fx, some Sx, some Kx => sx_N (n + (nx - θ.length)) fun m => some ((m, ly_tgs (ly_shB θ.length n Bx ++ B) Fx, (Fx.filter fun f => !(ly_nn (ly_tgs (ly_shB θ.length n Bx ++ B) Fx) f)) ++ F, Kx ++ K.filter fun q => !(ly_has q.1 mods)), Sx)
    | _, _, _ => none
abbrev ly_Fr : Type := sx_M × Nat × ly_L × List ly_V
abbrev ly_G : Type := Nat × ly_Fr × List ly_Fr × ly_Z × Nat × Nat
def ly_args : Nat → List ly_V → ly_L
  | _, [] => []
  | i, v :: vs => (i, v) :: ly_args (i + ly_cat v) vs
def ly_cats : List ly_V → Nat
  | [] => 0
  | v :: st => ly_cat v + ly_cats st
def ly_isref : ly_V → Bool
  | .inr (.inr (.inl (some a))) => !(Nat.beq a 7)
  | .inr (.inr (.inr _)) => true
  | _ => false
def ly_rcv (TH : List (List ly_T)) (m : sx_M) (v : ly_V) : Bool := match v with
  | .inr (.inr (.inl (some a))) => bif Nat.blt a 16 then Nat.beq m.2.1 99 && (Nat.ble 8 a && Nat.blt a 12) else (match ly_ths TH (a - 16) with
    | some (.inr (ci, _)) => Nat.beq ci m.2.1 && Nat.blt m.2.1 98
    | _ => false)
  | .inr (.inr (.inr (j, _))) => (match ly_thm TH j with
    | some (.inr (ci, _)) => Nat.beq ci m.2.1 && Nat.blt m.2.1 98
    | _ => false)
  | _ => false
def ly_rcvs (I : Instr) (TH : List (List ly_T)) (m : sx_M) (As : List ly_V) : Bool := match I with
  | .invokestatic _ => true
  | .invokevirtual _ => (match As with
    | v :: _ => ly_rcv TH m v
    | [] => false)
  | .invokespecial _ => (match As with
    | v :: _ => ly_isref v
    | [] => false)
  | _ => false
/-- a row of ints that is copied whole -/
def ly_copy (TH : List (List ly_T)) (mods : List Nat) (I : Instr) (X : am_X) (Z : ly_Z) (st : List ly_V) : Option (ly_Z × List ly_V) := match I, st with
  | .invokestatic _, .inl n :: .inl dp :: .inr (.inr (.inl (some b))) :: .inl sp :: .inr (.inr (.inl (some a))) :: st => bif sx_eq X.2.2 2 && (Nat.ble (ly_cats st) 8 && (Nat.ble 16 a && Nat.ble 16 b)) then (match ly_con Z.2.1 n, ly_con Z.2.1 dp, ly_con Z.2.1 sp, ly_ths TH (a - 16), ly_ths TH (b - 16) with
    | some (.ofNat n), some (.ofNat dp), some (.ofNat sp), some (.inl (.int, na, pa)), some (.inl (.int, nb, pb)) => bif Nat.beq n na && (Nat.beq n nb && (Nat.beq dp 0 && (Nat.beq sp 0 && (sx_le pb.1 pa.1 && sx_le pa.2 pb.2)))) then (match ly_drop mods Z (256 * (b - 16)) with
      | some Z => some (Z, st)
      | none => none) else none
    | _, _, _, _, _ => none) else none
  | _, _ => none
/-- a return's value -/
def ly_r (ret : Option FieldType) (I : Instr) (Z : ly_Z) (st : List ly_V) : Option (Option ly_V) :=
  match I, ret, st with
  | .ireturn, some .int, [.inl e] => some (some (.inl e))
  | .ireturn, some .boolean, [.inl e] => (match ly_iv Z.2.1 e with
    | some p => bif sx_le 0 p.1 && sx_le p.2 1 then some (some (.inl e)) else none
    | none => none)
  | .ireturn, some .byte, [.inl e] => (match ly_iv Z.2.1 e with
    | some p => bif sx_le (-128) p.1 && sx_le p.2 127 then some (some (.inl e)) else none
    | none => none)
  | .ireturn, some .char, [.inl e] => (match ly_iv Z.2.1 e with
    | some p => bif sx_le 0 p.1 && sx_le p.2 65535 then some (some (.inl e)) else none
    | none => none)
  | .lreturn, some .long, [.inr (.inl e)] => some (some (.inr (.inl e)))
  | .areturn, some (.object _), [.inr (.inr v)] => some (some (.inr (.inr v)))
  | .areturn, some (.array _), [.inr (.inr v)] => some (some (.inr (.inr v)))
  | .return_, none, [] => some none
  | _, _, _ => none
section LY0
variable (T : List (List sx_M)) (K0 : sx_K) (tt : List (List FieldType)) (cl : List vw_C) (TH : List (List ly_T)) (Y : List (List (List ly_C))) (mods : List Nat) (De : ly_e) (n0 : Nat) (pts : List (Nat × ly_P × ly_e)) (exs : List ly_P) (mu : Option ly_e) (mi cc cs pcc pcs : Nat)
def ly_try (k : Nat) (Z : ly_Z) (L : ly_L) : List ly_C → Option (ly_Z × List ly_e × ly_C)
  | [] => none
  | y :: ys => match ly_mt TH Z L [] [] y.1 with
    | some (Z', θ) => (match ly_sb θ y.2.2.2.1 with
      | some d => bif ly_gs Z'.2.1 Z'.2.2.1 (ly_sub (ly_add (Int.sub (-1) (.ofNat k), []) De) d) && y.2.2.1.all (fun r => ly_has r mods) then some (Z', θ, y) else ly_try k Z L ys
      | none => ly_try k Z L ys)
    | none => ly_try k Z L ys
def ly_outs (k : Nat) (m : sx_M) (pc : Nat) (l : ly_L) (st : List ly_V) (fs : List ly_Fr) (ms : List Nat) (Z : ly_Z) (θ : List ly_e) (c s : Nat) : List ly_P → Option (List ly_G)
  | [] => some []
  | p :: ps => match ly_app ms Z θ p, ly_outs k m pc l st fs ms Z θ c s ps with
    | some (Z', vs), some gs => some ((k, (m, pc, l, vs ++ st), fs, Z', c, s) :: gs)
    | _, _ => none
def ly_stepc (I : Instr) (X : am_X) (pc k : Nat) (m : sx_M) (l : ly_L) (st : List ly_V) (fs : List ly_Fr) (Z : ly_Z) (c s : Nat) : Option (List ly_G) :=
  bif sx_eq X.2.2 0 then (match sx_ch 16 X.1 T with
    | some m' => bif Nat.beq m'.1 X.1 && (Nat.ble X.2.1 st.length && (ly_rcvs I TH m' (st.take X.2.1).reverse && (Nat.ble (ly_cats (st.drop X.2.1)) 8 && Nat.ble (ly_cats (st.take X.2.1).reverse) m'.2.2.1))) then
        (match ly_try TH mods De k Z (ly_args 0 (st.take X.2.1).reverse) ((sx_ch 16 X.1 Y).getD []) with
        | some (Z', θ, y) => ly_outs k m (pc + 3) l (st.drop X.2.1) fs y.2.2.1 Z' θ (c + y.2.2.2.2.1) (s + y.2.2.2.2.2) y.2.1
        | none => bif ly_gs Z.2.1 Z.2.2.1 (ly_add (Int.sub (-2) (.ofNat k), []) De) then
          some [(k + 1, (m', 0, ly_args 0 (st.take X.2.1).reverse, []), (m, pc + 3, l, st.drop X.2.1) :: fs, Z, c, s)] else none) else none
    | none => none) else (match ly_copy TH mods I X Z st with
    | some (Z, st) => some [(k, (m, pc + 3, l, st), fs, Z, c, s)]
    | none => none)
def ly_stepr (I : Instr) (k : Nat) (m : sx_M) (st : List ly_V) (fs : List ly_Fr) (Z : ly_Z) (c s : Nat) : Option (List ly_G) :=
  match ly_r m.2.2.2.1 I Z st with
  | some v => (match fs with
    | [] => bif Nat.ble c cc && (Nat.ble s cs && exs.any fun p => (ly_mt TH Z [] v.toList (ly_id n0) p).isSome) then some [] else none
    | g :: fs => some [(k - 1, (g.1, g.2.1, g.2.2.1, v.toList ++ g.2.2.2), fs, Z, c, s)])
  | none => none
def ly_stepi (q : Instr × am_X) (pc k : Nat) (m : sx_M) (l : ly_L) (st : List ly_V) (fs : List ly_Fr) (Z : ly_Z) (c s : Nat) : Option (List ly_G) :=
  match ly_s q.1 with
  | some f => (match f K0 tt TH mods cl q.2 pc Z l st with
    | some ss => some (ss.map fun q => (k, (m, q.2.1, q.2.2.1, q.2.2.2), fs, q.1, c, s))
    | none => none)
  | none => bif sx_isc q.1 then ly_stepc T TH Y mods De q.1 q.2 pc k m l st fs Z c s else ly_stepr TH n0 exs cc cs q.1 k m st fs Z c s
def ly_at (Z : ly_Z) (l : ly_L) (st : List ly_V) (p : ly_P × ly_e) : Bool := match ly_mt TH Z l st (ly_id n0) p.1 with
  | some (Z', θ) => (match ly_sb θ p.2 with
    | some e => bif ly_gs Z'.2.1 Z'.2.2.1 e then (match mu with
      | some e0 => ly_gs Z'.2.1 Z'.2.2.1 (ly_sub (ly_add (-1, []) e0) e)
      | none => true) else false
    | none => false)
  | none => false
/-- a step; at a point that is known the run ends -/
def ly_step0 (g : ly_G) : Option (List ly_G) := match g with
  | (k, (m, pc, l, st), fs, Z, c, s) => sx_N pc fun pc => match sx_find pc m.2.2.2.2 with
    | none => none
    | some q => ly_stepi T K0 tt cl TH Y mods De n0 exs cc cs q pc k m l st fs Z c s
def ly_step (g : ly_G) : Option (List ly_G) := match g with
  | (k, (m, pc, l, st), fs, Z, c, s) => bif fs.isEmpty && pts.any (fun p => Nat.beq p.1 pc) then (bif Nat.beq m.1 mi && (Nat.ble c pcc && (Nat.ble s pcs && pts.any fun p => Nat.beq p.1 pc && ly_at TH n0 mu Z l st p.2)) then some [] else none) else ly_step0 T K0 tt cl TH Y mods De n0 exs cc cs (k, (m, pc, l, st), fs, Z, c, s)
def ly_run : Nat → ly_G → Bool
  | 0, _ => false
  | n + 1, g => match ly_step T K0 tt cl TH Y mods De n0 pts exs mu mi cc cs pcc pcs g with
    | some gs => gs.all (ly_run n)
    | none => false
/-- a run that begins with a step -/
def ly_run0 (n : Nat) (g : ly_G) : Bool := match ly_step0 T K0 tt cl TH Y mods De n0 exs cc cs g with
  | some gs => gs.all (ly_run T K0 tt cl TH Y mods De n0 pts exs mu mi cc cs pcc pcs n)
  | none => false
end LY0
/-- a method that keeps its contract, over those of the others -/
def ly_chk (T : List (List sx_M)) (K0 : sx_K) (tt : List (List FieldType)) (cl : List vw_C) (TH : List (List ly_T)) (Y : List (List (List ly_C))) (mi fuel : Nat) (pts : List (Nat × ly_P × ly_e)) (y : ly_C) : Bool := match sx_ch 16 mi T, y with
  | some m, ((_, n, B, F, L, _, K), exs, mods, De, cc, cs) => Nat.beq m.1 mi && (ly_nn B (ly_add (-1, []) De) && ((List.range n).all (fun k => (sx_get k B).isSome) && (ly_run0 T K0 tt cl TH Y mods De n pts exs none mi cc cs 0 0 fuel (0, (m, 0, L, []), [], (n, B, F, K), 0, 0) &&
      pts.all fun p => match p with
        | (pc, (_, n1, B1, F1, L1, S1, K1), e) => ly_run0 T K0 tt cl TH Y mods De n pts exs (some e) mi cc cs 0 0 fuel (0, (m, pc, L1, S1), [], (n1, B1, F1, K1), 0, 0))))
  | none, _ => false
