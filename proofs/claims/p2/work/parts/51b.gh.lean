/-! ghosts: what is worked out of regions, by number from 60010 on; which ghosts hang on a region; what a write leaves of them; what can be told of them; what a read tells -/
noncomputable def ly_tv (p : Prop) : Option Int := some (@ite Int p (Classical.propDecidable p) 1 0)
abbrev ly_i0 : ly_e := (0, [])
abbrev ly_i1 : ly_e := (1, [])
def ly_k1 (Z : ly_Z) (r : Nat) (i : ly_e) : Bool := match ly_kget r i Z.2.2.2 with
  | some v => (match ly_con Z.2.1 v with
    | some c => sx_eq c 1
    | none => false)
  | none => false
def ly_z (Z : ly_Z) (e : ly_e) : Bool := ly_gs Z.2.1 Z.2.2.1 e
def ly_kz (Z : ly_Z) (r : Nat) : Option ly_e := ly_kget r ly_i0 Z.2.2.2
def ly_kc (Z : ly_Z) (r : Nat) (i : ly_e) : Option Int := match ly_kget r i Z.2.2.2 with
  | some v => ly_con Z.2.1 v
  | none => none
/-! the class's law: owners of clauses in force (acts 3584, clauses 3588, firstClauses 4352, owners 5376) -/
def gh_q5 (fa fc ff fo : Int → Option Int) : Prop := ∃ A C F, fa 0 = some A ∧ fc 0 = some C ∧ 0 ≤ A ∧ ff A = some F ∧ F ≤ C ∧ C ≤ 1240 ∧ (∀ c, 0 ≤ c → c < 1240 → ∃ v, fo c = some v ∧ v ≤ A) ∧ (∀ a n, 0 ≤ a → a < A → ff (a + 1) = some n → n ≤ F) ∧ ∀ c, 0 ≤ c → c < F → ∃ v, fo c = some v ∧ v ≤ 29
def gh_q6 (fa fc ff fo : Int → Option Int) : Prop := ∃ A C, fa 0 = some A ∧ fc 0 = some C ∧ 1 ≤ A ∧ C ≤ 1240 ∧ (∀ c, 0 ≤ c → c < 1240 → ∃ v, fo c = some v ∧ v ≤ 29 ∧ v ≤ A) ∧ ∀ a n, 0 ≤ a → a + 1 < A → ff (a + 1) = some n → n ≤ C
def gh_st (fa ff : Int → Option Int) (c : Int) : Prop := 0 ≤ c ∧ ∃ A a n, fa 0 = some A ∧ 0 ≤ a ∧ a < A ∧ ff (a + 1) = some n ∧ c < n
/-! the class's reader: what waits (waits 6151, waiting 6400) -/
def gh_wf (fn fw : Int → Option Int) : Prop := ∃ N, fn 0 = some N ∧ 0 ≤ N ∧ (∀ i, 0 ≤ i → i < N → ∃ v, fw i = some v ∧ (v = 0 ∨ v = 1 ∨ v = 2 ∨ v = 7)) ∧ ∀ i v w, 0 ≤ i → i + 1 < N → fw i = some v → fw (i + 1) = some w → w = 7 ∨ v = 7 ∨ v < w
def gh_cl (fn fw : Int → Option Int) (j : Int) : Prop := ∃ N, fn 0 = some N ∧ (N ≤ 0 ∨ ∃ v, fw (N - 1) = some v ∧ (v = 7 ∨ v < j))
def gh_ct (fw : Int → Option Int) : Nat → Int
  | 0 => 0
  | n + 1 => if fw (n : Int) = some 7 then gh_ct fw n + 1 else gh_ct fw n
def gh_br (fn fw : Int → Option Int) : Option Int := match fn 0 with
  | some N => some (gh_ct fw N.toNat)
  | none => none
noncomputable def ly_gv (f : Nat → Int → Option Int) (r : Nat) (i : Int) : Option Int :=
  if r = 60010 then ly_tv (gh_q5 (f 3584) (f 3588) (f 4352) (f 5376))
  else if r = 60011 then ly_tv (gh_q6 (f 3584) (f 3588) (f 4352) (f 5376))
  else if r = 60012 then ly_tv (gh_st (f 3584) (f 4352) i)
  else if r = 60080 then ly_tv (gh_wf (f 6151) (f 6400))
  else if r = 60081 then ly_tv (gh_cl (f 6151) (f 6400) i)
  else if r = 60082 then gh_br (f 6151) (f 6400)
  else none
def ly_dl : List (Nat × List Nat) := [(3584, [60010, 60011, 60012]), (3588, [60010, 60011]), (4352, [60010, 60011, 60012]), (5376, [60010, 60011]), (6151, [60080, 60081, 60082]), (6400, [60080, 60081, 60082])]
def ly_dg (r : Nat) : List Nat := match sx_get r ly_dl with
  | some l => l
  | none => []
/-- cells that are kept as they are known -/
def ly_kp (Z : ly_Z) : List (Nat × ly_e) → ly_K
  | [] => []
  | q :: qs => match ly_kget q.1 q.2 Z.2.2.2 with
    | some v => (q.1, q.2, v) :: ly_kp Z qs
    | none => ly_kp Z qs
def om_owners (Z : ly_Z) (i v : ly_e) : ly_K := match ly_kz Z 3588, ly_kz Z 3584 with
  | some c, some a => bif ly_k1 Z 60010 ly_i0 && (ly_eq c i && ly_eq a v) then [(60010, ly_i0, ly_i1)] else []
  | _, _ => []
def om_clauses (Z : ly_Z) (i v : ly_e) : ly_K := bif ly_k1 Z 60010 ly_i0 && (ly_eq i ly_i0 && (ly_z Z (ly_sub (1240, []) v) && ((match ly_kz Z 3588 with
    | some c => ly_z Z (ly_sub v c)
    | none => false) || (match ly_kz Z 3584 with
    | some a => (match ly_kget 4352 a Z.2.2.2 with
      | some f => ly_z Z (ly_sub v f)
      | none => false)
    | none => false)))) then [(60010, ly_i0, ly_i1)] else []
def om_acts (Z : ly_Z) (i v : ly_e) : ly_K := match ly_kz Z 3584 with
  | some a => bif ly_k1 Z 60010 ly_i0 && (ly_eq i ly_i0 && (ly_eq v (ly_add ly_i1 a) && ly_z Z (ly_sub (29, []) a))) then [(60011, ly_i0, ly_i1)] else []
  | none => []
def om_firsts (Z : ly_Z) (i v : ly_e) : ly_K := match ly_kz Z 3588, ly_kz Z 3584 with
  | some c, some a => bif ly_k1 Z 60011 ly_i0 && (ly_eq a i && ly_eq c v) then [(60010, ly_i0, ly_i1)] else []
  | _, _ => []
/-- waiting[waits] = .. -/
def om_waiting (Z : ly_Z) (i _v : ly_e) : ly_K := match ly_kz Z 6151 with
  | some n => bif ly_eq n i then ly_kp Z [(60080, ly_i0), (60081, ly_i0), (60081, ly_i1), (60081, (2, [])), (60081, (3, [])), (60082, ly_i0)] else []
  | none => []
def om_cls (j : Int) : ly_K := (bif sx_le j 0 then [(60081, ly_i0, ly_i1)] else []) ++ ((bif sx_le j 1 then [(60081, ly_i1, ly_i1)] else []) ++ ((bif sx_le j 2 then [(60081, (2, []), ly_i1)] else []) ++ [(60081, (3, []), ly_i1)]))
def om_brk (Z : ly_Z) (c : Int) : ly_K := match ly_kz Z 60082 with
  | some b => [(60082, ly_i0, ly_add (c, []) b)]
  | none => []
def om_waits (Z : ly_Z) (i w : ly_e) : ly_K := bif ly_eq i ly_i0 then (bif ly_eq w ly_i0 then (60080, ly_i0, ly_i1) :: (60082, ly_i0, ly_i0) :: om_cls 0 else
    (match ly_kz Z 6151 with
    | some n => bif ly_k1 Z 60080 ly_i0 then (bif ly_eq w (ly_add ly_i1 n) then (match ly_kc Z 6400 n with
        | some t => bif sx_eq t 7 then (60080, ly_i0, ly_i1) :: (om_brk Z 1 ++ om_cls 0) else bif sx_le 0 t && (sx_le t 2 && ly_k1 Z 60081 (t, [])) then (60080, ly_i0, ly_i1) :: (om_brk Z 0 ++ om_cls (Int.add t 1)) else []
        | none => [])
      else bif ly_eq w (ly_add (-1, []) n) && ly_z Z w then (match ly_kc Z 6400 w with
        | some t => bif sx_eq t 7 then (60080, ly_i0, ly_i1) :: (om_brk Z (-1) ++ om_cls 3) else bif sx_le 0 t && sx_le t 2 then (60080, ly_i0, ly_i1) :: (om_brk Z 0 ++ om_cls t) else []
        | none => bif ly_k1 Z 60081 ly_i0 then (60080, ly_i0, ly_i1) :: (om_brk Z (-1) ++ om_cls 3) else []) else []) else []
    | none => [])) else []
def ly_om (Z : ly_Z) (r : Nat) (i v : ly_e) : ly_K := match ly_dg r with
  | [] => []
  | _ => bif Nat.beq r 3584 then om_acts Z i v else bif Nat.beq r 3588 then om_clauses Z i v else bif Nat.beq r 4352 then om_firsts Z i v else bif Nat.beq r 5376 then om_owners Z i v else bif Nat.beq r 6151 then om_waits Z i v else bif Nat.beq r 6400 then om_waiting Z i v else []
/-- a clause that is in an act: below the end of some act -/
def ri_st (Z : ly_Z) (x : ly_e) : Bool := match ly_kz Z 3584 with
  | some A => Z.2.2.2.any fun q => Nat.beq q.1 4352 && (ly_z Z (ly_add (-1, []) q.2.1) && (ly_z Z (ly_sub A q.2.1) && (ly_z Z (ly_add (-1, []) (ly_sub q.2.2 x)) && ly_z Z x)))
  | none => false
def ri_cl (Z : ly_Z) (x : ly_e) : Bool := match ly_con Z.2.1 x with
  | some j => (sx_le 0 j && ly_k1 Z 60081 ly_i0) || ((sx_le 1 j && ly_k1 Z 60081 ly_i1) || ((sx_le 2 j && ly_k1 Z 60081 (2, [])) || (sx_le 3 j && ly_k1 Z 60080 ly_i0)))
  | none => false
def ri_b (b : Bool) (Z : ly_Z) (r : Nat) (x : ly_e) : Option (ly_Z × ly_e) := bif b then ly_fe x fun x => (match Z with
  | (n, B, F, K) => some ((n, B, F, (r, x, ly_i1) :: K), ly_i1)) else none
def ly_ri (Z : ly_Z) (r : Nat) (x : ly_e) : Option (ly_Z × ly_e) := bif Nat.beq r 60012 then ri_b (ri_st Z x) Z r x else bif Nat.beq r 60081 then ri_b (ri_cl Z x) Z r x else none
def rr_owners (i : ly_e) (Z : ly_Z) : List ly_Z := match ly_kget 5376 i Z.2.2.2 with
  | some v => bif ly_k1 Z 60010 ly_i0 && ly_k1 Z 60012 i then (ly_as Z (ly_sub (29, []) v)).toList else [Z]
  | none => [Z]
def rr_waits (Z : ly_Z) : List ly_Z := match ly_kz Z 6151, ly_kz Z 60082 with
  | some n, some b => bif ly_k1 Z 60080 ly_i0 then (match ly_as Z (ly_sub n b) with
    | some Z => (ly_as Z (ly_sub (ly_add (bif ly_k1 Z 60081 ly_i0 then ly_i0 else bif ly_k1 Z 60081 ly_i1 then ly_i1 else bif ly_k1 Z 60081 (2, []) then (2, []) else (3, [])) (ly_scl 4 b)) n)).toList
    | none => []) else [Z]
  | _, _ => [Z]
def ly_rr (r : Nat) (i : ly_e) (Z : ly_Z) : List ly_Z := bif Nat.beq r 5376 then rr_owners i Z else bif Nat.beq r 6151 then (bif ly_eq i ly_i0 then rr_waits Z else [Z]) else [Z]
