/-! ghosts: what is worked out of regions, by number from 60010 on; which ghosts hang on a region; what a write leaves of them; what can be told of them; what a read tells -/
noncomputable def ly_tv (p : Prop) : Option Int := some (@ite Int p (Classical.propDecidable p) 1 0)
abbrev ly_i0 : ly_e := (0, [])
abbrev ly_i1 : ly_e := (1, [])
def ly_k1 (Z : ly_Z) (r : Nat) (i : ly_e) : Bool := match ly_kget r i Z.2.2.2 with
  | some v => (match ly_con Z.2.1 v with
    | some c => sx_eq c 1
    | none => false)
  | none => false
def ly_z (Z : ly_Z) (e : ly_e) : Bool := ly_gs Z.2.1 Z.2.2.1 e
def ly_kz (Z : ly_Z) (r : Nat) : Option ly_e := ly_kget r ly_i0 Z.2.2.2
def ly_kc (Z : ly_Z) (r : Nat) (i : ly_e) : Option Int := match ly_kget r i Z.2.2.2 with
  | some v => ly_con Z.2.1 v
  | none => none
def ly_nek (Z : ly_Z) (k : ly_e) (c : Int) : Bool := ly_z Z (ly_add (Int.neg (Int.add c 1), []) k) || ly_z Z (ly_sub (Int.sub c 1, []) k)
/-! the class's law: owners of clauses in force (acts 3584, clauses 3588, firstClauses 4352, owners 5376) -/
def gh_q5 (fa fc ff fo : Int → Option Int) : Prop := ∃ A C F, fa 0 = some A ∧ fc 0 = some C ∧ 0 ≤ A ∧ ff A = some F ∧ F ≤ C ∧ C ≤ 1240 ∧ (∀ c, 0 ≤ c → c < 1240 → ∃ v, fo c = some v ∧ v ≤ A) ∧ (∀ a n, 0 ≤ a → a < A → ff (a + 1) = some n → n ≤ F) ∧ ∀ c, 0 ≤ c → c < F → ∃ v, fo c = some v ∧ v ≤ A - 1
def gh_q6 (fa fc ff fo : Int → Option Int) : Prop := ∃ A C, fa 0 = some A ∧ fc 0 = some C ∧ 1 ≤ A ∧ C ≤ 1240 ∧ (∀ c, 0 ≤ c → c < 1240 → ∃ v, fo c = some v ∧ v ≤ A - 1) ∧ ∀ a n, 0 ≤ a → a + 1 < A → ff (a + 1) = some n → n ≤ C
def gh_st (fa ff : Int → Option Int) (c : Int) : Prop := 0 ≤ c ∧ ∃ A a n, fa 0 = some A ∧ 0 ≤ a ∧ a < A ∧ ff (a + 1) = some n ∧ c < n
/-! the class's reader: what waits (waits 6151, waiting 6400) -/
def gh_wf (fn fw : Int → Option Int) : Prop := ∃ N, fn 0 = some N ∧ 0 ≤ N ∧ (∀ i, 0 ≤ i → i < N → ∃ v, fw i = some v ∧ (v = 0 ∨ v = 1 ∨ v = 2 ∨ v = 7)) ∧ ∀ i v w, 0 ≤ i → i + 1 < N → fw i = some v → fw (i + 1) = some w → w = 7 ∨ v = 7 ∨ v < w
def gh_cl (fn fw : Int → Option Int) (j : Int) : Prop := ∃ N, fn 0 = some N ∧ (N ≤ 0 ∨ ∃ v, fw (N - 1) = some v ∧ (v = 7 ∨ v < j))
def gh_ct (fw : Int → Option Int) : Nat → Int
  | 0 => 0
  | n + 1 => if fw (n : Int) = some 7 then gh_ct fw n + 1 else gh_ct fw n
def gh_br (fn fw : Int → Option Int) : Option Int := match fn 0 with
  | some N => some (gh_ct fw N.toNat)
  | none => none
/-! the reference's acts (acts 19989, clauseMany 23296, cKind 23552, cNumber 24064, cMany 24576, cStep 24832, cSteps 25088, step 26880, steps 20012) -/
/-- how much stands on the stack behind n steps -/
def gh_dp (ft : Int → Option Int) (b : Int) : Nat → Option Int
  | 0 => some 0
  | n + 1 => match gh_dp ft b n, ft (b + n) with
    | some d, some s => if 0 ≤ s then (if d ≤ 63 then some (d + 1) else none) else if s = -3 then (if 1 ≤ d then some d else none) else (if 2 ≤ d then some (d - 1) else none)
    | _, _ => none
/-- a clause that is well made -/
def gh_gd (fk fn fc fs fl ft fu : Int → Option Int) (c : Int) : Prop := ∃ k n m, fk c = some k ∧ fn c = some n ∧ fc c = some m ∧ ((k = 7 ∨ k = 10) → n ≤ 12) ∧ (k = 1 → m ≤ 8) ∧ (k = 0 → ∃ s l, fs c = some s ∧ fl c = some l ∧ 0 ≤ s ∧ 0 ≤ l ∧ s + l ≤ 820 ∧ (1200 ≤ c → ∃ u, fu 0 = some u ∧ s + l ≤ u) ∧ ∃ d, gh_dp ft (820 * (c / 40) + s) l.toNat = some d)
def gh_qa (fa fm fk fn fc fs fl ft fu : Int → Option Int) : Prop := ∃ A, fa 0 = some A ∧ 0 ≤ A ∧ A ≤ 30 ∧ ∀ a k M, 0 ≤ a → (a < A ∨ a = 30) → fm a = some M → 0 ≤ k → k < M → k < 40 → gh_gd fk fn fc fs fl ft fu (40 * a + k)
def gh_in (fa fm fk : Int → Option Int) (κ c : Int) : Prop := 0 ≤ c ∧ fk c = some κ ∧ ∃ A M, fa 0 = some A ∧ c / 40 < A ∧ fm (c / 40) = some M ∧ c - 40 * (c / 40) < M
def gh_sd (fs ft : Int → Option Int) (x : Int) : Option Int := match fs (x / 1024) with
  | some s => gh_dp ft (820 * (x / 1024 / 40) + s) (x % 1024).toNat
  | none => none
def gh_dg (fm fs ft fu : Int → Option Int) : Option Int := match fm 30, fu 0 with
  | some M, some u => (match fs (1200 + M) with
    | some b => if 0 ≤ b ∧ b ≤ u ∧ u ≤ 820 then gh_dp ft (24600 + b) (u - b).toNat else none
    | none => none)
  | _, _ => none
def gh_dn (fm fs fl ft fu : Int → Option Int) : Prop := ∃ M b l u d, fm 30 = some M ∧ fs (1200 + M) = some b ∧ fl (1200 + M) = some l ∧ fu 0 = some u ∧ 0 ≤ b ∧ 0 ≤ l ∧ b + l ≤ u ∧ u ≤ 820 ∧ gh_dp ft (24600 + b) l.toNat = some d
def gh_cp (fa fk fn fc fs fl : Int → Option Int) (k : Int) : Prop := ∃ A, fa 0 = some A ∧ 0 ≤ A ∧ A ≤ 29 ∧ ∀ j, 0 ≤ j → j < k → j < 40 → fk (40 * A + j) = fk (1200 + j) ∧ fn (40 * A + j) = fn (1200 + j) ∧ fc (40 * A + j) = fc (1200 + j) ∧ fs (40 * A + j) = fs (1200 + j) ∧ fl (40 * A + j) = fl (1200 + j)
def gh_sp (fa ft : Int → Option Int) (k : Int) : Prop := ∃ A, fa 0 = some A ∧ 0 ≤ A ∧ A ≤ 29 ∧ ∀ j, 0 ≤ j → j < k → j < 820 → ft (820 * A + j) = ft (24600 + j)
/-! a crown's matter at state 0 (class: state 45319, suer 45313; reference: state 30464, isPlea 28416) -/
def gz_s (fs fp : Int → Option Int) (c i : Int) : Option Int := match fs i, fp i with
  | some s, some p => some (if s = 0 ∧ p = c then 1 else 0)
  | _, _ => none
/-! rows of facts that a matter alleges: those of even number -/
def gh_ev (f : Int → Option Int) (a b n i : Int) : Option Int := if 0 ≤ i ∧ i < n ∧ i % a < b then f i else none
noncomputable def ly_gv (f : Nat → Int → Option Int) (r : Nat) (i : Int) : Option Int :=
  if r = 60090 then gz_s (f 45319) (f 45313) (-1) i
  else if r = 60091 then gz_s (f 30464) (f 28416) 0 i
  else if r = 60092 then gh_ev (f 27904) 2 1 200 i
  else if r = 60093 then gh_ev (f 27392) 40 20 4000 i
  else if r = 60094 then gh_ev (f 27648) 40 20 4000 i
  else if r = 60010 then ly_tv (gh_q5 (f 3584) (f 3588) (f 4352) (f 5376))
  else if r = 60011 then ly_tv (gh_q6 (f 3584) (f 3588) (f 4352) (f 5376))
  else if r = 60012 then ly_tv (gh_st (f 3584) (f 4352) i)
  else if r = 60080 then ly_tv (gh_wf (f 6151) (f 6400))
  else if r = 60081 then ly_tv (gh_cl (f 6151) (f 6400) i)
  else if r = 60082 then gh_br (f 6151) (f 6400)
  else if r = 60020 then ly_tv (gh_qa (f 19989) (f 23296) (f 23552) (f 24064) (f 24576) (f 24832) (f 25088) (f 26880) (f 20012))
  else if r = 60050 then gh_sd (f 24832) (f 26880) i
  else if r = 60060 then gh_dg (f 23296) (f 24832) (f 26880) (f 20012)
  else if r = 60061 then ly_tv (gh_dn (f 23296) (f 24832) (f 25088) (f 26880) (f 20012))
  else if r = 60070 then ly_tv (gh_cp (f 19989) (f 23552) (f 24064) (f 24576) (f 24832) (f 25088) i)
  else if r = 60071 then ly_tv (gh_sp (f 19989) (f 26880) i)
  else if 60030 ≤ r ∧ r ≤ 60040 then ly_tv (gh_in (f 19989) (f 23296) (f 23552) ((r - 60030 : Nat) : Int) i)
  else none
def ly_dl : List (Nat × List Nat) := [(27904, [60092]), (27392, [60093]), (27648, [60094]), (45319, [60090]), (45313, [60090]), (30464, [60091]), (28416, [60091]), (3584, [60010, 60011, 60012]), (3588, [60010, 60011]), (4352, [60010, 60011, 60012]), (5376, [60010, 60011]), (6151, [60080, 60081, 60082]), (6400, [60080, 60081, 60082]), (19989, [60020, 60070, 60071, 60030, 60031, 60032, 60033, 60034, 60035, 60036, 60037, 60038, 60039, 60040]), (23296, [60020, 60060, 60061, 60030, 60031, 60032, 60033, 60034, 60035, 60036, 60037, 60038, 60039, 60040]), (23552, [60020, 60070, 60030, 60031, 60032, 60033, 60034, 60035, 60036, 60037, 60038, 60039, 60040]), (24064, [60020, 60070]), (24576, [60020, 60070]), (24832, [60020, 60050, 60060, 60061, 60070]), (25088, [60020, 60061, 60070]), (26880, [60020, 60050, 60060, 60061, 60071]), (20012, [60020, 60060, 60061])]
def ly_dg (r : Nat) : List Nat := match sx_get r ly_dl with
  | some l => l
  | none => []
/-- cells that are kept as they are known -/
def ly_kp (Z : ly_Z) : List (Nat × ly_e) → ly_K
  | [] => []
  | q :: qs => match ly_kget q.1 q.2 Z.2.2.2 with
    | some v => (q.1, q.2, v) :: ly_kp Z qs
    | none => ly_kp Z qs
def om_owners (Z : ly_Z) (i v : ly_e) : ly_K := match ly_kz Z 3588, ly_kz Z 3584 with
  | some c, some a => bif ly_k1 Z 60010 ly_i0 && (ly_eq c i && ly_eq a v) then [(60010, ly_i0, ly_i1)] else []
  | _, _ => []
def om_clauses (Z : ly_Z) (i v : ly_e) : ly_K := bif ly_k1 Z 60010 ly_i0 && (ly_eq i ly_i0 && (ly_z Z (ly_sub (1240, []) v) && ((match ly_kz Z 3588 with
    | some c => ly_z Z (ly_sub v c)
    | none => false) || (match ly_kz Z 3584 with
    | some a => (match ly_kget 4352 a Z.2.2.2 with
      | some f => ly_z Z (ly_sub v f)
      | none => false)
    | none => false)))) then [(60010, ly_i0, ly_i1)] else []
def om_acts (Z : ly_Z) (i v : ly_e) : ly_K := match ly_kz Z 3584 with
  | some a => bif ly_k1 Z 60010 ly_i0 && (ly_eq i ly_i0 && (ly_eq v (ly_add ly_i1 a) && ly_z Z (ly_sub (29, []) a))) then [(60011, ly_i0, ly_i1)] else []
  | none => []
def om_firsts (Z : ly_Z) (i v : ly_e) : ly_K := match ly_kz Z 3588, ly_kz Z 3584 with
  | some c, some a => bif ly_k1 Z 60011 ly_i0 && (ly_eq a i && ly_eq c v) then [(60010, ly_i0, ly_i1)] else []
  | _, _ => []
def ri_cl (Z : ly_Z) (x : ly_e) : Bool := match ly_con Z.2.1 x with
  | some j => (sx_le 0 j && ly_k1 Z 60081 ly_i0) || ((sx_le 1 j && ly_k1 Z 60081 ly_i1) || ((sx_le 2 j && ly_k1 Z 60081 (2, [])) || ((sx_le 3 j && ly_k1 Z 60080 ly_i0) || (match ly_kz Z 6151 with
    | some n => ly_z Z (ly_neg n) || (match ly_kget 6400 (ly_add (-1, []) n) Z.2.2.2 with
      | some t => (ly_nek Z t j && (ly_k1 Z 60081 (Int.add j 1, []) || (sx_eq j 2 && ly_k1 Z 60080 ly_i0))) || (ly_nek Z t j && (ly_nek Z t (Int.add j 1) && ly_k1 Z 60081 (Int.add j 2, [])))
      | none => false)
    | none => false))))
  | none => false
/-- waiting[waits] = .. -/
def om_waiting (Z : ly_Z) (i _v : ly_e) : ly_K := match ly_kz Z 6151 with
  | some n => bif ly_eq n i then ly_kp Z [(60080, ly_i0), (60081, ly_i0), (60081, ly_i1), (60081, (2, [])), (60081, (3, [])), (60082, ly_i0)] else []
  | none => []
def om_cls (j : Int) : ly_K := (bif sx_le j 0 then [(60081, ly_i0, ly_i1)] else []) ++ ((bif sx_le j 1 then [(60081, ly_i1, ly_i1)] else []) ++ ((bif sx_le j 2 then [(60081, (2, []), ly_i1)] else []) ++ [(60081, (3, []), ly_i1)]))
def om_brk (Z : ly_Z) (c : Int) : ly_K := match ly_kz Z 60082 with
  | some b => [(60082, ly_i0, ly_add (c, []) b)]
  | none => []
def om_waits (Z : ly_Z) (i w : ly_e) : ly_K := bif ly_eq i ly_i0 then (bif ly_eq w ly_i0 then (60080, ly_i0, ly_i1) :: (60082, ly_i0, ly_i0) :: om_cls 0 else
    (match ly_kz Z 6151 with
    | some n => bif ly_k1 Z 60080 ly_i0 then (bif ly_eq w (ly_add ly_i1 n) then (match ly_kc Z 6400 n with
        | some t => bif sx_eq t 7 then (60080, ly_i0, ly_i1) :: (om_brk Z 1 ++ om_cls 0) else bif sx_le 0 t && (sx_le t 2 && ri_cl Z (t, [])) then (60080, ly_i0, ly_i1) :: (om_brk Z 0 ++ om_cls (Int.add t 1)) else []
        | none => [])
      else bif ly_eq w (ly_add (-1, []) n) && ly_z Z w then (match ly_kc Z 6400 w with
        | some t => bif sx_eq t 7 then (60080, ly_i0, ly_i1) :: (om_brk Z (-1) ++ om_cls 3) else bif sx_le 0 t && sx_le t 2 then (60080, ly_i0, ly_i1) :: (om_brk Z 0 ++ om_cls t) else []
        | none => bif ly_k1 Z 60081 ly_i0 then (60080, ly_i0, ly_i1) :: (om_brk Z (-1) ++ om_cls 3) else []) else []) else []
    | none => [])) else []
/-- cells of a region that are kept, by their index -/
def ly_kq (Z : ly_Z) (r : Nat) (c : ly_e → Bool) : ly_K := Z.2.2.2.filter fun q => Nat.beq q.1 r && c q.2.1
def om_qa (b : Bool) (Z : ly_Z) : ly_K := bif ly_k1 Z 60020 ly_i0 && b then [(60020, ly_i0, ly_i1)] else []
abbrev ly_i30 : ly_e := (30, [])
/-- a cell of a clause that is being read, or copied -/
def om_cl (Z : ly_Z) (i : ly_e) : ly_K := om_qa ((match ly_kget 23296 ly_i30 Z.2.2.2 with
    | some M => ly_z Z (ly_sub i (ly_add (1200, []) M)) && ly_z Z M
    | none => false) || (match ly_kz Z 19989 with
    | some A => ly_z Z (ly_sub (29, []) A) && (ly_z Z (ly_sub i (ly_scl 40 A)) && ly_z Z (ly_sub (ly_add (39, []) (ly_scl 40 A)) i))
    | none => false)) Z ++ (match ly_kz Z 19989 with
    | some A => ly_kq Z 60070 fun k => ly_z Z (ly_sub i (ly_add (ly_scl 40 A) k)) && ly_z Z (ly_sub (ly_add (39, []) (ly_scl 40 A)) i)
    | none => [])
def om_cstep (Z : ly_Z) (i v : ly_e) : ly_K := (match ly_kget 23296 ly_i30 Z.2.2.2, ly_kz Z 20012 with
    | some M, some u => bif ly_eq i (ly_add (1200, []) M) && (ly_eq v u && (ly_z Z v && ly_z Z (ly_sub (820, []) v))) then [(60060, ly_i0, ly_i0)] else []
    | _, _ => []) ++ om_cl Z i
def om_step (Z : ly_Z) (i : ly_e) : ly_K := om_qa ((match ly_kz Z 20012 with
    | some u => ly_z Z (ly_sub i (ly_add (24600, []) u)) && ly_z Z u
    | none => false) || (match ly_kz Z 19989 with
    | some A => ly_z Z (ly_sub (29, []) A) && (ly_z Z (ly_sub i (ly_scl 820 A)) && ly_z Z (ly_sub (ly_add (819, []) (ly_scl 820 A)) i))
    | none => false)) Z ++ ((match ly_kz Z 20012 with
    | some u => bif ly_eq i (ly_add (24600, []) u) then ly_kp Z [(60060, ly_i0)] else []
    | none => []) ++ (match ly_kz Z 19989 with
    | some A => ly_kq Z 60071 fun k => ly_z Z (ly_sub i (ly_add (ly_scl 820 A) k)) && ly_z Z (ly_sub (ly_add (819, []) (ly_scl 820 A)) i)
    | none => []))
/-- what a step does to the stack -/
def om_dp (Z : ly_Z) (t g : ly_e) : Option ly_e := bif ly_z Z t then (bif ly_z Z (ly_sub (63, []) g) then some (ly_add ly_i1 g) else none) else (match ly_con Z.2.1 t with
  | some c => bif sx_le 0 c then none else bif sx_eq c (-3) then (bif ly_z Z (ly_add (-1, []) g) then some g else none) else bif ly_z Z (ly_add (-2, []) g) then some (ly_add (-1, []) g) else none
  | none => none)
def om_steps (Z : ly_Z) (i w : ly_e) : ly_K := bif ly_eq i ly_i0 then (match ly_kz Z 20012 with
  | some u => om_qa (ly_z Z (ly_sub w u) || (match ly_kc Z 23296 ly_i30 with
      | some c => sx_eq c 0
      | none => false)) Z ++ (bif ly_eq w (ly_add ly_i1 u) && ly_z Z (ly_sub (820, []) w) then (match ly_kget 26880 (ly_add (24600, []) u) Z.2.2.2, ly_kz Z 60060 with
      | some t, some g => (match om_dp Z t g with
        | some g => [(60060, ly_i0, g)]
        | none => [])
      | _, _ => []) else [])
  | none => om_qa (match ly_kc Z 23296 ly_i30 with
      | some c => sx_eq c 0
      | none => false) Z) else []
def om_good (Z : ly_Z) (M : ly_e) : Bool := match ly_kget 23552 (ly_add (1200, []) M) Z.2.2.2, ly_kget 24064 (ly_add (1200, []) M) Z.2.2.2, ly_kget 24576 (ly_add (1200, []) M) Z.2.2.2 with
  | some k, some n, some m => (ly_z Z (ly_sub (12, []) n) || (ly_nek Z k 7 && ly_nek Z k 10)) && ((ly_z Z (ly_sub (8, []) m) || ly_nek Z k 1) && ((ly_nek Z k 0 || ly_k1 Z 60061 ly_i0) && (ly_z Z M && ly_z Z (ly_sub (39, []) M))))
  | _, _, _ => false
def om_many (Z : ly_Z) (i v : ly_e) : ly_K := om_qa ((ly_eq i ly_i30 && ly_eq v ly_i0) || ((ly_eq i ly_i30 && (match ly_kget 23296 ly_i30 Z.2.2.2 with
    | some M => ly_eq v (ly_add ly_i1 M) && om_good Z M
    | none => false)) || (match ly_kz Z 19989 with
    | some A => ly_eq i A && ly_z Z (ly_sub (29, []) A)
    | none => false))) Z
def om_macts (Z : ly_Z) (i v : ly_e) : ly_K := match ly_kz Z 19989 with
  | some A => om_qa (ly_eq i ly_i0 && (ly_eq v (ly_add ly_i1 A) && (ly_z Z (ly_sub (29, []) A) && (ly_k1 Z 60070 (40, []) && (ly_k1 Z 60071 (820, []) && (match ly_kget 23296 A Z.2.2.2, ly_kget 23296 ly_i30 Z.2.2.2 with
    | some n, some m => ly_eq n m || (ly_z Z (ly_sub n m) && ly_z Z (ly_sub m n))
    | _, _ => false)))))) Z
  | none => []
def ly_om (Z : ly_Z) (r : Nat) (i v : ly_e) : ly_K := match ly_dg r with
  | [] => []
  | _ => bif Nat.beq r 45319 || (Nat.beq r 45313 || (Nat.beq r 30464 || (Nat.beq r 28416 || (Nat.beq r 27904 || (Nat.beq r 27392 || Nat.beq r 27648))))) then [] else bif Nat.beq r 3584 then om_acts Z i v else bif Nat.beq r 3588 then om_clauses Z i v else bif Nat.beq r 4352 then om_firsts Z i v else bif Nat.beq r 5376 then om_owners Z i v else bif Nat.beq r 6151 then om_waits Z i v else bif Nat.beq r 6400 then om_waiting Z i v else bif Nat.beq r 19989 then om_macts Z i v else bif Nat.beq r 23296 then om_many Z i v else bif Nat.beq r 24832 then om_cstep Z i v else bif Nat.beq r 26880 then om_step Z i else bif Nat.beq r 20012 then om_steps Z i v else om_cl Z i
/-- a clause that is in an act: below the end of some act -/
def ri_st (Z : ly_Z) (x : ly_e) : Bool := match ly_kz Z 3584 with
  | some A => Z.2.2.2.any fun q => Nat.beq q.1 4352 && (ly_z Z (ly_add (-1, []) q.2.1) && (ly_z Z (ly_sub A q.2.1) && (ly_z Z (ly_add (-1, []) (ly_sub q.2.2 x)) && ly_z Z x)))
  | none => false
def ri_in (κ : Int) (Z : ly_Z) (x : ly_e) : Bool := match ly_kz Z 19989, ly_kc Z 23552 x with
  | some A, some k => sx_eq k κ && Z.2.2.2.any fun q => Nat.beq q.1 23296 && (ly_z Z q.2.1 && (ly_z Z (ly_sub (ly_add (-1, []) A) q.2.1) && (ly_z Z (ly_sub x (ly_scl 40 q.2.1)) && (ly_z Z (ly_sub (ly_add (-1, []) (ly_add (ly_scl 40 q.2.1) q.2.2)) x) && ly_z Z (ly_sub (40, []) q.2.2)))))
  | _, _ => false
/-- the first cell of a region that is known -/
def ly_k1st (r : Nat) : ly_K → Option (ly_e × ly_e)
  | [] => none
  | q :: K => bif Nat.beq q.1 r then some q.2 else ly_k1st r K
/-- the step that is at hand: the clause, how many are behind it, what stands on the stack, the step -/
def ly_hand (Z : ly_Z) : Option (ly_e × ly_e × ly_e × ly_e × ly_e) := match ly_k1st 60030 Z.2.2.2, ly_k1st 60050 Z.2.2.2 with
  | some (c, _), some (y, d) => (match ly_kget 24832 c Z.2.2.2, ly_kget 25088 c Z.2.2.2, ly_kget 62040 c Z.2.2.2 with
    | some s, some L, some q => bif ly_k1 Z 60030 c && (ly_k1 Z 60020 ly_i0 && (ly_z Z (ly_sub y (ly_scl 1024 c)) && (ly_z Z (ly_sub (ly_add (-1, []) (ly_add (ly_scl 1024 c) L)) y) && ly_z Z (ly_sub (ly_add (1022, []) (ly_scl 1024 c)) y)))) then some (c, y, d, ly_add (ly_scl 820 q) (ly_add s (ly_sub y (ly_scl 1024 c))), L) else none
    | _, _, _ => none)
  | _, _ => none
def ri_d0 (Z : ly_Z) (x : ly_e) : Bool := match ly_k1st 60030 Z.2.2.2 with
  | some (c, _) => ly_k1 Z 60030 c && (ly_k1 Z 60020 ly_i0 && ly_eq x (ly_scl 1024 c))
  | none => false
def ri_dp (Z : ly_Z) (x : ly_e) : Option ly_e := bif ri_d0 Z x then some ly_i0 else (match ly_hand Z with
    | some (_, y, d, j, _) => bif ly_eq x (ly_add ly_i1 y) then (match ly_kget 26880 j Z.2.2.2 with
      | some t => om_dp Z t d
      | none => none) else none
    | none => none)
def ri_dn (Z : ly_Z) : Bool := match ly_kget 23296 ly_i30 Z.2.2.2, ly_kz Z 20012, ly_kz Z 60060 with
  | some M, some u, some _ => (match ly_kget 24832 (ly_add (1200, []) M) Z.2.2.2, ly_kget 25088 (ly_add (1200, []) M) Z.2.2.2 with
    | some b, some l => ly_eq l (ly_sub u b)
    | _, _ => false)
  | _, _, _ => false
def ly_same (Z : ly_Z) (r : Nat) (i j : ly_e) : Bool := match ly_kget r i Z.2.2.2, ly_kget r j Z.2.2.2 with
  | some v, some w => ly_eq v w
  | _, _ => false
/-- a cell that is known by an index of the same number -/
def ly_k1e (Z : ly_Z) (r : Nat) (x : ly_e) : Bool := match ly_con Z.2.1 x with
  | some a => Z.2.2.2.any fun q => Nat.beq q.1 r && ((match ly_con Z.2.1 q.2.1 with
    | some b => sx_eq a b
    | none => false) && (match ly_con Z.2.1 q.2.2 with
    | some b => sx_eq b 1
    | none => false))
  | none => false
def ri_cp (Z : ly_Z) (x : ly_e) : Bool := match ly_kz Z 19989 with
  | some A => (ly_eq x ly_i0 && (ly_z Z A && ly_z Z (ly_sub (29, []) A))) || (match ly_k1st 60070 Z.2.2.2 with
    | some (y, _) => ly_k1 Z 60070 y && (ly_eq x (ly_add ly_i1 y) && (ly_same Z 23552 (ly_add (ly_scl 40 A) y) (ly_add (1200, []) y) && (ly_same Z 24064 (ly_add (ly_scl 40 A) y) (ly_add (1200, []) y) && (ly_same Z 24576 (ly_add (ly_scl 40 A) y) (ly_add (1200, []) y) && (ly_same Z 24832 (ly_add (ly_scl 40 A) y) (ly_add (1200, []) y) && ly_same Z 25088 (ly_add (ly_scl 40 A) y) (ly_add (1200, []) y))))))
    | none => false)
  | none => false
def ri_sp (Z : ly_Z) (x : ly_e) : Bool := match ly_kz Z 19989 with
  | some A => (ly_eq x ly_i0 && (ly_z Z A && ly_z Z (ly_sub (29, []) A))) || (match ly_k1st 60071 Z.2.2.2 with
    | some (y, _) => ly_k1 Z 60071 y && (ly_eq x (ly_add ly_i1 y) && ly_same Z 26880 (ly_add (ly_scl 820 A) y) (ly_add (24600, []) y))
    | none => false)
  | none => false
def ri_b (b : Bool) (Z : ly_Z) (r : Nat) (x : ly_e) : Option (ly_Z × ly_e) := bif b then ly_fe x fun x => (match Z with
  | (n, B, F, K) => some ((n, B, F, (r, x, ly_i1) :: K), ly_i1)) else none
def ly_ri (Z : ly_Z) (r : Nat) (x : ly_e) : Option (ly_Z × ly_e) := bif Nat.beq r 60012 then ri_b (ri_st Z x) Z r x else bif Nat.beq r 60081 then ri_b (ri_cl Z x) Z r x else bif Nat.beq r 60050 then (match ri_dp Z x with
  | some d => ly_fe x fun x => ly_fe d fun d => (match Z with
    | (n, B, F, K) => some ((n, B, F, (r, x, d) :: K), d))
  | none => none) else bif Nat.beq r 60061 then ri_b (ly_eq x ly_i0 && ri_dn Z) Z r x else bif Nat.beq r 60070 then ri_b (ly_k1e Z r x || ri_cp Z x) Z r x else bif Nat.beq r 60071 then ri_b (ly_k1e Z r x || ri_sp Z x) Z r x else bif Nat.ble 60030 r && Nat.ble r 60040 then ri_b (ri_in (.ofNat (r - 60030)) Z x) Z r x else none
def rr_owners (i : ly_e) (Z : ly_Z) : List ly_Z := match ly_kget 5376 i Z.2.2.2 with
  | some v => (match ly_kz Z 3584 with
    | some a => bif ly_k1 Z 60010 ly_i0 && ly_k1 Z 60012 i then (ly_as Z (ly_sub (ly_add (-1, []) a) v)).toList else [Z]
    | none => [Z])
  | none => [Z]
def rr_waits (Z : ly_Z) : List ly_Z := match ly_kz Z 6151, ly_kz Z 60082 with
  | some n, some b => bif ly_k1 Z 60080 ly_i0 then (match ly_as Z (ly_sub n b) with
    | some Z => (ly_as Z (ly_sub (ly_add (bif ly_k1 Z 60081 ly_i0 then ly_i0 else bif ly_k1 Z 60081 ly_i1 then ly_i1 else bif ly_k1 Z 60081 (2, []) then (2, []) else (3, [])) (ly_scl 4 b)) n)).toList
    | none => []) else [Z]
  | _, _ => [Z]
def rr_le (b : Bool) (r : Nat) (c : Int) (i : ly_e) (Z : ly_Z) : List ly_Z := match ly_kget r i Z.2.2.2 with
  | some v => bif b && ly_k1 Z 60020 ly_i0 then (ly_as Z (ly_sub (c, []) v)).toList else [Z]
  | none => [Z]
def rr_two (Z : ly_Z) (a b : ly_e) : List ly_Z := match ly_as Z a with
  | some Z => (ly_as Z b).toList
  | none => []
def rr_step (i : ly_e) (Z : ly_Z) : List ly_Z := match ly_hand Z with
  | some (_, _, d, j, _) => bif ly_eq i j then (match ly_kget 26880 i Z.2.2.2 with
    | some t => rr_two Z t (ly_sub (63, []) d) ++ (rr_two Z (ly_sub (-4, []) t) (ly_add (-2, []) d) ++ ((match ly_as Z (ly_add (2, []) t) with
      | some Z => rr_two Z (ly_sub (-1, []) t) (ly_add (-2, []) d)
      | none => []) ++ (match ly_as Z (ly_add (3, []) t) with
      | some Z => rr_two Z (ly_sub (-3, []) t) (ly_add (-1, []) d)
      | none => [])))
    | none => [Z]) else [Z]
  | none => [Z]
/-- the bits of a number, one behind the other -/
def ly_bit (Z : ly_Z) (n : ly_e) (c : Nat) : Option ly_e := match ly_kget (62000 + c) n Z.2.2.2 with
  | some q => ly_kget 63001 q Z.2.2.2
  | none => none
def ly_who (x : ly_e) : ly_K → Option ly_e
  | [] => none
  | q :: K => bif Nat.beq q.1 62032 && ly_eq q.2.2 x then some q.2.1 else ly_who x K
def rr_bits (x : ly_e) (Z : ly_Z) : List ly_Z := match ly_who x Z.2.2.2 with
  | some n => (match ly_bit Z n 1, ly_bit Z n 2, ly_bit Z n 4, ly_bit Z n 8, ly_bit Z n 16, ly_bit Z n 32 with
    | some a, some b, some c, some d, some e, some f => bif ly_z Z (ly_add (-1, []) n) && ly_z Z (ly_sub (63, []) n) then (ly_as Z (ly_add (-1, []) (ly_add a (ly_add b (ly_add c (ly_add d (ly_add e f))))))).toList else [Z]
    | _, _, _, _, _, _ => [Z])
  | none => [Z]
def ly_rr (r : Nat) (i : ly_e) (Z : ly_Z) : List ly_Z := bif Nat.beq r 5376 then rr_owners i Z else bif Nat.beq r 6151 then (bif ly_eq i ly_i0 then rr_waits Z else [Z]) else bif Nat.beq r 24064 then rr_le (ly_k1 Z 60037 i || ly_k1 Z 60040 i) 24064 12 i Z else bif Nat.beq r 24576 then rr_le (ly_k1 Z 60031 i) 24576 8 i Z else bif Nat.beq r 26880 then rr_step i Z else bif Nat.beq r 63001 then rr_bits i Z else [Z]
