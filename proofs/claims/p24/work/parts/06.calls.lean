/-! answers: the value, the heap, the cells and the slots that were made -/
abbrev am_Q : Type := Option Value × am_H × Nat × Nat
def am_find (pc : Nat) : List (Nat × Instr × am_X) → Option (Instr × am_X)
  | [] => none
  | q :: L => if q.1 = pc then some q.2 else am_find pc L
/-- the value that a return hands out -/
def am_r (ret : Option FieldType) (I : Instr) (st : List Value) : Option (Option Value) :=
  match I with
  | .ireturn => match st with
    | [.int v] => match ret with
      | some .int => some (some (.int v))
      | some .boolean => if v = 0 ∨ v = 1 then some (some (.int v)) else none
      | some .byte => if v.toInt8.toInt32 = v then some (some (.int v)) else none
      | some .char => if v.toUInt32.toUInt16.toUInt32.toInt32 = v then some (some (.int v)) else none
      | _ => none
    | _ => none
  | .lreturn => match st with
    | [.long v] => if ret = some .long then some (some (.long v)) else none
    | _ => none
  | .areturn => match st with
    | [.ref a] => match ret with
      | some (.object _) => some (some (.ref a))
      | some (.array _) => some (some (.ref a))
      | _ => none
    | [.null] => match ret with
      | some (.object _) => some (some .null)
      | some (.array _) => some (some .null)
      | _ => none
    | _ => none
  | .return_ => match st with
    | [] => if ret = none then some none else none
    | _ => none
  | _ => none
/-- the receiver of a call: an object of the class, or a constant text -/
def am_rc (cl : List vw_C) (strs : List Nat) (C : String) (v : Value) (h : am_H) : Prop :=
  ∃ a, v = .ref a ∧ ((¬ a < 16 ∧ ∃ ci fs r, h[a - 16]? = some (.inr (ci, fs)) ∧ cl[ci]? = some r ∧ r.1 = C) ∨ (a < 16 ∧ a ∈ strs ∧ C = "java/lang/String"))
/-- a call by its table: N values off the stack, the first of them below -/
def am_c (cl : List vw_C) (P : List am_M) (strs : List Nat) (I : Instr) (X : am_X) (st : List Value) (h : am_H) : Prop :=
  X.2.1 ≤ st.length ∧ ((st.drop X.2.1).map fun v => v.category).sum ≤ 8 ∧ X.2.2 = 0 ∧
  match I with
  | .invokestatic _ => True
  | .invokevirtual _ => ∃ v As M, (st.take X.2.1).reverse = v :: As ∧ P[X.1]? = some M ∧ am_rc cl strs M.1.cls v h
  | .invokespecial _ => ∃ a As, (st.take X.2.1).reverse = .ref a :: As
  | _ => False
/-- arraycopy of ints -/
def am_copy (I : Instr) (X : am_X) (st : List Value) (h : am_H) : Option (List Value × am_H) :=
  match I with
  | .invokestatic _ => if X.2.2 = 2 then (match st with
    | .int n :: .int dp :: .ref b :: .int sp :: .ref a :: st => if a < 16 ∨ b < 16 ∨ n < 0 ∨ dp < 0 ∨ sp < 0 ∨ ¬ (st.map fun v => v.category).sum ≤ 8 then none else (match h[a - 16]?, h[b - 16]? with
      | some (.inl (.int, n0, .inl f)), some (.inl (.int, n1, .inl g)) => if sp.toNatClampNeg + n.toNatClampNeg ≤ n0 ∧ dp.toNatClampNeg + n.toNatClampNeg ≤ n1 then some (st, h.set (b - 16) (.inl (.int, n1, .inl (va_cpy f g sp.toNatClampNeg dp.toNatClampNeg n.toNatClampNeg)))) else none
      | _, _ => none)
    | _ => none) else none
  | _ => none
/-- Object's own constructor -/
def am_obj (I : Instr) (X : am_X) (st : List Value) : Option (List Value) :=
  match I with
  | .invokespecial _ => if X.2.2 = 1 then (match st with
    | .ref _ :: st => if (st.map fun v => v.category).sum ≤ 8 then some st else none
    | _ => none) else none
  | _ => none
section AM4
variable (cst : am_K) (cl : List vw_C) (tt : List (List FieldType)) (P : List am_M) (strs : List Nat) (call : Nat → List Value → am_H → am_Q → Prop) (M : am_M)
/-- a run of a method from a point to its end, within n instructions of its own -/
def am_Go : Nat → Nat → am_L → List Value → am_H → am_Q → Prop
  | 0, _, _, _, _, _ => False
  | n + 1, pc, l, st, h, r => ∃ I X, am_find pc M.2.2.2.2 = some (I, X) ∧
      ((∃ F, am_s cst cl tt I X pc l st h = some F ∧ am_Go n F.1 F.2.1 F.2.2.1 F.2.2.2 r) ∨
       (∃ F k r1, am_a cl tt I X pc l st h = some (F, k) ∧ am_Go n F.1 F.2.1 F.2.2.1 F.2.2.2 r1 ∧ r = (r1.1, r1.2.1, 1 + r1.2.2.1, k + r1.2.2.2)) ∨
       (∃ v, am_r M.2.2.2.1 I st = some v ∧ r = (v, h, 0, 0)) ∨
       (∃ r1 r2, am_c cl P strs I X st h ∧ call X.1 (st.take X.2.1).reverse h r1 ∧ am_Go n (pc + 3) l (r1.1.toList ++ st.drop X.2.1) r1.2.1 r2 ∧ r = (r2.1, r2.2.1, r1.2.2.1 + r2.2.2.1, r1.2.2.2 + r2.2.2.2)) ∨
       (∃ st1, am_obj I X st = some st1 ∧ am_Go n (pc + 3) l st1 h r) ∨
       (∃ st1 h1, am_copy I X st h = some (st1, h1) ∧ am_Go n (pc + 3) l st1 h1 r))
end AM4
/-- what a table must say of a call -/
def am_okc (P : List am_M) (Ts : List Cond) (sr : am_SR) (own : String) (X : am_X) : Instr → Prop
  | .invokevirtual i => X.2.2 = 0 → ∃ M, P[X.1]? = some M ∧ Cond.instanceMethod M.1 ∈ Ts ∧ Cond.selects M.1.cls M.1 M.1 ∈ Ts ∧ Cond.initialized M.1.cls ∈ Ts ∧ (M.1.cls ≠ "java/lang/invoke/MethodHandle" ∧ M.1.cls ≠ "java/lang/invoke/VarHandle" ∧ (parseMethodDescriptor M.1.desc).map (fun d => d.parameters.length + 1) = some X.2.1) ∧ (Cond.methodLink own i M.1 ∈ Ts ∨ ∃ host, (own, i, M.1, host) ∈ sr.2)
  | .invokestatic i => (X.2.2 = 0 → ∃ M, P[X.1]? = some M ∧ Cond.static M.1 ∈ Ts ∧ Cond.initialized M.1.cls ∈ Ts ∧ (M.1.cls ≠ "java/lang/invoke/MethodHandle" ∧ M.1.cls ≠ "java/lang/invoke/VarHandle" ∧ (parseMethodDescriptor M.1.desc).map (fun d => d.parameters.length) = some X.2.1) ∧ (Cond.methodLink own i M.1 ∈ Ts ∨ ∃ host, (own, i, M.1, host) ∈ sr.2)) ∧
      (X.2.2 = 2 → Cond.methodLink own i arraycopyName ∈ Ts ∧ Cond.native arraycopyName ∈ Ts ∧ Cond.static arraycopyName ∈ Ts ∧ Cond.initialized "java/lang/System" ∈ Ts)
  | .invokespecial i => (X.2.2 = 0 → ∃ M, P[X.1]? = some M ∧ M.1.name = "<init>" ∧ M.2.2.2.1 = none ∧ Cond.instanceMethod M.1 ∈ Ts ∧ Cond.initialized M.1.cls ∈ Ts ∧ (M.1.cls ≠ "java/lang/invoke/MethodHandle" ∧ M.1.cls ≠ "java/lang/invoke/VarHandle" ∧ (parseMethodDescriptor M.1.desc).map (fun d => d.parameters.length + 1) = some X.2.1) ∧ (Cond.methodLink own i M.1 ∈ Ts ∨ ∃ host, (own, i, M.1, host) ∈ sr.2)) ∧
      (X.2.2 = 1 → Cond.methodLink own i Lib.objectInit ∈ Ts ∧ Cond.instanceMethod Lib.objectInit ∈ Ts ∧ Cond.code Lib.objectInit ⟨#[0xb1]⟩ 1 none ∈ Ts)
  | _ => True
/-- what holds of the tables and constants at every method's entry -/
def am_W (D : va_G) (cl : List vw_C) (tys : List FieldType) (ca : FieldType → ClassId) (kd : Nat → Nat) (A : Nat → Prop) (cst : am_K) (sn : List (Nat × String × String × String)) (sr : am_SR) (strs : List Nat) (lens : List Nat) (byts : List (List Int32)) (adV : Nat → Nat) (U : State) : Prop :=
  va_K D cl [] U ∧ (∀ ty ∈ tys, ArrOfT U (ca ty) ty ∧ va_RA U (ca ty) ty) ∧
  (∀ (a : Nat) (L : List Int32), a < 16 → cst.1[a]? = some L → va_T .int (kd a) L.length (fun j => .int (L.getD j 0)) A U U.heap) ∧
  (∀ (a : Nat) (C n d : String), (a, C, n, d) ∈ sn → va_Z C n d (am_v kd (am_sv cst a)) A U U.heap) ∧
  (∀ (o : String) (i : Nat) (tx : String) (a : Nat), (o, i, tx, a) ∈ sr.1 → vk_R o i tx (kd a) U) ∧
  (∀ a ∈ strs, va_O "java/lang/String" (kd a) A U U.heap) ∧
  am_tx kd A cst U ∧ (∀ q ∈ sr.2, va_Nw (.methodLinkNest q.1 q.2.1 q.2.2.1 q.2.2.2) U) ∧ ∀ C, .object C ∈ tys → va_AO C U
section AM5
variable {D : va_G} {cl : List vw_C} {tys : List FieldType} {ca : FieldType → ClassId} {kd : Nat → Nat} {A : Nat → Prop} {cst : am_K} {sn : List (Nat × String × String × String)} {sr : am_SR} {strs : List Nat} {lens : List Nat} {byts : List (List Int32)} {adV : Nat → Nat}
theorem am_W.to {s U : State} (hw : am_W D cl tys ca kd A cst sn sr strs lens byts adV s) (hW : s.WarmedH U.vm) (hq : ∀ a : Nat, a < s.heap.size → ¬ A a → U.heap[a]? = s.heap[a]?) : am_W D cl tys ca kd A cst sn sr strs lens byts adV U := by
  obtain ⟨h1, h2, h3, h4, h5, h6, h7, h8, h9⟩ := hw
  have ha := hW.alike
  exact ⟨h1.moved ha, fun ty ht => ⟨arrOfT_moved ha (h2 ty ht).1, (h2 ty ht).2.moved ha⟩, fun a L x y => ((h3 a L x y).moved ha).kept hq, fun a C n d x => ((h4 a C n d x).moved ha).kept hq, fun o i tx a x => (h5 o i tx a x).warm hW, fun a x => ((h6 a x).moved ha).kept hq, fun i L x => ⟨((h7 i L x).1.moved ha).kept hq, ((h7 i L x).2.1.moved ha).kept hq, ((h7 i L x).2.2.moved ha).kept hq⟩, fun q hx => va_Nw.warmM hW (h8 q hx), fun C hC => va_AO.moved ha (h9 C hC)⟩
theorem am_W.call {U : State} {g : JFrame} {mk : MethodId} {a : Array Value} (hw : am_W D cl tys ca kd A cst sn sr strs lens byts adV U) : am_W D cl tys ca kd A cst sn sr strs lens byts adV (U.calling g mk a) := by
  obtain ⟨h1, h2, h3, h4, h5, h6, h7, h8, h9⟩ := hw
  have ha : U.vm.Alike (U.calling g mk a).vm := Vm.Alike.refl U.vm
  exact ⟨h1.moved ha, fun ty ht => ⟨arrOfT_moved ha (h2 ty ht).1, (h2 ty ht).2.moved ha⟩, fun a L x y => (h3 a L x y).moved ha, fun a C n d x => (h4 a C n d x).moved ha, fun o i tx a x => (h5 o i tx a x).same rfl, fun a x => (h6 a x).moved ha, fun i L x => ⟨(h7 i L x).1.moved ha, (h7 i L x).2.1.moved ha, (h7 i L x).2.2.moved ha⟩, fun q hx => va_Nw.same rfl rfl (h8 q hx), fun C hC => va_AO.moved ha (h9 C hC)⟩
end AM5
