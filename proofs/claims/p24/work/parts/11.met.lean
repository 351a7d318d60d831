section AM10
variable {D : va_G} {cl : List vw_C} {tys : List FieldType} {ca : FieldType → ClassId} {kd : Nat → Nat} {base : Nat} {A : Nat → Prop} {cst : am_K} {sn : List (Nat × String × String × String)} {sr : am_SR} {strs : List Nat} {lens : List Nat} {byts : List (List Int32)} {adV : Nat → Nat} {tt : List (List FieldType)} {P : List am_M} {Ts : List Cond} {bi : Nat → List Value → am_H → am_Q → Prop} {l0 : Launch}
/-- the tables of all methods -/
def am_tabs (cl : List vw_C) (tys : List FieldType) (P : List am_M) (Ts : List Cond) (sn : List (Nat × String × String × String)) (sr : am_SR) : Prop :=
  ∀ (mi : Nat) (M : am_M), P[mi]? = some M → plainFor M.1 = true ∧ am_tab cl tys P Ts sn sr M (M.1.name == "<init>")
theorem am_r_end {p : Program} {e : Env} {R : Room} {s : State} {m : MethodId} {args : Array Value} {below : List Frame} {meth : Method} {c : Code} {H : Heap} {locs : List Loc} {cells slots : Nat} {cc : ByteArray} {pc : Nat} {ls : Array Slot} {ret : Option FieldType} {I : Instr} {X : am_X} {st : List Value} {v : Option Value} {f : Nat → Nat} {Qc : Array Value → State → Outcome → State → Prop} {free : Addr → Prop}
    (hx : p.tables.exec = Jvm.exec) (hb : c.code = cc) (hr : meth.sig.returnType = ret) (hlocks : meth.locks = false) (hd : decode cc pc = .ok (I, am_len X I)) (hv : am_r ret I st = some v)
    (hq : ∀ t : State, t.heap = H → s.WarmedH t.vm → Qc args s (.returned (v.map (am_v f))) t) (hf : ∀ q ∈ locs, free q.base) :
    W p l0 e R s m args below meth c H locs cells slots (MQ below Qc args s cells slots free) (F0 m pc ls (st.map (am_v f))) := by
  cases I with
  | ireturn =>
    simp only [am_r] at hv
    split at hv
    case h_2 => cases hv
    rename_i x
    split at hv
    · cases hv
      exact W.iret hx hb hr hq hf hd hlocks
    · by_cases h01 : x = 0 ∨ x = 1
      case neg => rw [if_neg h01] at hv; cases hv
      rw [if_pos h01] at hv
      cases hv
      refine W.zret (ty := .boolean) hx hb hr ?_ hq hf hd hlocks
      rcases h01 with rfl | rfl
      · exact (by decide : narrow .boolean (.int 0) = .int 0)
      · exact (by decide : narrow .boolean (.int 1) = .int 1)
    · by_cases h01 : x.toInt8.toInt32 = x
      case neg => rw [if_neg h01] at hv; cases hv
      rw [if_pos h01] at hv
      cases hv
      exact W.zret (ty := .byte) hx hb hr (congrArg Value.int h01) hq hf hd hlocks
    · by_cases h01 : x.toUInt32.toUInt16.toUInt32.toInt32 = x
      case neg => rw [if_neg h01] at hv; cases hv
      rw [if_pos h01] at hv
      cases hv
      exact W.zret (ty := .char) hx hb hr (congrArg Value.int h01) hq hf hd hlocks
    · cases hv
  | lreturn =>
    simp only [am_r] at hv
    split at hv
    case h_2 => cases hv
    by_cases h1 : ret = some .long
    case neg => rw [if_neg h1] at hv; cases hv
    rw [if_pos h1] at hv
    cases hv
    exact W.lret hx hb (hr.trans h1) hq hf hd hlocks
  | areturn =>
    simp only [am_r] at hv
    split at hv
    · split at hv
      · cases hv
        exact W.aret hx hb hr (Or.inl ⟨_, rfl⟩) (Or.inr ⟨_, rfl⟩) hq hf hd hlocks
      · cases hv
        exact W.aret hx hb hr (Or.inr ⟨_, rfl⟩) (Or.inr ⟨_, rfl⟩) hq hf hd hlocks
      · cases hv
    · split at hv
      · cases hv
        exact W.aret hx hb hr (Or.inl ⟨_, rfl⟩) (Or.inl rfl) hq hf hd hlocks
      · cases hv
        exact W.aret hx hb hr (Or.inr ⟨_, rfl⟩) (Or.inl rfl) hq hf hd hlocks
      · cases hv
    · cases hv
  | return_ =>
    simp only [am_r] at hv
    split at hv
    case h_2 => cases hv
    by_cases h1 : ret = none
    case neg => rw [if_neg h1] at hv; cases hv
    rw [if_pos h1] at hv
    cases hv
    exact W.vret hx hb (hr.trans h1) hq hf hd hlocks
  | _ => simp [am_r] at hv
set_option maxHeartbeats 4000000 in
/-- every run is a contract -/
theorem am_met (hC : am_ctx cl tys tt P Ts) (hP : am_tabs cl tys P Ts sn sr) (hA : ∀ q, base ≤ q → A q)
    (hbi : ∀ (d mi : Nat) (M : am_M) (av : List Value) (h : am_H) (r : am_Q), 3 ≤ d → P[mi]? = some M → bi mi av h r →
      Met l0 M.1 (Cond.code M.1 M.2.1 M.2.2.1 M.2.2.2.1 :: Ts) ({ frames := d + 1, cells := r.2.2.1, slots := r.2.2.2, locals := 200 * (d + 1) } : Room) (am_Pc D cl tys ca kd base A cst sn sr strs lens byts adV av h) (am_Qc D cl tys ca kd base A r) r.2.2.1 r.2.2.2 A) :
    ∀ d : Nat, am_calls D cl tys ca kd base A cst sn sr strs lens byts adV P Ts l0 d (am_Run cst cl tt P strs bi d) := by
  intro d
  induction d with
  | zero => intro mi M av h r hM hrun; exact hrun.elim
  | succ d ih =>
    intro mi M av h r hM hrun
    rcases hrun with ⟨hd, hb⟩ | ⟨M', n, hM', hsl, hgo⟩
    · exact hbi d mi M av h r hd hM hb
    cases hM.symm.trans hM'
    obtain ⟨hpl, htab⟩ := hP mi M hM
    refine va_MetF (cc := M.2.1) (maxL := M.2.2.1) (ret := M.2.2.2.1) hpl rfl ?_
    intro p e s m args below meth c s₁ B hml hv
    obtain ⟨rfl, hR, hw⟩ := hv
    have hx := B.exec
    have hb := B.bytes
    have hr := B.returns
    have hts0 := atoms_spec (ws := Cond.code M.1 M.2.1 M.2.2.1 M.2.2.2.1 :: Ts) B.pre
    have hts : ∀ w ∈ Ts, w.before (av.map (am_v (am_ad kd base))).toArray s = true := fun w hw => hts0 w (List.mem_cons_of_mem _ hw)
    have hown : s.vm.findClass M.1.cls = some m.cls := findClass_of_methodNamed B.named
    have hlocks := B.notSynchronized
    have hl := lv_entry (av.map (am_v (am_ad kd base))) (n := M.2.2.1) (by rw [am_sl_len]; exact hsl)
    rw [am_args_lc] at hl
    rw [lg_entry_eq]
    refine am_sim (R := (headSpec (Cond.code M.1 M.2.1 M.2.2.1 M.2.2.2.1 :: Ts) ({ frames := d + 1, cells := r.2.2.1, slots := r.2.2.2, locals := 200 * (d + 1) } : Room)).room) (d := d) hx hb hml hts hown (fun hi => ?_) htab hC hw ih hA (Nat.le_refl (d + 1)) (Nat.le_of_eq (by show 200 * d + 200 = 200 * (d + 1); omega)) n 0 (lv_args 0 av) [] h r s.heap [] 0 0 _ hgo hl hR va_S.rf (by rw [Nat.zero_add]; exact Nat.le_refl r.2.2.1) (by rw [Nat.zero_add]; exact Nat.le_refl r.2.2.2) (fun pcr I X st' ls' H' locs' hf hv hR' hS' => ?_)
    · have := (name_of_methodNamed B.named B.method).1
      rw [this]
      simpa using hi
    · rw [Nat.zero_add, Nat.zero_add]
      exact am_r_end hx hb hr hlocks (htab pcr I X hf).1 hv (fun t ht _ => ⟨rfl, by rw [ht]; exact hR', hS'.F ht⟩) hS'.2.2
end AM10
