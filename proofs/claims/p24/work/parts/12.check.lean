/-! the check of the tables by program: link lists of a class, each with its place among the words -/
/-- fields read, fields written (0: not final, 1: final, in a constructor), int constants, long constants, texts, statics, classes made, arrays of a class, element types, virtual, static, constructors, Object's constructor, arraycopy -/
abbrev am_LT : Type := List (Nat × Nat × Nat × Nat) × List (Nat × Nat × Nat × Nat × Nat) × List (Nat × Int × Nat) × List (Nat × Int × Nat) × List (Nat × Nat) × List (Nat × Nat × Nat) × List (Nat × Nat × Nat × Nat × Nat) × List (Nat × Nat × Nat × Nat) × List (ArrayType × Nat) × List (Nat × Nat × Nat × Nat × Nat × Nat × Nat) × List (Nat × Nat × Nat × Nat × Nat × Nat) × List (Nat × Nat × Nat × Nat × Nat × Nat) × List (Nat × Nat × Nat × Nat) × List (Nat × Nat × Nat × Nat × Nat)
/-- the words in chunks; a place is 1000 times the chunk's and the place in it -/
def am_hit (Tc : List (List Cond)) (p : Nat) (w : Cond) : Bool :=
  match Tc[p / 1000]? with
  | some c => decide (c[p % 1000]? = some w) && goodWord w
  | none => false
theorem am_hit_mem {Ts : List Cond} {Tc : List (List Cond)} (hc : ∀ c ∈ Tc, ∀ w ∈ c, goodWord w = true → w ∈ Ts) {p : Nat} {w : Cond} (h : am_hit Tc p w = true) : w ∈ Ts := by
  unfold am_hit at h
  split at h
  · rename_i c hx
    rw [Bool.and_eq_true] at h
    exact hc c (List.mem_of_getElem? hx) w (List.mem_of_getElem? (of_decide_eq_true h.1)) h.2
  · cases h
/-- a link to a method, plain or of a nest mate -/
def am_hitM (Tc : List (List Cond)) (nl : List (String × Nat × MethodName × String)) (p : Nat) (own : String) (i : Nat) (y : MethodName) : Bool :=
  am_hit Tc p (.methodLink own i y) || nl.any fun z => decide (z.1 = own ∧ z.2.1 = i ∧ z.2.2.1 = y)
theorem am_hitM_mem {Ts : List Cond} {Tc : List (List Cond)} (hc : ∀ c ∈ Tc, ∀ w ∈ c, goodWord w = true → w ∈ Ts) {nl : List (String × Nat × MethodName × String)} {p i : Nat} {own : String} {y : MethodName} (h : am_hitM Tc nl p own i y = true) : Cond.methodLink own i y ∈ Ts ∨ ∃ host, (own, i, y, host) ∈ nl := by
  unfold am_hitM at h
  rw [Bool.or_eq_true] at h
  rcases h with h | h
  · exact Or.inl (am_hit_mem hc h)
  · obtain ⟨z, hz, hq⟩ := List.any_eq_true.mp h
    obtain ⟨e1, e2, e3⟩ := of_decide_eq_true hq
    refine Or.inr ⟨z.2.2.2, ?_⟩
    rw [← e1, ← e2, ← e3]
    exact hz
def am_noMH (C : String) : Bool := decide (C ≠ "java/lang/invoke/MethodHandle" ∧ C ≠ "java/lang/invoke/VarHandle")
/-- the link lists of a class are as the words have them -/
def am_lkb (cl : List vw_C) (tys : List FieldType) (P : List am_M) (Tc : List (List Cond)) (sn : List (Nat × String × String × String)) (sr : am_SR) (own : String) (T : am_LT) : Bool :=
  (T.1.all fun q => if q.2.1 = 1001 then am_hit Tc q.2.2.2 (.fieldLink own q.1 "java/lang/String" "value" "[B") else if q.2.1 = 1002 then am_hit Tc q.2.2.2 (.fieldLink own q.1 "java/lang/String" "coder" "B") else match cl[q.2.1]? with
    | some r => decide (q.2.2.1 < r.2.2) && am_hit Tc q.2.2.2 (.fieldLink own q.1 (r.2.1 q.2.2.1).1 (r.2.1 q.2.2.1).2.1 (r.2.1 q.2.2.1).2.2.1)
    | none => false) &&
  ((T.2.1.all fun q => match cl[q.2.1]? with
    | some r => decide (q.2.2.1 < r.2.2) && am_hit Tc q.2.2.2.1 (.fieldLink own q.1 (r.2.1 q.2.2.1).1 (r.2.1 q.2.2.1).2.1 (r.2.1 q.2.2.1).2.2.1) && (if q.2.2.2.2 = 0 then decide ((r.2.1 q.2.2.1).2.2.2 = false) else decide ((r.2.1 q.2.2.1).2.2.2 = true ∧ (r.2.1 q.2.2.1).1 = own))
    | none => false) &&
  ((T.2.2.1.all fun q => am_hit Tc q.2.2 (.constant own q.1 (Int32.ofInt q.2.1))) &&
  ((T.2.2.2.1.all fun q => am_hit Tc q.2.2 (.constantLong own q.1 (Int64.ofInt q.2.1))) &&
  ((T.2.2.2.2.1.all fun q => sr.1.any fun z => decide (z.1 = own ∧ z.2.1 = q.1 ∧ z.2.2.2 = q.2)) &&
  ((T.2.2.2.2.2.1.all fun q => sn.any fun z => decide (z.1 = q.2.1) && am_hit Tc q.2.2 (.fieldLink own q.1 z.2.1 z.2.2.1 z.2.2.2)) &&
  ((T.2.2.2.2.2.2.1.all fun q => match cl[q.2.1]? with
    | some r => am_hit Tc q.2.2.1 (.classLink own q.1 r.1) && (am_hit Tc q.2.2.2.1 (.instantiable r.1 r.2.2) && am_hit Tc q.2.2.2.2 (.initialized r.1))
    | none => false) &&
  ((T.2.2.2.2.2.2.2.1.all fun q => match cl[q.2.1]? with
    | some r => am_hit Tc q.2.2.1 (.classLink own q.1 r.1) && decide (.object r.1 ∈ tys)
    | none => false) &&
  ((T.2.2.2.2.2.2.2.2.1.all fun q => am_hit Tc q.2 (.arrayClass (newarray.typeOf q.1)) && decide (newarray.typeOf q.1 ∈ tys)) &&
  ((T.2.2.2.2.2.2.2.2.2.1.all fun q => match P[q.2.1]? with
    | some M => am_noMH M.1.cls && (decide ((parseMethodDescriptor M.1.desc).map (fun d => d.parameters.length + 1) = some q.2.2.1) && (am_hitM Tc sr.2 q.2.2.2.1 own q.1 M.1 && (am_hit Tc q.2.2.2.2.1 (.instanceMethod M.1) && (am_hit Tc q.2.2.2.2.2.1 (.selects M.1.cls M.1 M.1) && am_hit Tc q.2.2.2.2.2.2 (.initialized M.1.cls)))))
    | none => false) &&
  ((T.2.2.2.2.2.2.2.2.2.2.1.all fun q => match P[q.2.1]? with
    | some M => am_noMH M.1.cls && (decide ((parseMethodDescriptor M.1.desc).map (fun d => d.parameters.length) = some q.2.2.1) && (am_hitM Tc sr.2 q.2.2.2.1 own q.1 M.1 && (am_hit Tc q.2.2.2.2.1 (.static M.1) && am_hit Tc q.2.2.2.2.2 (.initialized M.1.cls))))
    | none => false) &&
  ((T.2.2.2.2.2.2.2.2.2.2.2.1.all fun q => match P[q.2.1]? with
    | some M => decide (M.1.name = "<init>") && (decide (M.2.2.2.1 = none) && (am_noMH M.1.cls && (decide ((parseMethodDescriptor M.1.desc).map (fun d => d.parameters.length + 1) = some q.2.2.1) && (am_hitM Tc sr.2 q.2.2.2.1 own q.1 M.1 && (am_hit Tc q.2.2.2.2.1 (.instanceMethod M.1) && am_hit Tc q.2.2.2.2.2 (.initialized M.1.cls))))))
    | none => false) &&
  ((T.2.2.2.2.2.2.2.2.2.2.2.2.1.all fun q => am_hit Tc q.2.1 (.methodLink own q.1 Lib.objectInit) && (am_hit Tc q.2.2.1 (.instanceMethod Lib.objectInit) && am_hit Tc q.2.2.2 (.code Lib.objectInit ⟨#[0xb1]⟩ 1 none))) &&
  (T.2.2.2.2.2.2.2.2.2.2.2.2.2.all fun q => am_hit Tc q.2.1 (.methodLink own q.1 arraycopyName) && (am_hit Tc q.2.2.1 (.native arraycopyName) && (am_hit Tc q.2.2.2.1 (.static arraycopyName) && am_hit Tc q.2.2.2.2 (.initialized "java/lang/System"))))))))))))))))
/-- an instruction is one of a class' lists -/
def am_ckb (T : am_LT) (nL : Nat) (init : Bool) (q : Nat × Instr × am_X) : Bool :=
  match q.2.1 with
  | .getfield i => T.1.any fun z => z.1 == i && (if q.2.2.2.2 = 0 then decide (z.2.1 < 1000) && (z.2.1 == q.2.2.1 && z.2.2.1 == q.2.2.2.1) else if q.2.2.2.2 = 1 then z.2.1 == 1001 else z.2.1 == 1002)
  | .putfield i => T.2.1.any fun z => z.1 == i && (z.2.1 == q.2.2.1 && (z.2.2.1 == q.2.2.2.1 && (z.2.2.2.2 == 0 || init)))
  | .ldc i => if q.2.2.1 = 0 then T.2.2.1.any fun z => z.1 == i && decide (z.2.1 = q.2.2.2.2) else T.2.2.2.2.1.any fun z => z.1 == i && z.2 == q.2.2.2.1
  | .ldc_w i => if q.2.2.1 = 0 then T.2.2.1.any fun z => z.1 == i && decide (z.2.1 = q.2.2.2.2) else T.2.2.2.2.1.any fun z => z.1 == i && z.2 == q.2.2.2.1
  | .ldc2_w i => T.2.2.2.1.any fun z => z.1 == i && decide (z.2.1 = q.2.2.2.2)
  | .getstatic i => T.2.2.2.2.2.1.any fun z => z.1 == i && z.2.1 == q.2.2.2.1
  | .new i => T.2.2.2.2.2.2.1.any fun z => z.1 == i && z.2.1 == q.2.2.1
  | .anewarray i => T.2.2.2.2.2.2.2.1.any fun z => z.1 == i && z.2.1 == q.2.2.1
  | .newarray t => T.2.2.2.2.2.2.2.2.1.any fun z => decide (z.1 = t)
  | .invokevirtual i => T.2.2.2.2.2.2.2.2.2.1.any fun z => z.1 == i && (z.2.1 == q.2.2.1 && z.2.2.1 == q.2.2.2.1)
  | .invokestatic i => if q.2.2.2.2 = 0 then T.2.2.2.2.2.2.2.2.2.2.1.any fun z => z.1 == i && (z.2.1 == q.2.2.1 && z.2.2.1 == q.2.2.2.1) else decide (q.2.2.2.2 = 2) && T.2.2.2.2.2.2.2.2.2.2.2.2.2.any fun z => z.1 == i
  | .invokespecial i => if q.2.2.2.2 = 0 then T.2.2.2.2.2.2.2.2.2.2.2.1.any fun z => z.1 == i && (z.2.1 == q.2.2.1 && z.2.2.1 == q.2.2.2.1) else decide (q.2.2.2.2 = 1) && T.2.2.2.2.2.2.2.2.2.2.2.2.1.any fun z => z.1 == i
  | .istore i => decide (i < nL)
  | .istore_n i => decide ((i : Nat) < nL)
  | .astore i => decide (i < nL)
  | .astore_n i => decide ((i : Nat) < nL)
  | .lstore i => decide (i + 1 < nL)
  | .lstore_n i => decide ((i : Nat) + 1 < nL)
  | .iinc i _ => decide (i < nL)
  | _ => true
theorem am_find_mem {pc : Nat} {I : Instr} {X : am_X} : ∀ {L : List (Nat × Instr × am_X)}, am_find pc L = some (I, X) → (pc, I, X) ∈ L
  | [], h => by cases h
  | q :: L, h => by
    unfold am_find at h
    by_cases hq : q.1 = pc
    · rw [if_pos hq] at h
      have h2 := Option.some.inj h
      obtain ⟨a, b⟩ := q
      dsimp only at hq h2
      subst hq; subst h2
      exact List.mem_cons_self
    · rw [if_neg hq] at h
      exact List.mem_cons_of_mem _ (am_find_mem h)
set_option maxHeartbeats 4000000 in
theorem am_tab_of {cl : List vw_C} {tys : List FieldType} {P : List am_M} {Ts : List Cond} {sn : List (Nat × String × String × String)} {sr : am_SR} {M : am_M} {init : Bool} {T : am_LT} {Tc : List (List Cond)} (hTc : ∀ c ∈ Tc, ∀ w ∈ c, goodWord w = true → w ∈ Ts)
    (hT : am_lkb cl tys P Tc sn sr M.1.cls T = true) (hM : (M.2.2.2.2.all (am_ckb T M.2.2.1 init)) = true) (hD : ∀ q ∈ M.2.2.2.2, decode M.2.1 q.1 = .ok (q.2.1, am_len q.2.2 q.2.1)) : am_tab cl tys P Ts sn sr M init := by
  intro pc I X hf
  have hq := List.all_eq_true.mp hM _ (am_find_mem hf)
  unfold am_ckb at hq
  have hd : decode M.2.1 pc = .ok (I, am_len X I) := hD (pc, I, X) (am_find_mem hf)
  refine ⟨hd, ?_⟩
  unfold am_lkb at hT
  simp only [Bool.and_eq_true, List.all_eq_true] at hT
  obtain ⟨t1, t2, t3, t4, t5, t6, t7, t8, t9, t10, t11, t12, t13, t14⟩ := hT
  cases I with
  | getfield i =>
    refine ⟨⟨fun h1 => ?_, fun h2 => ?_, fun h0 => ?_⟩, trivial, trivial⟩
    · obtain ⟨z, hz, hc⟩ := List.any_eq_true.mp hq
      dsimp only at hc
      rw [if_neg (by rw [h1]; decide), if_pos h1] at hc
      simp only [Bool.and_eq_true, beq_iff_eq] at hc
      obtain ⟨rfl, c1⟩ := hc
      have g := t1 z hz
      rw [if_pos c1] at g
      exact am_hit_mem hTc g
    · obtain ⟨z, hz, hc⟩ := List.any_eq_true.mp hq
      dsimp only at hc
      rw [if_neg (by rw [h2]; decide), if_neg (by rw [h2]; decide)] at hc
      simp only [Bool.and_eq_true, beq_iff_eq] at hc
      obtain ⟨rfl, c1⟩ := hc
      have g := t1 z hz
      rw [if_neg (by rw [c1]; decide), if_pos c1] at g
      exact am_hit_mem hTc g
    · obtain ⟨z, hz, hc⟩ := List.any_eq_true.mp hq
      dsimp only at hc
      rw [if_pos h0] at hc
      simp only [Bool.and_eq_true, beq_iff_eq, decide_eq_true_eq] at hc
      obtain ⟨rfl, c0, c1, c2⟩ := hc
      have h1 := t1 z hz
      rw [if_neg (by omega), if_neg (by omega)] at h1
      split at h1
      · rename_i r hr
        simp only [Bool.and_eq_true, decide_eq_true_eq] at h1
        rw [c1] at hr
        rw [c2] at h1
        exact ⟨r, hr, h1.1, Or.inl (am_hit_mem hTc h1.2)⟩
      · cases h1
  | putfield i =>
    refine ⟨?_, trivial, trivial⟩
    obtain ⟨z, hz, hc⟩ := List.any_eq_true.mp hq
    simp only [Bool.and_eq_true, beq_iff_eq, Bool.or_eq_true] at hc
    obtain ⟨rfl, c1, c2, c3⟩ := hc
    have h1 := t2 z hz
    split at h1
    · rename_i r hr
      simp only [Bool.and_eq_true, decide_eq_true_eq] at h1
      rw [c1] at hr
      rw [c2] at h1
      refine ⟨r, hr, h1.1.1, Or.inl ⟨am_hit_mem hTc h1.1.2, ?_⟩⟩
      by_cases h0 : z.2.2.2.2 = 0
      · have h2 := h1.2
        rw [if_pos h0] at h2
        exact Or.inl (of_decide_eq_true h2)
      · have h2 := h1.2
        rw [if_neg h0] at h2
        have h3 := of_decide_eq_true h2
        exact Or.inr ⟨h3.1, c3.resolve_left h0, h3.2⟩
    · cases h1
  | ldc i =>
    refine ⟨⟨fun h0 => ?_, fun h0 => ?_⟩, trivial, trivial⟩
    · have h0' : (pc, Instr.ldc i, X).2.2.1 = 0 := h0
      dsimp only at hq
      rw [if_pos h0] at hq
      obtain ⟨z, hz, hc⟩ := List.any_eq_true.mp hq
      simp only [Bool.and_eq_true, beq_iff_eq, decide_eq_true_eq] at hc
      obtain ⟨rfl, c1⟩ := hc
      rw [← c1]
      exact am_hit_mem hTc (t3 z hz)
    · dsimp only at hq
      rw [if_neg h0] at hq
      obtain ⟨z, hz, hc⟩ := List.any_eq_true.mp hq
      simp only [Bool.and_eq_true, beq_iff_eq] at hc
      obtain ⟨rfl, c1⟩ := hc
      obtain ⟨y, hy, hy2⟩ := List.any_eq_true.mp (t5 z hz)
      obtain ⟨e1, e2, e3⟩ := of_decide_eq_true hy2
      refine ⟨y.2.2.1, ?_⟩
      rw [← e1, ← e2, ← c1, ← e3]
      exact hy
  | ldc_w i =>
    refine ⟨⟨fun h0 => ?_, fun h0 => ?_⟩, trivial, trivial⟩
    · dsimp only at hq
      rw [if_pos h0] at hq
      obtain ⟨z, hz, hc⟩ := List.any_eq_true.mp hq
      simp only [Bool.and_eq_true, beq_iff_eq, decide_eq_true_eq] at hc
      obtain ⟨rfl, c1⟩ := hc
      rw [← c1]
      exact am_hit_mem hTc (t3 z hz)
    · dsimp only at hq
      rw [if_neg h0] at hq
      obtain ⟨z, hz, hc⟩ := List.any_eq_true.mp hq
      simp only [Bool.and_eq_true, beq_iff_eq] at hc
      obtain ⟨rfl, c1⟩ := hc
      obtain ⟨y, hy, hy2⟩ := List.any_eq_true.mp (t5 z hz)
      obtain ⟨e1, e2, e3⟩ := of_decide_eq_true hy2
      refine ⟨y.2.2.1, ?_⟩
      rw [← e1, ← e2, ← c1, ← e3]
      exact hy
  | ldc2_w i =>
    refine ⟨?_, trivial, trivial⟩
    obtain ⟨z, hz, hc⟩ := List.any_eq_true.mp hq
    simp only [Bool.and_eq_true, beq_iff_eq, decide_eq_true_eq] at hc
    obtain ⟨rfl, c1⟩ := hc
    show Cond.constantLong _ _ (Int64.ofInt X.2.2) ∈ Ts
    rw [← c1]
    exact am_hit_mem hTc (t4 z hz)
  | getstatic i =>
    refine ⟨?_, trivial, trivial⟩
    obtain ⟨z, hz, hc⟩ := List.any_eq_true.mp hq
    simp only [Bool.and_eq_true, beq_iff_eq] at hc
    obtain ⟨rfl, c1⟩ := hc
    obtain ⟨y, hy, hy2⟩ := List.any_eq_true.mp (t6 z hz)
    rw [Bool.and_eq_true] at hy2
    have e1 := of_decide_eq_true hy2.1
    refine ⟨y.2.1, y.2.2.1, y.2.2.2, ?_, Or.inl (am_hit_mem hTc hy2.2)⟩
    rw [← c1, ← e1]
    exact hy
  | new i =>
    refine ⟨trivial, ?_, trivial⟩
    obtain ⟨z, hz, hc⟩ := List.any_eq_true.mp hq
    simp only [Bool.and_eq_true, beq_iff_eq] at hc
    obtain ⟨rfl, c1⟩ := hc
    have h1 := t7 z hz
    split at h1
    · rename_i r hr
      simp only [Bool.and_eq_true] at h1
      rw [c1] at hr
      exact ⟨r, hr, am_hit_mem hTc h1.1, am_hit_mem hTc h1.2.1, am_hit_mem hTc h1.2.2⟩
    · cases h1
  | anewarray i =>
    refine ⟨trivial, ?_, trivial⟩
    obtain ⟨z, hz, hc⟩ := List.any_eq_true.mp hq
    simp only [Bool.and_eq_true, beq_iff_eq] at hc
    obtain ⟨rfl, c1⟩ := hc
    have h1 := t8 z hz
    split at h1
    · rename_i r hr
      simp only [Bool.and_eq_true] at h1
      rw [c1] at hr
      exact ⟨r, hr, am_hit_mem hTc h1.1, of_decide_eq_true h1.2⟩
    · cases h1
  | newarray t =>
    refine ⟨trivial, ?_, trivial⟩
    obtain ⟨z, hz, hc⟩ := List.any_eq_true.mp hq
    have hc := of_decide_eq_true hc
    subst hc
    have h1 := t9 z hz
    exact ⟨am_hit_mem hTc h1.1, of_decide_eq_true h1.2⟩
  | invokevirtual i =>
    refine ⟨trivial, trivial, fun h0 => ?_⟩
    obtain ⟨z, hz, hc⟩ := List.any_eq_true.mp hq
    simp only [Bool.and_eq_true, beq_iff_eq] at hc
    obtain ⟨rfl, c1, c2⟩ := hc
    have h1 := t10 z hz
    split at h1
    · rename_i N hN
      simp only [Bool.and_eq_true] at h1
      obtain ⟨g1, g2, g3, g4, g5, g6⟩ := h1
      rw [c1] at hN
      rw [c2] at g2
      have g1' := of_decide_eq_true g1
      exact ⟨N, hN, am_hit_mem hTc g4, am_hit_mem hTc g5, am_hit_mem hTc g6, ⟨g1'.1, g1'.2, of_decide_eq_true g2⟩, am_hitM_mem hTc g3⟩
    · cases h1
  | invokestatic i =>
    refine ⟨trivial, trivial, fun h0 => ?_, fun h2 => ?_⟩
    · dsimp only at hq
      rw [if_pos h0] at hq
      obtain ⟨z, hz, hc⟩ := List.any_eq_true.mp hq
      simp only [Bool.and_eq_true, beq_iff_eq] at hc
      obtain ⟨rfl, c1, c2⟩ := hc
      have h1 := t11 z hz
      split at h1
      · rename_i N hN
        simp only [Bool.and_eq_true] at h1
        obtain ⟨g1, g2, g3, g4, g5⟩ := h1
        rw [c1] at hN
        rw [c2] at g2
        have g1' := of_decide_eq_true g1
        exact ⟨N, hN, am_hit_mem hTc g4, am_hit_mem hTc g5, ⟨g1'.1, g1'.2, of_decide_eq_true g2⟩, am_hitM_mem hTc g3⟩
      · cases h1
    · dsimp only at hq
      rw [if_neg (by rw [h2]; decide)] at hq
      rw [Bool.and_eq_true] at hq
      obtain ⟨z, hz, hc⟩ := List.any_eq_true.mp hq.2
      simp only [beq_iff_eq] at hc
      subst hc
      have h1 := t14 z hz
      exact ⟨am_hit_mem hTc h1.1, am_hit_mem hTc h1.2.1, am_hit_mem hTc h1.2.2.1, am_hit_mem hTc h1.2.2.2⟩
  | invokespecial i =>
    refine ⟨trivial, trivial, fun h0 => ?_, fun h2 => ?_⟩
    · dsimp only at hq
      rw [if_pos h0] at hq
      obtain ⟨z, hz, hc⟩ := List.any_eq_true.mp hq
      simp only [Bool.and_eq_true, beq_iff_eq] at hc
      obtain ⟨rfl, c1, c2⟩ := hc
      have h1 := t12 z hz
      split at h1
      · rename_i N hN
        simp only [Bool.and_eq_true] at h1
        obtain ⟨g1, g2, g3, g4, g5, g6, g7⟩ := h1
        rw [c1] at hN
        rw [c2] at g4
        have g3' := of_decide_eq_true g3
        exact ⟨N, hN, of_decide_eq_true g1, of_decide_eq_true g2, am_hit_mem hTc g6, am_hit_mem hTc g7, ⟨g3'.1, g3'.2, of_decide_eq_true g4⟩, am_hitM_mem hTc g5⟩
      · cases h1
    · dsimp only at hq
      rw [if_neg (by rw [h2]; decide)] at hq
      rw [Bool.and_eq_true] at hq
      obtain ⟨z, hz, hc⟩ := List.any_eq_true.mp hq.2
      simp only [beq_iff_eq] at hc
      subst hc
      have h1 := t13 z hz
      exact ⟨am_hit_mem hTc h1.1, am_hit_mem hTc h1.2.1, am_hit_mem hTc h1.2.2⟩
  | istore i => exact ⟨(of_decide_eq_true hq : i < M.2.2.1), trivial, trivial⟩
  | istore_n i => exact ⟨(of_decide_eq_true hq : (i : Nat) < M.2.2.1), trivial, trivial⟩
  | astore i => exact ⟨(of_decide_eq_true hq : i < M.2.2.1), trivial, trivial⟩
  | astore_n i => exact ⟨(of_decide_eq_true hq : (i : Nat) < M.2.2.1), trivial, trivial⟩
  | lstore i => exact ⟨(of_decide_eq_true hq : i + 1 < M.2.2.1), trivial, trivial⟩
  | lstore_n i => exact ⟨(of_decide_eq_true hq : (i : Nat) + 1 < M.2.2.1), trivial, trivial⟩
  | iinc i _ => exact ⟨(of_decide_eq_true hq : i < M.2.2.1), trivial, trivial⟩
  | _ => exact ⟨trivial, trivial, trivial⟩
