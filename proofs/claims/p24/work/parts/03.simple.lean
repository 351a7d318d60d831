def am_isP (X : am_X) : Instr → Prop
  | .ldc _ => X.1 = 0
  | .ldc_w _ => X.1 = 0
  | .getstatic _ => False
  | .getfield _ => False
  | .putfield _ => False
  | .arraylength => False
  | .iaload => False
  | .laload => False
  | .baload => False
  | .aaload => False
  | .iastore => False
  | .lastore => False
  | .bastore => False
  | .aastore => False
  | _ => True
section AM1
variable {p : Program} {l0 : Launch} {e : Env} {R : Room} {s : State} {m : MethodId} {args : Array Value} {below : List Frame} {meth : Method} {c : Code} {H : Heap} {locs : List Loc} {cells slots : Nat} {Q : State → Prop}
variable {cc : ByteArray} {pc pc' : Nat} {ls : Array Slot} {f : Nat → Nat} {l l' : am_L} {st st' : List Value} {h h' : am_H} {nL : Nat}
set_option maxHeartbeats 4000000 in
/-- numbers, locals, stack, jumps: nothing of the heap -/
theorem am_pure {cst : am_K} {cl : List vw_C} {tt : List (List FieldType)} {Ts : List Cond} {sn : List (Nat × String × String × String)} {sr : am_SR} {own : String} {init : Bool} {X : am_X} {I : Instr}
    (hx : p.tables.exec = Jvm.exec) (hb : c.code = cc) (hts : ∀ w ∈ Ts, w.before args s = true) (hown : s.vm.findClass own = some m.cls) (hd : decode cc pc = .ok (I, am_len X I)) (hok : am_ok cl Ts sn sr own nL init X I)
    (hl : lv_has ls nL (am_lc f l)) (hs : am_s cst cl tt I X pc l st h = some (pc', l', st', h'))
    (hI : am_isP X I)
    (k : h' = h → ∀ ls' : Array Slot, lv_has ls' nL (am_lc f l') → W p l0 e R s m args below meth c H locs cells slots Q (F0 m pc' ls' (st'.map (am_v f)))) :
    W p l0 e R s m args below meth c H locs cells slots Q (F0 m pc ls (st.map (am_v f))) := by
  cases I with
  | iconst n => simp only [am_s, Option.some.injEq, Prod.mk.injEq] at hs; obtain ⟨rfl, rfl, rfl, rfl⟩ := hs; exact lv_iconst hx hb hd rfl (k rfl _ hl)
  | bipush n => simp only [am_s, Option.some.injEq, Prod.mk.injEq] at hs; obtain ⟨rfl, rfl, rfl, rfl⟩ := hs; exact lv_bipush hx hb hd rfl (k rfl _ hl)
  | sipush n => simp only [am_s, Option.some.injEq, Prod.mk.injEq] at hs; obtain ⟨rfl, rfl, rfl, rfl⟩ := hs; exact lv_sipush hx hb hd rfl (k rfl _ hl)
  | lconst n => simp only [am_s, Option.some.injEq, Prod.mk.injEq] at hs; obtain ⟨rfl, rfl, rfl, rfl⟩ := hs; exact lv_lconst hx hb hd rfl (k rfl _ hl)
  | aconst_null => simp only [am_s, Option.some.injEq, Prod.mk.injEq] at hs; obtain ⟨rfl, rfl, rfl, rfl⟩ := hs; exact lv_null hx hb hd (k rfl _ hl)
  | ldc i =>
    have h0 : X.1 = 0 := hI
    simp only [am_s, if_pos h0, Option.some.injEq, Prod.mk.injEq] at hs; obtain ⟨rfl, rfl, rfl, rfl⟩ := hs
    exact lv_ldc hx hb hown (hts _ (hok.1 h0)) hd (k rfl _ hl)
  | ldc_w i =>
    have h0 : X.1 = 0 := hI
    simp only [am_s, if_pos h0, Option.some.injEq, Prod.mk.injEq] at hs; obtain ⟨rfl, rfl, rfl, rfl⟩ := hs
    exact lv_ldcw hx hb hown (hts _ (hok.1 h0)) hd (k rfl _ hl)
  | ldc2_w i => simp only [am_s, Option.some.injEq, Prod.mk.injEq] at hs; obtain ⟨rfl, rfl, rfl, rfl⟩ := hs; exact lv_ldc2 hx hb hown (hts _ hok) hd (k rfl _ hl)
  | iload i =>
    simp only [am_s] at hs
    split at hs
    · rename_i x hq
      simp only [Option.some.injEq, Prod.mk.injEq] at hs; obtain ⟨rfl, rfl, rfl, rfl⟩ := hs
      exact lv_iload hx hb hd (am_ld_at hl hq) (k rfl _ hl)
    · cases hs
  | iload_n i =>
    simp only [am_s] at hs
    split at hs
    · rename_i x hq
      simp only [Option.some.injEq, Prod.mk.injEq] at hs; obtain ⟨rfl, rfl, rfl, rfl⟩ := hs
      exact lv_iload_n hx hb hd rfl (am_ld_at hl hq) (k rfl _ hl)
    · cases hs
  | lload i =>
    simp only [am_s] at hs
    split at hs
    · rename_i x hq
      simp only [Option.some.injEq, Prod.mk.injEq] at hs; obtain ⟨rfl, rfl, rfl, rfl⟩ := hs
      exact lv_lload hx hb hd (am_ld_at hl hq) (k rfl _ hl)
    · cases hs
  | lload_n i =>
    simp only [am_s] at hs
    split at hs
    · rename_i x hq
      simp only [Option.some.injEq, Prod.mk.injEq] at hs; obtain ⟨rfl, rfl, rfl, rfl⟩ := hs
      exact lv_lload_n hx hb hd rfl (am_ld_at hl hq) (k rfl _ hl)
    · cases hs
  | aload i =>
    simp only [am_s] at hs
    split at hs
    · rename_i x hq
      simp only [Option.some.injEq, Prod.mk.injEq] at hs; obtain ⟨rfl, rfl, rfl, rfl⟩ := hs
      exact lv_aload hx hb hd (am_ld_at hl hq) (k rfl _ hl)
    · rename_i hq
      simp only [Option.some.injEq, Prod.mk.injEq] at hs; obtain ⟨rfl, rfl, rfl, rfl⟩ := hs
      exact lv_aloadN hx hb hd (am_ld_at hl hq) (k rfl _ hl)
    · cases hs
  | aload_n i =>
    simp only [am_s] at hs
    split at hs
    · rename_i x hq
      simp only [Option.some.injEq, Prod.mk.injEq] at hs; obtain ⟨rfl, rfl, rfl, rfl⟩ := hs
      exact lv_aload_n hx hb hd rfl (am_ld_at hl hq) (k rfl _ hl)
    · rename_i hq
      simp only [Option.some.injEq, Prod.mk.injEq] at hs; obtain ⟨rfl, rfl, rfl, rfl⟩ := hs
      exact lv_aload_nN hx hb hd rfl (am_ld_at hl hq) (k rfl _ hl)
    · cases hs
  | istore i =>
    simp only [am_s] at hs
    split at hs
    · simp only [Option.some.injEq, Prod.mk.injEq] at hs; obtain ⟨rfl, rfl, rfl, rfl⟩ := hs
      exact lv_istore hx hb hd hl hok (am_st1_lc f _ (Value.int _) _).symm (fun ls' hl' => k rfl ls' hl')
    · cases hs
  | istore_n i =>
    simp only [am_s] at hs
    split at hs
    · simp only [Option.some.injEq, Prod.mk.injEq] at hs; obtain ⟨rfl, rfl, rfl, rfl⟩ := hs
      exact lv_istore_n hx hb hd rfl hl hok (am_st1_lc f _ (Value.int _) _).symm (fun ls' hl' => k rfl ls' hl')
    · cases hs
  | lstore i =>
    simp only [am_s] at hs
    split at hs
    · simp only [Option.some.injEq, Prod.mk.injEq] at hs; obtain ⟨rfl, rfl, rfl, rfl⟩ := hs
      exact lv_lstore hx hb hd hl hok (am_st2_lc f _ (Value.long _) _).symm (fun ls' hl' => k rfl ls' hl')
    · cases hs
  | lstore_n i =>
    simp only [am_s] at hs
    split at hs
    · simp only [Option.some.injEq, Prod.mk.injEq] at hs; obtain ⟨rfl, rfl, rfl, rfl⟩ := hs
      exact lv_lstore_n hx hb hd rfl hl hok (am_st2_lc f _ (Value.long _) _).symm (fun ls' hl' => k rfl ls' hl')
    · cases hs
  | astore i =>
    simp only [am_s] at hs
    split at hs
    · simp only [Option.some.injEq, Prod.mk.injEq] at hs; obtain ⟨rfl, rfl, rfl, rfl⟩ := hs
      exact lv_astore hx hb hd hl hok (am_st1_lc f _ (Value.ref _) _).symm (fun ls' hl' => k rfl ls' hl')
    · simp only [Option.some.injEq, Prod.mk.injEq] at hs; obtain ⟨rfl, rfl, rfl, rfl⟩ := hs
      exact lv_astoreN hx hb hd hl hok (am_st1_lc f _ Value.null _).symm (fun ls' hl' => k rfl ls' hl')
    · cases hs
  | astore_n i =>
    simp only [am_s] at hs
    split at hs
    · simp only [Option.some.injEq, Prod.mk.injEq] at hs; obtain ⟨rfl, rfl, rfl, rfl⟩ := hs
      exact lv_astore_n hx hb hd rfl hl hok (am_st1_lc f _ (Value.ref _) _).symm (fun ls' hl' => k rfl ls' hl')
    · simp only [Option.some.injEq, Prod.mk.injEq] at hs; obtain ⟨rfl, rfl, rfl, rfl⟩ := hs
      exact lv_astore_nN hx hb hd rfl hl hok (am_st1_lc f _ Value.null _).symm (fun ls' hl' => k rfl ls' hl')
    · cases hs
  | iinc i n =>
    simp only [am_s] at hs
    split at hs
    · rename_i x hq
      simp only [Option.some.injEq, Prod.mk.injEq] at hs; obtain ⟨rfl, rfl, rfl, rfl⟩ := hs
      obtain ⟨j, hj⟩ := List.getElem?_of_mem (List.mem_map.mpr ⟨(i, Value.int x), am_ld_mem hq, rfl⟩ : ((i, am_v f (Value.int x)) : Nat × Value) ∈ am_lc f l)
      exact lv_iinc hx hb hd hl hj rfl hok (am_st1_lc f _ (Value.int _) _).symm (fun ls' hl' => k rfl ls' hl')
    · cases hs
  | iadd =>
    simp only [am_s] at hs
    split at hs
    · simp only [Option.some.injEq, Prod.mk.injEq] at hs; obtain ⟨rfl, rfl, rfl, rfl⟩ := hs; exact lv_iadd hx hb hd (k rfl _ hl)
    · cases hs
  | isub =>
    simp only [am_s] at hs
    split at hs
    · simp only [Option.some.injEq, Prod.mk.injEq] at hs; obtain ⟨rfl, rfl, rfl, rfl⟩ := hs; exact lv_isub hx hb hd (k rfl _ hl)
    · cases hs
  | imul =>
    simp only [am_s] at hs
    split at hs
    · simp only [Option.some.injEq, Prod.mk.injEq] at hs; obtain ⟨rfl, rfl, rfl, rfl⟩ := hs; exact lv_imul hx hb hd (k rfl _ hl)
    · cases hs
  | iand =>
    simp only [am_s] at hs
    split at hs
    · simp only [Option.some.injEq, Prod.mk.injEq] at hs; obtain ⟨rfl, rfl, rfl, rfl⟩ := hs; exact lv_iand hx hb hd (k rfl _ hl)
    · cases hs
  | ior =>
    simp only [am_s] at hs
    split at hs
    · simp only [Option.some.injEq, Prod.mk.injEq] at hs; obtain ⟨rfl, rfl, rfl, rfl⟩ := hs; exact lv_ior hx hb hd (k rfl _ hl)
    · cases hs
  | ixor =>
    simp only [am_s] at hs
    split at hs
    · simp only [Option.some.injEq, Prod.mk.injEq] at hs; obtain ⟨rfl, rfl, rfl, rfl⟩ := hs; exact lv_ixor hx hb hd (k rfl _ hl)
    · cases hs
  | ishl =>
    simp only [am_s] at hs
    split at hs
    · simp only [Option.some.injEq, Prod.mk.injEq] at hs; obtain ⟨rfl, rfl, rfl, rfl⟩ := hs; exact lv_ishl hx hb hd (k rfl _ hl)
    · cases hs
  | ishr =>
    simp only [am_s] at hs
    split at hs
    · simp only [Option.some.injEq, Prod.mk.injEq] at hs; obtain ⟨rfl, rfl, rfl, rfl⟩ := hs; exact lv_ishr hx hb hd (k rfl _ hl)
    · cases hs
  | iushr =>
    simp only [am_s] at hs
    split at hs
    · simp only [Option.some.injEq, Prod.mk.injEq] at hs; obtain ⟨rfl, rfl, rfl, rfl⟩ := hs; exact lv_iushr hx hb hd rfl (k rfl _ hl)
    · cases hs
  | ladd =>
    simp only [am_s] at hs
    split at hs
    · simp only [Option.some.injEq, Prod.mk.injEq] at hs; obtain ⟨rfl, rfl, rfl, rfl⟩ := hs; exact lv_ladd hx hb hd (k rfl _ hl)
    · cases hs
  | lsub =>
    simp only [am_s] at hs
    split at hs
    · simp only [Option.some.injEq, Prod.mk.injEq] at hs; obtain ⟨rfl, rfl, rfl, rfl⟩ := hs; exact lv_lsub hx hb hd (k rfl _ hl)
    · cases hs
  | lmul =>
    simp only [am_s] at hs
    split at hs
    · simp only [Option.some.injEq, Prod.mk.injEq] at hs; obtain ⟨rfl, rfl, rfl, rfl⟩ := hs; exact lv_lmul hx hb hd (k rfl _ hl)
    · cases hs
  | lcmp =>
    simp only [am_s] at hs
    split at hs
    · simp only [Option.some.injEq, Prod.mk.injEq] at hs; obtain ⟨rfl, rfl, rfl, rfl⟩ := hs; exact W.lcmp hx hb hd (k rfl _ hl)
    · cases hs
  | i2l =>
    simp only [am_s] at hs
    split at hs
    · simp only [Option.some.injEq, Prod.mk.injEq] at hs; obtain ⟨rfl, rfl, rfl, rfl⟩ := hs; exact lv_i2l hx hb hd rfl (k rfl _ hl)
    · cases hs
  | l2i =>
    simp only [am_s] at hs
    split at hs
    · simp only [Option.some.injEq, Prod.mk.injEq] at hs; obtain ⟨rfl, rfl, rfl, rfl⟩ := hs; exact lv_l2i hx hb hd rfl (k rfl _ hl)
    · cases hs
  | i2c =>
    simp only [am_s] at hs
    split at hs
    · simp only [Option.some.injEq, Prod.mk.injEq] at hs; obtain ⟨rfl, rfl, rfl, rfl⟩ := hs; exact lv_i2c hx hb hd rfl (k rfl _ hl)
    · cases hs
  | i2b =>
    simp only [am_s] at hs
    split at hs
    · simp only [Option.some.injEq, Prod.mk.injEq] at hs; obtain ⟨rfl, rfl, rfl, rfl⟩ := hs; exact lv_i2b hx hb hd rfl (k rfl _ hl)
    · cases hs
  | idiv =>
    simp only [am_s] at hs
    split at hs
    · rename_i y x st1
      by_cases h0 : y = 0
      · rw [if_pos h0] at hs; cases hs
      · rw [if_neg h0] at hs
        simp only [Option.some.injEq, Prod.mk.injEq] at hs; obtain ⟨rfl, rfl, rfl, rfl⟩ := hs
        exact lv_idiv hx hb hd h0 (k rfl _ hl)
    · cases hs
  | irem =>
    simp only [am_s] at hs
    split at hs
    · rename_i y x st1
      by_cases h0 : y = 0
      · rw [if_pos h0] at hs; cases hs
      · rw [if_neg h0] at hs
        simp only [Option.some.injEq, Prod.mk.injEq] at hs; obtain ⟨rfl, rfl, rfl, rfl⟩ := hs
        exact lv_irem hx hb hd h0 (k rfl _ hl)
    · cases hs
  | pop =>
    simp only [am_s] at hs
    split at hs
    · rename_i v st1
      by_cases h0 : v.category = 1
      · rw [if_pos h0] at hs
        simp only [Option.some.injEq, Prod.mk.injEq] at hs; obtain ⟨rfl, rfl, rfl, rfl⟩ := hs
        exact lv_pop hx hb hd (by rw [am_v_cat]; exact h0) (k rfl _ hl)
      · rw [if_neg h0] at hs; cases hs
    · cases hs
  | dup =>
    simp only [am_s] at hs
    split at hs
    · rename_i v st1
      by_cases h0 : v.category = 1
      · rw [if_pos h0] at hs
        simp only [Option.some.injEq, Prod.mk.injEq] at hs; obtain ⟨rfl, rfl, rfl, rfl⟩ := hs
        exact lv_dup hx hb hd (by rw [am_v_cat]; exact h0) (k rfl _ hl)
      · rw [if_neg h0] at hs; cases hs
    · cases hs
  | dup2 =>
    simp only [am_s] at hs
    split at hs
    · rename_i v w st1
      by_cases h0 : v.category = 1 ∧ w.category = 1
      · rw [if_pos h0] at hs
        simp only [Option.some.injEq, Prod.mk.injEq] at hs; obtain ⟨rfl, rfl, rfl, rfl⟩ := hs
        exact lv_dup2_11 hx hb hd (by rw [am_v_cat]; exact h0.1) (by rw [am_v_cat]; exact h0.2) (k rfl _ hl)
      · rw [if_neg h0] at hs; cases hs
    · cases hs
  | goto off =>
    simp only [am_s] at hs
    split at hs
    · rename_i t ht
      simp only [Option.some.injEq, Prod.mk.injEq] at hs; obtain ⟨rfl, rfl, rfl, rfl⟩ := hs
      exact lv_goto hx hb hd (am_j_some ht) (k rfl _ hl)
    · cases hs
  | ifCond cd off =>
    simp only [am_s] at hs
    split at hs
    · rename_i x st1
      cases cd <;> simp only at hs <;> obtain ⟨t, ht, (⟨hc, hr⟩ | ⟨hc, hr⟩)⟩ := am_br_some hs <;> simp only [Prod.mk.injEq] at hr <;> obtain ⟨rfl, rfl, rfl, rfl⟩ := hr
      · exact lv_if_eq hx hb hd ht (fun _ => k rfl _ hl) (fun q => absurd hc q)
      · exact lv_if_eq hx hb hd ht (fun q => absurd q hc) (fun _ => k rfl _ hl)
      · exact lv_if_ne hx hb hd ht (fun _ => k rfl _ hl) (fun q => absurd q hc)
      · exact lv_if_ne hx hb hd ht (fun q => absurd q hc) (fun _ => k rfl _ hl)
      · exact lv_if_lt hx hb hd ht (fun _ => k rfl _ hl) (fun q => absurd hc q)
      · exact lv_if_lt hx hb hd ht (fun q => absurd q hc) (fun _ => k rfl _ hl)
      · exact lv_if_ge hx hb hd ht (fun _ => k rfl _ hl) (fun q => absurd hc q)
      · exact lv_if_ge hx hb hd ht (fun q => absurd q hc) (fun _ => k rfl _ hl)
      · exact lv_if_gt hx hb hd ht (fun _ => k rfl _ hl) (fun q => absurd hc q)
      · exact lv_if_gt hx hb hd ht (fun q => absurd q hc) (fun _ => k rfl _ hl)
      · exact lv_if_le hx hb hd ht (fun _ => k rfl _ hl) (fun q => absurd hc q)
      · exact lv_if_le hx hb hd ht (fun q => absurd q hc) (fun _ => k rfl _ hl)
    · cases hs
  | if_icmp cd off =>
    simp only [am_s] at hs
    split at hs
    · rename_i y x st1
      cases cd <;> simp only at hs <;> obtain ⟨t, ht, (⟨hc, hr⟩ | ⟨hc, hr⟩)⟩ := am_br_some hs <;> simp only [Prod.mk.injEq] at hr <;> obtain ⟨rfl, rfl, rfl, rfl⟩ := hr
      · exact lv_icmp_eq hx hb hd ht (fun _ => k rfl _ hl) (fun q => absurd hc q)
      · exact lv_icmp_eq hx hb hd ht (fun q => absurd q hc) (fun _ => k rfl _ hl)
      · exact lv_icmp_ne hx hb hd ht (fun _ => k rfl _ hl) (fun q => absurd q hc)
      · exact lv_icmp_ne hx hb hd ht (fun q => absurd q hc) (fun _ => k rfl _ hl)
      · exact lv_icmp_lt hx hb hd ht (fun _ => k rfl _ hl) (fun q => absurd hc q)
      · exact lv_icmp_lt hx hb hd ht (fun q => absurd q hc) (fun _ => k rfl _ hl)
      · exact lv_icmp_ge hx hb hd ht (fun _ => k rfl _ hl) (fun q => absurd hc q)
      · exact lv_icmp_ge hx hb hd ht (fun q => absurd q hc) (fun _ => k rfl _ hl)
      · exact lv_icmp_gt hx hb hd ht (fun _ => k rfl _ hl) (fun q => absurd hc q)
      · exact lv_icmp_gt hx hb hd ht (fun q => absurd q hc) (fun _ => k rfl _ hl)
      · exact lv_icmp_le hx hb hd ht (fun _ => k rfl _ hl) (fun q => absurd hc q)
      · exact lv_icmp_le hx hb hd ht (fun q => absurd q hc) (fun _ => k rfl _ hl)
    · cases hs
  | ifnull off =>
    simp only [am_s] at hs
    split at hs
    · simp only [Option.some.injEq, Prod.mk.injEq] at hs; obtain ⟨rfl, rfl, rfl, rfl⟩ := hs
      exact lv_ifnull hx hb hd (k rfl _ hl)
    · split at hs
      · rename_i t ht
        simp only [Option.some.injEq, Prod.mk.injEq] at hs; obtain ⟨rfl, rfl, rfl, rfl⟩ := hs
        exact lv_ifnullN hx hb hd (am_j_some ht) (k rfl _ hl)
      · cases hs
    · cases hs
  | ifnonnull off =>
    simp only [am_s] at hs
    split at hs
    · simp only [Option.some.injEq, Prod.mk.injEq] at hs; obtain ⟨rfl, rfl, rfl, rfl⟩ := hs
      exact lv_ifnonnullN hx hb hd (k rfl _ hl)
    · split at hs
      · rename_i t ht
        simp only [Option.some.injEq, Prod.mk.injEq] at hs; obtain ⟨rfl, rfl, rfl, rfl⟩ := hs
        exact lv_ifnonnull hx hb hd (am_j_some ht) (k rfl _ hl)
      · cases hs
    · cases hs
  | tableswitch dflt lo hi offs =>
    simp only [am_s] at hs
    split at hs
    · rename_i x st1
      by_cases ho : x.toInt < lo ∨ hi < x.toInt
      · rw [if_pos ho] at hs
        split at hs
        · rename_i t ht
          simp only [Option.some.injEq, Prod.mk.injEq] at hs; obtain ⟨rfl, rfl, rfl, rfl⟩ := hs
          exact lv_tableOut hx hb hd ho (am_j_some ht) (k rfl _ hl)
        · cases hs
      · rw [if_neg ho] at hs
        split at hs
        · rename_i off hoff
          split at hs
          · rename_i t ht
            simp only [Option.some.injEq, Prod.mk.injEq] at hs; obtain ⟨rfl, rfl, rfl, rfl⟩ := hs
            exact lv_tableIn hx hb hd (fun q => ho (Or.inl q)) (fun q => ho (Or.inr q)) hoff (am_j_some ht) (k rfl _ hl)
          · cases hs
        · cases hs
    · cases hs
  | _ => first | exact (False.elim hI) | (simp only [am_s] at hs; cases hs; done) | (simp [am_s] at hs; done)
end AM1
