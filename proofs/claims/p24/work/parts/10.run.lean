theorem am_kinds (X : am_X) (I : Instr) : am_isP X I ∨ (∃ i, I = .getfield i) ∨ (∃ i, I = .putfield i) ∨ (I = .arraylength ∨ I = .iaload ∨ I = .laload ∨ I = .baload ∨ I = .aaload ∨ (∃ i, I = .getstatic i) ∨ ((∃ i, I = .ldc i) ∧ ¬ X.1 = 0) ∨ ((∃ i, I = .ldc_w i) ∧ ¬ X.1 = 0)) ∨ (I = .iastore ∨ I = .lastore ∨ I = .bastore ∨ I = .aastore) := by
  cases I with
  | ldc i =>
    by_cases h : X.1 = 0
    · exact Or.inl h
    · exact Or.inr (Or.inr (Or.inr (Or.inl (Or.inr (Or.inr (Or.inr (Or.inr (Or.inr (Or.inr (Or.inl ⟨⟨i, rfl⟩, h⟩))))))))))
  | ldc_w i =>
    by_cases h : X.1 = 0
    · exact Or.inl h
    · exact Or.inr (Or.inr (Or.inr (Or.inl (Or.inr (Or.inr (Or.inr (Or.inr (Or.inr (Or.inr (Or.inr ⟨⟨i, rfl⟩, h⟩))))))))))
  | getfield i => exact Or.inr (Or.inl ⟨i, rfl⟩)
  | putfield i => exact Or.inr (Or.inr (Or.inl ⟨i, rfl⟩))
  | arraylength => simp
  | iaload => simp
  | laload => simp
  | baload => simp
  | aaload => simp
  | getstatic i => simp
  | iastore => simp
  | lastore => simp
  | bastore => simp
  | aastore => simp
  | _ => exact Or.inl trivial
theorem am_args_lc (f : Nat → Nat) : ∀ (av : List Value) (i : Nat), lv_args i (av.map (am_v f)) = am_lc f (lv_args i av)
  | [], _ => rfl
  | v :: av, i => by
    simp only [List.map_cons, lv_args, am_lc, am_v_cat]
    congr 1
    exact am_args_lc f av _
theorem am_sl_len (f : Nat → Nat) (av : List Value) : (lg_sl (av.map (am_v f))).length = (lg_sl av).length := by
  unfold lg_sl
  rw [List.flatMap_map]
  simp only [List.length_flatMap]
  congr 1
  apply List.map_congr_left
  intro v _
  simp only [am_v_cat]
  split <;> rfl
section AM9
variable {D : va_G} {cl : List vw_C} {tys : List FieldType} {ca : FieldType → ClassId} {kd : Nat → Nat} {base : Nat} {A : Nat → Prop} {cst : am_K} {sn : List (Nat × String × String × String)} {sr : am_SR} {strs : List Nat} {lens : List Nat} {byts : List (List Int32)} {adV : Nat → Nat} {tt : List (List FieldType)} {P : List am_M} {Ts : List Cond} {call : Nat → List Value → am_H → am_Q → Prop} {l0 : Launch}
variable {p : Program} {e : Env} {R : Room} {s : State} {m : MethodId} {args : Array Value} {below : List Frame} {meth : Method} {c : Code} {Q : State → Prop}
set_option maxHeartbeats 4000000 in
/-- a run of the abstract machine is a walk of the Java machine -/
theorem am_sim {M : am_M} {init : Bool} {d : Nat} (hx : p.tables.exec = Jvm.exec) (hb : c.code = M.2.1) (hml : c.maxLocals = M.2.2.1) (hts : ∀ w ∈ Ts, w.before args s = true) (hown : s.vm.findClass M.1.cls = some m.cls) (hinit : init = true → meth.name = "<init>")
    (htab : am_tab cl tys P Ts sn sr M init) (hC : am_ctx cl tys tt P Ts) (hw : am_W D cl tys ca kd A cst sn sr strs lens byts adV s) (hcs : am_calls D cl tys ca kd base A cst sn sr strs lens byts adV P Ts l0 d call) (hA : ∀ q, base ≤ q → A q) (hRf : d + 1 ≤ R.frames) (hRl : 200 * d + 200 ≤ R.locals) :
    ∀ (n pc : Nat) (l : am_L) (st : List Value) (h : am_H) (r : am_Q) (H : Heap) (locs : List Loc) (cells slots : Nat) (ls : Array Slot), am_Go cst cl tt P strs call M n pc l st h r → lv_has ls M.2.2.1 (am_lc (am_ad kd base) l) → am_R D cl tys (am_ad kd base) ca base h H → va_S A s.heap H locs → cells + r.2.2.1 ≤ R.cells → slots + r.2.2.2 ≤ R.slots →
      (∀ (pcr : Nat) (I : Instr) (X : am_X) (st' : List Value) (ls' : Array Slot) (H' : Heap) (locs' : List Loc), am_find pcr M.2.2.2.2 = some (I, X) → am_r M.2.2.2.1 I st' = some r.1 → am_R D cl tys (am_ad kd base) ca base r.2.1 H' → va_S A s.heap H' locs' → W p l0 e R s m args below meth c H' locs' (cells + r.2.2.1) (slots + r.2.2.2) Q (F0 m pcr ls' (st'.map (am_v (am_ad kd base))))) →
      W p l0 e R s m args below meth c H locs cells slots Q (F0 m pc ls (st.map (am_v (am_ad kd base)))) := by
  intro n
  induction n with
  | zero => intro pc l st h r H locs cells slots ls hgo; exact hgo.elim
  | succ n ih =>
    intro pc l st h r H locs cells slots ls hgo hl hR hS hcells hslots hret
    obtain ⟨I, X, hf, hcase⟩ := hgo
    obtain ⟨hd, hok, hoka, hokc⟩ := htab pc I X hf
    rcases hcase with ⟨F, hs, hgo⟩ | ⟨F, k0, r1, hs, hgo, rfl⟩ | ⟨v, hv, rfl⟩ | ⟨r1, r2, hc, hcl, hgo, rfl⟩ | ⟨st1, hs, hgo⟩ | ⟨st1, h1, hs, hgo⟩
    · obtain ⟨pc', l', st', h'⟩ := F
      rcases am_kinds X I with hk | ⟨i, rfl⟩ | ⟨i, rfl⟩ | hk | hk
      · refine am_pure hx hb hts hown hd hok hl hs hk (fun hh ls' hl' => ?_)
        subst hh
        exact ih _ _ _ _ _ _ _ _ _ _ hgo hl' hR hS hcells hslots hret
      · refine am_hget hx hb hts hown hd hok hC.1 hw.1 hR hS hw.2.2.2.2.2.2.1 hs (fun hh hll => ?_)
        subst hh; subst hll
        exact ih _ _ _ _ _ _ _ _ _ _ hgo hl hR hS hcells hslots hret
      · refine am_hput hx hb hts hown hd hok hC.1 hw.1 hinit hA hS hR hs (fun H' locs' hR' hS' hll => ?_)
        subst hll
        exact ih _ _ _ _ _ _ _ _ _ _ hgo hl hR' hS' hcells hslots hret
      · refine am_hload hx hb hts hown hd hok hw.1 hw.2.1 hS hR hw.2.2.1 hw.2.2.2.1 hw.2.2.2.2.2.2.1 hw.2.2.2.2.1 hk hs (fun hh hll => ?_)
        subst hh; subst hll
        exact ih _ _ _ _ _ _ _ _ _ _ hgo hl hR hS hcells hslots hret
      · refine am_hstore hx hb hd hw.1 hw.2.1 hA hS hR hk hs (fun H' locs' hR' hS' hll => ?_)
        subst hll
        exact ih _ _ _ _ _ _ _ _ _ _ hgo hl hR' hS' hcells hslots hret
    · obtain ⟨pc', l', st', h'⟩ := F
      dsimp only at hcells hslots hret
      refine am_halloc hx hb hts hown hd hoka hC.1 hw.1 hw.2.1 hw.2.2.2.2.2.2.2.2 hS hR hs (by omega) (by omega) (fun H' hR' hS' hll => ?_)
      subst hll
      refine ih _ _ _ _ _ _ _ _ _ _ hgo hl hR' hS' (by omega) (by omega) (fun pcr I' X' st2 ls2 H2 locs2 g1 g2 g3 g4 => ?_)
      have := hret pcr I' X' st2 ls2 H2 locs2 g1 g2 g3 g4
      rwa [← Nat.add_assoc, ← Nat.add_assoc] at this
    · exact hret pc I X st ls H locs hf hv hR hS
    · dsimp only at hcells hslots hret
      refine am_hcall hx hb (hml.trans hl.1.symm) hts hown hd hokc hC hw hcs hS hR hc hcl hRf hRl (by omega) (by omega) (fun H' locs' hR' hS' => ?_)
      refine ih _ _ _ _ _ _ _ _ _ _ hgo hl hR' hS' (by omega) (by omega) (fun pcr I' X' st2 ls2 H2 locs2 g1 g2 g3 g4 => ?_)
      have := hret pcr I' X' st2 ls2 H2 locs2 g1 g2 g3 g4
      rwa [← Nat.add_assoc, ← Nat.add_assoc] at this
    · obtain ⟨i, a, rfl, hX, rfl, hsum⟩ := am_obj_some hs
      obtain ⟨w1, w2, w3⟩ := hokc.2 hX
      refine W.objInit hx hb hown (hts _ w1) (hts _ w2) (hts _ w3) rfl (hl.1.trans hml.symm) rfl hd (by omega) ?_ ?_
      · rw [am_cats]
        have := lv_room (m := m) (pc := pc) (ls := ls) (rest := []) hsum
        show 2 * 0 + _ + 12 ≤ _
        omega
      · exact ih _ _ _ _ _ _ _ _ _ _ hgo hl hR hS hcells hslots hret
    · refine am_hcopy hx hb (hml.trans hl.1.symm) hts hown hd hokc hw.2.1 hA hS hR hs (by omega) (by omega) (fun H' locs' hR' hS' => ?_)
      exact ih _ _ _ _ _ _ _ _ _ _ hgo hl hR' hS' hcells hslots hret
end AM9
/-- a run of a method from its entry, at a depth; bi: what else may be called -/
def am_Run (cst : am_K) (cl : List vw_C) (tt : List (List FieldType)) (P : List am_M) (strs : List Nat) (bi : Nat → List Value → am_H → am_Q → Prop) : Nat → Nat → List Value → am_H → am_Q → Prop
  | 0, _, _, _, _ => False
  | d + 1, mi, av, h, r => (3 ≤ d ∧ bi mi av h r) ∨ ∃ M n, P[mi]? = some M ∧ (lg_sl av).length ≤ M.2.2.1 ∧ am_Go cst cl tt P strs (am_Run cst cl tt P strs bi d) M n 0 (lv_args 0 av) [] h r
