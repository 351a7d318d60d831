section AM8
variable {D : va_G} {cl : List vw_C} {tys : List FieldType} {ca : FieldType → ClassId} {kd : Nat → Nat} {base : Nat} {A : Nat → Prop} {cst : am_K} {sn : List (Nat × String × String × String)} {sr : am_SR} {strs : List Nat} {lens : List Nat} {byts : List (List Int32)} {adV : Nat → Nat} {tt : List (List FieldType)} {P : List am_M} {Ts : List Cond} {call : Nat → List Value → am_H → am_Q → Prop} {l0 : Launch}
variable {p : Program} {e : Env} {R : Room} {s : State} {m : MethodId} {args : Array Value} {below : List Frame} {meth : Method} {c : Code} {H : Heap} {locs : List Loc} {cells slots : Nat} {Q : State → Prop}
/-- what the callees are known to do, at a depth -/
def am_calls (D : va_G) (cl : List vw_C) (tys : List FieldType) (ca : FieldType → ClassId) (kd : Nat → Nat) (base : Nat) (A : Nat → Prop) (cst : am_K) (sn : List (Nat × String × String × String)) (sr : am_SR) (strs : List Nat) (lens : List Nat) (byts : List (List Int32)) (adV : Nat → Nat) (P : List am_M) (Ts : List Cond) (l0 : Launch) (d : Nat) (call : Nat → List Value → am_H → am_Q → Prop) : Prop :=
  ∀ (mi : Nat) (M : am_M) (av : List Value) (h : am_H) (r : am_Q), P[mi]? = some M → call mi av h r →
    Met l0 M.1 (Cond.code M.1 M.2.1 M.2.2.1 M.2.2.2.1 :: Ts) ({ frames := d, cells := r.2.2.1, slots := r.2.2.2, locals := 200 * d } : Room) (am_Pc D cl tys ca kd base A cst sn sr strs lens byts adV av h) (am_Qc D cl tys ca kd base A r) r.2.2.1 r.2.2.2 A
theorem am_recv {C : String} {v : Value} {h : am_H} (hw : am_W D cl tys ca kd A cst sn sr strs lens byts adV s) (hS : va_S A s.heap H locs) (hR : am_R D cl tys (am_ad kd base) ca base h H) (hv : am_rc cl strs C v h) :
    ∃ a, v = .ref a ∧ ∃ cell : Cell, H[am_ad kd base a]? = some cell ∧ cell.vm.isStatics = false ∧ s.vm.findClass C = some cell.cls := by
  obtain ⟨a, rfl, (⟨ha, ci, fs, r, he, hc, hC⟩ | ⟨ha, hin, hC⟩)⟩ := hv
  · refine ⟨a, rfl, ?_⟩
    obtain ⟨r', h1, cell, q1, q2, q3, -⟩ := hR.at ha he
    exact ⟨cell, q1, by rw [q3]; rfl, by rw [q2, ← hC]; exact (hw.1.1 ci r hc).2.1⟩
  · refine ⟨a, rfl, ?_⟩
    obtain ⟨cell, q1, q2, q3, q4⟩ := hw.2.2.2.2.2.1 a hin
    refine ⟨cell, ?_, q2, by rw [hC]; exact q3⟩
    have : am_ad kd base a = kd a := by unfold am_ad; rw [if_pos ha]
    rw [this, hS.2.1 _ (Array.getElem?_eq_some_iff.mp q1).1 q4]
    exact q1
theorem am_desc {x : Option MethodDescriptor} {N n : Nat} (h : x.map (fun d => d.parameters.length + 1) = some N) (hn : N = n + 1) : x.map (fun d => d.parameters.length) = some n := by
  cases x with
  | none => cases h
  | some y =>
    simp only [Option.map_some, Option.some.injEq] at h ⊢
    omega
set_option maxHeartbeats 4000000 in
theorem am_hcall {cc : ByteArray} {pc d : Nat} {ls : Array Slot} {I : Instr} {X : am_X} {st : List Value} {h : am_H} {r1 : am_Q} {own : String}
    (hx : p.tables.exec = Jvm.exec) (hb : c.code = cc) (hml : c.maxLocals = ls.size) (hts : ∀ w ∈ Ts, w.before args s = true) (hown : s.vm.findClass own = some m.cls) (hd : decode cc pc = .ok (I, am_len X I)) (hok : am_okc P Ts sr own X I)
    (hC : am_ctx cl tys tt P Ts) (hw : am_W D cl tys ca kd A cst sn sr strs lens byts adV s) (hcs : am_calls D cl tys ca kd base A cst sn sr strs lens byts adV P Ts l0 d call)
    (hS : va_S A s.heap H locs) (hR : am_R D cl tys (am_ad kd base) ca base h H)
    (hc : am_c cl P strs I X st h) (hcl : call X.1 (st.take X.2.1).reverse h r1) (hRf : d + 1 ≤ R.frames) (hRl : 200 * d + 200 ≤ R.locals) (hcells : cells + r1.2.2.1 ≤ R.cells) (hslots : slots + r1.2.2.2 ≤ R.slots)
    (k : ∀ (H' : Heap) (locs' : List Loc), am_R D cl tys (am_ad kd base) ca base r1.2.1 H' → va_S A s.heap H' locs' → W p l0 e R s m args below meth c H' locs' (cells + r1.2.2.1) (slots + r1.2.2.2) Q (F0 m (pc + 3) ls ((r1.1.toList ++ st.drop X.2.1).map (am_v (am_ad kd base))))) :
    W p l0 e R s m args below meth c H locs cells slots Q (F0 m pc ls (st.map (am_v (am_ad kd base)))) := by
  obtain ⟨hN, hsum, h0, hI⟩ := hc
  have hsum' : 2 * (F0 m pc ls (st.map (am_v (am_ad kd base)))).monitorRoom + (((st.drop X.2.1).map (am_v (am_ad kd base))).map fun v => v.category).sum ≤ 8 := by
    rw [am_cats]; exact lv_room hsum
  have hk : ∀ (H' : Heap) (locs' : List Loc), am_R D cl tys (am_ad kd base) ca base r1.2.1 H' → va_S A s.heap H' locs' → W p l0 e R s m args below meth c H' locs' (cells + r1.2.2.1) (slots + r1.2.2.2) Q (F0 m (pc + 3) ls ((r1.1.map (am_v (am_ad kd base))).toList ++ (st.drop X.2.1).map (am_v (am_ad kd base)))) := by
    intro H' locs' q1 q2
    refine W.eq ?_ (k H' locs' q1 q2)
    rw [List.map_append]
    congr 2
    cases r1.1 <;> rfl
  have hpre : ∀ U : State, U.heap = H → s.WarmedH U.vm → am_Pc D cl tys ca kd base A cst sn sr strs lens byts adV (st.take X.2.1).reverse h (((st.take X.2.1).reverse.map (am_v (am_ad kd base))).toArray) U := fun U hU hW => ⟨rfl, by rw [hU]; exact hR, hw.to hW (fun a g1 g2 => by rw [hU]; exact hS.2.1 a g1 g2)⟩
  cases I with
  | invokestatic i =>
    obtain ⟨M, hM, hst, hin, hdd, hlink⟩ := hok.1 h0
    have hstk : st.map (am_v (am_ad kd base)) = ((st.take X.2.1).reverse.map (am_v (am_ad kd base))).reverse ++ (st.drop X.2.1).map (am_v (am_ad kd base)) := by
      rw [List.map_reverse, List.reverse_reverse, ← List.map_append, List.take_append_drop]
    have hlen : ((st.take X.2.1).reverse.map (am_v (am_ad kd base))).length = X.2.1 := by simp; omega
    have hmL := (hC.2.2 _ M hM).2
    rcases hlink with hlink | ⟨host, hlink⟩
    · exact am_after (va_runS (Ts := Ts) ⟨hx, hb, hml, hown, hts⟩ (hcs _ M _ _ _ hM hcl) ⟨callB_of X.2.1 hts (am_goodIn hC hM) rfl rfl rfl (hts _ hin) (hts _ hlink) hdd ⟨hRf, by show 8 + (_ + 11) + 200 * d ≤ _; omega⟩, hts _ hst⟩ ⟨am_blind, hpre⟩ rfl hlen rfl hstk hsum' hd ⟨hcells, hslots⟩) hS hk
    · exact am_after (va_runSN (Ts := Ts) (host := host) ⟨hx, hb, hml, hown, hts⟩ (hcs _ M _ _ _ hM hcl) ⟨va_cnB X.2.1 hts (am_goodIn hC hM) rfl rfl rfl (hw.2.2.2.2.2.2.2.1 _ hlink) (hts _ hin) hdd ⟨hRf, by show 8 + (_ + 11) + 200 * d ≤ _; omega⟩, hts _ hst, trivial⟩ ⟨am_blind, hpre⟩ rfl hlen rfl hstk hsum' hd ⟨hcells, hslots⟩) hS hk
  | invokevirtual i =>
    obtain ⟨M, hM, hins, hsel, hin, hdd, hlink⟩ := hok h0
    obtain ⟨v, As, M', hA, hM', hrc⟩ := hI
    cases hM.symm.trans hM'
    obtain ⟨a, rfl, hcell⟩ := am_recv hw hS hR hrc
    rw [hA] at hpre hcl
    have hN' : X.2.1 = As.length + 1 := by
      have := congrArg List.length hA
      simp at this
      omega
    have htk : st.take X.2.1 = As.reverse ++ [.ref a] := by
      have := congrArg List.reverse hA
      simpa using this
    have hstk : st.map (am_v (am_ad kd base)) = (As.map (am_v (am_ad kd base))).reverse ++ .ref (am_ad kd base a) :: (st.drop X.2.1).map (am_v (am_ad kd base)) := by
      have e1 : st = (As.reverse ++ [.ref a]) ++ st.drop X.2.1 := by rw [← htk, List.take_append_drop]
      have e2 := congrArg (List.map (am_v (am_ad kd base))) e1
      rw [e2]
      simp [List.map_append, List.map_reverse, am_v]
    have hlen : (As.map (am_v (am_ad kd base))).length = As.length := List.length_map _
    have hmL := (hC.2.2 _ M hM).2
    rcases hlink with hlink | ⟨host, hlink⟩
    · exact am_after (va_runV (Ts := Ts) (C := M.1.cls) ⟨hx, hb, hml, hown, hts⟩ (hcs _ M _ _ _ hM hcl) ⟨callB_of As.length hts (am_goodIn hC hM) rfl rfl rfl (hts _ hin) (hts _ hlink) ⟨hdd.1, hdd.2.1, am_desc hdd.2.2 hN'⟩ ⟨hRf, by show 8 + (_ + 11) + 200 * d ≤ _; omega⟩, hts _ hins, hts _ hsel⟩ ⟨am_blind, hcell, hpre⟩ rfl hlen rfl hstk hsum' hd ⟨hcells, hslots⟩) hS hk
    · exact am_after (va_runVN (Ts := Ts) (C := M.1.cls) (host := host) ⟨hx, hb, hml, hown, hts⟩ (hcs _ M _ _ _ hM hcl) ⟨va_cnB As.length hts (am_goodIn hC hM) rfl rfl rfl (hw.2.2.2.2.2.2.2.1 _ hlink) (hts _ hin) ⟨hdd.1, hdd.2.1, am_desc hdd.2.2 hN'⟩ ⟨hRf, by show 8 + (_ + 11) + 200 * d ≤ _; omega⟩, hts _ hins, hts _ hsel⟩ ⟨am_blind, hcell, hpre⟩ rfl hlen rfl hstk hsum' hd ⟨hcells, hslots⟩) hS hk
  | invokespecial i =>
    obtain ⟨M, hM, hnm, hrt, hins, hin, hdd, hlink⟩ := hok.1 h0
    obtain ⟨a, As, hA⟩ := hI
    rw [hA] at hpre hcl
    have hN' : X.2.1 = As.length + 1 := by
      have := congrArg List.length hA
      simp at this
      omega
    have htk : st.take X.2.1 = As.reverse ++ [.ref a] := by
      have := congrArg List.reverse hA
      simpa using this
    have hstk : st.map (am_v (am_ad kd base)) = (As.map (am_v (am_ad kd base))).reverse ++ .ref (am_ad kd base a) :: (st.drop X.2.1).map (am_v (am_ad kd base)) := by
      have e1 : st = (As.reverse ++ [.ref a]) ++ st.drop X.2.1 := by rw [← htk, List.take_append_drop]
      have e2 := congrArg (List.map (am_v (am_ad kd base))) e1
      rw [e2]
      simp [List.map_append, List.map_reverse, am_v]
    have hlen : (As.map (am_v (am_ad kd base))).length = As.length := List.length_map _
    have hmL := (hC.2.2 _ M hM).2
    have hMet := hcs _ M _ _ _ hM hcl
    have hG := am_goodIn hC hM
    obtain ⟨y, bytes, maxL, ret, L⟩ := M
    dsimp only at hrt hMet hG hmL hnm hins hin hdd hlink
    subst hrt
    rcases hlink with hlink | ⟨host, hlink⟩
    · exact am_after (va_runI (Ts := Ts) ⟨hx, hb, hml, hown, hts⟩ hMet ⟨callB_of As.length hts hG rfl rfl rfl (hts _ hin) (hts _ hlink) ⟨hdd.1, hdd.2.1, am_desc hdd.2.2 hN'⟩ ⟨hRf, by show 8 + (_ + 11) + 200 * d ≤ _; omega⟩, hnm, hts _ hins⟩ ⟨am_blind, hpre⟩ rfl hlen rfl hstk hsum' hd ⟨hcells, hslots⟩) hS hk
    · exact am_after (va_runIN (Ts := Ts) (host := host) ⟨hx, hb, hml, hown, hts⟩ hMet ⟨va_cnB As.length hts hG rfl rfl rfl (hw.2.2.2.2.2.2.2.1 _ hlink) (hts _ hin) ⟨hdd.1, hdd.2.1, am_desc hdd.2.2 hN'⟩ ⟨hRf, by show 8 + (_ + 11) + 200 * d ≤ _; omega⟩, hnm, hts _ hins⟩ ⟨am_blind, hpre⟩ rfl hlen rfl hstk hsum' hd ⟨hcells, hslots⟩) hS hk
  | _ => exact hI.elim
end AM8
