section AM6
variable {D : va_G} {cl : List vw_C} {tys : List FieldType} {ca : FieldType → ClassId} {kd : Nat → Nat} {base : Nat} {A : Nat → Prop} {cst : am_K} {sn : List (Nat × String × String × String)} {sr : am_SR} {strs : List Nat} {lens : List Nat} {byts : List (List Int32)} {adV : Nat → Nat} {tt : List (List FieldType)} {P : List am_M} {Ts : List Cond} {call : Nat → List Value → am_H → am_Q → Prop} {l0 : Launch}
variable (D cl tys ca kd base A cst sn sr strs lens byts adV)
def am_Pc (av : List Value) (h : am_H) : Array Value → State → Prop := fun v U => v = (av.map (am_v (am_ad kd base))).toArray ∧ am_R D cl tys (am_ad kd base) ca base h U.heap ∧ am_W D cl tys ca kd A cst sn sr strs lens byts adV U
def am_Qc (r : am_Q) : Array Value → State → Outcome → State → Prop := fun _ st o t => o = .returned (r.1.map (am_v (am_ad kd base))) ∧ am_R D cl tys (am_ad kd base) ca base r.2.1 t.heap ∧ va_F A st t
variable {D cl tys ca kd base A cst sn sr strs lens byts adV}
theorem am_blind {av : List Value} {h : am_H} : FrameBlind (am_Pc D cl tys ca kd base A cst sn sr strs lens byts adV av h) := fun _ _ _ _ hq => ⟨hq.1, hq.2.1, hq.2.2.call⟩
/-- what is asked of the program's table, of its words, and of the callees -/
def am_ctx (cl : List vw_C) (tys : List FieldType) (tt : List (List FieldType)) (P : List am_M) (Ts : List Cond) : Prop :=
  am_clok cl tt Ts ∧ (∀ w ∈ Ts, (w.onTables && w.keeps) = true ∨ ∃ ty, w = .arrayClass ty) ∧ ∀ (mi : Nat) (M : am_M), P[mi]? = some M → Cond.code M.1 M.2.1 M.2.2.1 M.2.2.2.1 ∈ Ts ∧ M.2.2.1 ≤ 100
def am_tab (cl : List vw_C) (tys : List FieldType) (P : List am_M) (Ts : List Cond) (sn : List (Nat × String × String × String)) (sr : am_SR) (M : am_M) (init : Bool) : Prop :=
  ∀ (pc : Nat) (I : Instr) (X : am_X), am_find pc M.2.2.2.2 = some (I, X) → decode M.2.1 pc = .ok (I, am_len X I) ∧ am_ok cl Ts sn sr M.1.cls M.2.2.1 init X I ∧ am_oka cl tys Ts M.1.cls X I ∧ am_okc P Ts sr M.1.cls X I
theorem am_goodIn (hC : am_ctx cl tys tt P Ts) {mi : Nat} {M : am_M} (hM : P[mi]? = some M) : GoodIn Ts (Cond.code M.1 M.2.1 M.2.2.1 M.2.2.2.1 :: Ts) := by
  intro w hw
  rcases List.mem_cons.mp hw with rfl | h
  · exact ⟨(hC.2.2 mi M hM).1, hC.2.1 _ (hC.2.2 mi M hM).1⟩
  · exact ⟨h, hC.2.1 w h⟩
variable {p : Program} {e : Env} {R : Room} {s : State} {m : MethodId} {args : Array Value} {below : List Frame} {meth : Method} {c : Code} {H : Heap} {locs : List Loc} {cells slots : Nat} {Q : State → Prop}
theorem am_after {r : am_Q} {a : Array Value} {pc mc ms : Nat} {ls : Array Slot} {st0 rest : List Value} (hr : va_Run p l0 e R s m args below meth c H locs cells slots mc ms (F0 m pc ls st0) rest (am_Qc D cl tys ca kd base A r a) A) (hS : va_S A s.heap H locs)
    (kk : ∀ (H1 : Heap) (locs1 : List Loc), am_R D cl tys (am_ad kd base) ca base r.2.1 H1 → va_S A s.heap H1 locs1 → W p l0 e R s m args below meth c H1 locs1 (cells + mc) (slots + ms) Q (F0 m (pc + 3) ls ((r.1.map (am_v (am_ad kd base))).toList ++ rest))) : W p l0 e R s m args below meth c H locs cells slots Q (F0 m pc ls st0) := by
  intro T hT X
  obtain ⟨v, st₀, t, T', L, h0, X', hL, e1, e2, ⟨hv, hR, hz, hk⟩, st⟩ := hr T hT X
  cases hv
  rw [h0] at hz hk
  obtain ⟨t2, a1, b1⟩ := kk T'.heap (locs ++ L) (by rw [e1]; exact hR) ⟨Nat.le_trans hS.1 (by rw [e1]; exact hz), fun q h1 h2 => by rw [e1, hk q (Nat.lt_of_lt_of_le h1 hS.1) h2]; exact hS.2.1 q h1 h2, fun q hq => by
      rcases List.mem_append.mp hq with h | h
      · exact hS.2.2 q h
      · exact hL q h⟩ T' rfl X'
  exact ⟨t2, st t2 a1, b1⟩
theorem am_obj_some {I : Instr} {X : am_X} {st st1 : List Value} (h : am_obj I X st = some st1) : ∃ i a, I = .invokespecial i ∧ X.2.2 = 1 ∧ st = .ref a :: st1 ∧ (st1.map fun v => v.category).sum ≤ 8 := by
  unfold am_obj at h
  split at h
  case h_2 => cases h
  by_cases hX : X.2.2 = 1
  case neg => rw [if_neg hX] at h; cases h
  rw [if_pos hX] at h
  split at h
  case h_2 => cases h
  rename_i a st2
  by_cases hs : (st2.map fun v => v.category).sum ≤ 8
  case neg => rw [if_neg hs] at h; cases h
  rw [if_pos hs] at h
  cases h
  exact ⟨_, _, rfl, hX, rfl, hs⟩
theorem am_cats (f : Nat → Nat) (st : List Value) : ((st.map (am_v f)).map fun v => v.category) = st.map fun v => v.category := by
  rw [List.map_map]
  apply List.map_congr_left
  intro v _
  exact am_v_cat f v
end AM6
