def am_isSw : Instr → Bool
  | .tableswitch .. => true
  | _ => false
/-- the bytes beside the instructions (what isn't listed is passed over); what a switch says is looked at apart -/
def am_walk : List UInt8 → Nat → List (Nat × Instr × am_X) → Bool
  | _, _, [] => true
  | bs0, pc0, q :: L => decide (pc0 ≤ q.1) && (if am_isSw q.2.1 = true then am_walk ((bs0.drop (q.1 - pc0)).drop q.2.2.1) (q.1 + q.2.2.1) L else match bs0.drop (q.1 - pc0) with
    | [] => false
    | op :: bs1 => match am_dc op.toNat (bs1.headD 0) (bs1.tail.headD 0) with
      | none => false
      | some (I, n) => decide (I = q.2.1) && (decide (n = am_len q.2.2 q.2.1) && ((n == 1 || (bs1.head?.isSome && (n == 2 || bs1.tail.head?.isSome))) && am_walk ((op :: bs1).drop n) (q.1 + n) L)))
theorem am_ba (a : ByteArray) (p : Nat) : a[p]? = a.data.toList[p]? := by
  by_cases h : p < a.size
  · rw [getElem?_pos a p h]
    have h2 : p < a.data.toList.length := by rw [Array.length_toList]; exact h
    rw [List.getElem?_eq_getElem h2]
    rfl
  · rw [getElem?_neg a p h]
    have h2 : a.data.toList.length ≤ p := by rw [Array.length_toList]; exact Nat.not_lt.mp h
    rw [List.getElem?_eq_none h2]
theorem am_walk_ok {a : ByteArray} : ∀ (L : List (Nat × Instr × am_X)) (bs : List UInt8) (pc : Nat), bs = a.data.toList.drop pc → am_walk bs pc L = true → ∀ q ∈ L, am_isSw q.2.1 = false → decode a q.1 = .ok (q.2.1, am_len q.2.2 q.2.1)
  | [], _, _, _, _, q, hq, _ => absurd hq List.not_mem_nil
  | z :: L, bs, pc0, hb0, hw, q, hq, hs => by
    unfold am_walk at hw
    rw [Bool.and_eq_true] at hw
    obtain ⟨hz0, hw⟩ := hw
    have hz := of_decide_eq_true hz0
    have hb : bs.drop (z.1 - pc0) = a.data.toList.drop z.1 := by
      rw [hb0, List.drop_drop, Nat.add_sub_cancel' hz]
    by_cases hsw : am_isSw z.2.1 = true
    · rw [if_pos hsw, hb] at hw
      rcases List.mem_cons.mp hq with rfl | hq
      · rw [hsw] at hs; cases hs
      · exact am_walk_ok L _ _ (by rw [List.drop_drop]) hw q hq hs
    · rw [if_neg hsw] at hw
      split at hw
      · cases hw
      rename_i op bs1 hbs
      rw [hbs] at hb
      split at hw
      · cases hw
      rename_i I n hdc
      simp only [Bool.and_eq_true, decide_eq_true_eq, Bool.or_eq_true, beq_iff_eq] at hw
      obtain ⟨hI, hn, hx, hw⟩ := hw
      have get : ∀ j, a[z.1 + j]? = (op :: bs1)[j]? := by
        intro j
        rw [am_ba, hb, List.getElem?_drop]
      rcases List.mem_cons.mp hq with rfl | hq
      · have h0 : a[q.1]? = some op := get 0
        have key : decode a q.1 = .ok (I, n) := by
          refine am_dc_ok hdc h0 (fun h2 => ?_) (fun h3 => ?_)
          · rcases hx with hx | hx
            · omega
            · obtain ⟨b, hb1⟩ := Option.isSome_iff_exists.mp hx.1
              rw [get 1]
              cases bs1 with
              | nil => cases hb1
              | cons b1 r => rfl
          · rcases hx with hx | hx
            · omega
            · rcases hx.2 with hy | hy
              · omega
              · obtain ⟨b, hb1⟩ := Option.isSome_iff_exists.mp hy
                rw [get 2]
                cases bs1 with
                | nil => cases hb1
                | cons b1 r =>
                  cases r with
                  | nil => cases hb1
                  | cons b2 r2 => rfl
        rw [key, hI, hn]
      · exact am_walk_ok L _ _ (by rw [hb, List.drop_drop]) hw q hq hs
/-- all that is asked of a method's table -/
def am_all (T : am_LT) (init : Bool) (M : am_M) : Bool :=
  M.2.2.2.2.all (am_ckb T M.2.2.1 init) && (am_walk M.2.1.data.toList 0 M.2.2.2.2 && M.2.2.2.2.all (fun q => !am_isSw q.2.1 || decide (decode M.2.1 q.1 = .ok (q.2.1, am_len q.2.2 q.2.1))))
theorem am_tab_all {cl : List vw_C} {tys : List FieldType} {P : List am_M} {Ts : List Cond} {sn : List (Nat × String × String × String)} {sr : am_SR} {M : am_M} {init : Bool} {T : am_LT} {Tc : List (List Cond)} (hTc : ∀ c ∈ Tc, ∀ w ∈ c, goodWord w = true → w ∈ Ts)
    (hT : am_lkb cl tys P Tc sn sr M.1.cls T = true) (h : am_all T init M = true) : am_tab cl tys P Ts sn sr M init := by
  unfold am_all at h
  simp only [Bool.and_eq_true] at h
  refine am_tab_of hTc hT h.1 (fun q hq => ?_)
  by_cases hs : am_isSw q.2.1 = true
  · have := List.all_eq_true.mp h.2.2 q hq
    rw [hs] at this
    exact of_decide_eq_true (by simpa using this)
  · exact am_walk_ok _ _ 0 (by simp) h.2.1 q hq (by simpa using hs)
