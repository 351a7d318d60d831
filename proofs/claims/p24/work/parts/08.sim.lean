section AM7
variable {D : va_G} {cl : List vw_C} {tys : List FieldType} {ca : FieldType → ClassId} {kd : Nat → Nat} {base : Nat} {A : Nat → Prop} {cst : am_K} {sn : List (Nat × String × String × String)} {sr : am_SR} {strs : List Nat} {lens : List Nat} {byts : List (List Int32)} {adV : Nat → Nat} {tt : List (List FieldType)} {P : List am_M} {Ts : List Cond} {call : Nat → List Value → am_H → am_Q → Prop} {l0 : Launch}
variable {p : Program} {e : Env} {R : Room} {s : State} {m : MethodId} {args : Array Value} {below : List Frame} {meth : Method} {c : Code} {H : Heap} {locs : List Loc} {cells slots : Nat} {Q : State → Prop}
theorem am_clamp {z : Int32} (hz : ¬ z < 0) : z.toInt = (z.toNatClampNeg : Int) := by
  have hz0 : (0 : Int) ≤ z.toInt := by
    have := Int32.not_lt.mp hz
    simpa using Int32.le_iff_toInt_le.mp this
  show z.toInt = ((z.toInt.toNat : Nat) : Int)
  omega
set_option maxHeartbeats 4000000 in
theorem am_hcopy {cc : ByteArray} {pc : Nat} {ls : Array Slot} {I : Instr} {X : am_X} {st st1 : List Value} {h h1 : am_H} {own : String}
    (hx : p.tables.exec = Jvm.exec) (hb : c.code = cc) (hml : c.maxLocals = ls.size) (hts : ∀ w ∈ Ts, w.before args s = true) (hown : s.vm.findClass own = some m.cls) (hd : decode cc pc = .ok (I, am_len X I)) (hok : am_okc P Ts sr own X I)
    (hT : ∀ ty ∈ tys, ArrOfT s (ca ty) ty ∧ va_RA s (ca ty) ty) (hA : ∀ q, base ≤ q → A q) (hS : va_S A s.heap H locs) (hR : am_R D cl tys (am_ad kd base) ca base h H)
    (hs : am_copy I X st h = some (st1, h1)) (hf : 1 ≤ R.frames) (hlo : 100 ≤ R.locals)
    (k : ∀ (H' : Heap) (locs' : List Loc), am_R D cl tys (am_ad kd base) ca base h1 H' → va_S A s.heap H' locs' → W p l0 e R s m args below meth c H' locs' cells slots Q (F0 m (pc + 3) ls (st1.map (am_v (am_ad kd base))))) :
    W p l0 e R s m args below meth c H locs cells slots Q (F0 m pc ls (st.map (am_v (am_ad kd base)))) := by
  unfold am_copy at hs
  split at hs
  case h_2 => cases hs
  rename_i i
  by_cases hX : X.2.2 = 2
  case neg => rw [if_neg hX] at hs; cases hs
  rw [if_pos hX] at hs
  split at hs
  case h_2 => cases hs
  rename_i n dp b sp a st2
  split at hs
  · cases hs
  rename_i hneg
  simp only [not_or, Decidable.not_not] at hneg
  obtain ⟨ha, hb2, hn, hdp, hsp, hsum⟩ := hneg
  split at hs
  case h_2 => cases hs
  rename_i n0 f n1 g hea heb
  split at hs
  case isFalse => cases hs
  rename_i hlen
  cases hs
  obtain ⟨hw1, hw2, hw3, hw4⟩ := hok.2 hX
  have hta := hR.2.2 _ _ _ hea
  intro T hT0 XS
  have hc0 : H[am_ad kd base a]? = some (vp_cell (ca .int) (n0, .inl f)) := hR.at ha hea
  have hc1 : H[am_ad kd base b]? = some (vp_cell (ca .int) (n1, .inl g)) := hR.at hb2 heb
  obtain ⟨-, k0, hk0, cm0, hkk0⟩ := (hT _ hta).1 n0 (fun j => .int (f j))
  obtain ⟨-, k1, hk1, cm1, hkk1⟩ := (hT _ hta).1 n1 (fun j => .int (g j))
  obtain ⟨vm', X', step⟩ := XS.arraycopy hx hown (hts _ hw1) (hts _ hw2) (hts _ hw3) (hts _ hw4) (src := am_ad kd base a) (dst := am_ad kd base b) (cs := vp_cell (ca .int) (n0, .inl f)) (cd := vp_cell (ca .int) (n1, .inl g)) (srcPos := sp) (destPos := dp) (n := n) (by rw [hT0]; exact hc0) (by rw [hT0]; exact hc1)
    (fun _ h => by cases h) (fun _ h => by cases h) (fun h => by cases h) (fun h => by cases h) hk0 hk1 hkk0 hkk1 (by simp [refKind]) hsp hdp hn
    (by rw [am_clamp hsp, am_clamp hn]; show ¬ _ > ((arrV (ca .int) n0 (fun j => .int (f j))).slots.size : Int); rw [arrV_size]; omega)
    (by rw [am_clamp hdp, am_clamp hn]; show ¬ _ > ((arrV (ca .int) n1 (fun j => .int (g j))).slots.size : Int); rw [arrV_size]; omega)
    (fun vm₁ _ i hi => by
      have e : (vp_cell (ca .int) (n0, .inl f)).slots.getD (sp.toNatClampNeg + i) .null = .int (f (sp.toNatClampNeg + i)) := by
        show (arrV (ca .int) n0 (fun j => .int (f j))).slots.getD _ _ = _
        rw [Array.getD_eq_getD_getElem?, arrV_read _ _ (by omega)]
        rfl
      refine ⟨?_, ?_⟩
      · rw [e]; rfl
      · rw [e]; exact trivial)
    (g := F0 m pc ls (.int n :: .int dp :: .ref (am_ad kd base b) :: .int sp :: .ref (am_ad kd base a) :: st1.map (am_v (am_ad kd base)))) rfl (by rw [hml]) (rest := st1.map (am_v (am_ad kd base))) rfl (by rw [hb]; exact hd) hf (by
      rw [am_cats]
      show 2 * 0 + _ + (nativeFrameWords "java/lang/System" "arraycopy" 5 + 11) ≤ _
      have : nativeFrameWords "java/lang/System" "arraycopy" 5 = 7 := by decide
      rw [this]
      omega)
  have e1 : copied (vp_cell (ca .int) (n0, .inl f)) (vp_cell (ca .int) (n1, .inl g)) sp dp n = vp_cell (ca .int) (n1, .inl (va_cpy f g sp.toNatClampNeg dp.toNatClampNeg n.toNatClampNeg)) := va_copied (fun z => .int z) (ca .int) (ca .int) f g hlen.1
  rw [e1] at X' step
  have hl : am_ad kd base b < H.size := (Array.getElem?_eq_some_iff.mp hc1).1
  generalize hcell : vp_cell (ca .int) (n1, .inl (va_cpy f g sp.toNatClampNeg dp.toNatClampNeg n.toNatClampNeg)) = cellN at X' step
  have hheap : ((T.setVm vm').setCell (am_ad kd base b) cellN).heap = H.setIfInBounds (am_ad kd base b) cellN := by rw [← hT0]; rfl
  have oq : ∀ q : Nat, q ≠ am_ad kd base b → (H.setIfInBounds (am_ad kd base b) cellN)[q]? = H[q]? := fun q hq => by simp [Array.getElem?_setIfInBounds, Ne.symm hq]
  have hAb : A (am_ad kd base b) := hA _ (by rw [am_ad_hi hb2]; omega)
  obtain ⟨t, a1, b1⟩ := k _ _ (hR.set hb2 heb (H1 := H.setIfInBounds (am_ad kd base b) cellN) (by simp) oq (show (H.setIfInBounds (am_ad kd base b) cellN)[am_ad kd base b]? = some _ by rw [← hcell]; simp [Array.getElem?_setIfInBounds, hl, am_e]) (fun ty y hy => by cases hy; exact hta))
    ⟨by simp; exact hS.1, fun q g1 g2 => by
      rw [oq q (fun e => g2 (by rw [e]; exact hAb))]
      exact hS.2.1 q g1 g2, fun q hq => by
      rcases List.mem_append.mp hq with h | h
      · exact hS.2.2 q h
      · obtain ⟨z, -, hz⟩ := List.mem_map.mp h
        rw [← hz]
        exact hAb⟩ _ hheap X'
  exact ⟨t, step t a1, b1⟩
end AM7
