section AM2
variable {p : Program} {l0 : Launch} {e : Env} {R : Room} {s : State} {m : MethodId} {args : Array Value} {below : List Frame} {meth : Method} {c : Code} {H : Heap} {locs : List Loc} {cells slots : Nat} {Q : State → Prop}
variable {cc : ByteArray} {pc pc' : Nat} {ls : Array Slot} {l l' : am_L} {st st' : List Value} {h h' : am_H} {nL : Nat}
variable {D : va_G} {cl : List vw_C} {tys : List FieldType} {kd : Nat → Nat} {ca : FieldType → ClassId} {base : Nat} {A : Nat → Prop} {Ts : List Cond} {tt : List (List FieldType)} {own : String}
theorem am_ldcwS {tx : String} {index q : Nat} {rest : List Value} (hx : p.tables.exec = Jvm.exec) (hb : c.code = cc) (hown : s.vm.findClass own = some m.cls) (hZ : vk_R own index tx q s) (hdg : decode cc pc = .ok (.ldc_w index, 3))
    (kk : W p l0 e R s m args below meth c H locs cells slots Q (F0 m (pc + 3) ls (.ref q :: rest))) : W p l0 e R s m args below meth c H locs cells slots Q (F0 m pc ls rest) := by
  intro T hT X
  obtain ⟨t, a1, b1⟩ := kk T hT X
  refine ⟨t, ?_, b1⟩
  obtain ⟨k, cf, i, a', hk, hcf, hcp, -, hr, hev'⟩ := Cond.stringRef_spec hown hZ.1
  cases hZ.2.symm.trans hev'
  obtain ⟨k', hk', he⟩ := X.warmed.alike.2.2 _ _ hk
  have hr' : k'.resolved[index]? = some (some (.string q)) := by
    rcases X.warmed.entry hk hk' index with h | ⟨h, -⟩
    · rw [h]; exact hr
    · rw [hr] at h; cases h
  jvm_step X.here [hx, hb, hdg, ldc_w.wp_string (s := T) (f := F0 m pc ls rest) X.here.top hk' (by rw [he]; exact hcf) hcp hr']
  exact a1
/-- the texts' cells -/
def am_tx (kd : Nat → Nat) (A : Nat → Prop) (cst : am_K) (U : State) : Prop := ∀ (i : Nat) (L : List Int32), cst.2.1[i]? = some L → va_OF "java/lang/String" "value" "[B" (.ref (kd (12 + i))) (kd (8 + i)) A U U.heap ∧ va_OF "java/lang/String" "coder" "B" (.int 0) (kd (8 + i)) A U U.heap ∧ va_T .byte (kd (12 + i)) L.length (fun j => .int (L.getD j 0)) A U U.heap
theorem am_K1 (hK : va_K D cl [] s) (hT : ∀ ty ∈ tys, ArrOfT s (ca ty) ty ∧ va_RA s (ca ty) ty) {ty : FieldType} (ht : ty ∈ tys) : va_K D cl [(ca ty, ty)] s :=
  ⟨hK.1, fun k q hk => by
    have hz : k < 1 := (List.getElem?_eq_some_iff.mp hk).1
    rw [show k = 0 by omega] at hk
    cases hk
    exact hT ty ht⟩
theorem am_fit_ok {ty : FieldType} {v : Value} (f : Nat → Nat) (h : am_fit ty v = true) : narrow ty (am_v f v) = am_v f v ∧ fits ty (am_v f v) = true := by
  cases ty <;> cases v <;> first | (exact ⟨rfl, rfl⟩) | (simp [am_fit] at h; done) | skip
  rename_i x
  simp only [am_fit, Bool.or_eq_true, beq_iff_eq] at h
  rcases h with rfl | rfl
  · exact ⟨(by decide : narrow .boolean (.int 0) = .int 0), (by decide : fits .boolean (.int 0) = true)⟩
  · exact ⟨(by decide : narrow .boolean (.int 1) = .int 1), (by decide : fits .boolean (.int 1) = true)⟩
/-- a field is written: the cell behind it -/
theorem am_put_at {r : vw_C} {a ci k : Nat} {fs : List Value} {v : Value} {cell : Cell} {H' : Heap} (hts : ∀ w ∈ Ts, w.before args s = true) (hcl : am_clok cl tt Ts) (hK : va_K D cl [] s) (hR : am_R D cl tys (am_ad kd base) ca base h H) (ha : ¬ a < 16) (he : h[a - 16]? = some (.inr (ci, fs))) (hc : cl[ci]? = some r) (hk : k < r.2.2) (hl : k < fs.length)
    (q2 : cell.cls = D.1 ci) (q3 : cell.vm = .none) (q4 : ∀ k, k < r.2.2 → cell.slots[D.2 ci k]? = some (vp_V (fs.map (am_v (am_ad kd base))) k))
    (e1 : H'[am_ad kd base a]? = some (cell.setSlot (D.2 ci k) (am_v (am_ad kd base) v))) (e2 : H'.size = H.size) (e3 : ∀ q, q ≠ am_ad kd base a → H'[q]? = H[q]?) :
    am_R D cl tys (am_ad kd base) ca base (h.set (a - 16) (.inr (ci, fs.set k v))) H' := by
  have hap := va_apart (args := args) (s := s) (D := D) (cl := cl) (tys := []) (own := "") (C := r.1) (T := r.2.1) (N := r.2.2) (ci := ci) hts (hcl ci r hc).1 _ (hcl ci r hc).2.1 (hcl ci r hc).2.2 hK hc
  refine hR.set ha he e2 e3 ⟨r, hc, t_OB.to (V := updV (vp_V (fs.map (am_v (am_ad kd base)))) k (am_v (am_ad kd base) v)) ⟨_, e1, q2, q3, t_set q4 hap hk _⟩ (fun j _ => ?_)⟩ (fun ty x hx => by cases hx)
  rw [vp_updV_set (by rw [List.length_map]; exact hl), ← List.map_set]
set_option maxHeartbeats 4000000 in
theorem am_hput {init : Bool} {X : am_X} {i : Nat} {cst : am_K} {sn : List (Nat × String × String × String)} {sr : am_SR}
    (hx : p.tables.exec = Jvm.exec) (hb : c.code = cc) (hts : ∀ w ∈ Ts, w.before args s = true) (hown : s.vm.findClass own = some m.cls) (hd : decode cc pc = .ok (.putfield i, 3)) (hok : am_ok cl Ts sn sr own nL init X (.putfield i))
    (hcl : am_clok cl tt Ts) (hK : va_K D cl [] s) (hinit : init = true → meth.name = "<init>") (hA : ∀ q, base ≤ q → A q) (hS : va_S A s.heap H locs) (hR : am_R D cl tys (am_ad kd base) ca base h H)
    (hs : am_s cst cl tt (.putfield i) X pc l st h = some (pc', l', st', h'))
    (k : ∀ (H' : Heap) (locs' : List Loc), am_R D cl tys (am_ad kd base) ca base h' H' → va_S A s.heap H' locs' → l' = l → W p l0 e R s m args below meth c H' locs' cells slots Q (F0 m pc' ls (st'.map (am_v (am_ad kd base))))) :
    W p l0 e R s m args below meth c H locs cells slots Q (F0 m pc ls (st.map (am_v (am_ad kd base)))) := by
  simp only [am_s] at hs
  split at hs
  case h_2 => cases hs
  rename_i v a st1
  by_cases ha : a < 16
  · rw [if_pos ha] at hs; cases hs
  rw [if_neg ha] at hs
  split at hs
  case h_2 => cases hs
  rename_i ci fs he
  by_cases hcx : ci = X.1 ∧ X.2.1 < fs.length
  case neg => rw [if_neg hcx] at hs; cases hs
  rw [if_pos hcx] at hs
  by_cases hf : am_fit ((tt.getD ci []).getD X.2.1 .char) v = true
  case neg => rw [if_neg hf] at hs; cases hs
  rw [if_pos hf] at hs
  simp only [Option.some.injEq, Prod.mk.injEq] at hs; obtain ⟨rfl, rfl, rfl, rfl⟩ := hs
  obtain ⟨hci, hlen⟩ := hcx
  obtain ⟨r, hc, hk, hcase⟩ := hok
  rw [← hci] at hc
  obtain ⟨hn, hft⟩ := am_fit_ok (am_ad kd base) hf
  have hpd := (hcl ci r hc).2.1 _ hk
  obtain ⟨r', h1, cell, q1, q2, q3, q4⟩ := hR.at ha he
  have hr : r' = r := Option.some.inj (h1.symm.trans hc)
  subst hr
  obtain ⟨hSl, hfc, kC, hkC, hkind⟩ := hK.1 ci _ hc
  obtain ⟨cf, kf, fi, fd, hi, hsl⟩ := hSl X.2.1 hk
  have hin := (hcl ci r' hc).1
  have hlay := hts _ (hin _ (u_in_lay hk))
  have hst := (u_facts hfc hkC (u_lays hts hin hk) hi).1
  have hAa : A (am_ad kd base a) := hA _ (by rw [am_ad_hi ha]; omega)
  unfold u_lay at hlay
  rcases hcase with ⟨hlink, hfin | ⟨hfin, hini, hdecl⟩⟩ | ⟨hfin, host, hlink⟩
  · rw [if_neg (by rw [hfin]; decide)] at hlay
    have h6 := u_store hfc hkC hkind hlay hi hpd hn hft
    refine W.putK hx hb (f := fd) ⟨hown, hts _ hlink, ⟨_, _, _, hi⟩, hst⟩ (by rw [q2]; exact h6) q1 q3 (by rw [hsl]; exact k2_hasslot (q4 _ hk)) rfl rfl hd fun H' e1 e2 e3 => ?_
    rw [hsl] at e1 ⊢
    exact k H' _ (am_put_at hts hcl hK hR ha he hc hk hlen q2 q3 q4 e1 e2 e3) (hS.put e2 e3 hAa) rfl
  · rw [if_pos hfin] at hlay
    have hcf : m.cls = cf := by
      obtain ⟨_, _, c', _, _, _, -, -, hf', -, -, -, hown2, -⟩ := Cond.laysFinal_spec hlay
      have e1 : c' = cf := by have := hi.symm.trans hf'; simp at this; exact this.1.symm
      rw [hdecl] at hown2
      rw [← e1]; exact Option.some.inj (hown.symm.trans hown2)
    have h6 := u_fits hfc hkC hkind (Or.inr hlay) hi hpd hn hft
    refine W.putFinK hx hb hown (hts _ hlink) hi hst hcf (hinit hini) (by rw [q2]; exact h6) q1 q3 (by rw [hsl]; exact k2_hasslot (q4 _ hk)) rfl rfl hd fun H' e1 e2 e3 => ?_
    rw [hsl] at e1 ⊢
    exact k H' _ (am_put_at hts hcl hK hR ha he hc hk hlen q2 q3 q4 e1 e2 e3) (hS.put e2 e3 hAa) rfl
  · rw [if_neg (by rw [hfin]; decide)] at hlay
    have h6 := u_store hfc hkC hkind hlay hi hpd hn hft
    refine va_WputK hx hb (f := fd) hown (hts _ hlink) hi hst (by rw [q2]; exact h6) q1 q3 (by rw [hsl]; exact k2_hasslot (q4 _ hk)) rfl rfl hd fun H' e1 e2 e3 => ?_
    rw [hsl] at e1 ⊢
    exact k H' _ (am_put_at hts hcl hK hR ha he hc hk hlen q2 q3 q4 e1 e2 e3) (hS.put e2 e3 hAa) rfl
set_option maxHeartbeats 4000000 in
theorem am_hget {init : Bool} {X : am_X} {i : Nat} {cst : am_K} {sn : List (Nat × String × String × String)} {sr : am_SR}
    (hx : p.tables.exec = Jvm.exec) (hb : c.code = cc) (hts : ∀ w ∈ Ts, w.before args s = true) (hown : s.vm.findClass own = some m.cls) (hd : decode cc pc = .ok (.getfield i, 3)) (hok : am_ok cl Ts sn sr own nL init X (.getfield i))
    (hcl : am_clok cl tt Ts) (hK : va_K D cl [] s) (hR : am_R D cl tys (am_ad kd base) ca base h H) (hS : va_S A s.heap H locs) (hX : am_tx kd A cst s)
    (hs : am_s cst cl tt (.getfield i) X pc l st h = some (pc', l', st', h'))
    (k : h' = h → l' = l → W p l0 e R s m args below meth c H locs cells slots Q (F0 m pc' ls (st'.map (am_v (am_ad kd base))))) :
    W p l0 e R s m args below meth c H locs cells slots Q (F0 m pc ls (st.map (am_v (am_ad kd base)))) := by
  simp only [am_s] at hs
  split at hs
  case h_2 => cases hs
  rename_i a st1
  by_cases ha : a < 16
  · rw [if_pos ha] at hs
    by_cases h8 : 8 ≤ a ∧ a < 12 ∧ a - 8 < cst.2.1.length
    case neg => rw [if_neg h8] at hs; cases hs
    rw [if_pos h8] at hs
    obtain ⟨hL, hLe⟩ : ∃ L, cst.2.1[a - 8]? = some L := ⟨_, List.getElem?_eq_getElem h8.2.2⟩
    have hF := hX _ _ hLe
    have e8 : 8 + (a - 8) = a := Nat.add_sub_cancel' h8.1
    have e12 : 12 + (a - 8) = a + 4 := by rw [show (12 : Nat) = 4 + 8 from rfl, Nat.add_assoc, e8, Nat.add_comm]
    rw [e8, e12] at hF
    have a1 : am_ad kd base a = kd a := by unfold am_ad; rw [if_pos ha]
    have a2 : am_ad kd base (a + 4) = kd (a + 4) := by unfold am_ad; rw [if_pos (Nat.add_lt_add_right h8.2.1 4)]
    by_cases h1 : X.2.2 = 1
    · rw [if_pos h1] at hs
      simp only [Option.some.injEq, Prod.mk.injEq] at hs; obtain ⟨rfl, rfl, rfl, rfl⟩ := hs
      have hv := hF.1
      rw [← a1, ← a2] at hv
      exact vk_getf hx hb hv hS hown (hts _ (hok.1 h1)) (fun _ h9 => h9) hd (k rfl rfl)
    · rw [if_neg h1] at hs
      by_cases h2 : X.2.2 = 2
      case neg => rw [if_neg h2] at hs; cases hs
      rw [if_pos h2] at hs
      simp only [Option.some.injEq, Prod.mk.injEq] at hs; obtain ⟨rfl, rfl, rfl, rfl⟩ := hs
      have hv := hF.2.1
      rw [← a1] at hv
      exact vk_getf hx hb hv hS hown (hts _ (hok.2.1 h2)) (fun _ h9 => h9) hd (k rfl rfl)
  rw [if_neg ha] at hs
  split at hs
  case h_2 => cases hs
  rename_i ci fs he
  by_cases hcx : ci = X.1 ∧ X.2.2 = 0
  case neg => rw [if_neg hcx] at hs; cases hs
  rw [if_pos hcx] at hs
  split at hs
  case h_2 => cases hs
  rename_i v hv
  simp only [Option.some.injEq, Prod.mk.injEq] at hs; obtain ⟨rfl, rfl, rfl, rfl⟩ := hs
  obtain ⟨r, hc, hk, hcase⟩ := hok.2.2 hcx.2
  rw [← hcx.1] at hc
  have hv' : (fs.map (am_v (am_ad kd base)))[X.2.1]? = some (am_v (am_ad kd base) v) := by rw [List.getElem?_map, hv]; rfl
  rcases hcase with hlink | ⟨host, hlink⟩
  · exact va_get (D := D) (cl := cl) (tys := []) (C := r.1) (T := r.2.1) (N := r.2.2) hx hb hts (hcl ci r hc).1 hown hK (hR.P ha he) 0 rfl hc X.2.1 hk (hts _ hlink) (fun _ h9 => h9) hv' hd (k rfl rfl)
  · exact va_getN (D := D) (cl := cl) (tys := []) (C := r.1) (T := r.2.1) (N := r.2.2) hx hb hts (hcl ci r hc).1 hown hK (hR.P ha he) 0 rfl hc X.2.1 hk (hts _ hlink) (fun _ h9 => h9) hv' hd (k rfl rfl)
set_option maxHeartbeats 4000000 in
/-- loads of arrays, and the constants -/
theorem am_hload {init : Bool} {X : am_X} {I : Instr} {cst : am_K} {sn : List (Nat × String × String × String)} {sr : am_SR}
    (hx : p.tables.exec = Jvm.exec) (hb : c.code = cc) (hts : ∀ w ∈ Ts, w.before args s = true) (hown : s.vm.findClass own = some m.cls) (hd : decode cc pc = .ok (I, am_len X I)) (hok : am_ok cl Ts sn sr own nL init X I)
    (hK : va_K D cl [] s) (hT : ∀ ty ∈ tys, ArrOfT s (ca ty) ty ∧ va_RA s (ca ty) ty) (hS : va_S A s.heap H locs) (hR : am_R D cl tys (am_ad kd base) ca base h H)
    (hC1 : ∀ (a : Nat) (L : List Int32), a < 16 → cst.1[a]? = some L → va_T .int (kd a) L.length (fun j => .int (L.getD j 0)) A s s.heap)
    (hC2 : ∀ (a : Nat) (C n d : String), (a, C, n, d) ∈ sn → va_Z C n d (am_v kd (am_sv cst a)) A s s.heap) (hX : am_tx kd A cst s)
    (hC3 : ∀ (o : String) (i : Nat) (tx : String) (a : Nat), (o, i, tx, a) ∈ sr.1 → vk_R o i tx (kd a) s)
    (hI : I = .arraylength ∨ I = .iaload ∨ I = .laload ∨ I = .baload ∨ I = .aaload ∨ (∃ i, I = .getstatic i) ∨ ((∃ i, I = .ldc i) ∧ ¬ X.1 = 0) ∨ ((∃ i, I = .ldc_w i) ∧ ¬ X.1 = 0))
    (hs : am_s cst cl tt I X pc l st h = some (pc', l', st', h'))
    (k : h' = h → l' = l → W p l0 e R s m args below meth c H locs cells slots Q (F0 m pc' ls (st'.map (am_v (am_ad kd base))))) :
    W p l0 e R s m args below meth c H locs cells slots Q (F0 m pc ls (st.map (am_v (am_ad kd base)))) := by
  have hlo : ∀ a : Nat, a < 16 → am_ad kd base a = kd a := fun a ha => by unfold am_ad; rw [if_pos ha]
  rcases hI with rfl | rfl | rfl | rfl | rfl | ⟨i, rfl⟩ | ⟨⟨i, rfl⟩, h0⟩ | ⟨⟨i, rfl⟩, h0⟩
  · simp only [am_s] at hs
    split at hs
    case h_2 => cases hs
    rename_i a st1
    by_cases ha : a < 16
    · rw [if_pos ha] at hs
      split at hs
      case h_2 => cases hs
      rename_i L hL
      simp only [Option.some.injEq, Prod.mk.injEq] at hs; obtain ⟨rfl, rfl, rfl, rfl⟩ := hs
      by_cases h12 : 12 ≤ a
      · rw [if_pos h12] at hL
        have hT1 := (hX _ _ hL).2.2
        rw [show 12 + (a - 12) = a from Nat.add_sub_cancel' h12, ← hlo a ha] at hT1
        exact va_tlen hx hb hT1 hS rfl hd (k rfl rfl)
      · rw [if_neg h12] at hL
        have hT1 := hC1 a L ha hL
        rw [← hlo a ha] at hT1
        exact va_tlen hx hb hT1 hS rfl hd (k rfl rfl)
    · rw [if_neg ha] at hs
      split at hs
      case h_2 => cases hs
      rename_i ty n z he
      simp only [Option.some.injEq, Prod.mk.injEq] at hs; obtain ⟨rfl, rfl, rfl, rfl⟩ := hs
      have ht := hR.2.2 _ _ _ he
      have hP := hR.P ha he
      rcases z with g | g | g | g | g
      · exact va_alen hx hb (am_K1 hK hT ht) hP 0 0 rfl rfl rfl hd (k rfl rfl)
      · exact va_alen hx hb (am_K1 hK hT ht) hP 0 0 rfl rfl rfl hd (k rfl rfl)
      · exact va_alen hx hb (am_K1 hK hT ht) hP 0 0 rfl rfl rfl hd (k rfl rfl)
      · exact va_alen hx hb (am_K1 hK hT ht) hP 0 0 rfl rfl rfl hd (k rfl rfl)
      · exact va_alen hx hb (am_K1 hK hT ht) hP 0 0 rfl rfl rfl hd (k rfl rfl)
  · simp only [am_s] at hs
    split at hs
    case h_2 => cases hs
    rename_i i a st1
    by_cases ha : a < 16
    · rw [if_pos ha] at hs
      split at hs
      case h_2 => cases hs
      rename_i L hL
      by_cases hin : i < 0 ∨ L.length ≤ i.toNatClampNeg
      · rw [if_pos hin] at hs; cases hs
      rw [if_neg hin] at hs
      simp only [Option.some.injEq, Prod.mk.injEq] at hs; obtain ⟨rfl, rfl, rfl, rfl⟩ := hs
      have hT1 := hC1 a L ha hL
      rw [← hlo a ha] at hT1
      exact va_ti hx hb hT1 hS hin rfl hd (k rfl rfl)
    · rw [if_neg ha] at hs
      split at hs
      case h_2 => cases hs
      rename_i n g he
      by_cases hin : i < 0 ∨ n ≤ i.toNatClampNeg
      · rw [if_pos hin] at hs; cases hs
      rw [if_neg hin] at hs
      simp only [Option.some.injEq, Prod.mk.injEq] at hs; obtain ⟨rfl, rfl, rfl, rfl⟩ := hs
      exact va_iald hx hb (am_K1 hK hT (hR.2.2 _ _ _ he)) (hR.P ha he) 0 0 rfl rfl hin hd (k rfl rfl)
  · simp only [am_s] at hs
    split at hs
    case h_2 => cases hs
    rename_i i a st1
    by_cases ha : a < 16
    · rw [if_pos ha] at hs; cases hs
    · rw [if_neg ha] at hs
      split at hs
      case h_2 => cases hs
      rename_i n g he
      by_cases hin : i < 0 ∨ n ≤ i.toNatClampNeg
      · rw [if_pos hin] at hs; cases hs
      rw [if_neg hin] at hs
      simp only [Option.some.injEq, Prod.mk.injEq] at hs; obtain ⟨rfl, rfl, rfl, rfl⟩ := hs
      exact va_lald hx hb (am_K1 hK hT (hR.2.2 _ _ _ he)) (hR.P ha he) 0 0 rfl rfl hin hd (k rfl rfl)
  · simp only [am_s] at hs
    split at hs
    case h_2 => cases hs
    rename_i i a st1
    by_cases ha : a < 16
    · rw [if_pos ha] at hs
      by_cases h12 : 12 ≤ a
      case neg => rw [if_neg h12] at hs; cases hs
      rw [if_pos h12] at hs
      split at hs
      case h_2 => cases hs
      rename_i L hL
      by_cases hin : i < 0 ∨ L.length ≤ i.toNatClampNeg
      · rw [if_pos hin] at hs; cases hs
      rw [if_neg hin] at hs
      simp only [Option.some.injEq, Prod.mk.injEq] at hs; obtain ⟨rfl, rfl, rfl, rfl⟩ := hs
      have hT1 := (hX _ _ hL).2.2
      rw [show 12 + (a - 12) = a from Nat.add_sub_cancel' h12, ← hlo a ha] at hT1
      exact va_tb hx hb hT1 hS hin rfl hd (k rfl rfl)
    · rw [if_neg ha] at hs
      split at hs
      case h_3 => cases hs
      · rename_i n g he
        by_cases hin : i < 0 ∨ n ≤ i.toNatClampNeg
        · rw [if_pos hin] at hs; cases hs
        rw [if_neg hin] at hs
        simp only [Option.some.injEq, Prod.mk.injEq] at hs; obtain ⟨rfl, rfl, rfl, rfl⟩ := hs
        exact va_bald hx hb (am_K1 hK hT (hR.2.2 _ _ _ he)) (hR.P ha he) 0 0 rfl rfl hin hd (k rfl rfl)
      · rename_i n g he
        by_cases hin : i < 0 ∨ n ≤ i.toNatClampNeg
        · rw [if_pos hin] at hs; cases hs
        rw [if_neg hin] at hs
        simp only [Option.some.injEq, Prod.mk.injEq] at hs; obtain ⟨rfl, rfl, rfl, rfl⟩ := hs
        exact va_zald hx hb (am_K1 hK hT (hR.2.2 _ _ _ he)) (hR.P ha he) 0 0 rfl rfl hin hd (k rfl rfl)
  · simp only [am_s] at hs
    split at hs
    case h_2 => cases hs
    rename_i i a st1
    by_cases ha : a < 16
    · rw [if_pos ha] at hs; cases hs
    · rw [if_neg ha] at hs
      split at hs
      case h_2 => cases hs
      rename_i C n g he
      by_cases hin : i < 0 ∨ n ≤ i.toNatClampNeg
      · rw [if_pos hin] at hs; cases hs
      rw [if_neg hin] at hs
      simp only [Option.some.injEq, Prod.mk.injEq] at hs; obtain ⟨rfl, rfl, rfl, rfl⟩ := hs
      refine va_aldq (C := C) hx hb (am_K1 hK hT (hR.2.2 _ _ _ he)) (hR.P ha he) 0 0 rfl rfl hin hd ?_
      have hv : va_rf ((g i.toNatClampNeg).map (am_ad kd base)) = am_v (am_ad kd base) (va_rf (g i.toNatClampNeg)) := by cases g i.toNatClampNeg <;> rfl
      show W p l0 e R s m args below meth c H locs cells slots Q (F0 m _ ls (va_rf ((g i.toNatClampNeg).map (am_ad kd base)) :: _))
      rw [hv]
      exact k rfl rfl
  · simp only [am_s] at hs
    by_cases ha : am_lowv (am_sv cst X.2.1) = true
    case neg => rw [if_neg ha] at hs; cases hs
    rw [if_pos ha] at hs
    simp only [Option.some.injEq, Prod.mk.injEq] at hs; obtain ⟨rfl, rfl, rfl, rfl⟩ := hs
    obtain ⟨C, n, d, hn, hcase⟩ := hok
    have hZ := hC2 _ _ _ _ hn
    have hvv : am_v kd (am_sv cst X.2.1) = am_v (am_ad kd base) (am_sv cst X.2.1) := by
      generalize am_sv cst X.2.1 = w at ha
      cases w with
      | ref q => exact congrArg Value.ref (hlo q (of_decide_eq_true ha)).symm
      | _ => rfl
    rw [hvv] at hZ
    rcases hcase with hlink | ⟨host, hlink⟩
    · exact va_gets hx hb hZ hS hown (hts _ hlink) (fun _ h9 => h9) hd (k rfl rfl)
    · exact va_getsN hx hb hZ hS hown (hts _ hlink) (fun _ h9 => h9) hd (k rfl rfl)
  · simp only [am_s, if_neg h0] at hs
    by_cases ha : X.2.1 < 16
    case neg => rw [if_neg ha] at hs; cases hs
    rw [if_pos ha] at hs
    simp only [Option.some.injEq, Prod.mk.injEq] at hs; obtain ⟨rfl, rfl, rfl, rfl⟩ := hs
    obtain ⟨tx, hm⟩ := hok.2 h0
    have hZ := hC3 _ _ _ _ hm
    rw [← hlo _ ha] at hZ
    exact va_ldcS hx hb hown hZ hd (k rfl rfl)
  · simp only [am_s, if_neg h0] at hs
    by_cases ha : X.2.1 < 16
    case neg => rw [if_neg ha] at hs; cases hs
    rw [if_pos ha] at hs
    simp only [Option.some.injEq, Prod.mk.injEq] at hs; obtain ⟨rfl, rfl, rfl, rfl⟩ := hs
    obtain ⟨tx, hm⟩ := hok.2 h0
    have hZ := hC3 _ _ _ _ hm
    rw [← hlo _ ha] at hZ
    exact am_ldcwS hx hb hown hZ hd (k rfl rfl)
set_option maxHeartbeats 4000000 in
/-- stores into arrays -/
theorem am_hstore {X : am_X} {I : Instr} {cst : am_K}
    (hx : p.tables.exec = Jvm.exec) (hb : c.code = cc) (hd : decode cc pc = .ok (I, am_len X I))
    (hK : va_K D cl [] s) (hT : ∀ ty ∈ tys, ArrOfT s (ca ty) ty ∧ va_RA s (ca ty) ty) (hA : ∀ q, base ≤ q → A q) (hS : va_S A s.heap H locs) (hR : am_R D cl tys (am_ad kd base) ca base h H)
    (hI : I = .iastore ∨ I = .lastore ∨ I = .bastore ∨ I = .aastore)
    (hs : am_s cst cl tt I X pc l st h = some (pc', l', st', h'))
    (k : ∀ (H' : Heap) (locs' : List Loc), am_R D cl tys (am_ad kd base) ca base h' H' → va_S A s.heap H' locs' → l' = l → W p l0 e R s m args below meth c H' locs' cells slots Q (F0 m pc' ls (st'.map (am_v (am_ad kd base))))) :
    W p l0 e R s m args below meth c H locs cells slots Q (F0 m pc ls (st.map (am_v (am_ad kd base)))) := by
  rcases hI with rfl | rfl | rfl | rfl
  · simp only [am_s] at hs
    split at hs
    case h_2 => cases hs
    rename_i x i a st1
    by_cases ha : a < 16
    · rw [if_pos ha] at hs; cases hs
    rw [if_neg ha] at hs
    split at hs
    case h_2 => cases hs
    rename_i n g he
    by_cases hin : i < 0 ∨ n ≤ i.toNatClampNeg
    · rw [if_pos hin] at hs; cases hs
    rw [if_neg hin] at hs
    simp only [Option.some.injEq, Prod.mk.injEq] at hs; obtain ⟨rfl, rfl, rfl, rfl⟩ := hs
    have ht := hR.2.2 _ _ _ he
    refine W.iast hx hb (hR.at ha he) ((hT _ ht).1 n (fun j => .int (g j))) (fun q => by cases q) (by show ¬ (i < 0 ∨ (arrV _ _ _).slots.size ≤ _); rw [arrV_size]; exact hin) rfl rfl hd fun H1 e1 z oq => ?_
    refine k H1 _ (hR.set ha he z oq ?_ (fun ty y hy => by cases hy; exact ht)) (hS.put z oq (hA _ (by rw [am_ad_hi ha]; omega))) rfl
    show H1[am_ad kd base a]? = some (vp_cell _ _)
    rw [e1, vp_cell_i, vp_cell_i, arrV_store]
    congr 2
    funext q
    by_cases hq : q = i.toNatClampNeg
    · subst hq; simp [updV, upd]
    · simp [updV, upd, hq]
  · simp only [am_s] at hs
    split at hs
    case h_2 => cases hs
    rename_i x i a st1
    by_cases ha : a < 16
    · rw [if_pos ha] at hs; cases hs
    rw [if_neg ha] at hs
    split at hs
    case h_2 => cases hs
    rename_i n g he
    by_cases hin : i < 0 ∨ n ≤ i.toNatClampNeg
    · rw [if_pos hin] at hs; cases hs
    rw [if_neg hin] at hs
    simp only [Option.some.injEq, Prod.mk.injEq] at hs; obtain ⟨rfl, rfl, rfl, rfl⟩ := hs
    have ht := hR.2.2 _ _ _ he
    refine W.last hx hb (hR.at ha he) ((hT _ ht).1 n (fun j => .long (g j))) (fun q => by cases q) (by show ¬ (i < 0 ∨ (arrV _ _ _).slots.size ≤ _); rw [arrV_size]; exact hin) rfl rfl hd fun H1 e1 z oq => ?_
    refine k H1 _ (hR.set ha he z oq ?_ (fun ty y hy => by cases hy; exact ht)) (hS.put z oq (hA _ (by rw [am_ad_hi ha]; omega))) rfl
    show H1[am_ad kd base a]? = some (vp_cell _ _)
    rw [e1, vp_cell_l, vp_cell_l, arrV_store]
    congr 2
    funext q
    by_cases hq : q = i.toNatClampNeg
    · subst hq; simp [updV, vp_updL]
    · simp [updV, vp_updL, hq]
  · simp only [am_s] at hs
    split at hs
    case h_2 => cases hs
    rename_i x i a st1
    by_cases ha : a < 16
    · rw [if_pos ha] at hs; cases hs
    rw [if_neg ha] at hs
    split at hs
    case h_3 => cases hs
    · rename_i n g he
      by_cases hin : i < 0 ∨ n ≤ i.toNatClampNeg
      · rw [if_pos hin] at hs; cases hs
      rw [if_neg hin] at hs
      simp only [Option.some.injEq, Prod.mk.injEq] at hs; obtain ⟨rfl, rfl, rfl, rfl⟩ := hs
      have ht := hR.2.2 _ _ _ he
      refine W.bast hx hb (hR.at ha he) ((hT _ ht).1 n (fun j => .int (g j))) (fun q => by cases q) (by show ¬ (i < 0 ∨ (arrV _ _ _).slots.size ≤ _); rw [arrV_size]; exact hin) rfl rfl hd fun H1 e1 z oq => ?_
      refine k H1 _ (hR.set ha he z oq ?_ (fun ty y hy => by cases hy; exact ht)) (hS.put z oq (hA _ (by rw [am_ad_hi ha]; omega))) rfl
      show H1[am_ad kd base a]? = some (vp_cell _ _)
      rw [e1, vp_cell_i, vp_cell_i, arrV_store]
      congr 2
      funext q
      by_cases hq : q = i.toNatClampNeg
      · subst hq; simp [updV, upd, vp_nar]; try rfl
      · simp [updV, upd, hq]
    · rename_i n g he
      by_cases hin : i < 0 ∨ n ≤ i.toNatClampNeg
      · rw [if_pos hin] at hs; cases hs
      rw [if_neg hin] at hs
      simp only [Option.some.injEq, Prod.mk.injEq] at hs; obtain ⟨rfl, rfl, rfl, rfl⟩ := hs
      have ht := hR.2.2 _ _ _ he
      refine W.zast hx hb (hR.at ha he) ((hT _ ht).1 n (fun j => .int (g j))) (fun q => by cases q) (by show ¬ (i < 0 ∨ (arrV _ _ _).slots.size ≤ _); rw [arrV_size]; exact hin) rfl rfl hd fun H1 e1 z oq => ?_
      refine k H1 _ (hR.set ha he z oq ?_ (fun ty y hy => by cases hy; exact ht)) (hS.put z oq (hA _ (by rw [am_ad_hi ha]; omega))) rfl
      show H1[am_ad kd base a]? = some (vp_cell _ _)
      rw [e1, vp_cell_i, vp_cell_i, arrV_store]
      congr 2
      funext q
      by_cases hq : q = i.toNatClampNeg
      · subst hq; simp [updV, upd, vp_nar]; try rfl
      · simp [updV, upd, hq]
  · simp only [am_s] at hs
    split at hs
    case h_2 => cases hs
    rename_i v i a st1
    by_cases ha : a < 16
    · rw [if_pos ha] at hs; cases hs
    rw [if_neg ha] at hs
    split at hs
    case h_2 => cases hs
    rename_i C n g he
    by_cases hin : i < 0 ∨ n ≤ i.toNatClampNeg
    · rw [if_pos hin] at hs; cases hs
    rw [if_neg hin] at hs
    by_cases hv : v < 16
    · rw [if_pos hv] at hs; cases hs
    rw [if_neg hv] at hs
    split at hs
    case h_2 => cases hs
    rename_i ci vs hve
    split at hs
    case h_2 => cases hs
    rename_i r hc
    by_cases hC : C = r.1
    case neg => rw [if_neg hC] at hs; cases hs
    rw [if_pos hC] at hs
    simp only [Option.some.injEq, Prod.mk.injEq] at hs; obtain ⟨rfl, rfl, rfl, rfl⟩ := hs
    have ht := hR.2.2 _ _ _ he
    have hlt : i.toNatClampNeg < n := Nat.not_le.mp fun q => hin (Or.inr q)
    have h0 : ¬ i < 0 := fun q => hin (Or.inl q)
    obtain ⟨r', hr', cellV, g1, g2, g3, -⟩ := hR.at hv hve
    have hcls := (hK.1 ci r hc).2
    subst hC
    obtain ⟨kA, comp, k1, k2, k3, -⟩ := (hT _ ht).2
    have hcomp : comp = D.1 ci := Option.some.inj (k3.symm.trans hcls.1)
    subst hcomp
    obtain ⟨kC, hkC, -⟩ := hcls.2
    refine W.aast hx hb (hR.at ha he) (fun q h => by cases h) (fun h => by cases h) k1 k2 rfl hkC ⟨h0, by show _ < (arrV _ _ _).slots.size; rw [arrV_size]; exact hlt⟩ g1 (fun q h => by rw [g3] at h; cases h) (by rw [g2]; exact hkC) (by rw [g2]; exact va_assign hcls) rfl rfl hd fun H1 e1 z oq => ?_
    refine k H1 _ (hR.set ha he z oq ?_ (fun ty y hy => by cases hy; exact ht)) (hS.put z oq (hA _ (by rw [am_ad_hi ha]; omega))) rfl
    show H1[am_ad kd base a]? = some (vp_cell _ _)
    rw [e1, vp_cell_q, vp_cell_q, arrV_store]
    congr 2
    funext q
    by_cases hq : q = i.toNatClampNeg
    · subst hq; simp [updV, va_up, va_rf]
    · simp [updV, va_up, hq]
end AM2
