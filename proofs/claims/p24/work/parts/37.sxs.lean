/-! the heap's words, and the instructions -/
theorem sx_hget_set (i j : Nat) (e : sx_E) (H : sx_H) : sx_hget (sx_hset i e H) j = if j = i then some e else sx_hget H j := by
  obtain ⟨a, b, n⟩ := H
  simp only [sx_hget, sx_hset, sx_get_put]
  by_cases h : j = i
  · rw [if_pos h, if_pos h]
  · rw [if_neg h, if_neg h]
section SX3
variable {ρ : Nat → Int32} {B : sx_B} {tt : List (List FieldType)} {h0 : am_H} {H : sx_H} {h : am_H}
theorem sx_gH_set {i : Nat} {e0 e : sx_E} {x : am_E} (hH : sx_gH tt ρ h0 H h) (hi : sx_hget H i = some e0) (hx : sx_gE tt ρ e x) : sx_gH tt ρ h0 (sx_hset i e H) (h.set i x) := by
  obtain ⟨h1, h2, h3, h4⟩ := hH
  obtain ⟨x0, hx0, -⟩ := h3 i e0 hi
  have hl : i < h.length := (List.getElem?_eq_some_iff.mp hx0).1
  refine ⟨?_, by rw [List.length_set]; exact h2, fun j e' hj => ?_, fun j hj hn => ?_⟩
  · rw [List.length_set, h1]
    obtain ⟨a, b, n⟩ := H
    rfl
  · rw [sx_hget_set] at hj
    by_cases hji : j = i
    · subst hji
      rw [if_pos rfl] at hj
      cases hj
      exact ⟨x, List.getElem?_set_self hl, hx⟩
    · rw [if_neg hji] at hj
      rw [List.getElem?_set_ne (Ne.symm hji)]
      exact h3 j e' hj
  · obtain ⟨a, b, n⟩ := H
    simp only [sx_hset, sx_get_put] at hn
    by_cases hji : j = i
    · rw [if_pos hji] at hn; cases hn
    · rw [if_neg hji] at hn
      rw [List.getElem?_set_ne (Ne.symm hji)]
      exact h4 j hj hn
theorem sx_gH_push {e : sx_E} {x : am_E} (hH : sx_gH tt ρ h0 H h) (hlt : H.2.2 < 999999999) (hx : sx_gE tt ρ e x) : sx_gH tt ρ h0 (sx_hpush e H) (h ++ [x]) := by
  obtain ⟨a, b, n⟩ := H
  obtain ⟨h1, h2, h3, h4⟩ := hH
  have hlt' : n < 999999999 := hlt
  have hn : h.length = n := by
    have h1' := h1
    simp only at h1'
    rw [if_neg (by omega)] at h1'
    exact h1'
  have ep : sx_hpush e (a, b, n) = ((n, e) :: a, b, n + 1) := by simp only [sx_hpush, sx_N_eq]
  rw [ep]
  refine ⟨by rw [List.length_append, hn, if_neg (by show ¬ 1000000000 ≤ n + 1; omega)]; rfl, by simp; omega, fun j e' hj => ?_, fun j hj hg => ?_⟩
  · simp only [sx_hget, sx_get] at hj
    cases hb : Nat.beq n j with
    | true =>
      have := Nat.eq_of_beq_eq_true hb
      subst this
      simp only [hb, cond_true] at hj
      cases hj
      refine ⟨x, ?_, hx⟩
      rw [← hn]
      simp
    | false =>
      simp only [hb, cond_false] at hj
      obtain ⟨y, hy, gy⟩ := h3 j e' hj
      exact ⟨y, by rw [List.getElem?_append_left (List.getElem?_eq_some_iff.mp hy).1]; exact hy, gy⟩
  · simp only [sx_get] at hg
    cases hb : Nat.beq n j with
    | true => simp only [hb, cond_true] at hg; cases hg
    | false =>
      simp only [hb, cond_false] at hg
      rw [List.getElem?_append_left (by omega)]
      exact h4 j hj hg
theorem sx_in_ok {v : sx_V} {w : Value} {n j : Nat} (hB : sx_gB ρ B) (hg : sx_g ρ v w) (hi : sx_in B v n = some j) : ∃ i : Int32, w = .int i ∧ ¬ (i < 0 ∨ n ≤ i.toNatClampNeg) ∧ i.toNatClampNeg = j ∧ j < n := by
  unfold sx_in at hi
  split at hi
  case h_2 => cases hi
  rename_i c hc
  match c, hc, hi with
  | .negSucc m, hc, hi => cases hi
  | .ofNat m, hc, hi =>
    cases hb : Nat.blt m n with
    | false => simp only [hb, cond_false] at hi; cases hi
    | true =>
      simp only [hb, cond_true] at hi
      cases hi
      obtain ⟨i, e, he⟩ := sx_g_con hB hg hc
      have hk : j < n := by
        have := hb
        simp only [Nat.blt_eq] at this
        exact this
      have e1 : i.toNatClampNeg = j := by
        show i.toInt.toNat = j
        rw [he]
        rfl
      refine ⟨i, e, ?_, e1, hk⟩
      rw [e1]
      rintro (h | h)
      · have := Int32.lt_iff_toInt_lt.mp h
        rw [he] at this
        have z : (0 : Int32).toInt = 0 := rfl
        have : (Int.ofNat j) = (j : Int) := rfl
        omega
      · omega
theorem sx_inn_ok {v : sx_V} {w : Value} {n : Nat} (hB : sx_gB ρ B) (hg : sx_g ρ v w) (hi : sx_inn B v n = true) : ∃ i : Int32, w = .int i ∧ ¬ (i < 0 ∨ n ≤ i.toNatClampNeg) ∧ i.toNatClampNeg < n := by
  unfold sx_inn at hi
  split at hi
  case h_2 => cases hi
  rename_i p hp
  obtain ⟨i, e, h1, h2⟩ := sx_g_int hB hg hp
  rw [Bool.and_eq_true, sx_le_iff, sx_le_iff] at hi
  have a1 : Int.add p.2 1 = p.2 + 1 := rfl
  have a2 : (Int.ofNat n) = (n : Int) := rfl
  have e1 : i.toNatClampNeg = i.toInt.toNat := rfl
  have hlt : i.toNatClampNeg < n := by rw [e1]; omega
  refine ⟨i, e, ?_, hlt⟩
  rintro (h | h)
  · have := Int32.lt_iff_toInt_lt.mp h
    have z : (0 : Int32).toInt = 0 := rfl
    omega
  · omega
/-- constants: rows by address, the script's elements and its length as symbols, the texts, a reference that is only handed on -/
def sx_gK (ρ : Nat → Int32) (K : sx_K) (cst : am_K) : Prop :=
  (∀ a r, sx_get a K = some r → a ≠ 4 ∧ ((a < 4 ∧ ∃ L : List Int32, cst.1[a]? = some L ∧ L.map Int32.toInt = r) ∨ (12 ≤ a ∧ ∃ L : List Int32, cst.2.1[a - 12]? = some L ∧ L.map Int32.toInt = r))) ∧
  (∃ L : List Int32, cst.1[4]? = some L ∧ (0 ≤ (ρ 7).toInt → L.length ≤ 7 ∧ (ρ 7).toInt = (L.length : Int) ∧ ∀ k, k < L.length → L.getD k 0 = ρ k)) ∧ cst.2.1.length = 4 ∧ (cst.2.2 = .ref 7 ∨ cst.2.2 = .null)
variable {cst : am_K} {cl : List vw_C} {K : sx_K} {I : Instr} {X : am_X} {pc pc1 : Nat} {l l1 : sx_L} {l' : am_L} {st : List sx_V} {st' : List Value} {h' : am_H} {ss : List sx_S}
/-- one of the states behind an instruction is as the abstract machine's -/
def sx_ok1 (cst : am_K) (cl : List vw_C) (tt : List (List FieldType)) (ρ : Nat → Int32) (h0 : am_H) (I : Instr) (X : am_X) (pc : Nat) (l' : am_L) (st' : List Value) (h' : am_H) (ss : List sx_S) : Prop :=
  ∃ q ∈ ss, ∃ F, am_s cst cl tt I X pc l' st' h' = some F ∧ sx_gB ρ q.1 ∧ q.2.1 = F.1 ∧ sx_gL ρ q.2.2.1 F.2.1 ∧ sx_gS ρ q.2.2.2.1 F.2.2.1 ∧ sx_gH tt ρ h0 q.2.2.2.2 F.2.2.2
theorem sx_one_ok {H1 : sx_H} {s1 : List sx_V} {m1 : am_L} {t1 : List Value} {k1 : am_H} (e : am_s cst cl tt I X pc l' st' h' = some (pc1, m1, t1, k1)) (gB : sx_gB ρ B) (gL : sx_gL ρ l1 m1) (gS : sx_gS ρ s1 t1) (gH : sx_gH tt ρ h0 H1 k1) : sx_ok1 cst cl tt ρ h0 I X pc l' st' h' [(B, pc1, l1, s1, H1)] :=
  ⟨_, List.mem_singleton.mpr rfl, _, e, gB, rfl, gL, gS, gH⟩
theorem sx_psh_ok {o : Option sx_V} {st1 : List Value} (hf : sx_psh B pc1 l o st H = some ss) (gB : sx_gB ρ B) (gL : sx_gL ρ l l') (gS : sx_gS ρ st st1) (gH : sx_gH tt ρ h0 H h')
    (k : ∀ v, o = some v → ∃ w, sx_g ρ v w ∧ am_s cst cl tt I X pc l' st' h' = some (pc1, l', w :: st1, h')) : sx_ok1 cst cl tt ρ h0 I X pc l' st' h' ss := by
  unfold sx_psh at hf
  cases o with
  | none => cases hf
  | some v =>
    simp only [sx_vf_eq] at hf
    cases hf
    obtain ⟨w, hw, e⟩ := k v rfl
    exact sx_one_ok e gB gL ⟨hw, gS⟩ gH
theorem sx_bin_ok {f : sx_V → sx_V → Option sx_V} (hf : sx_bin B pc l f st H = some ss) (gB : sx_gB ρ B) (gL : sx_gL ρ l l') (gS : sx_gS ρ st st') (gH : sx_gH tt ρ h0 H h')
    (k : ∀ x y v x' y', f x y = some v → sx_g ρ x x' → sx_g ρ y y' → ∃ w, sx_g ρ v w ∧ ∀ t, am_s cst cl tt I X pc l' (y' :: x' :: t) h' = some (pc + 1, l', w :: t, h')) : sx_ok1 cst cl tt ρ h0 I X pc l' st' h' ss := by
  unfold sx_bin at hf
  split at hf
  case h_2 => cases hf
  rename_i y x st0
  obtain ⟨y', t1, rfl, gy, gS⟩ := sx_gS_cons gS
  obtain ⟨x', t2, rfl, gx, gS⟩ := sx_gS_cons gS
  refine sx_psh_ok hf gB gL gS gH (fun v hv => ?_)
  obtain ⟨w, hw, e⟩ := k x y v x' y' hv gx gy
  exact ⟨w, hw, e t2⟩
theorem sx_un_ok {f : sx_V → Option sx_V} (hf : sx_un B pc l f st H = some ss) (gB : sx_gB ρ B) (gL : sx_gL ρ l l') (gS : sx_gS ρ st st') (gH : sx_gH tt ρ h0 H h')
    (k : ∀ x v x', f x = some v → sx_g ρ x x' → ∃ w, sx_g ρ v w ∧ ∀ t, am_s cst cl tt I X pc l' (x' :: t) h' = some (pc + 1, l', w :: t, h')) : sx_ok1 cst cl tt ρ h0 I X pc l' st' h' ss := by
  unfold sx_un at hf
  split at hf
  case h_2 => cases hf
  rename_i x st0
  obtain ⟨x', t2, rfl, gx, gS⟩ := sx_gS_cons gS
  refine sx_psh_ok hf gB gL gS gH (fun v hv => ?_)
  obtain ⟨w, hw, e⟩ := k x v x' hv gx
  exact ⟨w, hw, e t2⟩
theorem sx_load_ok {f : sx_V → Bool} {i : Nat} (hf : sx_psh B pc1 l (sx_load f i l) st H = some ss) (gB : sx_gB ρ B) (gL : sx_gL ρ l l') (gS : sx_gS ρ st st') (gH : sx_gH tt ρ h0 H h')
    (k : ∀ v w, f v = true → sx_g ρ v w → am_ld i l' = some w → am_s cst cl tt I X pc l' st' h' = some (pc1, l', w :: st', h')) : sx_ok1 cst cl tt ρ h0 I X pc l' st' h' ss := by
  refine sx_psh_ok hf gB gL gS gH (fun v hv => ?_)
  unfold sx_load at hv
  split at hv
  case h_2 => cases hv
  rename_i v' hg
  cases hc : f v' with
  | false => rw [hc] at hv; cases hv
  | true =>
    rw [hc] at hv
    cases hv
    obtain ⟨w, e, g⟩ := sx_gL_get i gL _ hg
    exact ⟨w, g, k _ w hc g e⟩
theorem sx_sto_ok {f : sx_V → Bool} {g : sx_V → sx_L} {g' : Value → am_L} (hf : sx_sto f B pc1 g st H = some ss) (gB : sx_gB ρ B) (gS : sx_gS ρ st st') (gH : sx_gH tt ρ h0 H h') (gg : ∀ v w, sx_g ρ v w → sx_gL ρ (g v) (g' w))
    (k : ∀ v w t, f v = true → sx_g ρ v w → am_s cst cl tt I X pc l' (w :: t) h' = some (pc1, g' w, t, h')) : sx_ok1 cst cl tt ρ h0 I X pc l' st' h' ss := by
  unfold sx_sto at hf
  split at hf
  case h_2 => cases hf
  rename_i v st0
  obtain ⟨w, t, rfl, gv, gS⟩ := sx_gS_cons gS
  cases hc : f v with
  | false => rw [hc] at hf; cases hf
  | true =>
    rw [hc] at hf
    cases hf
    exact sx_one_ok (k v w t hc gv) gB (gg v w gv) gS gH
theorem sx_jump_ok {off : Int} (h : sx_jump pc off = true) : am_j pc off = some (sx_to pc off) := by
  have := sx_le_iff.mp h
  unfold am_j sx_to
  have e : Int.add (Int.ofNat pc) off = (pc : Int) + off := rfl
  rw [e] at this ⊢
  rw [if_pos this]
theorem sx_fork_ok {o : Option (List (Bool × sx_B))} {off : Int} {b : Prop} [Decidable b] {t1 : List Value} (hf : sx_fork o pc off l st H = some ss) (gL : sx_gL ρ l l') (gS : sx_gS ρ st t1) (gH : sx_gH tt ρ h0 H h')
    (k : ∀ bs, o = some bs → am_s cst cl tt I X pc l' st' h' = am_br b pc off l' t1 h' ∧ ∃ q ∈ bs, sx_gB ρ q.2 ∧ (q.1 = true ↔ b)) : sx_ok1 cst cl tt ρ h0 I X pc l' st' h' ss := by
  unfold sx_fork at hf
  cases hj : sx_jump pc off with
  | false => rw [hj] at hf; cases hf
  | true =>
    rw [hj] at hf
    simp only [cond_true] at hf
    split at hf
    case h_2 => cases hf
    rename_i bs
    cases hf
    obtain ⟨e, q, hq, gB, hb⟩ := k bs rfl
    refine ⟨_, List.mem_map.mpr ⟨q, hq, rfl⟩, ?_⟩
    unfold am_br at e
    rw [sx_jump_ok hj] at e
    by_cases hbb : b
    · simp only [if_pos hbb] at e
      refine ⟨_, e, gB, ?_, gL, gS, gH⟩
      rw [hb.mpr hbb]
      rfl
    · simp only [if_neg hbb] at e
      refine ⟨_, e, gB, ?_, gL, gS, gH⟩
      have : q.1 = false := by
        cases hq1 : q.1 with
        | false => rfl
        | true => exact absurd (hb.mp hq1) hbb
      rw [this]
      rfl
theorem sx_isrow_ok {f : FieldType → Bool} {e : sx_E} {r : FieldType × Nat × sx_V × sx_L} (h : sx_isrow f e = some r) : e = .inl r ∧ f r.1 = true := by
  unfold sx_isrow at h
  split at h
  · rename_i e'
    cases hc : f e'.1 with
    | false => rw [hc] at h; cases h
    | true =>
      rw [hc] at h
      cases h
      exact ⟨rfl, hc⟩
  · cases h
theorem sx_elt_nil (d : sx_V) (j : Nat) : sx_elt d [] j = d := rfl
theorem sx_aload_ok {f : FieldType → Bool} {low : Nat → sx_V → Option sx_V} (hf : sx_aload f low B pc l st H = some ss) (gB : sx_gB ρ B) (gL : sx_gL ρ l l') (gS : sx_gS ρ st st') (gH : sx_gH tt ρ h0 H h')
    (k7 : ∀ i, low 7 i = none)
    (kl : ∀ a i v i' t, a < 16 → low a i = some v → sx_g ρ i i' → ∃ w, sx_g ρ v w ∧ am_s cst cl tt I X pc l' (i' :: .ref a :: t) h' = some (pc + 1, l', w :: t, h'))
    (kh : ∀ a (e : FieldType × Nat × sx_V × sx_L) x (i : Int32) t, ¬ a < 16 → f e.1 = true → h'[a - 16]? = some x → sx_gE tt ρ (.inl e) x → ¬ (i < 0 ∨ e.2.1 ≤ i.toNatClampNeg) → i.toNatClampNeg < e.2.1 → ∃ w, sx_g ρ (sx_elt e.2.2.1 e.2.2.2 i.toNatClampNeg) w ∧ am_s cst cl tt I X pc l' (.int i :: .ref a :: t) h' = some (pc + 1, l', w :: t, h')) : sx_ok1 cst cl tt ρ h0 I X pc l' st' h' ss := by
  unfold sx_aload at hf
  split at hf
  case h_2 => cases hf
  rename_i i a st0
  obtain ⟨i', t1, rfl, gi, gS1⟩ := sx_gS_cons gS
  obtain ⟨a', t2, rfl, ga, gS2⟩ := sx_gS_cons gS1
  cases ha : Nat.blt a 16 with
  | true =>
    rw [ha] at hf
    simp only [Nat.blt_eq] at ha
    refine sx_psh_ok (o := low a i) hf gB gL gS2 gH (fun v hv => ?_)
    rcases ga with rfl | ⟨rfl, -⟩
    · exact kl a i v i' t2 ha hv gi
    · rw [k7] at hv; cases hv
  | false =>
    have ha' : ¬ a < 16 := fun h => by
      rw [show Nat.blt a 16 = true by simp only [Nat.blt_eq]; exact h] at ha
      cases ha
    rw [ha] at hf
    simp only [cond_false] at hf
    split at hf
    case h_2 => cases hf
    rename_i e0 he0
    split at hf
    case h_2 => cases hf
    rename_i e he
    obtain ⟨rfl, hfe⟩ := sx_isrow_ok he
    obtain ⟨x, hx, gx⟩ := gH.2.2.1 _ _ he0
    have ea : a' = .ref a := by
      rcases ga with e | ⟨e, -⟩
      · exact e
      · omega
    subst ea
    split at hf
    · rename_i j hj
      obtain ⟨i2, rfl, hi, ej, hlt⟩ := sx_in_ok gB gi hj
      refine sx_psh_ok hf gB gL gS2 gH (fun v hv => ?_)
      cases hv
      obtain ⟨w, gw, e⟩ := kh a e x i2 t2 ha' hfe hx gx hi (by omega)
      rw [ej] at gw
      exact ⟨w, gw, e⟩
    · cases hc : (e.2.2.2.isEmpty && sx_inn B i e.2.1) with
      | false => rw [hc] at hf; cases hf
      | true =>
        rw [hc] at hf
        simp only [cond_true] at hf
        rw [Bool.and_eq_true] at hc
        obtain ⟨i2, rfl, hi, hlt⟩ := sx_inn_ok gB gi hc.2
        refine sx_psh_ok hf gB gL gS2 gH (fun v hv => ?_)
        cases hv
        obtain ⟨w, gw, e⟩ := kh a e x i2 t2 ha' hfe hx gx hi hlt
        rw [List.isEmpty_iff.mp hc.1, sx_elt_nil] at gw
        exact ⟨w, gw, e⟩
theorem sx_same_eq {v w : sx_V} (h : sx_same v w = true) : v = w := by
  unfold sx_same at h
  split at h
  · rw [sx_eq_iff.mp h]
  · rw [Bool.and_eq_true] at h
    rw [sx_eq_iff.mp h.1, sx_eq_iff.mp h.2]
  · simp only [Bool.and_eq_true] at h
    rw [sx_eq_iff.mp h.1, sx_eq_iff.mp h.2.1, Nat.eq_of_beq_eq_true h.2.2.1, sx_eq_iff.mp h.2.2.2]
  · rw [sx_eq_iff.mp h]
  · rfl
  · rw [Nat.eq_of_beq_eq_true h]
  · rfl
  · cases h
theorem sx_wr_elt (d : sx_V) (j k : Nat) (v : sx_V) (ov : sx_L) : sx_elt d (sx_wr d j v ov) k = if k = j then v else sx_elt d ov k := by
  unfold sx_wr
  cases h : sx_same v (sx_elt d ov j) with
  | true =>
    have e := sx_same_eq h
    simp only [cond_true]
    by_cases hk : k = j
    · rw [if_pos hk, hk, ← e]
    · rw [if_neg hk]
  | false =>
    simp only [cond_false]
    unfold sx_elt
    rw [sx_get_put]
    by_cases hk : k = j
    · rw [if_pos hk, if_pos hk]
    · rw [if_neg hk, if_neg hk]
theorem sx_istop_eq {v : sx_V} (h : sx_istop v = true) : v = sx_top := by
  unfold sx_istop at h
  split at h
  · rw [Bool.and_eq_true] at h
    rw [sx_eq_iff.mp h.1, sx_eq_iff.mp h.2]
  · cases h
theorem sx_astore_ok {f : FieldType → Bool} {g : FieldType → sx_V → Option sx_V} (hf : sx_astore f g B pc l st H = some ss) (gB : sx_gB ρ B) (gL : sx_gL ρ l l') (gS : sx_gS ρ st st') (gH : sx_gH tt ρ h0 H h')
    (kh : ∀ a (e : FieldType × Nat × sx_V × sx_L) x v v1 w (i : Int32) t, ¬ a < 16 → f e.1 = true → h'[a - 16]? = some x → sx_gE tt ρ (.inl e) x → g e.1 v = some v1 → sx_g ρ v w → ¬ (i < 0 ∨ e.2.1 ≤ i.toNatClampNeg) → i.toNatClampNeg < e.2.1 →
      ∃ x1, am_s cst cl tt I X pc l' (w :: .int i :: .ref a :: t) h' = some (pc + 1, l', t, h'.set (a - 16) x1) ∧ sx_gE tt ρ (.inl (e.1, e.2.1, e.2.2.1, sx_wr e.2.2.1 i.toNatClampNeg v1 e.2.2.2)) x1 ∧ (e.2.2.2 = [] → e.2.2.1 = sx_top → sx_isI v1 = true → sx_gE tt ρ (.inl e) x1)) : sx_ok1 cst cl tt ρ h0 I X pc l' st' h' ss := by
  unfold sx_astore at hf
  split at hf
  case h_2 => cases hf
  rename_i v i a st0
  obtain ⟨w, t0, rfl, gv, gS0⟩ := sx_gS_cons gS
  obtain ⟨i', t1, rfl, gi, gS1⟩ := sx_gS_cons gS0
  obtain ⟨a', t2, rfl, ga, gS2⟩ := sx_gS_cons gS1
  cases ha : Nat.blt a 16 with
  | true => rw [ha] at hf; cases hf
  | false =>
    have ha' : ¬ a < 16 := fun h => by
      rw [show Nat.blt a 16 = true by simp only [Nat.blt_eq]; exact h] at ha
      cases ha
    rw [ha] at hf
    simp only [cond_false] at hf
    split at hf
    case h_2 => cases hf
    rename_i e0 he0
    split at hf
    case h_2 => cases hf
    rename_i e he
    obtain ⟨rfl, hfe⟩ := sx_isrow_ok he
    obtain ⟨x, hx, gx⟩ := gH.2.2.1 _ _ he0
    have ea : a' = .ref a := by
      rcases ga with e | ⟨e, -⟩
      · exact e
      · omega
    subst ea
    split at hf
    · rename_i j v1 hj hv1
      obtain ⟨i2, rfl, hi, ej, hlt⟩ := sx_in_ok gB gi hj
      obtain ⟨x1, e1, g1, -⟩ := kh a e x v v1 w i2 t2 ha' hfe hx gx hv1 gv hi (by omega)
      rw [ej] at g1
      cases hf
      exact sx_one_ok e1 gB gL gS2 (sx_gH_set gH he0 g1)
    · rename_i v1 hj hv1
      cases hc : (e.2.2.2.isEmpty && (sx_istop e.2.2.1 && (sx_isI v1 && sx_inn B i e.2.1))) with
      | false => rw [hc] at hf; cases hf
      | true =>
        rw [hc] at hf
        simp only [cond_true] at hf
        simp only [Bool.and_eq_true] at hc
        obtain ⟨c1, c2, c3, c4⟩ := hc
        obtain ⟨i2, rfl, hi, hlt⟩ := sx_inn_ok gB gi c4
        obtain ⟨x1, e1, -, g1⟩ := kh a e x v v1 w i2 t2 ha' hfe hx gx hv1 gv hi hlt
        cases hf
        exact sx_one_ok e1 gB gL gS2 (sx_gH_set gH he0 (g1 (List.isEmpty_iff.mp c1) (sx_istop_eq c2) c3))
    · cases hf
end SX3
