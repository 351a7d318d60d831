/-! states at points: what matches them -/
/-- the symbols of a state, worked out -/
def ly_th (ν : ly_N) (θ : List ly_e) : ly_N := fun k => match θ[k]? with
  | some t => ly_ev ν t
  | none => none
def ly_dfd (ν : ly_N) (θ : List ly_e) : Prop := ∀ t ∈ θ, ∃ z, ly_ev ν t = some z
def ly_PZ (p : ly_P) : ly_Z := (p.2.1, p.2.2.1, p.2.2.2.1, p.2.2.2.2.2.2)
section LY9
variable {cst : am_K} {tt : List (List FieldType)} {TH : List (List ly_T)} {ν : ly_N} {θ : List ly_e} {Z : ly_Z} {h : am_H} {len : Nat}
theorem ly_dfd_le {ν' : ly_N} (hl : ly_le ν ν') (d : ly_dfd ν θ) : ly_dfd ν' θ := fun t ht => by
  obtain ⟨z, hz⟩ := d t ht
  exact ⟨z, ly_ev_le hl hz⟩
theorem ly_sbt_ok (d : ly_dfd ν θ) : ∀ {ts : List (Nat × Int)} {r : ly_e}, ly_sbt θ ts = some r → ∃ s, ly_ev ν r = some s ∧ ly_evt (ly_th ν θ) ts = some s
  | [], r, e => by
    cases e
    exact ⟨0, ly_ev_c ν 0, rfl⟩
  | q :: ts, r, e => by
    unfold ly_sbt at e
    split at e
    case h_2 => cases e
    rename_i t r' ht hr
    cases e
    obtain ⟨s, hs, hs'⟩ := ly_sbt_ok d hr
    obtain ⟨z, hz⟩ := d t (List.mem_of_getElem? ht)
    refine ⟨q.2 * z + s, ly_add_ok (ly_scl_ok hz) hs, ly_evt_cons.mpr ⟨z, s, ?_, hs', rfl⟩⟩
    simp only [ly_th, ht]
    exact hz
theorem ly_sb_ok (d : ly_dfd ν θ) {e e' : ly_e} (hs : ly_sb θ e = some e') : ∃ z, ly_ev ν e' = some z ∧ ly_ev (ly_th ν θ) e = some z := by
  unfold ly_sb at hs
  split at hs
  case h_2 => cases hs
  rename_i r hr
  rw [ly_fe_eq] at hs
  cases hs
  obtain ⟨s, hs, hs'⟩ := ly_sbt_ok d hr
  exact ⟨e.1 + s, ly_add_ok (ly_ev_c ν e.1) hs, ly_ev_iff.mpr ⟨s, hs', rfl⟩⟩
/-- the other way: a word that is worked out in the symbols of the state -/
theorem ly_sbt_ok2 : ∀ {ts : List (Nat × Int)} {r : ly_e} {s : Int}, ly_sbt θ ts = some r → ly_evt (ly_th ν θ) ts = some s → ly_ev ν r = some s
  | [], r, s, e, hs => by
    cases e
    cases hs
    exact ly_ev_c ν 0
  | q :: ts, r, s, e, hs => by
    unfold ly_sbt at e
    split at e
    case h_2 => cases e
    rename_i t r' ht hr
    cases e
    obtain ⟨z, s', hz, hs', rfl⟩ := ly_evt_cons.mp hs
    simp only [ly_th, ht] at hz
    exact ly_add_ok (ly_scl_ok hz) (ly_sbt_ok2 hr hs')
theorem ly_sb_ok2 {e e' : ly_e} {z : Int} (hs : ly_sb θ e = some e') (hz : ly_ev (ly_th ν θ) e = some z) : ly_ev ν e' = some z := by
  unfold ly_sb at hs
  split at hs
  case h_2 => cases hs
  rename_i r hr
  rw [ly_fe_eq] at hs
  cases hs
  obtain ⟨s, hs', rfl⟩ := ly_ev_iff.mp hz
  exact ly_add_ok (ly_ev_c ν e.1) (ly_sbt_ok2 hr hs')
theorem ly_ix_ok {v : ly_V} {w : Value} {e : ly_e} (g : ly_g ν len v w) (he : ly_ix v = some e) : ∃ z, ly_ev ν e = some z := by
  match v, g, he with
  | .inl e0, g, he =>
    cases he
    obtain ⟨x, -, ex⟩ := g
    exact ⟨_, ex⟩
  | .inr (.inl e0), g, he =>
    cases he
    obtain ⟨x, -, ex⟩ := g
    exact ⟨_, ex⟩
  | .inr (.inr (.inr (j, e0))), g, he =>
    cases he
    obtain ⟨-, z, ez, -⟩ := g
    exact ⟨_, ez⟩
theorem ly_idx_z {x e : ly_e} {n : Nat} {z : Int} (g : ly_gZ cst ν Z h) (hi : ly_idx Z (.inl x) n = some e) (hz : ly_ev ν x = some z) : 0 ≤ z ∧ z < (n : Int) := by
  obtain ⟨m, B, F, K⟩ := Z
  simp only [ly_idx] at hi
  cases hc : (ly_gs B F x && ly_gs B F (ly_sub (Int.sub (.ofNat n) 1, []) x)) with
  | false => rw [hc] at hi; cases hi
  | true =>
    rw [Bool.and_eq_true] at hc
    have b1 := ly_gs_ok g.2.1 g.2.2.1 hc.1 hz
    have b2 := ly_gs_ok g.2.1 g.2.2.1 hc.2 (ly_sub_ok (ly_ev_c ν _) hz)
    have en : Int.sub (Int.ofNat n) 1 = (n : Int) - 1 := rfl
    rw [en] at b2
    omega
theorem ly_so_ok {l : ly_L} {l' : am_L} {st : List ly_V} {st' : List Value} {q : ly_Q} {Z' : ly_Z} {e : ly_e} (gZ : ly_gZ cst ν Z h) (hy : ly_hy tt TH h) (gL : ly_gL ν h.length l l') (gS : ly_gS ν h.length st st') (d : ly_dfd ν θ) (hs : ly_so TH Z l st θ q = some (Z', e)) :
    ∃ ν1, ly_le ν ν1 ∧ ly_gZ cst ν1 Z' h ∧ ∃ z, ly_ev ν1 e = some z := by
  unfold ly_so at hs
  cases h0 : Nat.beq q.1 0 with
  | true =>
    rw [h0] at hs
    simp only [cond_true] at hs
    split at hs
    case h_2 => cases hs
    rename_i v hv
    split at hs
    case h_2 => cases hs
    rename_i e0 he
    cases hs
    obtain ⟨w, -, g⟩ := ly_gL_get gL hv
    exact ⟨ν, ly_le_rf ν, gZ, ly_ix_ok g he⟩
  | false =>
    rw [h0] at hs
    simp only [cond_false] at hs
    cases h1 : Nat.beq q.1 1 with
    | true =>
      rw [h1] at hs
      simp only [cond_true] at hs
      split at hs
      case h_2 => cases hs
      rename_i v hv
      split at hs
      case h_2 => cases hs
      rename_i e0 he
      cases hs
      obtain ⟨w, -, g⟩ := ly_gS_get gS hv
      exact ⟨ν, ly_le_rf ν, gZ, ly_ix_ok g he⟩
    | false =>
      rw [h1] at hs
      simp only [cond_false] at hs
      split at hs
      case h_2 => cases hs
      rename_i x hx
      obtain ⟨z, hz, -⟩ := ly_sb_ok d hx
      split at hs
      · rename_i v hk
        cases hs
        obtain ⟨i, w, -, e2, -⟩ := gZ.2.2.2 _ (ly_kget_mem hk)
        exact ⟨ν, ly_le_rf ν, gZ, w, e2⟩
      · cases hgh : (Nat.ble 60010 q.2.1 && Nat.blt q.2.1 61000) with
        | true =>
          rw [hgh] at hs
          simp only [cond_true] at hs
          rw [Bool.and_eq_true, sx_ble, sx_blt] at hgh
          exact ly_ri_ok gZ hgh.1 hgh.2 hs hz
        | false =>
        rw [hgh] at hs
        simp only [cond_false] at hs
        split at hs
        · rename_i ci fs ht
          have hlt := ly_ths_lt ht
          have of1 := ly_h0_of1 (cst := cst) (h := h) (c := q.2.1 / 256) (k := q.2.1 % 256) (i := 0) hlt (by omega)
          rw [show 256 * (q.2.1 / 256) + q.2.1 % 256 = q.2.1 by omega] at of1
          obtain ⟨y, hyy, gy⟩ := hy.2.1 _ _ ht
          obtain ⟨vs, rfl, -, hfs⟩ := gy
          split at hs
          · rename_i p hp
            cases hc : ly_eq x (0, []) with
            | false => rw [hc] at hs; cases hs
            | true =>
              rw [hc] at hs
              have ex := ly_eq_eq hc
              subst ex
              obtain ⟨u, hu, y0, rfl, p1, p2⟩ := hfs _ _ hp
              have hv : ly_hv cst h q.2.1 0 = some y0.toInt := by
                rw [ly_hv0 (by omega), of1, hyy]
                simp only [ly_hs, hu, if_true]
              obtain ⟨ν1, hl, g1, ev⟩ := ly_rv_ok gZ (ly_ev_c ν 0) hv p1 p2 (Option.some.inj hs)
              exact ⟨ν1, hl, g1, _, ev⟩
          · rename_i p hp
            cases hc : ly_eq x (0, []) with
            | false => rw [hc] at hs; cases hs
            | true =>
              rw [hc] at hs
              have ex := ly_eq_eq hc
              subst ex
              obtain ⟨u, hu, y0, rfl⟩ := hfs _ _ hp
              have hv : ly_hv cst h q.2.1 0 = some y0.toInt := by
                rw [ly_hv0 (by omega), of1, hyy]
                simp only [ly_hs, hu, if_true]
              obtain ⟨ν1, hl, g1, ev⟩ := ly_rv_ok gZ (ly_ev_c ν 0) hv (ly_top64 y0).1 (ly_top64 y0).2 (Option.some.inj hs)
              exact ⟨ν1, hl, g1, _, ev⟩
          · cases hs
        · rename_i t n p ht
          have hlt := ly_ths_lt ht
          have of1 := ly_h0_of1 (cst := cst) (h := h) (c := q.2.1 / 256) (k := q.2.1 % 256) (i := z) hlt (by omega)
          rw [show 256 * (q.2.1 / 256) + q.2.1 % 256 = q.2.1 by omega] at of1
          obtain ⟨y, hyy, gy⟩ := hy.2.1 _ _ ht
          obtain ⟨c, rfl, gc⟩ := gy
          cases hc : (Nat.beq (q.2.1 % 256) 0 && (sx_tI t || sx_tB t)) with
          | true =>
            rw [hc] at hs
            simp only [cond_true] at hs
            rw [Bool.and_eq_true, sx_beqn] at hc
            split at hs
            case h_2 => cases hs
            rename_i e0 he0
            obtain ⟨z0, z1⟩ := ly_idx_z gZ he0 hz
            have key : ∃ f0 : Nat → Int32, c = .inl f0 ∧ ∀ j, j < n → p.1 ≤ (f0 j).toInt ∧ (f0 j).toInt ≤ p.2 := by
              have h2 := hc.2
              cases t <;> simp [sx_tI, sx_tB] at h2 <;> exact gc
            obtain ⟨f0, rfl, b⟩ := key
            have bb := b z.toNat (by omega)
            have hv : ly_hv cst h q.2.1 z = some (f0 z.toNat).toInt := by
              rw [ly_hv0 (by omega), of1, hyy]
              simp only [ly_hs]
              rw [if_pos ⟨hc.1, z0, by omega⟩]
            obtain ⟨ν1, hl, g1, ev⟩ := ly_rv_ok gZ hz hv bb.1 bb.2 (Option.some.inj hs)
            exact ⟨ν1, hl, g1, _, ev⟩
          | false =>
            rw [hc] at hs
            simp only [cond_false] at hs
            cases hcj : (Nat.beq (q.2.1 % 256) 0 && sx_tJ t) with
            | false => rw [hcj] at hs; cases hs
            | true =>
              rw [hcj] at hs
              simp only [cond_true] at hs
              rw [Bool.and_eq_true, sx_beqn] at hcj
              split at hs
              case h_2 => cases hs
              rename_i e0 he0
              obtain ⟨z0, z1⟩ := ly_idx_z gZ he0 hz
              have key : ∃ f0 : Nat → Int64, c = .inr (.inl f0) := by
                have h2 := hcj.2
                cases t <;> simp [sx_tJ] at h2
                exact gc
              obtain ⟨f0, rfl⟩ := key
              have hv : ly_hv cst h q.2.1 z = some (f0 z.toNat).toInt := by
                rw [ly_hv0 (by omega), of1, hyy]
                simp only [ly_hs]
                rw [if_pos ⟨hcj.1, z0, by omega⟩]
              obtain ⟨ν1, hl, g1, ev⟩ := ly_rv_ok gZ hz hv (ly_top64 _).1 (ly_top64 _).2 (Option.some.inj hs)
              exact ⟨ν1, hl, g1, _, ev⟩
        · cases hs
theorem ly_sos_ok {l : ly_L} {l' : am_L} {st : List ly_V} {st' : List Value} (hy : ly_hy tt TH h) : ∀ {qs : List ly_Q} {ν : ly_N} {Z Z' : ly_Z} {θ θ' : List ly_e}, ly_gZ cst ν Z h → ly_gL ν h.length l l' → ly_gS ν h.length st st' → ly_dfd ν θ → ly_sos TH l st qs Z θ = some (Z', θ') →
    ∃ ν1, ly_le ν ν1 ∧ ly_gZ cst ν1 Z' h ∧ ly_dfd ν1 θ' ∧ ∃ θx, θ' = θ ++ θx
  | [], ν, Z, Z', θ, θ', gZ, gL, gS, d, hs => by
    cases hs
    exact ⟨ν, ly_le_rf ν, gZ, d, [], by simp⟩
  | q :: qs, ν, Z, Z', θ, θ', gZ, gL, gS, d, hs => by
    unfold ly_sos at hs
    split at hs
    case h_2 => cases hs
    rename_i Z1 e he
    obtain ⟨ν1, hl, g1, z, hz⟩ := ly_so_ok gZ hy gL gS d he
    have d1 : ly_dfd ν1 (θ ++ [e]) := fun t ht => by
      rcases List.mem_append.mp ht with ht | ht
      · exact ly_dfd_le hl d t ht
      · rw [List.mem_singleton.mp ht]; exact ⟨z, hz⟩
    obtain ⟨ν2, hl2, g2, d2, θx, e2⟩ := ly_sos_ok hy g1 (ly_gL_le hl (Nat.le_refl _) gL) (ly_gS_le hl (Nat.le_refl _) gS) d1 hs
    exact ⟨ν2, ly_le_tr hl hl2, g2, d2, e :: θx, by rw [e2, List.append_assoc]; rfl⟩
theorem ly_vm_ok (d : ly_dfd ν θ) {v w : ly_V} {u : Value} (hm : ly_vm θ v w = true) (g : ly_g ν len v u) : ly_g (ly_th ν θ) len w u := by
  have key : ∀ {e t : ly_e} {z : Int}, ly_ev ν e = some z → (match ly_sb θ t with
      | some t => ly_eq e t
      | none => false) = true → ly_ev (ly_th ν θ) t = some z := by
    intro e t z hz hc
    split at hc
    · rename_i t' ht
      obtain ⟨z', h1, h2⟩ := ly_sb_ok d ht
      rw [← ly_eq_eq hc, hz] at h1
      cases h1
      exact h2
    · cases hc
  unfold ly_vm at hm
  split at hm
  · obtain ⟨x, e1, e2⟩ := g
    exact ⟨x, e1, key e2 hm⟩
  · obtain ⟨x, e1, e2⟩ := g
    exact ⟨x, e1, key e2 hm⟩
  · rename_i a b
    cases a <;> cases b <;> simp only [ly_on, Bool.false_eq_true] at hm
    · exact g
    · rw [← sx_beqn.mp hm]; exact g
  · rename_i j e i t
    cases hj : Nat.beq j i with
    | false => rw [hj] at hm; cases hm
    | true =>
      rw [hj] at hm
      have ej := sx_beqn.mp hj
      subst ej
      obtain ⟨h1, z, h2, h3⟩ := g
      exact ⟨h1, z, key h2 hm, h3⟩
  · cases hm
theorem ly_vms_ok (d : ly_dfd ν θ) : ∀ {vs ws : List ly_V} {us : List Value}, ly_vms θ vs ws = true → ly_gS ν len vs us → ly_gS (ly_th ν θ) len ws us
  | [], [], [], _, _ => trivial
  | v :: vs, w :: ws, u :: us, hm, g => by
    unfold ly_vms at hm
    cases hc : ly_vm θ v w with
    | false => rw [hc] at hm; cases hm
    | true =>
      rw [hc] at hm
      exact ⟨ly_vm_ok d hc g.1, ly_vms_ok d hm g.2⟩
/-- a state that is matched holds -/
theorem ly_mt_ok {l : ly_L} {l' : am_L} {st : List ly_V} {st' : List Value} {θ0 : List ly_e} {p : ly_P} {Z' : ly_Z} (hy : ly_hy tt TH h) (gZ : ly_gZ cst ν Z h) (gL : ly_gL ν h.length l l') (gS : ly_gS ν h.length st st') (d : ly_dfd ν θ0) (hm : ly_mt TH Z l st θ0 p = some (Z', θ)) :
    ∃ ν1, ly_le ν ν1 ∧ ly_gZ cst ν1 Z' h ∧ ly_dfd ν1 θ ∧ (∃ θx, θ = θ0 ++ θx) ∧ θ.length = p.2.1 ∧ ly_gZ cst (ly_th ν1 θ) (ly_PZ p) h ∧ ly_gL (ly_th ν1 θ) h.length p.2.2.2.2.1 l' ∧ ly_gS (ly_th ν1 θ) h.length p.2.2.2.2.2.1 st' := by
  obtain ⟨qs, n, B, F, L, St, K⟩ := p
  unfold ly_mt at hm
  simp only at hm
  split at hm
  case h_1 => cases hm
  rename_i Z1 θ1 hs
  cases hc : (Nat.beq θ1.length n && (ly_vms θ1 st St && (ly_mL θ1 l L && (ly_mK θ1 Z1.2.2.2 K && (ly_mB Z1 θ1 B && ly_mF Z1 θ1 F))))) with
  | false => rw [hc] at hm; cases hm
  | true =>
    rw [hc] at hm
    cases hm
    simp only [Bool.and_eq_true, sx_beqn] at hc
    obtain ⟨c1, c5, c4, c6, c2, c3⟩ := hc
    obtain ⟨ν1, hl, g1, d1, hpre⟩ := ly_sos_ok hy gZ gL gS d hs
    have gL1 := ly_gL_le hl (Nat.le_refl h.length) gL
    have gS1 := ly_gS_le hl (Nat.le_refl h.length) gS
    refine ⟨ν1, hl, g1, d1, hpre, c1, ⟨fun k hk => ?_, fun q hq => ?_, fun f hf => ?_, fun q hq => ?_⟩, fun q hq => ?_, ly_vms_ok d1 c5 gS1⟩
    · have hk : n ≤ k := hk
      unfold ly_th
      rw [List.getElem?_eq_none (by omega)]
    · have hq : q ∈ B := hq
      have := List.all_eq_true.mp c2 q hq
      split at this
      · rename_i t ht
        rw [Bool.and_eq_true] at this
        obtain ⟨z, hz⟩ := d1 t (List.mem_of_getElem? ht)
        have b1 := ly_gs_ok g1.2.1 g1.2.2.1 this.1 (ly_add_ok (ly_ev_c ν1 _) hz)
        have b2 := ly_gs_ok g1.2.1 g1.2.2.1 this.2 (ly_sub_ok (ly_ev_c ν1 _) hz)
        have en : Int.neg q.2.1 = -q.2.1 := rfl
        rw [en] at b1
        refine ⟨z, ?_, by omega, by omega⟩
        unfold ly_th
        rw [ht]
        exact hz
      · cases this
    · have hf : f ∈ F := hf
      have := List.all_eq_true.mp c3 f hf
      split at this
      · rename_i f' hf'
        obtain ⟨z, hz, hz'⟩ := ly_sb_ok d1 hf'
        exact ⟨z, hz', ly_gs_ok g1.2.1 g1.2.2.1 this hz⟩
      · cases this
    · have hq : q ∈ K := hq
      have := List.all_eq_true.mp c6 q hq
      split at this
      · rename_i i v hi hv
        split at this
        · rename_i w hw
          obtain ⟨zi, hzi, hzi'⟩ := ly_sb_ok d1 hi
          obtain ⟨zv, hzv, hzv'⟩ := ly_sb_ok d1 hv
          obtain ⟨i', v', e1, e2, e3⟩ := g1.2.2.2 _ (ly_kget_mem hw)
          simp only at e1 e2 e3
          rw [hzi] at e1
          cases e1
          rw [ly_eq_eq this, hzv] at e2
          cases e2
          exact ⟨_, _, hzi', hzv', e3⟩
        · cases this
      · cases this
    · have hq : q ∈ L := hq
      have := List.all_eq_true.mp c4 q hq
      split at this
      · rename_i v hv
        obtain ⟨w, e, g⟩ := ly_gL_get gL1 hv
        exact ⟨w, e, ly_vm_ok d1 this g⟩
      · cases this
theorem ly_id_get : ∀ (n k : Nat), (ly_id n)[k]? = if k < n then some (ly_sym k) else none
  | 0, k => by simp [ly_id]
  | n + 1, k => by
    have hl : ∀ n, (ly_id n).length = n := fun n => by
      induction n with
      | zero => rfl
      | succ n ih => simp [ly_id, ih]
    unfold ly_id
    by_cases hk : k < n
    · rw [List.getElem?_append_left (by rw [hl]; exact hk), ly_id_get n k, if_pos hk, if_pos (by omega)]
    · by_cases he : k = n
      · subst he
        rw [List.getElem?_append_right (by rw [hl]; exact Nat.le_refl _), hl, Nat.sub_self, if_pos (by omega)]
        rfl
      · rw [List.getElem?_append_right (by rw [hl]; omega), hl, if_neg (by omega)]
        rw [List.getElem?_eq_none]
        simp
        omega
theorem ly_fresh_get : ∀ (c n k : Nat), (ly_fresh n c)[k]? = if k < c then some (ly_sym (n + k)) else none
  | 0, n, k => by simp [ly_fresh]
  | c + 1, n, 0 => by simp [ly_fresh]
  | c + 1, n, k + 1 => by
    unfold ly_fresh
    rw [List.getElem?_cons_succ, ly_fresh_get c (n + 1) k]
    by_cases hk : k < c
    · rw [if_pos hk, if_pos (by omega), show n + 1 + k = n + (k + 1) by omega]
    · rw [if_neg hk, if_neg (by omega)]
theorem ly_sbs_ok {ν' : ly_N} (e : ly_th ν θ = ν') : ∀ {F F' : List ly_e}, ly_sbs θ F = some F' → ly_gF ν' F → ly_gF ν F'
  | [], F', hs, _ => by
    cases hs
    intro f hf
    cases hf
  | f :: F, F', hs, g => by
    unfold ly_sbs at hs
    split at hs
    case h_2 => cases hs
    rename_i f1 F1 h1 h2
    cases hs
    intro q hq
    rcases List.mem_cons.mp hq with rfl | hq
    · obtain ⟨z, hz, z0⟩ := g f List.mem_cons_self
      rw [← e] at hz
      exact ⟨z, ly_sb_ok2 h1 hz, z0⟩
    · exact ly_sbs_ok e h2 (fun r hr => g r (List.mem_cons_of_mem _ hr)) q hq
theorem ly_sv_ok {ν' : ly_N} (e : ly_th ν θ = ν') {v v' : ly_V} {w : Value} (hs : ly_sv θ v = some v') (g : ly_g ν' len v w) : ly_g ν len v' w := by
  match v, hs, g with
  | .inl x, hs, g =>
    simp only [ly_sv] at hs
    split at hs
    case h_2 => cases hs
    rename_i x' hx
    cases hs
    obtain ⟨n, e1, e2⟩ := g
    rw [← e] at e2
    exact ⟨n, e1, ly_sb_ok2 hx e2⟩
  | .inr (.inl x), hs, g =>
    simp only [ly_sv] at hs
    split at hs
    case h_2 => cases hs
    rename_i x' hx
    cases hs
    obtain ⟨n, e1, e2⟩ := g
    rw [← e] at e2
    exact ⟨n, e1, ly_sb_ok2 hx e2⟩
  | .inr (.inr (.inl o)), hs, g =>
    cases hs
    cases o <;> exact g
  | .inr (.inr (.inr (j, x))), hs, g =>
    simp only [ly_sv] at hs
    split at hs
    case h_2 => cases hs
    rename_i x' hx
    cases hs
    obtain ⟨h1, z, h2, h3⟩ := g
    rw [← e] at h2
    exact ⟨h1, z, ly_sb_ok2 hx h2, h3⟩
theorem ly_svs_ok {ν' : ly_N} (e : ly_th ν θ = ν') : ∀ {vs vs' : List ly_V} {ws : List Value}, ly_svs θ vs = some vs' → ly_gS ν' len vs ws → ly_gS ν len vs' ws
  | [], vs', [], hs, _ => by cases hs; trivial
  | v :: vs, vs', w :: ws, hs, g => by
    unfold ly_svs at hs
    split at hs
    case h_2 => cases hs
    rename_i v1 vs1 h1 h2
    cases hs
    exact ⟨ly_sv_ok e h1 g.1, ly_svs_ok e h2 g.2⟩
theorem ly_sks_ok {ν' : ly_N} (e : ly_th ν θ = ν') : ∀ {K K' : ly_K}, ly_sks θ K = some K' → ly_gK cst ν' h K → ly_gK cst ν h K'
  | [], K', hs, _ => by
    cases hs
    intro f hf
    cases hf
  | q0 :: K, K', hs, g => by
    unfold ly_sks at hs
    split at hs
    case h_2 => cases hs
    rename_i i v K1 h1 h2 h3
    cases hs
    intro q hq
    rcases List.mem_cons.mp hq with rfl | hq
    · obtain ⟨zi, zv, e1, e2, e3⟩ := g q0 List.mem_cons_self
      rw [← e] at e1 e2
      exact ⟨zi, zv, ly_sb_ok2 h1 e1, ly_sb_ok2 h2 e2, e3⟩
    · exact ly_sks_ok e h3 (fun r hr => g r (List.mem_cons_of_mem _ hr)) q hq
theorem ly_tgs_ok : ∀ {Fs : List ly_e} {B : ly_B}, ly_gB ν B → ly_gF ν Fs → ly_gB ν (ly_tgs B Fs)
  | [], _, hB, _ => hB
  | f :: Fs, B, hB, hF => by
    unfold ly_tgs
    refine ly_tgs_ok ?_ (fun r hr => hF r (List.mem_cons_of_mem _ hr))
    split
    · rename_i H hH
      obtain ⟨z, hz, z0⟩ := hF f List.mem_cons_self
      obtain ⟨s, hs, ez⟩ := ly_ev_iff.mp hz
      refine ly_tg_ok hB (fun q hq p x hp hx => ?_) hB
      have k := ly_tg_hi hB hH hs q hq p x hp hx
      refine ⟨fun h1 => ?_, fun h1 => ?_⟩
      · have := k.1 h1
        omega
      · have := k.2 h1
        omega
    · exact hB
/-- what is known behind a call holds -/
theorem ly_app_ok {ms : List Nat} {p : ly_P} {Z2 : ly_Z} {S2 : List ly_V} {h2 : am_H} {ν' : ly_N} {us : List Value} (gZ : ly_gZ cst ν Z h) (d : ly_dfd ν θ) (fr : ly_fr cst ms h h2) (hpre : ∀ k, k < θ.length → ν' k = ly_th ν θ k) (g' : ly_gZ cst ν' (ly_PZ p) h2) (gS' : ly_gS ν' len p.2.2.2.2.2.1 us) (ha : ly_app ms Z θ p = some (Z2, S2)) :
    ∃ ν2, ly_le ν ν2 ∧ ly_gZ cst ν2 Z2 h2 ∧ ly_gS ν2 len S2 us := by
  obtain ⟨n, B, F, K⟩ := Z
  obtain ⟨qs, nx, Bx, Fx, Lx, Sx, Kx⟩ := p
  unfold ly_app at ha
  simp only at ha
  split at ha
  case h_2 => cases ha
  rename_i F1 S1 K1 hF hS hK
  rw [sx_N_eq] at ha
  cases ha
  have hn0 : θ.length ≤ nx := by
    refine Nat.le_of_not_lt (fun hlt => ?_)
    have e1 := g'.1 nx (Nat.le_refl nx)
    rw [hpre nx hlt] at e1
    unfold ly_th at e1
    rw [List.getElem?_eq_getElem hlt] at e1
    obtain ⟨z, hz⟩ := d _ (List.getElem_mem hlt)
    simp only [hz] at e1
    cases e1
  let ν2 : ly_N := fun k => if k < n then ν k else if k < n + (nx - θ.length) then ν' (k - n + θ.length) else none
  have hle : ly_le ν ν2 := fun k z hz => by
    have : k < n := Nat.lt_of_not_le (fun hk => by
      have := gZ.1 k hk
      rw [hz] at this
      cases this)
    show (if k < n then ν k else _) = some z
    rw [if_pos this]
    exact hz
  have eth : ly_th ν2 (θ ++ ly_fresh n (nx - θ.length)) = ν' := by
    funext k
    by_cases h1 : k < θ.length
    · rw [hpre k h1]
      unfold ly_th
      rw [List.getElem?_append_left h1, List.getElem?_eq_getElem h1]
      obtain ⟨z, hz⟩ := d _ (List.getElem_mem h1)
      simp only [hz, ly_ev_le hle hz]
    · unfold ly_th
      rw [List.getElem?_append_right (by omega), ly_fresh_get]
      by_cases h2 : k < nx
      · rw [if_pos (by omega)]
        have e2 : ν2 (n + (k - θ.length)) = ν' k := by
          show (if n + (k - θ.length) < n then _ else if n + (k - θ.length) < n + (nx - θ.length) then ν' (n + (k - θ.length) - n + θ.length) else none) = _
          rw [if_neg (by omega), if_pos (by omega), show n + (k - θ.length) - n + θ.length = k by omega]
        simp only
        cases hk : ν' k with
        | none =>
          rw [hk] at e2
          simp [ly_ev, ly_evt, ly_sym, e2]
        | some z =>
          rw [hk] at e2
          exact ly_ev_sym e2
      · rw [if_neg (by omega)]
        exact (g'.1 k (by show nx ≤ k; omega)).symm
  have gB2 : ly_gB ν2 (ly_shB θ.length n Bx ++ B) := fun q hq => by
    rcases List.mem_append.mp hq with hq | hq
    · unfold ly_shB at hq
      obtain ⟨q0, hq0, rfl⟩ := List.mem_map.mp hq
      obtain ⟨hq0, hge⟩ := List.mem_filter.mp hq0
      have hge := sx_ble.mp hge
      obtain ⟨z, hz, b⟩ := g'.2.1 q0 hq0
      refine ⟨z, ?_, b⟩
      have hlt : q0.1 < nx := Nat.lt_of_not_le (fun hk => by
        have := g'.1 q0.1 hk
        rw [hz] at this
        cases this)
      show (if n + (q0.1 - θ.length) < n then _ else if n + (q0.1 - θ.length) < n + (nx - θ.length) then ν' (n + (q0.1 - θ.length) - n + θ.length) else none) = _
      rw [if_neg (by omega), if_pos (by omega), show n + (q0.1 - θ.length) - n + θ.length = q0.1 by omega]
      exact hz
    · exact ly_gB_le hle gZ.2.1 q hq
  have gF1 : ly_gF ν2 F1 := ly_sbs_ok eth hF g'.2.2.1
  refine ⟨ν2, hle, ⟨fun k hk => ?_, ly_tgs_ok gB2 gF1, fun f hf => ?_, fun q hq => ?_⟩, ly_svs_ok eth hS gS'⟩
  · have hk : n + (nx - θ.length) ≤ k := hk
    show (if k < n then _ else if k < n + (nx - θ.length) then _ else none) = none
    rw [if_neg (by omega), if_neg (by omega)]
  · rcases List.mem_append.mp hf with hf | hf
    · exact gF1 f (List.mem_filter.mp hf).1
    · exact ly_gF_le hle gZ.2.2.1 f hf
  · have hq : q ∈ K1 ++ K.filter fun q => !(ly_has q.1 ms) := hq
    rcases List.mem_append.mp hq with hq | hq
    · exact ly_sks_ok eth hK g'.2.2.2 q hq
    · obtain ⟨hq, hb⟩ := List.mem_filter.mp hq
      obtain ⟨i, v, e1, e2, e3⟩ := gZ.2.2.2 q hq
      exact ⟨i, v, ly_ev_le hle e1, ly_ev_le hle e2, fr _ _ _ (by simpa using hb) e3⟩
end LY9
