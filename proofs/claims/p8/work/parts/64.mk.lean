/-! a matter that is made: its nineteen cells -/
section MK0
variable {cst : am_K} {cl : List vw_C} {tt : List (List FieldType)} {P : List am_M} {strs : List Nat}
theorem am_Go_mono {call call' : Nat → List Value → am_H → am_Q → Prop} {M : am_M} (hc : ∀ mi av h r, call mi av h r → call' mi av h r) : ∀ (n pc : Nat) (l : am_L) (st : List Value) (h : am_H) (r : am_Q), am_Go cst cl tt P strs call M n pc l st h r → am_Go cst cl tt P strs call' M n pc l st h r
  | 0, _, _, _, _, _, hg => hg.elim
  | n + 1, pc, l, st, h, r, hg => by
    obtain ⟨I, X, hf, hcase⟩ := hg
    refine ⟨I, X, hf, ?_⟩
    rcases hcase with ⟨F, hs, hgo⟩ | ⟨F, k, r1, hs, hgo, e⟩ | h3 | ⟨r1, r2, h1, h2, h3, e⟩ | ⟨st1, hs, hgo⟩ | ⟨st1, h1, hs, hgo⟩
    · exact Or.inl ⟨F, hs, am_Go_mono hc n _ _ _ _ _ hgo⟩
    · exact Or.inr (Or.inl ⟨F, k, r1, hs, am_Go_mono hc n _ _ _ _ _ hgo, e⟩)
    · exact Or.inr (Or.inr (Or.inl h3))
    · exact Or.inr (Or.inr (Or.inr (Or.inl ⟨r1, r2, h1, hc _ _ _ _ h2, am_Go_mono hc n _ _ _ _ _ h3, e⟩)))
    · exact Or.inr (Or.inr (Or.inr (Or.inr (Or.inl ⟨st1, hs, am_Go_mono hc n _ _ _ _ _ hgo⟩))))
    · exact Or.inr (Or.inr (Or.inr (Or.inr (Or.inr ⟨st1, h1, hs, am_Go_mono hc n _ _ _ _ _ hgo⟩))))
theorem am_Run_mono : ∀ (d : Nat) {mi : Nat} {av : List Value} {h : am_H} {r : am_Q}, am_Run cst cl tt P strs sx_bi d mi av h r → am_Run cst cl tt P strs sx_bi (d + 1) mi av h r
  | 0, _, _, _, _, hr => hr.elim
  | d + 1, _, _, _, _, hr => by
    rcases hr with ⟨-, hb⟩ | ⟨M, n, h1, h2, h3⟩
    · exact hb.elim
    · exact Or.inr ⟨M, n, h1, h2, am_Go_mono (fun mi av h r hr => am_Run_mono d hr) n _ _ _ _ _ h3⟩
theorem am_Run_le {d d' : Nat} (hd : d ≤ d') {mi : Nat} {av : List Value} {h : am_H} {r : am_Q} (hr : am_Run cst cl tt P strs sx_bi d mi av h r) : am_Run cst cl tt P strs sx_bi d' mi av h r := by
  induction hd with
  | refl => exact hr
  | step _ ih => exact am_Run_mono _ ih
end MK0
def mk_f (b : Nat) (f : ly_F) (v : sx_V) : Bool := match f, v with
  | .inl p, .inl c => sx_le p.1 c && sx_le c p.2
  | .inl p, .inr (.inl (lo, hi, _)) => sx_le p.1 lo && sx_le hi p.2
  | .inr (.inl _), .inr (.inr (.inl _)) => true
  | .inr (.inr (.inr j)), .inr (.inr (.inr (some a))) => Nat.beq a (16 + (b + j))
  | _, _ => false
def mk_t (tt : List (List FieldType)) (b : Nat) (t : ly_T) (e : sx_E) : Bool := match t, e with
  | .inl (ty, n, lo, hi), .inl (ty', n', d, ov) => decide (ty = ty') && (Nat.beq n n' && (match ty with
    | .long => true
    | .int => (match d with
      | .inl c => sx_le lo c && (sx_le c hi && ov.isEmpty)
      | _ => false)
    | _ => false))
  | .inr (ci, fs), .inr (ci', ov, bs) => Nat.beq ci ci' && (List.range 256).all fun k => match sx_ch 8 k fs with
    | some f => (match sx_fld tt ci k ov bs with
      | some v => mk_f b f v
      | none => false)
    | none => true
  | _, _ => false
def mk_c (tt : List (List FieldType)) (TH : List (List ly_T)) (n : Nat) (H : sx_H) (j : Nat) : Bool := match ly_thm TH j, sx_get (177 + 19 * n + j) H.1 with
  | some t, some e => mk_t tt (177 + 19 * n) t e
  | none, some _ => true
  | _, none => false
def mk_fin (tt : List (List FieldType)) (TH : List (List ly_T)) (n : Nat) (v : Option sx_V) (H : sx_H) (c s : Nat) : Bool := v.isNone && (Nat.beq H.2.2 (177 + 19 * (n + 1)) && (H.1.all (fun q => Nat.ble (177 + 19 * n) q.1) && ((List.range 19).all (mk_c tt TH n H) && (Nat.ble c 18 && Nat.ble s 240))))
section MK1
variable {cst : am_K} {tt : List (List FieldType)} {TH : List (List ly_T)} {ρ : Nat → Int32}
theorem mk_f_ok {b : Nat} {f : ly_F} {v : sx_V} {w : Value} (h : mk_f b f v = true) (g : sx_g ρ v w) : ly_gf b f w := by
  unfold mk_f at h
  split at h
  · rename_i p c
    rw [Bool.and_eq_true, sx_le_iff, sx_le_iff] at h
    obtain ⟨n, e, hn⟩ := g
    exact ⟨n, e, by omega, by omega⟩
  · rename_i p lo hi t
    rw [Bool.and_eq_true, sx_le_iff, sx_le_iff] at h
    obtain ⟨n, e, h1, h2, -⟩ := g
    exact ⟨n, e, by omega, by omega⟩
  · obtain ⟨n, e, -⟩ := g
    exact ⟨n, e⟩
  · rename_i j a
    have e := sx_beqn.mp h
    rcases g with e1 | ⟨e7, -⟩
    · show w = .ref (16 + (b + j))
      rw [← e]; exact e1
    · omega
  · cases h
theorem mk_t_ok {len b : Nat} {t : ly_T} {e : sx_E} {x : am_E} (h : mk_t tt b t e = true) (g : sx_gE tt ρ e x) (h8 : ∀ ci fs k f, t = .inr (ci, fs) → sx_ch 8 k fs = some f → k < 256) : ly_gT tt len b t x := by
  unfold mk_t at h
  split at h
  · rename_i ty n lo hi ty' n' d ov
    simp only [Bool.and_eq_true, decide_eq_true_eq] at h
    obtain ⟨e1, e2, h3⟩ := h
    subst e1
    have e2 := sx_beqn.mp e2
    subst e2
    obtain ⟨c, ex, gc⟩ := g
    refine ⟨c, ex, ?_⟩
    split at h3
    · obtain ⟨f, ef, -⟩ := gc
      exact ⟨f, ef⟩
    · split at h3
      · rename_i z
        simp only [Bool.and_eq_true, sx_le_iff] at h3
        obtain ⟨f, ef, hf⟩ := gc
        refine ⟨f, ef, fun j hj => ?_⟩
        have := hf j hj
        rw [List.isEmpty_iff.mp h3.2.2] at this
        obtain ⟨m, em, hm⟩ := this
        cases em
        exact ⟨by omega, by omega⟩
      · cases h3
    · cases h3
  · rename_i ci fs ci' ov bs
    rw [Bool.and_eq_true] at h
    have e1 := sx_beqn.mp h.1
    subst e1
    obtain ⟨vs, ex, hl, hf⟩ := g
    refine ⟨vs, ex, hl, fun k f hk => ?_⟩
    have := List.all_eq_true.mp h.2 k (List.mem_range.mpr (h8 _ _ k f rfl hk))
    rw [hk] at this
    simp only at this
    split at this
    · rename_i v hv
      obtain ⟨w, hw, gw⟩ := hf k v hv
      exact ⟨w, hw, mk_f_ok this gw⟩
    · cases this
  · cases h
theorem ly_gT_len {len len' b : Nat} (hl : len ≤ len') : ∀ {t : ly_T} {x : am_E}, ly_gT tt len b t x → ly_gT tt len' b t x
  | .inl (ty, n, lo, hi), x, g => by
    obtain ⟨c, ex, gc⟩ := g
    refine ⟨c, ex, ?_⟩
    cases ty <;> try exact gc
    obtain ⟨f, ef, hf⟩ := gc
    refine ⟨f, ef, fun j hj => ?_⟩
    rcases hf j hj with h1 | ⟨h1, h2⟩
    · exact Or.inl h1
    · exact Or.inr ⟨h1, by omega⟩
  | .inr (ci, fs), x, g => g
/-- the heap behind it -/
theorem mk_hy {n : Nat} {v : Option sx_V} {H : sx_H} {c s : Nat} {h h' : am_H} (hy : ly_hy tt TH h) (hn : n ≤ 99) (hlen : h.length = 177 + 19 * n) (hf : mk_fin tt TH n v H c s = true) (gH : sx_gH tt ρ h H h') (h8 : ∀ j ci fs k f, ly_thm TH j = some (.inr (ci, fs)) → sx_ch 8 k fs = some f → k < 256) :
    v = none ∧ ly_hy tt TH h' ∧ h'.length = 177 + 19 * (n + 1) ∧ (∀ i, i < h.length → h'[i]? = h[i]?) ∧ c ≤ 18 ∧ s ≤ 240 := by
  unfold mk_fin at hf
  simp only [Bool.and_eq_true, sx_beqn, sx_ble] at hf
  obtain ⟨f1, f2, f3, f4, f5, f6⟩ := hf
  obtain ⟨g1, g2, g3, g4⟩ := gH
  have hlen' : h'.length = 177 + 19 * (n + 1) := by
    rw [g1, f2]
    split
    · omega
    · rfl
  have hold : ∀ i, i < h.length → h'[i]? = h[i]? := fun i hi => by
    refine g4 i hi ?_
    cases hg : sx_get i H.1 with
    | none => rfl
    | some e =>
      have := List.all_eq_true.mp f3 _ (sx_get_mem hg)
      have := sx_ble.mp this
      simp only at this
      omega
  refine ⟨Option.isNone_iff_eq_none.mp f1, ⟨by omega, fun i t ht => ?_, fun e j t he ht => ?_⟩, hlen', hold, f5, f6⟩
  · obtain ⟨x, hx, gx⟩ := hy.2.1 i t ht
    have hi := (List.getElem?_eq_some_iff.mp hx).1
    exact ⟨x, by rw [hold i hi]; exact hx, ly_gT_len (by omega) gx⟩
  · have hj := ly_thm_lt ht
    by_cases hen : e < n
    · obtain ⟨x, hx, gx⟩ := hy.2.2 e j t (by omega) ht
      have hi := (List.getElem?_eq_some_iff.mp hx).1
      exact ⟨x, by rw [hold _ hi]; exact hx, ly_gT_len (by omega) gx⟩
    · have ee : e = n := by omega
      subst ee
      have hc := List.all_eq_true.mp f4 j (List.mem_range.mpr hj)
      unfold mk_c at hc
      rw [ht] at hc
      split at hc
      · rename_i t' e' ht' he'
        cases ht'
        have hget : sx_hget H (177 + 19 * e + j) = some e' := by
          obtain ⟨a, b, cnt⟩ := H
          simp only [sx_hget]
          rw [he']
        obtain ⟨x, hx, gx⟩ := g3 _ _ hget
        exact ⟨x, hx, mk_t_ok hc gx (fun ci fs k f et hk => h8 j ci fs k f (by rw [ht, et]) hk)⟩
      · rename_i h1 _
        cases h1
      · cases hc
end MK1
