/-! a matter that is made: its nineteen cells -/
section MK0
variable {cst : am_K} {cl : List vw_C} {tt : List (List FieldType)} {P : List am_M} {strs : List Nat}
theorem am_Go_mono {call call' : Nat → List Value → am_H → am_Q → Prop} {M : am_M} (hc : ∀ mi av h r, call mi av h r → call' mi av h r) : ∀ (n pc : Nat) (l : am_L) (st : List Value) (h : am_H) (r : am_Q), am_Go cst cl tt P strs call M n pc l st h r → am_Go cst cl tt P strs call' M n pc l st h r
  | 0, _, _, _, _, _, hg => hg.elim
  | n + 1, pc, l, st, h, r, hg => by
    obtain ⟨I, X, hf, hcase⟩ := hg
    refine ⟨I, X, hf, ?_⟩
    rcases hcase with ⟨F, hs, hgo⟩ | ⟨F, k, r1, hs, hgo, e⟩ | h3 | ⟨r1, r2, h1, h2, h3, e⟩ | ⟨st1, hs, hgo⟩ | ⟨st1, h1, hs, hgo⟩
    · exact Or.inl ⟨F, hs, am_Go_mono hc n _ _ _ _ _ hgo⟩
    · exact Or.inr (Or.inl ⟨F, k, r1, hs, am_Go_mono hc n _ _ _ _ _ hgo, e⟩)
    · exact Or.inr (Or.inr (Or.inl h3))
    · exact Or.inr (Or.inr (Or.inr (Or.inl ⟨r1, r2, h1, hc _ _ _ _ h2, am_Go_mono hc n _ _ _ _ _ h3, e⟩)))
    · exact Or.inr (Or.inr (Or.inr (Or.inr (Or.inl ⟨st1, hs, am_Go_mono hc n _ _ _ _ _ hgo⟩))))
    · exact Or.inr (Or.inr (Or.inr (Or.inr (Or.inr ⟨st1, h1, hs, am_Go_mono hc n _ _ _ _ _ hgo⟩))))
theorem am_Run_mono : ∀ (d : Nat) {mi : Nat} {av : List Value} {h : am_H} {r : am_Q}, am_Run cst cl tt P strs sx_bi d mi av h r → am_Run cst cl tt P strs sx_bi (d + 1) mi av h r
  | 0, _, _, _, _, hr => hr.elim
  | d + 1, _, _, _, _, hr => by
    rcases hr with ⟨-, hb⟩ | ⟨M, n, h1, h2, h3⟩
    · exact hb.elim
    · exact Or.inr ⟨M, n, h1, h2, am_Go_mono (fun mi av h r hr => am_Run_mono d hr) n _ _ _ _ _ h3⟩
theorem am_Run_le {d d' : Nat} (hd : d ≤ d') {mi : Nat} {av : List Value} {h : am_H} {r : am_Q} (hr : am_Run cst cl tt P strs sx_bi d mi av h r) : am_Run cst cl tt P strs sx_bi d' mi av h r := by
  induction hd with
  | refl => exact hr
  | step _ ih => exact am_Run_mono _ ih
end MK0
def mk_f (b : Nat) (f : ly_F) (v : sx_V) : Bool := match f, v with
  | .inl p, .inl c => sx_le p.1 c && sx_le c p.2
  | .inl p, .inr (.inl (lo, hi, _)) => sx_le p.1 lo && sx_le hi p.2
  | .inr (.inl _), .inr (.inr (.inl _)) => true
  | .inr (.inr (.inr j)), .inr (.inr (.inr (some a))) => Nat.beq a (16 + (b + j))
  | _, _ => false
def mk_t (tt : List (List FieldType)) (b : Nat) (t : ly_T) (e : sx_E) : Bool := match t, e with
  | .inl (ty, n, lo, hi), .inl (ty', n', d, ov) => decide (ty = ty') && (Nat.beq n n' && (match ty with
    | .long => true
    | .int => (match d with
      | .inl c => sx_le lo c && (sx_le c hi && ov.isEmpty)
      | _ => false)
    | _ => false))
  | .inr (ci, fs), .inr (ci', ov, bs) => Nat.beq ci ci' && (List.range 256).all fun k => match sx_ch 8 k fs with
    | some f => (match sx_fld tt ci k ov bs with
      | some v => mk_f b f v
      | none => false)
    | none => true
  | _, _ => false
def mk_c (tt : List (List FieldType)) (TH : List (List ly_T)) (n : Nat) (H : sx_H) (j : Nat) : Bool := match ly_thm TH j, sx_get (177 + 19 * n + j) H.1 with
  | some t, some e => mk_t tt (177 + 19 * n) t e
  | none, some _ => true
  | _, none => false
/-- the new matter's hours 1, its state 0; its suer, shire, day (tags 5, 8, 9) and its deed what it was made with; no words, no facts told -/
def mk_f1 (c : Int) : Option sx_V → Bool
  | some (.inl d) => sx_eq d c
  | _ => false
def mk_ft (k0 : Nat) : Option sx_V → Bool
  | some (.inr (.inl (_, _, some (k, d)))) => Nat.beq k k0 && sx_eq d 0
  | _ => false
def mk_fj : Option sx_V → Bool
  | some (.inr (.inr (.inl (some c)))) => sx_eq c sx_jt
  | _ => false
def mk_h1 (tt : List (List FieldType)) (n : Nat) (H : sx_H) : Bool := match sx_get (177 + 19 * n) H.1 with
  | some (.inr (ci, ov, bs)) => mk_f1 1 (sx_fld tt ci 10 ov bs) && (mk_f1 0 (sx_fld tt ci 7 ov bs) && (mk_ft 5 (sx_fld tt ci 1 ov bs) && (mk_ft 8 (sx_fld tt ci 3 ov bs) && (mk_ft 9 (sx_fld tt ci 5 ov bs) && mk_fj (sx_fld tt ci 0 ov bs)))))
  | _ => false
def mk_h3 (tt : List (List FieldType)) (TH : List (List ly_T)) (n : Nat) (H : sx_H) : Bool := [1, 4].all fun j => (match ly_thm TH j with
  | some (.inr _) => true
  | _ => false) && (match sx_get (177 + 19 * n + j) H.1 with
  | some (.inr (ci, ov, bs)) => mk_f1 0 (sx_fld tt ci 3 ov bs)
  | _ => false)
def mk_fin (tt : List (List FieldType)) (TH : List (List ly_T)) (n : Nat) (v : Option sx_V) (H : sx_H) (c s : Nat) : Bool := v.isNone && (Nat.beq H.2.2 (177 + 19 * (n + 1)) && (H.1.all (fun q => Nat.ble (177 + 19 * n) q.1) && ((List.range 19).all (mk_c tt TH n H) && (Nat.ble c 18 && (Nat.ble s 240 && (mk_h1 tt n H && mk_h3 tt TH n H))))))
section MK1
variable {cst : am_K} {tt : List (List FieldType)} {TH : List (List ly_T)} {ρ : Nat → Int32}
theorem mk_f_ok {b : Nat} {f : ly_F} {v : sx_V} {w : Value} (h : mk_f b f v = true) (g : sx_g ρ v w) : ly_gf b f w := by
  unfold mk_f at h
  split at h
  · rename_i p c
    rw [Bool.and_eq_true, sx_le_iff, sx_le_iff] at h
    obtain ⟨n, e, hn⟩ := g
    exact ⟨n, e, by omega, by omega⟩
  · rename_i p lo hi t
    rw [Bool.and_eq_true, sx_le_iff, sx_le_iff] at h
    obtain ⟨n, e, h1, h2, -⟩ := g
    exact ⟨n, e, by omega, by omega⟩
  · obtain ⟨n, e, -⟩ := g
    exact ⟨n, e⟩
  · rename_i j a
    have e := sx_beqn.mp h
    rcases g with e1 | ⟨e7, -⟩
    · show w = .ref (16 + (b + j))
      rw [← e]; exact e1
    · omega
  · cases h
theorem mk_t_ok {len b : Nat} {t : ly_T} {e : sx_E} {x : am_E} (h : mk_t tt b t e = true) (g : sx_gE tt ρ e x) (h8 : ∀ ci fs k f, t = .inr (ci, fs) → sx_ch 8 k fs = some f → k < 256) : ly_gT tt len b t x := by
  unfold mk_t at h
  split at h
  · rename_i ty n lo hi ty' n' d ov
    simp only [Bool.and_eq_true, decide_eq_true_eq] at h
    obtain ⟨e1, e2, h3⟩ := h
    subst e1
    have e2 := sx_beqn.mp e2
    subst e2
    obtain ⟨c, ex, gc⟩ := g
    refine ⟨c, ex, ?_⟩
    split at h3
    · obtain ⟨f, ef, -⟩ := gc
      exact ⟨f, ef⟩
    · split at h3
      · rename_i z
        simp only [Bool.and_eq_true, sx_le_iff] at h3
        obtain ⟨f, ef, hf⟩ := gc
        refine ⟨f, ef, fun j hj => ?_⟩
        have := hf j hj
        rw [List.isEmpty_iff.mp h3.2.2] at this
        obtain ⟨m, em, hm⟩ := this
        cases em
        exact ⟨by omega, by omega⟩
      · cases h3
    · cases h3
  · rename_i ci fs ci' ov bs
    rw [Bool.and_eq_true] at h
    have e1 := sx_beqn.mp h.1
    subst e1
    obtain ⟨vs, ex, hl, hf⟩ := g
    refine ⟨vs, ex, hl, fun k f hk => ?_⟩
    have := List.all_eq_true.mp h.2 k (List.mem_range.mpr (h8 _ _ k f rfl hk))
    rw [hk] at this
    simp only at this
    split at this
    · rename_i v hv
      obtain ⟨w, hw, gw⟩ := hf k v hv
      exact ⟨w, hw, mk_f_ok this gw⟩
    · cases this
  · cases h
theorem ly_gT_len {len len' b : Nat} (hl : len ≤ len') : ∀ {t : ly_T} {x : am_E}, ly_gT tt len b t x → ly_gT tt len' b t x
  | .inl (ty, n, lo, hi), x, g => by
    obtain ⟨c, ex, gc⟩ := g
    refine ⟨c, ex, ?_⟩
    cases ty <;> try exact gc
    obtain ⟨f, ef, hf⟩ := gc
    refine ⟨f, ef, fun j hj => ?_⟩
    rcases hf j hj with h1 | ⟨h1, h2⟩
    · exact Or.inl h1
    · exact Or.inr ⟨h1, by omega⟩
  | .inr (ci, fs), x, g => g
/-- the heap behind it -/
theorem mk_hy {n : Nat} {v : Option sx_V} {H : sx_H} {c s : Nat} {h h' : am_H} (hy : ly_hy tt TH h) (hn : n ≤ 99) (hlen : h.length = 177 + 19 * n) (hf : mk_fin tt TH n v H c s = true) (gH : sx_gH tt ρ h H h') (h8 : ∀ j ci fs k f, ly_thm TH j = some (.inr (ci, fs)) → sx_ch 8 k fs = some f → k < 256) :
    v = none ∧ ly_hy tt TH h' ∧ h'.length = 177 + 19 * (n + 1) ∧ (∀ i, i < h.length → h'[i]? = h[i]?) ∧ c ≤ 18 ∧ s ≤ 240 ∧ ly_hv cst h' 45322 (n : Int) = some 1 ∧ ly_hv cst h' 45319 (n : Int) = some 0 ∧ ly_hv cst h' 45313 (n : Int) = some (ρ 5).toInt ∧ ly_hv cst h' 45315 (n : Int) = some (ρ 8).toInt ∧ ly_hv cst h' 45317 (n : Int) = some (ρ 9).toInt ∧ ly_hv cst h' 45312 (n : Int) = some ((ρ 10).toInt * 4294967296 + (ρ 11).toInt + 2147483648) ∧ ly_hv cst h' 45571 (n : Int) = some 0 ∧ ly_hv cst h' 46339 (n : Int) = some 0 := by
  unfold mk_fin at hf
  simp only [Bool.and_eq_true, sx_beqn, sx_ble] at hf
  obtain ⟨f1, f2, f3, f4, f5, f6, f7, f8⟩ := hf
  obtain ⟨g1, g2, g3, g4⟩ := gH
  have h1 : ly_hv cst h' 45322 (n : Int) = some 1 ∧ ly_hv cst h' 45319 (n : Int) = some 0 ∧ ly_hv cst h' 45313 (n : Int) = some (ρ 5).toInt ∧ ly_hv cst h' 45315 (n : Int) = some (ρ 8).toInt ∧ ly_hv cst h' 45317 (n : Int) = some (ρ 9).toInt ∧ ly_hv cst h' 45312 (n : Int) = some ((ρ 10).toInt * 4294967296 + (ρ 11).toInt + 2147483648) := by
    unfold mk_h1 at f7
    split at f7
    · rename_i ci ov bs he
      simp only [Bool.and_eq_true] at f7
      obtain ⟨p1, p2, p3, p4, p5, p6⟩ := f7
      have hget : sx_hget H (177 + 19 * n) = some (.inr (ci, ov, bs)) := by
        obtain ⟨a, b, cnt⟩ := H
        simp only [sx_hget]
        rw [he]
      obtain ⟨x, hx, vs, rfl, -, hf⟩ := g3 _ _ hget
      have rd : ∀ (k : Nat) (m : Int32), k < 256 → vs[k]? = some (.int m) → ly_hv cst h' (45312 + k) (n : Int) = some m.toInt := fun k m hk hw => by
        have o : ly_h0 cst h' (256 * (177 + 0) + k) (n : Int) = ly_hm h'[177 + 19 * n + 0]? k := ly_h0_of2 (cst := cst) (h := h') (z := n) (j := 0) (k := k) (by decide) hk
        rw [show 177 + 19 * n + 0 = 177 + 19 * n from rfl, hx] at o
        rw [ly_hv0 (by omega)]
        show ly_h0 cst h' (256 * (177 + 0) + k) (n : Int) = some m.toInt
        rw [o]
        simp only [ly_hm]
        rw [hw]
      have one : ∀ (k : Nat) (c' : Int), k < 256 → mk_f1 c' (sx_fld tt ci k ov bs) = true → ly_hv cst h' (45312 + k) (n : Int) = some c' := fun k c' hk p => by
        unfold mk_f1 at p
        split at p
        · rename_i d hd
          obtain ⟨w, hw, m, rfl, hm⟩ := hf k _ hd
          rw [rd k m hk hw, hm, sx_eq_iff.mp p]
        · cases p
      have rdj : ∀ (k : Nat) (m : Int64), k < 256 → vs[k]? = some (.long m) → ly_hv cst h' (45312 + k) (n : Int) = some m.toInt := fun k m hk hw => by
        have o : ly_h0 cst h' (256 * (177 + 0) + k) (n : Int) = ly_hm h'[177 + 19 * n + 0]? k := ly_h0_of2 (cst := cst) (h := h') (z := n) (j := 0) (k := k) (by decide) hk
        rw [show 177 + 19 * n + 0 = 177 + 19 * n from rfl, hx] at o
        rw [ly_hv0 (by omega)]
        show ly_h0 cst h' (256 * (177 + 0) + k) (n : Int) = some m.toInt
        rw [o]
        simp only [ly_hm]
        rw [hw]
      have tag : ∀ k0 k : Nat, k < 256 → mk_ft k0 (sx_fld tt ci k ov bs) = true → ly_hv cst h' (45312 + k) (n : Int) = some (ρ k0).toInt := fun k0 k hk p => by
        unfold mk_ft at p
        split at p
        · rename_i lo hi k1 d hd
          rw [Bool.and_eq_true, sx_beqn, sx_eq_iff] at p
          obtain ⟨w, hw, m, rfl, -, -, hm⟩ := hf k _ hd
          have e := hm k1 d rfl
          rw [p.1, p.2, Int.add_zero] at e
          have := rd k m hk hw
          rw [e] at this
          exact this
        · cases p
      refine ⟨one 10 1 (by decide) p1, one 7 0 (by decide) p2, tag 5 1 (by decide) p3, tag 8 3 (by decide) p4, tag 9 5 (by decide) p5, ?_⟩
      unfold mk_fj at p6
      split at p6
      · rename_i c6 hd
        obtain ⟨w, hw, m, rfl, hm⟩ := hf 0 _ hd
        have e := hm c6 rfl
        unfold sx_jm at e
        rw [if_pos (sx_eq_iff.mp p6)] at e
        have := rdj 0 m (by decide) hw
        rw [e] at this
        exact this
      · cases p6
    · cases f7
  have hlen' : h'.length = 177 + 19 * (n + 1) := by
    rw [g1, f2]
    split
    · omega
    · rfl
  have hold : ∀ i, i < h.length → h'[i]? = h[i]? := fun i hi => by
    refine g4 i hi ?_
    cases hg : sx_get i H.1 with
    | none => rfl
    | some e =>
      have := List.all_eq_true.mp f3 _ (sx_get_mem hg)
      have := sx_ble.mp this
      simp only at this
      omega
  have hy' : ly_hy tt TH h' := by
    refine ⟨by omega, fun i t ht => ?_, fun e j t he ht => ?_⟩
    · obtain ⟨x, hx, gx⟩ := hy.2.1 i t ht
      have hi := (List.getElem?_eq_some_iff.mp hx).1
      exact ⟨x, by rw [hold i hi]; exact hx, ly_gT_len (by omega) gx⟩
    · have hj := ly_thm_lt ht
      by_cases hen : e < n
      · obtain ⟨x, hx, gx⟩ := hy.2.2 e j t (by omega) ht
        have hi := (List.getElem?_eq_some_iff.mp hx).1
        exact ⟨x, by rw [hold _ hi]; exact hx, ly_gT_len (by omega) gx⟩
      · have ee : e = n := by omega
        subst ee
        have hc := List.all_eq_true.mp f4 j (List.mem_range.mpr hj)
        unfold mk_c at hc
        rw [ht] at hc
        split at hc
        · rename_i t' e' ht' he'
          cases ht'
          have hget : sx_hget H (177 + 19 * e + j) = some e' := by
            obtain ⟨a, b, cnt⟩ := H
            simp only [sx_hget]
            rw [he']
          obtain ⟨x, hx, gx⟩ := g3 _ _ hget
          exact ⟨x, hx, mk_t_ok hc gx (fun ci fs k f et hk => h8 j ci fs k f (by rw [ht, et]) hk)⟩
        · rename_i h1 _
          cases h1
        · cases hc
  have h3 : ∀ j, j ∈ [1, 4] → ly_hv cst h' (256 * (177 + j) + 3) (n : Int) = some 0 := fun j hj => by
    have t0 := List.all_eq_true.mp f8 j hj
    rw [Bool.and_eq_true] at t0
    obtain ⟨t1, t2⟩ := t0
    split at t1
    · rename_i r hr
      have hj19 := ly_thm_lt hr
      split at t2
      · rename_i ci ov bs he
        have hget : sx_hget H (177 + 19 * n + j) = some (.inr (ci, ov, bs)) := by
          obtain ⟨a, b, cnt⟩ := H
          simp only [sx_hget]
          rw [he]
        obtain ⟨x, hx, vs, rfl, -, hf⟩ := g3 _ _ hget
        unfold mk_f1 at t2
        split at t2
        · rename_i d hd
          obtain ⟨w, hw, m, rfl, hm⟩ := hf 3 _ hd
          have nin : ∀ y, h'[177 + 19 * (n / 32) + j]? ≠ some (.inl y) := fun y e => by
            obtain ⟨ci2, fs2⟩ := r
            obtain ⟨x2, hx2, gx2⟩ := hy'.2.2 (n / 32) j _ (by omega) hr
            obtain ⟨vs2, rfl, -⟩ := gx2
            rw [hx2] at e
            cases e
          rw [ly_hv0 (by omega), ly_h0_of2o hj19 (by decide) nin, hx]
          simp only [ly_hm]
          rw [hw]
          show some m.toInt = some 0
          rw [hm, sx_eq_iff.mp t2]
        · cases t2
      · cases t2
    · cases t1
  exact ⟨Option.isNone_iff_eq_none.mp f1, hy', hlen', hold, f5, f6, h1.1, h1.2.1, h1.2.2.1, h1.2.2.2.1, h1.2.2.2.2.1, h1.2.2.2.2.2, h3 1 (by decide), h3 4 (by decide)⟩
end MK1
