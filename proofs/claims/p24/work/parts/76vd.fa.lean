/-! rows of facts over tokens, as such (p24; NOT YET TRIED) -/
theorem tk_wev {f f' : Int → Int} {b s : Int} : ∀ d : Nat, (∀ x, s ≤ x → x < s + (d : Int) → f x = f' x) → tk_w f b s d = tk_w f' b s d
  | 0, _ => rfl
  | d + 1, h => by
    rw [tk_w, tk_w, tk_wev d (fun x a c => h x a (by omega)), h (s + (d : Int)) (by omega) (by omega)]
theorem tk_ev {f f' : Int → Int} {n p s e k v : Int} (p0 : 0 ≤ p) (h : ∀ x, 0 ≤ x → x < n → f x = f' x) (a : tk f n p s e k v) : tk f' n p s e k v := by
  obtain ⟨a1, a2, a3, a4, a5, a6, a7⟩ := a
  have es := h s (by omega) (by omega)
  rw [es] at a5 a6 a7
  refine ⟨a1, a2, a3, fun x x0 x1 => by rw [← h x (by omega) (by omega)]; exact a4 x x0 x1, a5, fun r => ?_, a7⟩
  obtain ⟨c1, c2, c3, c4⟩ := a6 r
  refine ⟨fun x x0 x1 => by rw [← h x (by omega) (by omega)]; exact c1 x x0 x1, fun z => by rw [← h e (by omega) z]; exact c2 z, fun z => ⟨(c3 z).1, ?_⟩, c4⟩
  rw [(c3 z).2]
  exact tk_wev _ (fun x x0 x1 => h x (by omega) (by omega))
theorem gs_ev {f f' : Int → Int} {cst : am_K} {h : am_H} {e0 n : Int} (p0 : 0 ≤ e0) (hf : ∀ x, 0 ≤ x → x < n → f x = f' x) (E : gs_E f cst h e0 n) : gs_E f' cst h e0 n := by
  rcases E with ⟨a1, a2⟩ | ⟨s, e, k, v, a1, a2⟩
  · exact Or.inl ⟨fun x x0 x1 => by rw [← hf x (by omega) x1]; exact a1 x x0 x1, a2⟩
  · exact Or.inr ⟨s, e, k, v, tk_ev p0 hf a1, a2⟩
theorem tk_kd {f : Int → Int} {n p s e k v : Int} (a : tk f n p s e k v) : 1 ≤ k ∧ k ≤ 61 ∧ k ≠ 4 := by
  obtain ⟨a1, a2, a3, a4, a5, a6, a7⟩ := a
  have r := tkk_r (f s)
  by_cases q : tk_r (tkk (f s))
  · obtain ⟨c1, c2, c3, c4⟩ := a6 q
    by_cases z : e - s ≤ tk_m (tkk (f s))
    · have := (c3 z).1
      omega
    · have := c4 (by omega)
      omega
  · have := (a7 q).2
    omega
/-- the worth of a WORD and of a number -/
theorem tk_vl {f : Int → Int} {n p s e k v : Int} (a : tk f n p s e k v) : (k = 1 → 0 ≤ v ∧ v < 1152921504606846976) ∧ (k = 2 → 0 ≤ v ∧ v ≤ 9999) := by
  obtain ⟨a1, a2, a3, a4, a5, a6, a7⟩ := a
  have long : ∀ k0 : Int, k0 = 1 ∨ k0 = 2 → k = k0 → tkk (f s) = k0 ∧ e - s ≤ tk_m k0 ∧ v = tk_w f (tk_b k0) s (e - s).toNat ∧ ∀ x, s ≤ x → x < e → tkk (f x) = k0 := fun k0 h0 hk => by
    by_cases q : tk_r (tkk (f s))
    · obtain ⟨c1, c2, c3, c4⟩ := a6 q
      by_cases z : e - s ≤ tk_m (tkk (f s))
      · obtain ⟨d1, d2⟩ := c3 z
        have ee : tkk (f s) = k0 := by rw [← d1]; exact hk
        rw [ee] at z d2 c1
        exact ⟨ee, z, d2, c1⟩
      · have := c4 (by omega)
        omega
    · exact absurd (by rw [← (a7 q).2, hk]; exact h0) q
  constructor
  · intro hk
    obtain ⟨-, l, ev, al⟩ := long 1 (Or.inl rfl) hk
    rw [show tk_m 1 = 12 from rfl] at l
    rw [show tk_b 1 = 32 from rfl] at ev
    have y := tk_wl (f := f) (s := s) (e - s).toNat (fun x x0 x1 => al x x0 (by omega))
    have pw : 32 ^ (e - s).toNat ≤ 32 ^ 12 := Nat.pow_le_pow_right (by decide) (by omega)
    rw [← ev] at y
    generalize 32 ^ (e - s).toNat = zz at y pw
    have : (32 : Nat) ^ 12 = 1152921504606846976 := by decide
    omega
  · intro hk
    obtain ⟨-, l, ev, al⟩ := long 2 (Or.inr rfl) hk
    rw [show tk_m 2 = 4 from rfl] at l
    rw [show tk_b 2 = 10 from rfl] at ev
    have y := tk_wd (f := f) (s := s) (e - s).toNat (fun x x0 x1 => al x x0 (by omega))
    have pw : 10 ^ (e - s).toNat ≤ 10 ^ 4 := Nat.pow_le_pow_right (by decide) (by omega)
    rw [← ev] at y
    generalize 10 ^ (e - s).toNat = zz at y pw
    have : (10 : Nat) ^ 4 = 10000 := by decide
    omega
/-- kind of the token j; 0 behind the last -/
def fk (kd : Int → Int) (t j : Nat) : Int := if j < t then kd (j : Int) else 0
/-- the names and values of a row of facts, if a text is one: from the token a on, the names ns and values vs before it -/
def fa (kd vl : Int → Int) (t : Nat) : Nat → Nat → List Int → List Int → Option (List Int × List Int)
  | 0, _, _, _ => none
  | F + 1, a, ns, vs => if fk kd t a = 0 then some (ns, vs) else if ns.length = 20 ∨ fk kd t a ≠ 1 ∨ vl (a : Int) ∈ ns then none else if fk kd t (a + 1) = 61 then (if fk kd t (a + 2) ≠ 2 ∨ fk kd t (a + 3) ≠ 59 then none else fa kd vl t F (a + 4) (ns ++ [vl (a : Int)]) (vs ++ [vl ((a + 2 : Nat) : Int)])) else if fk kd t (a + 1) ≠ 59 then none else fa kd vl t F (a + 2) (ns ++ [vl (a : Int)]) (vs ++ [1])
theorem fa_len {kd vl : Int → Int} {t : Nat} : ∀ (F a : Nat) (ns vs : List Int), F + ns.length = 21 → vs.length = ns.length → ∀ ms ws, fa kd vl t F a ns vs = some (ms, ws) → ms.length ≤ 20 ∧ ws.length = ms.length
  | 0, _, _, _, _, _, _, _, h => by cases h
  | F + 1, a, ns, vs, hF, hv, ms, ws, h => by
    rw [fa] at h
    split at h
    · cases h
      exact ⟨by omega, hv⟩
    · split at h
      · cases h
      · split at h
        · split at h
          · cases h
          · exact fa_len F _ _ _ (by rw [List.length_append, List.length_singleton]; omega) (by rw [List.length_append, List.length_append, hv]; rfl) _ _ h
        · split at h
          · cases h
          · exact fa_len F _ _ _ (by rw [List.length_append, List.length_singleton]; omega) (by rw [List.length_append, List.length_append, hv]; rfl) _ _ h
/-- the reference stands at the token a -/
def rs (cst : am_K) (h : am_H) (kd vl : Int → Int) (en : Nat → Int) (t : Nat) (n : Int) (a : Nat) : Prop := (a < t → ly_hv cst h 19971 0 = some (srt (kd (a : Int))) ∧ ly_hv cst h 19974 0 = some (en (a + 1)) ∧ (kd (a : Int) = 1 → ly_hv cst h 19976 0 = some (vl (a : Int))) ∧ (kd (a : Int) = 2 → ly_hv cst h 19975 0 = some (vl (a : Int)))) ∧ (t ≤ a → ly_hv cst h 19971 0 = some 8 ∧ ly_hv cst h 19974 0 = some n)
theorem rs_mv {cst : am_K} {h h' : am_H} {kd vl : Int → Int} {en : Nat → Int} {t : Nat} {n : Int} {a : Nat} {ms : List Nat} (R : rs cst h kd vl en t n a) (fr : ly_fr cst ms h h') (q : [19971, 19974, 19975, 19976].all (fun x => !ly_has x ms) = true) : rs cst h' kd vl en t n a := by
  simp only [List.all_cons, List.all_nil, Bool.and_true, Bool.and_eq_true, Bool.not_eq_true'] at q
  obtain ⟨q1, q2, q3, q4⟩ := q
  refine ⟨fun z => ?_, fun z => ?_⟩
  · obtain ⟨a1, a2, a3, a4⟩ := R.1 z
    exact ⟨fr _ _ _ q1 a1, fr _ _ _ q2 a2, fun y => fr _ _ _ q4 (a3 y), fun y => fr _ _ _ q3 (a4 y)⟩
  · obtain ⟨a1, a2⟩ := R.2 z
    exact ⟨fr _ _ _ q1 a1, fr _ _ _ q2 a2⟩
/-- what is found from the end of the token before a is the token a -/
theorem rs_at {cst : am_K} {f : Int → Int} {h : am_H} {kd pl vl : Int → Int} {en : Nat → Int} {t : Nat} {n : Int} (T : tkT f n t kd pl vl en) {a : Nat} (ha : a ≤ t) (E : gs_E f cst h (en a) n) : rs cst h kd vl en t n a := by
  by_cases z : a < t
  · have q := T.2.1 a z
    refine ⟨fun _ => ?_, fun y => by omega⟩
    rcases E with ⟨b, -⟩ | ⟨s, e, k, v, w, c1, c2, -, c4, c5⟩
    · exact absurd (b _ q.1 (by have := q.2.1; have := q.2.2.1; omega)) q.2.2.2.2.1
    · obtain ⟨-, ee, ek, ev⟩ := tk_uni w q
      rw [← ek, ← ee]
      exact ⟨c1, c2, fun y => by rw [← ev (Or.inl y)]; exact c4 y, fun y => by rw [← ev (Or.inr y)]; exact c5 y⟩
  · have et : a = t := by omega
    refine ⟨fun y => absurd y z, fun _ => ?_⟩
    rcases E with ⟨b, c1, c2, -⟩ | ⟨s, e, k, v, w, -⟩
    · exact ⟨c1, c2⟩
    · rw [et] at w
      exact absurd (T.2.2.2 s w.1 (by have := w.2.1; have := w.2.2.1; omega)) w.2.2.2.2.1
theorem hp_mon {cst : am_K} {strs : List Nat} {Φ Ψ : am_Q → Prop} {D pc : Nat} {M : am_M} {l : am_L} {st : List Value} {h : am_H} (H : hp_F cst strs Φ D M pc l st h) (k : ∀ r, Φ r → Ψ r) : hp_F cst strs Ψ D M pc l st h := by
  obtain ⟨n, r, hgo, hr⟩ := H
  exact ⟨n, r, hgo, k _ hr⟩
