/-! conditions, as such: the automaton's steps; how long words are (p13 and on) -/
theorem ak_n {kd vl : Int → Int} {t a : Nat} (h : fk kd t a ≠ 1) : ak kd vl t a = -1 := if_neg h
theorem tm_n {kd vl : Int → Int} {t a : Nat} (h : t ≤ a) : ¬ tm kd vl t a := by
  have e := fk_ge (kd := kd) (t := t) (j := a) (by omega)
  rintro (z | ⟨z, -⟩) <;> omega
theorem ts_n {kd vl : Int → Int} {t a m : Nat} (h : ¬ tm kd vl t a) : ts kd vl t a m = .inl (1, a) := by
  unfold ts
  rw [if_neg (fun z => h z.1), sm, if_neg h]
theorem cd_f {kd vl : Int → Int} {t F a n : Nat} {u : Bool} {c : lv} {w : List lv} {L : List Int} : cd kd vl t (F + 1) false a c w u n L = (if fk kd t a = 41 then (match w with
    | [] => .inl (1, a)
    | d :: w' => cd kd vl t F false (a + 1) (d.1, d.2.1, false) w' u n (L ++ rl c ++ nt d.2.2)) else if ak kd vl t a = 18 then cd kd vl t F true (a + 1) (true, false, false) w u n (L ++ rl c) else if ak kd vl t a = 19 then cd kd vl t F true (a + 1) (c.1, true, false) w u n (L ++ an c.2.1) else if ak kd vl t a = 17 ∧ w = [] ∧ u = false then cd kd vl t F true (a + 1) (false, false, false) w true n (L ++ rl c) else if fk kd t a = 59 ∧ w = [] then .inr (a, n, L ++ rl c ++ (bif u then [-20005, -20006] else [])) else .inl (1, a)) := by
  cases w <;> rfl
theorem cd_end {kd vl : Int → Int} {t F a m : Nat} {s u : Bool} {c : lv} {w : List lv} {L : List Int} (h : t ≤ a) : cd kd vl t F s a c w u m L = .inl (1, a) := by
  have e := fk_ge (kd := kd) (t := t) (j := a) (by omega)
  have k : ak kd vl t a = -1 := ak_n (by omega)
  cases F with
  | zero => rfl
  | succ F =>
    cases s with
    | true => rw [cd, if_neg (by omega), if_neg (by omega), ts_n (tm_n h)]
    | false => rw [cd_f, if_neg (by omega), if_neg (by omega), if_neg (by omega), if_neg (fun z => by omega), if_neg (fun z => by omega)]
theorem cd_fuel {kd vl : Int → Int} {t : Nat} : ∀ (F F' : Nat) (s : Bool) (a : Nat) (c : lv) (w : List lv) (u : Bool) (m : Nat) (L : List Int), m ≤ 20 → t + 2 ≤ F + a → t + 2 ≤ F' + a → cd kd vl t F s a c w u m L = cd kd vl t F' s a c w u m L
  | 0, F', s, a, c, w, u, m, L, _, h, _ => by rw [cd_end (by omega), cd_end (by omega)]
  | F + 1, 0, s, a, c, w, u, m, L, _, _, h => by rw [cd_end (by omega), cd_end (by omega)]
  | F + 1, F' + 1, s, a, c, w, u, m, L, hm, h, h' => by
    by_cases z : t ≤ a
    · rw [cd_end z, cd_end z]
    cases s with
    | true =>
      rw [cd, cd]
      by_cases q1 : ak kd vl t a = 20
      · rw [if_pos q1, if_pos q1]
        exact cd_fuel F F' _ _ _ _ _ _ _ hm (by omega) (by omega)
      rw [if_neg q1, if_neg q1]
      by_cases q2 : fk kd t a = 40
      · rw [if_pos q2, if_pos q2]
        by_cases q3 : w.length = 6
        · rw [if_pos q3, if_pos q3]
        · rw [if_neg q3, if_neg q3]
          exact cd_fuel F F' _ _ _ _ _ _ _ hm (by omega) (by omega)
      rw [if_neg q2, if_neg q2]
      cases e : ts kd vl t a m with
      | inl f => rfl
      | inr x =>
        obtain ⟨b, E⟩ := x
        obtain ⟨-, -, s3, -, s5, -⟩ := ts_ok hm e
        exact cd_fuel F F' _ _ _ _ _ _ _ (by omega) (by omega) (by omega)
    | false =>
      rw [cd_f, cd_f]
      by_cases q1 : fk kd t a = 41
      · rw [if_pos q1, if_pos q1]
        cases w with
        | nil => rfl
        | cons d w => exact cd_fuel F F' _ _ _ _ _ _ _ hm (by omega) (by omega)
      rw [if_neg q1, if_neg q1]
      by_cases q2 : ak kd vl t a = 18
      · rw [if_pos q2, if_pos q2]
        exact cd_fuel F F' _ _ _ _ _ _ _ hm (by omega) (by omega)
      rw [if_neg q2, if_neg q2]
      by_cases q3 : ak kd vl t a = 19
      · rw [if_pos q3, if_pos q3]
        exact cd_fuel F F' _ _ _ _ _ _ _ hm (by omega) (by omega)
      rw [if_neg q3, if_neg q3]
      by_cases q4 : ak kd vl t a = 17 ∧ w = [] ∧ u = false
      · rw [if_pos q4, if_pos q4]
        exact cd_fuel F F' _ _ _ _ _ _ _ hm (by omega) (by omega)
      rw [if_neg q4, if_neg q4]
/-- the automaton from the token a on -/
def cx (kd vl : Int → Int) (t : Nat) (s : Bool) (a : Nat) (c : lv) (w : List lv) (u : Bool) (m : Nat) (L : List Int) : (Int × Nat) ⊕ (Nat × Nat × List Int) := cd kd vl t (t + 2 - a) s a c w u m L
section CX
variable {kd vl : Int → Int} {t a m : Nat} {c : lv} {w : List lv} {u : Bool} {L : List Int}
theorem cx_end {s : Bool} (h : t ≤ a) : cx kd vl t s a c w u m L = .inl (1, a) := cd_end h
theorem cx_not (h : ak kd vl t a = 20) : cx kd vl t true a c w u m L = cx kd vl t true (a + 1) (c.1, c.2.1, !c.2.2) w u m L := by
  have at' : a < t := fk_in (kd := kd) (by rw [ak_1 (kd := kd) (vl := vl) (by omega)]; decide)
  unfold cx
  rw [show t + 2 - a = (t + 2 - (a + 1)) + 1 by omega, cd, if_pos h]
theorem cx_opn (h : fk kd t a = 40) (h6 : w.length ≠ 6) : cx kd vl t true a c w u m L = cx kd vl t true (a + 1) (false, false, false) (c :: w) u m L := by
  have at' : a < t := fk_in (kd := kd) (by rw [h]; decide)
  have k : ak kd vl t a = -1 := ak_n (by omega)
  unfold cx
  rw [show t + 2 - a = (t + 2 - (a + 1)) + 1 by omega, cd, if_neg (by omega), if_pos h, if_neg h6]
theorem cx_opf (h : fk kd t a = 40) (h6 : w.length = 6) : cx kd vl t true a c w u m L = .inl (4, a) := by
  have at' : a < t := fk_in (kd := kd) (by rw [h]; decide)
  have k : ak kd vl t a = -1 := ak_n (by omega)
  unfold cx
  rw [show t + 2 - a = (t + 2 - (a + 1)) + 1 by omega, cd, if_neg (by omega), if_pos h, if_pos h6]
theorem cx_tf {k : Int} {b : Nat} (h1 : ak kd vl t a ≠ 20) (h2 : fk kd t a ≠ 40) (ha : a ≤ t) (h : ts kd vl t a m = .inl (k, b)) : cx kd vl t true a c w u m L = .inl (k, b) := by
  unfold cx
  rw [show t + 2 - a = (t + 1 - a) + 1 by omega, cd, if_neg h1, if_neg h2, h]
theorem cx_ts {b : Nat} {E : List Int} (hm : m ≤ 20) (h : ts kd vl t a m = .inr (b, E)) : cx kd vl t true a c w u m L = cx kd vl t false b (c.1, c.2.1, false) w u (m + 1) (L ++ E ++ [-20004] ++ nt c.2.2) := by
  obtain ⟨-, -, s3, s4, s5, tmm⟩ := ts_ok hm h
  have n1 : ak kd vl t a ≠ 20 := by
    rcases tmm with z | ⟨-, z⟩
    · rw [ak_n (by omega)]
      decide
    · omega
  have n2 : fk kd t a ≠ 40 := by
    rcases tmm with z | ⟨z, -⟩ <;> omega
  unfold cx
  rw [show t + 2 - a = (t + 1 - a) + 1 by omega, cd, if_neg n1, if_neg n2, h]
  exact cd_fuel _ _ _ _ _ _ _ _ _ (by omega) (by omega) (by omega)
theorem cx_sh {d : lv} (h : fk kd t a = 41) : cx kd vl t false a c (d :: w) u m L = cx kd vl t false (a + 1) (d.1, d.2.1, false) w u m (L ++ rl c ++ nt d.2.2) := by
  have at' : a < t := fk_in (kd := kd) (by rw [h]; decide)
  unfold cx
  rw [show t + 2 - a = (t + 2 - (a + 1)) + 1 by omega, cd, if_pos h]
theorem cx_or (h : ak kd vl t a = 18) : cx kd vl t false a c w u m L = cx kd vl t true (a + 1) (true, false, false) w u m (L ++ rl c) := by
  have f1 := ak_1 (kd := kd) (vl := vl) (t := t) (a := a) (by omega)
  have at' : a < t := fk_in (kd := kd) (by rw [f1]; decide)
  unfold cx
  rw [show t + 2 - a = (t + 2 - (a + 1)) + 1 by omega, cd_f, if_neg (by omega), if_pos h]
theorem cx_and (h : ak kd vl t a = 19) : cx kd vl t false a c w u m L = cx kd vl t true (a + 1) (c.1, true, false) w u m (L ++ an c.2.1) := by
  have f1 := ak_1 (kd := kd) (vl := vl) (t := t) (a := a) (by omega)
  have at' : a < t := fk_in (kd := kd) (by rw [f1]; decide)
  unfold cx
  rw [show t + 2 - a = (t + 2 - (a + 1)) + 1 by omega, cd_f, if_neg (by omega), if_neg (by omega), if_pos h]
theorem cx_un (h : ak kd vl t a = 17) : cx kd vl t false a c [] false m L = cx kd vl t true (a + 1) (false, false, false) [] true m (L ++ rl c) := by
  have f1 := ak_1 (kd := kd) (vl := vl) (t := t) (a := a) (by omega)
  have at' : a < t := fk_in (kd := kd) (by rw [f1]; decide)
  unfold cx
  rw [show t + 2 - a = (t + 2 - (a + 1)) + 1 by omega, cd, if_neg (by omega), if_neg (by omega), if_neg (by omega), if_pos ⟨h, rfl, rfl⟩]
theorem cx_fin (h : fk kd t a = 59) : cx kd vl t false a c [] u m L = .inr (a, m, L ++ rl c ++ (bif u then [-20005, -20006] else [])) := by
  have at' : a < t := fk_in (kd := kd) (by rw [h]; decide)
  have k : ak kd vl t a = -1 := ak_n (by omega)
  unfold cx
  rw [show t + 2 - a = (t + 2 - (a + 1)) + 1 by omega, cd, if_neg (by omega), if_neg (by omega), if_neg (by omega), if_neg (fun z => by omega), if_pos ⟨h, rfl⟩]
theorem cx_bad (ha : a ≤ t) (h1 : fk kd t a = 41 → w = []) (h2 : ak kd vl t a ≠ 18) (h3 : ak kd vl t a ≠ 19) (h4 : ¬ (ak kd vl t a = 17 ∧ w = [] ∧ u = false)) (h5 : ¬ (fk kd t a = 59 ∧ w = [])) : cx kd vl t false a c w u m L = .inl (1, a) := by
  unfold cx
  rw [show t + 2 - a = (t + 1 - a) + 1 by omega, cd_f]
  by_cases q : fk kd t a = 41
  · have e0 := h1 q
    rw [if_pos q]
    subst e0
    rfl
  · rw [if_neg q, if_neg h2, if_neg h3, if_neg h4, if_neg h5]
end CX
/-- a WORD's letters -/
theorem tk_word {f : Int → Int} {n p s e v : Int} (a : tk f n p s e 1 v) : v = tk_w f 32 s (e - s).toNat ∧ ∀ x, s ≤ x → x < e → tkk (f x) = 1 := by
  obtain ⟨a1, a2, a3, a4, a5, a6, a7⟩ := a
  by_cases q : tk_r (tkk (f s))
  · obtain ⟨c1, c2, c3, c4⟩ := a6 q
    by_cases z : e - s ≤ tk_m (tkk (f s))
    · obtain ⟨d1, d2⟩ := c3 z
      rw [← d1] at d2 c1
      exact ⟨d2, c1⟩
    · have := c4 (by omega)
      omega
  · exact absurd (by rw [← (a7 q).2]; exact Or.inl rfl) q
theorem tk_l2 {f : Int → Int} {n p s e v : Int} (a : tk f n p s e 1 v) : (32 ≤ v → p + 2 ≤ e) ∧ (1024 ≤ v → p + 3 ≤ e) ∧ 1 ≤ v := by
  obtain ⟨ev, al⟩ := tk_word a
  have a1 := a.1
  have a2 := a.2.1
  have y := tk_wl (f := f) (s := s) (e - s).toNat (fun x x0 x1 => al x x0 (by omega))
  rw [← ev] at y
  refine ⟨fun h => ?_, fun h => ?_, ?_⟩
  · by_cases z : e - s = 1
    · rw [show (e - s).toNat = 1 by omega] at y
      omega
    · omega
  · by_cases z : e - s = 1
    · rw [show (e - s).toNat = 1 by omega] at y
      omega
    · by_cases z2 : e - s = 2
      · rw [show (e - s).toNat = 2 by omega] at y
        omega
      · omega
  · obtain ⟨d, hd⟩ : ∃ d : Nat, (e - s).toNat = d + 1 := ⟨(e - s).toNat - 1, by omega⟩
    rw [hd, tk_w] at ev
    have y2 := tk_wl (f := f) (s := s) d (fun x x0 x1 => al x x0 (by omega))
    have k := al (s + (d : Int)) (by omega) (by omega)
    have := tkk_1 k
    rw [tkv_l this.1 this.2] at ev
    omega
theorem tkT_vB {f : Int → Int} {n : Int} {t : Nat} {kd pl vl : Int → Int} {en : Nat → Int} (T : tkT f n t kd pl vl en) : vB kd vl t := fun j hj => ⟨fun e => by
  have q := T.2.1 j hj
  have v := (tk_vl q).1 e
  rw [e] at q
  exact ⟨(tk_l2 q).2.2, v.2⟩, fun e => (tk_vl (T.2.1 j hj)).2 e⟩
theorem tkT_l2 {f : Int → Int} {n : Int} {t : Nat} {kd pl vl : Int → Int} {en : Nat → Int} (T : tkT f n t kd pl vl en) {j : Nat} (h : fk kd t j = 1) : (32 ≤ vl (j : Int) → en j + 2 ≤ en (j + 1)) ∧ (1024 ≤ vl (j : Int) → en j + 3 ≤ en (j + 1)) := by
  have hj : j < t := fk_in (kd := kd) (by rw [h]; decide)
  have q := T.2.1 j hj
  rw [← fk_lt (kd := kd) hj, h] at q
  exact ⟨(tk_l2 q).1, (tk_l2 q).2.1⟩
