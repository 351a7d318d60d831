/-! tokens of a text, as such (p24 and on; NOT YET TRIED) -/
/-- kinds of bytes: 1 letter, 2 figure, 4 blank, a sign itself, 3 else -/
def tkk (b : Int) : Int := if 97 ≤ b ∧ b ≤ 122 then 1 else if 48 ≤ b ∧ b ≤ 57 then 2 else if b = 32 ∨ b = 10 then 4 else if b = 59 ∨ b = 61 ∨ b = 40 ∨ b = 41 ∨ b = 43 then b else 3
def tkv (b : Int) : Int := if 97 ≤ b ∧ b ≤ 122 then b - 96 else b - 48
def tk_r (k : Int) : Prop := k = 1 ∨ k = 2
def tk_m (k : Int) : Int := if k = 1 then 12 else 4
def tk_b (k : Int) : Int := if k = 1 then 32 else 10
/-- what d signs from s are worth -/
def tk_w (f : Int → Int) (b s : Int) : Nat → Int
  | 0 => 0
  | d + 1 => b * tk_w f b s d + tkv (f (s + (d : Int)))
/-- a token of the first n bytes, looked for from p: [s, e), its kind, its worth -/
def tk (f : Int → Int) (n p s e k v : Int) : Prop := p ≤ s ∧ s < e ∧ e ≤ n ∧ (∀ x, p ≤ x → x < s → tkk (f x) = 4) ∧ tkk (f s) ≠ 4 ∧ (tk_r (tkk (f s)) → (∀ x, s ≤ x → x < e → tkk (f x) = tkk (f s)) ∧ (e < n → tkk (f e) ≠ tkk (f s)) ∧ (e - s ≤ tk_m (tkk (f s)) → k = tkk (f s) ∧ v = tk_w f (tk_b (tkk (f s))) s (e - s).toNat) ∧ (tk_m (tkk (f s)) < e - s → k = 3)) ∧ (¬ tk_r (tkk (f s)) → e = s + 1 ∧ k = tkk (f s))
/-- from one place there is one token -/
theorem tk_uni {f : Int → Int} {n p s e k v s' e' k' v' : Int} (a : tk f n p s e k v) (b : tk f n p s' e' k' v') : s = s' ∧ e = e' ∧ k = k' ∧ (k = 1 ∨ k = 2 → v = v') := by
  obtain ⟨a1, a2, a3, a4, a5, a6, a7⟩ := a
  obtain ⟨b1, b2, b3, b4, b5, b6, b7⟩ := b
  have es : s = s' := by
    by_cases h1 : s < s'
    · exact absurd (b4 s a1 h1) a5
    · by_cases h2 : s' < s
      · exact absurd (a4 s' b1 h2) b5
      · omega
  subst es
  by_cases r : tk_r (tkk (f s))
  · obtain ⟨c1, c2, c3, c4⟩ := a6 r
    obtain ⟨d1, d2, d3, d4⟩ := b6 r
    have ee : e = e' := by
      by_cases h1 : e < e'
      · exact absurd (d1 e (by omega) h1) (c2 (by omega))
      · by_cases h2 : e' < e
        · exact absurd (c1 e' (by omega) h2) (d2 (by omega))
        · omega
    subst ee
    by_cases l : e - s ≤ tk_m (tkk (f s))
    · obtain ⟨x1, x2⟩ := c3 l
      obtain ⟨y1, y2⟩ := d3 l
      exact ⟨rfl, rfl, by rw [x1, y1], fun _ => by rw [x2, y2]⟩
    · have x := c4 (by omega)
      have y := d4 (by omega)
      exact ⟨rfl, rfl, by rw [x, y], fun z => by omega⟩
  · obtain ⟨c1, c2⟩ := a7 r
    obtain ⟨d1, d2⟩ := b7 r
    exact ⟨rfl, by rw [c1, d1], by rw [c2, d2], fun z => absurd (by unfold tk_r; omega) r⟩
/-- a byte more, no part of the token -/
theorem tk_more {f : Int → Int} {n p s e k v : Int} (a : tk f n p s e k v) (h : e = n → tk_r (tkk (f s)) → tkk (f n) ≠ tkk (f s)) : tk f (n + 1) p s e k v := by
  obtain ⟨a1, a2, a3, a4, a5, a6, a7⟩ := a
  refine ⟨a1, a2, by omega, a4, a5, fun r => ?_, a7⟩
  obtain ⟨c1, c2, c3, c4⟩ := a6 r
  refine ⟨c1, fun _ => ?_, c3, c4⟩
  by_cases z : e = n
  · rw [z]
    exact h z r
  · exact c2 (by omega)
/-- a byte more, at the token's end, of its kind -/
theorem tk_grow {f : Int → Int} {n p s k v : Int} (a : tk f n p s n k v) (r : tk_r (tkk (f s))) (h : tkk (f n) = tkk (f s)) : (n + 1 - s ≤ tk_m (tkk (f s)) → k = tkk (f s) ∧ tk f (n + 1) p s (n + 1) k (tk_b k * v + tkv (f n))) ∧ (tk_m (tkk (f s)) < n + 1 - s → ∀ v', tk f (n + 1) p s (n + 1) 3 v') := by
  obtain ⟨a1, a2, a3, a4, a5, a6, a7⟩ := a
  obtain ⟨c1, c2, c3, c4⟩ := a6 r
  have all : ∀ x, s ≤ x → x < n + 1 → tkk (f x) = tkk (f s) := fun x x0 x1 => by
    by_cases z : x = n
    · rw [z]; exact h
    · exact c1 x x0 (by omega)
  constructor
  · intro l
    obtain ⟨k1, v1⟩ := c3 (by omega)
    refine ⟨k1, a1, by omega, by omega, a4, a5, fun _ => ⟨all, fun z => by omega, fun _ => ⟨k1, ?_⟩, fun z => by omega⟩, fun z => absurd r z⟩
    have e1 : (n + 1 - s).toNat = (n - s).toNat + 1 := by omega
    rw [e1, tk_w, ← k1, ← (show v = tk_w f (tk_b k) s (n - s).toNat by rw [k1]; exact v1), show s + ((n - s).toNat : Int) = n by omega]
  · intro l v'
    exact ⟨a1, by omega, by omega, a4, a5, fun _ => ⟨all, fun z => by omega, fun z => by omega, fun _ => rfl⟩, fun z => absurd r z⟩
/-- a byte that begins a token -/
theorem tk_first {f : Int → Int} {n p : Int} (hp : p ≤ n) (hb : ∀ x, p ≤ x → x < n → tkk (f x) = 4) (h : tkk (f n) ≠ 4) : tk f (n + 1) p n (n + 1) (tkk (f n)) (tkv (f n)) := by
  refine ⟨hp, by omega, by omega, hb, h, fun r => ⟨fun x x0 x1 => by rw [show x = n by omega], fun z => by omega, fun _ => ⟨rfl, ?_⟩, fun z => ?_⟩, fun _ => ⟨rfl, rfl⟩⟩
  · rw [show (n + 1 - n).toNat = 0 + 1 by omega, tk_w, tk_w]
    simp
  · unfold tk_m at z
    split at z <;> omega
/-- t tokens of the first n bytes -/
def tkT (f : Int → Int) (n : Int) (t : Nat) (kd pl vl : Int → Int) (en : Nat → Int) : Prop := en 0 = 0 ∧ (∀ j : Nat, j < t → tk f n (en j) (pl (j : Int)) (en (j + 1)) (kd (j : Int)) (vl (j : Int))) ∧ en t ≤ n ∧ ∀ x, en t ≤ x → x < n → tkk (f x) = 4
theorem tkT_lt {f : Int → Int} {n : Int} {t : Nat} {kd pl vl : Int → Int} {en : Nat → Int} (T : tkT f n t kd pl vl en) : ∀ j : Nat, j ≤ t → (j : Int) ≤ en j
  | 0, _ => by
    rw [T.1]
    exact Int.le_refl _
  | j + 1, h => by
    have ih := tkT_lt T j (by omega)
    obtain ⟨a1, a2, -⟩ := T.2.1 j (by omega)
    omega
theorem tkT_end {f : Int → Int} {n : Int} {t : Nat} {kd pl vl : Int → Int} {en : Nat → Int} (T : tkT f n t kd pl vl en) : ∀ j : Nat, j ≤ t → en j ≤ n := by
  intro j hj
  by_cases z : j = 0
  · rw [z, T.1]
    have := tkT_lt T t (Nat.le_refl _)
    have := T.2.2.1
    omega
  · obtain ⟨i, rfl⟩ : ∃ i, j = i + 1 := ⟨j - 1, by omega⟩
    exact (T.2.1 i (by omega)).2.2.1
theorem tkT_mono {f : Int → Int} {n : Int} {t : Nat} {kd pl vl : Int → Int} {en : Nat → Int} (T : tkT f n t kd pl vl en) : ∀ (d j : Nat), j + d ≤ t → en j + (d : Int) ≤ en (j + d)
  | 0, j, _ => by simp
  | d + 1, j, h => by
    have ih := tkT_mono T d j (by omega)
    obtain ⟨a1, a2, -⟩ := T.2.1 (j + d) (by omega)
    rw [show j + (d + 1) = j + d + 1 by omega]
    omega
theorem tkT_0 (f : Int → Int) (kd pl vl : Int → Int) : tkT f 0 0 kd pl vl (fun _ => 0) := ⟨rfl, fun j h => by omega, Int.le_refl _, fun x a b => by dsimp only at a; omega⟩
theorem tkT_blank {f : Int → Int} {n : Int} {t : Nat} {kd pl vl : Int → Int} {en : Nat → Int} (T : tkT f n t kd pl vl en) (h : tkk (f n) = 4) : tkT f (n + 1) t kd pl vl en := by
  refine ⟨T.1, fun j hj => tk_more (T.2.1 j hj) (fun _ r => ?_), by have := T.2.2.1; omega, fun x a b => ?_⟩
  · rw [h]
    unfold tk_r at r
    omega
  · by_cases z : x = n
    · rw [z]; exact h
    · exact T.2.2.2 x a (by omega)
/-- the token that ends at n has the kind of the byte before n -/
theorem tk_last {f : Int → Int} {n p s k v : Int} (a : tk f n p s n k v) : tkk (f s) = tkk (f (n - 1)) := by
  obtain ⟨a1, a2, a3, a4, a5, a6, a7⟩ := a
  by_cases r : tk_r (tkk (f s))
  · exact ((a6 r).1 (n - 1) (by omega) (by omega)).symm
  · rw [show n - 1 = s by have := (a7 r).1; omega]
theorem tkT_new {f : Int → Int} {n : Int} {t : Nat} {kd pl vl : Int → Int} {en : Nat → Int} {kd' pl' vl' : Int → Int} (T : tkT f n t kd pl vl en) (h : tkk (f n) ≠ 4) (g : 1 ≤ n → tk_r (tkk (f n)) → tkk (f n) ≠ tkk (f (n - 1))) (ek : ∀ j : Int, j < (t : Int) → kd' j = kd j) (ep : ∀ j : Int, j < (t : Int) → pl' j = pl j) (ev : ∀ j : Int, j < (t : Int) → vl' j = vl j) (k1 : kd' (t : Int) = tkk (f n)) (p1 : pl' (t : Int) = n) (v1 : vl' (t : Int) = tkv (f n)) : tkT f (n + 1) (t + 1) kd' pl' vl' (fun j => if j ≤ t then en j else n + 1) := by
  refine ⟨?_, fun j hj => ?_, ?_, fun x a b => ?_⟩
  · dsimp only
    rw [if_pos (Nat.zero_le _)]
    exact T.1
  · by_cases z : j = t
    · subst z
      dsimp only
      rw [if_pos (Nat.le_refl _), if_neg (by omega), k1, p1, v1]
      exact tk_first T.2.2.1 T.2.2.2 h
    · dsimp only
      rw [if_pos (by omega), if_pos (by omega), ek _ (by omega), ep _ (by omega), ev _ (by omega)]
      refine tk_more (T.2.1 j (by omega)) (fun e r => ?_)
      have q := T.2.1 j (by omega)
      rw [e] at q
      have := q.1
      have := q.2.1
      have := tkT_lt T j (by omega)
      rw [tk_last q] at r ⊢
      intro w
      exact g (by omega) (by rw [w]; exact r) w
  · dsimp only
    rw [if_neg (by omega)]
    exact Int.le_refl _
  · dsimp only at a
    rw [if_neg (by omega)] at a
    omega
theorem tkT_grow {f : Int → Int} {n : Int} {t : Nat} {kd pl vl : Int → Int} {en : Nat → Int} {kd' vl' : Int → Int} (T : tkT f n t kd pl vl en) (n1 : 1 ≤ n) (r : tk_r (tkk (f n))) (g : tkk (f n) = tkk (f (n - 1))) : ∃ q : Nat, t = q + 1 ∧ tkk (f (pl (q : Int))) = tkk (f n) ∧ en t = n ∧ pl (q : Int) < n ∧ 0 ≤ pl (q : Int) ∧
    ((∀ j : Int, j < (q : Int) → kd' j = kd j) → (∀ j : Int, j < (q : Int) → vl' j = vl j) → (n + 1 - pl (q : Int) ≤ tk_m (tkk (f n)) → kd' (q : Int) = kd (q : Int) ∧ vl' (q : Int) = tk_b (tkk (f n)) * vl (q : Int) + tkv (f n)) → (tk_m (tkk (f n)) < n + 1 - pl (q : Int) → kd' (q : Int) = 3) → tkT f (n + 1) t kd' pl vl' (fun j => if j ≤ q then en j else n + 1)) := by
  have en9 : en t = n := by
    by_cases z : en t = n
    · exact z
    · have := T.2.2.1
      have w := T.2.2.2 (n - 1) (by omega) (by omega)
      rw [← g] at w
      rw [w] at r
      unfold tk_r at r
      omega
  have t1 : t ≠ 0 := fun z => by
    rw [z, T.1] at en9
    omega
  obtain ⟨q, rfl⟩ : ∃ q, t = q + 1 := ⟨t - 1, by omega⟩
  have a := T.2.1 q (by omega)
  rw [en9] at a
  have l := tk_last a
  have s0 : 0 ≤ pl (q : Int) := by
    have := a.1
    have := tkT_lt T q (by omega)
    omega
  refine ⟨q, rfl, by rw [l, g], en9, a.2.1, s0, fun ek ev lo hi => ?_⟩
  have r' : tk_r (tkk (f (pl (q : Int)))) := by
    rw [l, ← g]
    exact r
  have es : tkk (f (pl (q : Int))) = tkk (f n) := by rw [l, g]
  obtain ⟨G1, G2⟩ := tk_grow a r' es.symm
  rw [es] at G1 G2
  refine ⟨?_, fun j hj => ?_, ?_, fun x x0 x1 => ?_⟩
  · dsimp only
    rw [if_pos (Nat.zero_le _)]
    exact T.1
  · by_cases z : j = q
    · subst z
      dsimp only
      rw [if_pos (Nat.le_refl _), if_neg (by omega)]
      by_cases c : n + 1 - pl (j : Int) ≤ tk_m (tkk (f n))
      · obtain ⟨k1, k2⟩ := G1 c
        obtain ⟨k3, k4⟩ := lo c
        rw [k3, k4, ← k1]
        exact k2
      · rw [hi (by omega)]
        exact G2 (by omega) _
    · dsimp only
      rw [if_pos (by omega), if_pos (by omega), ek _ (by omega), ev _ (by omega)]
      refine tk_more (T.2.1 j (by omega)) (fun e _ => ?_)
      have m := tkT_mono T (q - j) (j + 1) (by omega)
      rw [show j + 1 + (q - j) = q + 1 by omega, en9, e] at m
      omega
  · dsimp only
    rw [if_neg (by omega)]
    exact Int.le_refl _
  · dsimp only at x0
    rw [if_neg (by omega)] at x0
    omega
