/-! PRINTED by wip/p2/hp_law0.py: the text of an ACT over tokens, as such -/
/-- joining words as the class numbers them -/
def jf (k : Int) : Int := if k = 18 then 0 else if k = 19 then 1 else if k = 20 then 2 else if k = 17 then 3 else if k = 21 then 4 else if k = 22 then 5 else if k = 23 then 6 else -1
/-- clause words as the class numbers them -/
def cf (k : Int) : Int := if k < 0 ∨ 16 < k then -1 else if k ≤ 4 then k else if k = 5 then 15 else if k ≤ 14 then k - 1 else if k = 15 then 16 else 14
/-- the KIND of a clause -/
def kf (k : Int) : Int := if k ≤ 4 then k else if k < 14 then k - 1 else if k < 16 then 13 else 14
theorem jf_n {v : Int} (h0 : v ≠ 498) (h1 : v ≠ 1476) (h2 : v ≠ 14836) (h3 : v ≠ 719722099) (h4 : v ≠ 1130181) (h5 : v ≠ 2273783) (h6 : v ≠ 307) : jf (kw v) = -1 := by
  unfold jf
  rw [if_neg (fun e => h0 (kw_18 e)), if_neg (fun e => h1 (kw_19 e)), if_neg (fun e => h2 (kw_20 e)), if_neg (fun e => h3 (kw_17 e)), if_neg (fun e => h4 (kw_21 e)), if_neg (fun e => h5 (kw_22 e)), if_neg (fun e => h6 (kw_23 e))]
theorem cf_n {v : Int} (h0 : v ≠ 136356) (h1 : v ≠ 24627347) (h2 : v ≠ 4359816) (h3 : v ≠ 206277) (h4 : v ≠ 113428729) (h5 : v ≠ 365744) (h6 : v ≠ 431556) (h7 : v ≠ 349785) (h8 : v ≠ 394692) (h9 : v ≠ 11566) (h10 : v ≠ 3574901946597) (h11 : v ≠ 9309407396) (h12 : v ≠ 75148) (h13 : v ≠ 736548) (h14 : v ≠ 659105125) (h15 : v ≠ 609441381) (h16 : v ≠ 20579780) : cf (kw v) = -1 := by
  unfold cf
  have b := kw_b v
  have n0 : kw v ≠ 0 := fun e => h0 (kw_0 e)
  have n1 : kw v ≠ 1 := fun e => h1 (kw_1 e)
  have n2 : kw v ≠ 2 := fun e => h2 (kw_2 e)
  have n3 : kw v ≠ 3 := fun e => h3 (kw_3 e)
  have n4 : kw v ≠ 4 := fun e => h4 (kw_4 e)
  have n5 : kw v ≠ 6 := fun e => h5 (kw_6 e)
  have n6 : kw v ≠ 7 := fun e => h6 (kw_7 e)
  have n7 : kw v ≠ 8 := fun e => h7 (kw_8 e)
  have n8 : kw v ≠ 9 := fun e => h8 (kw_9 e)
  have n9 : kw v ≠ 10 := fun e => h9 (kw_10 e)
  have n10 : kw v ≠ 11 := fun e => h10 (kw_11 e)
  have n11 : kw v ≠ 12 := fun e => h11 (kw_12 e)
  have n12 : kw v ≠ 13 := fun e => h12 (kw_13 e)
  have n13 : kw v ≠ 14 := fun e => h13 (kw_14 e)
  have n14 : kw v ≠ 16 := fun e => h14 (kw_16 e)
  have n15 : kw v ≠ 5 := fun e => h15 (kw_5 e)
  have n16 : kw v ≠ 15 := fun e => h16 (kw_15 e)
  rw [if_pos (by omega)]
theorem jf_0 : jf (kw 498) = 0 := by decide
theorem jf_1 : jf (kw 1476) = 1 := by decide
theorem jf_2 : jf (kw 14836) = 2 := by decide
theorem jf_3 : jf (kw 719722099) = 3 := by decide
theorem jf_4 : jf (kw 1130181) = 4 := by decide
theorem jf_5 : jf (kw 2273783) = 5 := by decide
theorem jf_6 : jf (kw 307) = 6 := by decide
theorem cf_0 : cf (kw 136356) = 0 := by decide
theorem cf_1 : cf (kw 24627347) = 1 := by decide
theorem cf_2 : cf (kw 4359816) = 2 := by decide
theorem cf_3 : cf (kw 206277) = 3 := by decide
theorem cf_4 : cf (kw 113428729) = 4 := by decide
theorem cf_5 : cf (kw 365744) = 5 := by decide
theorem cf_6 : cf (kw 431556) = 6 := by decide
theorem cf_7 : cf (kw 349785) = 7 := by decide
theorem cf_8 : cf (kw 394692) = 8 := by decide
theorem cf_9 : cf (kw 11566) = 9 := by decide
theorem cf_10 : cf (kw 3574901946597) = 10 := by decide
theorem cf_11 : cf (kw 9309407396) = 11 := by decide
theorem cf_12 : cf (kw 75148) = 12 := by decide
theorem cf_13 : cf (kw 736548) = 13 := by decide
theorem cf_14 : cf (kw 659105125) = 14 := by decide
theorem cf_15 : cf (kw 609441381) = 15 := by decide
theorem cf_16 : cf (kw 20579780) = 16 := by decide
/-- which of the 24 words the token a is -/
def ak (kd vl : Int → Int) (t a : Nat) : Int := if fk kd t a = 1 then kw (vl (a : Int)) else -1
/-- its word, 0 where it is none -/
def wv (kd vl : Int → Int) (t a : Nat) : Int := if fk kd t a = 1 then vl (a : Int) else 0
theorem ak_b (kd vl : Int → Int) (t a : Nat) : -1 ≤ ak kd vl t a ∧ ak kd vl t a ≤ 23 := by
  unfold ak
  split
  · exact kw_b _
  · omega
theorem ak_1 {kd vl : Int → Int} {t a : Nat} (h : 0 ≤ ak kd vl t a) : fk kd t a = 1 := by
  unfold ak at h
  split at h
  · assumption
  · omega
abbrev tm (kd vl : Int → Int) (t a : Nat) : Prop := fk kd t a = 2 ∨ (fk kd t a = 1 ∧ ak kd vl t a < 17)
/-- a TERM as the class keeps it -/
def ti (kd vl : Int → Int) (t a : Nat) : Int := if fk kd t a = 1 then vl (a : Int) else -1 - vl (a : Int)
/-- a SUM from the token a on, its terms L so far: a fault and its token, or the token behind it and its terms -/
def sm (kd vl : Int → Int) (t : Nat) : Nat → Nat → List Int → (Int × Nat) ⊕ (Nat × List Int)
  | 0, a, _ => .inl (1, a)
  | F + 1, a, L => if tm kd vl t a then (if L.length = 4 then .inl (4, a) else if fk kd t (a + 1) = 43 then sm kd vl t F (a + 2) (L ++ [ti kd vl t a]) else .inr (a + 1, L ++ [ti kd vl t a])) else .inl (1, a)
/-- a TEST: n so far; the token behind it and its items -/
def ts (kd vl : Int → Int) (t a n : Nat) : (Int × Nat) ⊕ (Nat × List Int) := if tm kd vl t a ∧ n = 20 then .inl (4, a) else match sm kd vl t 5 a [] with
  | .inl f => .inl f
  | .inr (b, L) => if 21 ≤ ak kd vl t b then (match sm kd vl t 5 (b + 1) [] with
    | .inl f => .inl f
    | .inr (d, M) => .inr (d, L ++ [20 - ak kd vl t b - 20000] ++ M)) else .inr (b, L)
/-- what waits at a bracket's level: or, and, not -/
abbrev lv : Type := Bool × Bool × Bool
def nt (b : Bool) : List Int := bif b then [-20005] else []
def an (b : Bool) : List Int := bif b then [-20006] else []
def rl (c : lv) : List Int := an c.2.1 ++ (bif c.1 then [-20007] else [])
/-- a condition: true: ahead of a ONE, false: behind one; c what waits at this level, w at those around it, u behind unless, n tests, L items; at its end the token, tests and items -/
def cd (kd vl : Int → Int) (t : Nat) : Nat → Bool → Nat → lv → List lv → Bool → Nat → List Int → (Int × Nat) ⊕ (Nat × Nat × List Int)
  | 0, _, a, _, _, _, _, _ => .inl (1, a)
  | F + 1, true, a, c, w, u, n, L => if ak kd vl t a = 20 then cd kd vl t F true (a + 1) (c.1, c.2.1, !c.2.2) w u n L else if fk kd t a = 40 then (if w.length = 6 then .inl (4, a) else cd kd vl t F true (a + 1) (false, false, false) (c :: w) u n L) else (match ts kd vl t a n with
    | .inl f => .inl f
    | .inr (b, E) => cd kd vl t F false b (c.1, c.2.1, false) w u (n + 1) (L ++ E ++ [-20004] ++ nt c.2.2))
  | F + 1, false, a, c, w, u, n, L => if fk kd t a = 41 then (match w with
    | [] => .inl (1, a)
    | d :: w' => cd kd vl t F false (a + 1) (d.1, d.2.1, false) w' u n (L ++ rl c ++ nt d.2.2)) else if ak kd vl t a = 18 then cd kd vl t F true (a + 1) (true, false, false) w u n (L ++ rl c) else if ak kd vl t a = 19 then cd kd vl t F true (a + 1) (c.1, true, false) w u n (L ++ an c.2.1) else if ak kd vl t a = 17 ∧ w = [] ∧ u = false then cd kd vl t F true (a + 1) (false, false, false) w true n (L ++ rl c) else if fk kd t a = 59 ∧ w = [] then .inr (a, n, L ++ rl c ++ (bif u then [-20005, -20006] else [])) else .inl (1, a)
/-- words of a clause from the token a on -/
def wo (kd vl : Int → Int) (t : Nat) : Nat → Nat → List Int → (Int × Nat) ⊕ (Nat × List Int)
  | 0, a, L => if fk kd t a = 1 then .inl (4, a) else .inr (a, L)
  | F + 1, a, L => if fk kd t a = 1 then wo kd vl t F (a + 1) (L ++ [vl (a : Int)]) else .inr (a, L)
/-- a clause: KIND, deed, number, items -/
abbrev cl : Type := Int × Int × Int × List Int
/-- whether such a clause stands there -/
def tl (k d : Int) (C : List cl) : Bool := C.any fun x => x.1 == k && x.2.1 == d
/-- the body of a clause of the word k (KIND q), from the token b on: the token behind it, deed, number, items -/
def bo (kd vl : Int → Int) (t : Nat) (A : Int) (k d : Int) (b : Nat) : (Int × Nat) ⊕ (Nat × Int × Int × List Int) :=
  if k = 0 then (if fk kd t b ≠ 61 then .inl (1, b) else match cd kd vl t (t + 2 - (b + 1)) true (b + 1) (false, false, false) [] false 0 [] with
    | .inl f => .inl f
    | .inr (e, n, L) => .inr (e, d, (n : Int), L))
  else if k = 1 then (if fk kd t b ≠ 1 then .inl (1, b) else match wo kd vl t 8 b [] with
    | .inl f => .inl f
    | .inr (e, L) => .inr (e, d, (L.length : Int), L))
  else if k = 16 then (if fk kd t b ≠ 2 then .inl (1, b) else if A ≤ vl (b : Int) then .inl (2, b) else if fk kd t (b + 1) = 1 then .inr (b + 2, vl ((b + 1 : Nat) : Int), vl (b : Int), []) else .inr (b + 1, 0, vl (b : Int), []))
  else if k = 3 ∨ (8 ≤ k ∧ k ≤ 13) then (if fk kd t b ≠ 2 then .inl (1, b) else if (k = 8 ∧ vl (b : Int) < 1) ∨ (if k = 3 ∨ k = 9 then 9999 else if k = 10 then 4 else if k = 13 then 23 else 12) < vl (b : Int) then .inl (2, b) else .inr (b + 1, d, vl (b : Int), []))
  else .inr (b, d, if k = 5 ∨ k = 15 then 0 else 1, [])
/-- the text from the token a on, the clauses C so far: A acts are there -/
def tx (kd vl : Int → Int) (t : Nat) (A : Int) : Nat → Nat → List cl → (Int × Nat) ⊕ List cl
  | 0, a, _ => .inl (1, a)
  | F + 1, a, C => if fk kd t a = 0 then .inr C else if ak kd vl t a < 0 ∨ 16 < ak kd vl t a then .inl (1, a) else if 7 ≤ kf (ak kd vl t a) ∧ kf (ak kd vl t a) ≤ 13 ∧ tl (kf (ak kd vl t a)) 0 C = true then .inl (3, a) else if C.length = 40 then .inl (4, a) else if kf (ak kd vl t a) < 7 ∧ fk kd t (a + 1) ≠ 1 then .inl (1, a + 1) else if kf (ak kd vl t a) < 7 ∧ tl (kf (ak kd vl t a)) (vl ((a + 1 : Nat) : Int)) C = true then .inl (3, a + 1) else match bo kd vl t A (ak kd vl t a) (if kf (ak kd vl t a) < 7 then vl ((a + 1 : Nat) : Int) else 0) (if kf (ak kd vl t a) < 7 then a + 2 else a + 1) with
    | .inl f => .inl f
    | .inr (e, d, n, L) => if fk kd t e ≠ 59 then .inl (1, e) else tx kd vl t A F (e + 1) (C ++ [(kf (ak kd vl t a), d, n, L)])
