/-! ways between shires: what class and reference work out, as pure functions, and that they are even -/
def fw_u (W : Int → Int) (k v : Int) : Int → Int := fun i => if i = k then v else W i
theorem fw_at (W : Int → Int) (k v : Int) : fw_u W k v k = v := if_pos rfl
theorem fw_ne (W : Int → Int) {k v i : Int} (h : i ≠ k) : fw_u W k v i = W i := if_neg h
/-- a step of the class -/
def fw_h (W : Int → Int) (s b o : Int) : Int → Int := if W (6 * s + b) ≠ -1 ∧ W (6 * b + o) ≠ -1 ∧ (W (6 * s + o) = -1 ∨ W (6 * s + b) + W (6 * b + o) < W (6 * s + o)) then fw_u W (6 * s + o) (W (6 * s + b) + W (6 * b + o)) else W
/-- a step of the reference -/
def gw_h (F : Int → Int) (s b o : Int) : Int → Int := if F (6 * s + b) + F (6 * b + o) < F (6 * s + o) then fw_u F (6 * s + o) (F (6 * s + b) + F (6 * b + o)) else F
def fw_o (st : (Int → Int) → Int → Int → Int → Int → Int) (W : Int → Int) (s b : Int) : Nat → Int → Int
  | 0 => W
  | o + 1 => st (fw_o st W s b o) s b (o : Int)
def fw_s (st : (Int → Int) → Int → Int → Int → Int → Int) (W : Int → Int) (b : Int) : Nat → Int → Int
  | 0 => W
  | s + 1 => fw_o st (fw_s st W b s) (s : Int) b 6
def fw_b (st : (Int → Int) → Int → Int → Int → Int → Int) (W : Int → Int) : Nat → Int → Int
  | 0 => W
  | b + 1 => fw_s st (fw_b st W b) (b : Int) 6
def fw_0 (R : Int → Int) : Int → Int := fun i => if i % 7 = 0 then 0 else R i
def gw_0 (R : Int → Int) : Int → Int := fun i => if i % 7 = 0 then 0 else if R i = -1 then 100000 else R i
def fw_R (f : Int → Option Int) (W : Int → Int) : Prop := ∀ i, 0 ≤ i → i < 36 → f i = some (W i)
/-- what is known of the class's row before a step by b: A is the row before the steps by b -/
def fw_I (A : Int → Int) (b m : Int) (W : Int → Int) : Prop := (∀ i, 0 ≤ i → i < 36 → -1 ≤ A i ∧ A i ≤ m) ∧ (∀ i, 0 ≤ i → i < 36 → -1 ≤ W i ∧ W i ≤ 2 * m) ∧ (∀ j, 0 ≤ j → j < 6 → W (7 * j) = 0) ∧ (∀ j, 0 ≤ j → j < 6 → W (6 * j + b) = A (6 * j + b) ∧ W (6 * b + j) = A (6 * b + j))
theorem fw_Ih {A W : Int → Int} {b m s o : Int} (m0 : 0 ≤ m) (b0 : 0 ≤ b) (b1 : b < 6) (s0 : 0 ≤ s) (s1 : s < 6) (o0 : 0 ≤ o) (o1 : o < 6) (H : fw_I A b m W) : fw_I A b m (fw_h W s b o) := by
  unfold fw_h
  split
  · rename_i q
    obtain ⟨q1, q2, q3⟩ := q
    obtain ⟨h0, h1, h2, h3⟩ := H
    have d := h2 b b0 b1
    rw [show 7 * b = 6 * b + b by omega] at d
    have e1 := h1 (6 * s + b) (by omega) (by omega)
    have e2 := h1 (6 * b + o) (by omega) (by omega)
    have e3 := h1 (6 * s + o) (by omega) (by omega)
    have a1 := h0 (6 * s + b) (by omega) (by omega)
    have a2 := h0 (6 * b + o) (by omega) (by omega)
    have k1 := (h3 s s0 s1).1
    have k2 := (h3 o o0 o1).2
    have nsb : s ≠ b := by
      rintro rfl
      omega
    have nob : o ≠ b := by
      rintro rfl
      omega
    have nso : s ≠ o := by
      rintro rfl
      have := h2 s s0 s1
      rw [show 7 * s = 6 * s + s by omega] at this
      omega
    refine ⟨h0, fun i i0 i1 => ?_, fun j j0 j1 => ?_, fun j j0 j1 => ⟨?_, ?_⟩⟩
    · by_cases z : i = 6 * s + o
      · rw [z, fw_at]
        omega
      · rw [fw_ne _ z]
        exact h1 i i0 i1
    · rw [fw_ne _ (by omega)]
      exact h2 j j0 j1
    · rw [fw_ne _ (by omega)]
      exact (h3 j j0 j1).1
    · rw [fw_ne _ (by omega)]
      exact (h3 j j0 j1).2
  · exact H
theorem fw_Io {A W : Int → Int} {b m s : Int} (m0 : 0 ≤ m) (b0 : 0 ≤ b) (b1 : b < 6) (s0 : 0 ≤ s) (s1 : s < 6) (H : fw_I A b m W) : ∀ o : Nat, o ≤ 6 → fw_I A b m (fw_o fw_h W s b o)
  | 0, _ => H
  | o + 1, h => show fw_I A b m (fw_h (fw_o fw_h W s b o) s b (o : Int)) from fw_Ih m0 b0 b1 s0 s1 (by omega) (by omega) (fw_Io m0 b0 b1 s0 s1 H o (by omega))
theorem fw_Is {A W : Int → Int} {b m : Int} (m0 : 0 ≤ m) (b0 : 0 ≤ b) (b1 : b < 6) (H : fw_I A b m W) : ∀ s : Nat, s ≤ 6 → fw_I A b m (fw_s fw_h W b s)
  | 0, _ => H
  | s + 1, h => show fw_I A b m (fw_o fw_h (fw_s fw_h W b s) (s : Int) b 6) from fw_Io m0 b0 b1 (by omega) (by omega) (fw_Is m0 b0 b1 H s (by omega)) 6 (by omega)
def fw_M : Nat → Int
  | 0 => 9
  | b + 1 => 2 * fw_M b
theorem fw_M0 : ∀ b : Nat, 0 ≤ fw_M b
  | 0 => by decide
  | b + 1 => by
    have := fw_M0 b
    show 0 ≤ 2 * fw_M b
    omega
theorem fw_M1 {b : Nat} (h : b ≤ 6) : fw_M b ≤ 576 := by
  match b, h with
  | 0, _ => decide
  | 1, _ => decide
  | 2, _ => decide
  | 3, _ => decide
  | 4, _ => decide
  | 5, _ => decide
  | 6, _ => decide
  | n + 7, h => omega
/-- roads -/
def fw_ok (R : Int → Int) : Prop := ∀ i, 0 ≤ i → i < 36 → R i = -1 ∨ (1 ≤ R i ∧ R i ≤ 9)
def fw_P (m : Int) (W : Int → Int) : Prop := (∀ i, 0 ≤ i → i < 36 → -1 ≤ W i ∧ W i ≤ m) ∧ ∀ j, 0 ≤ j → j < 6 → W (7 * j) = 0
theorem fw_PI {m b : Int} {W : Int → Int} (m0 : 0 ≤ m) (H : fw_P m W) : fw_I W b m W := ⟨H.1, fun i i0 i1 => ⟨(H.1 i i0 i1).1, by have := (H.1 i i0 i1).2; omega⟩, H.2, fun j _ _ => ⟨rfl, rfl⟩⟩
theorem fw_Pb {R : Int → Int} (H : fw_ok R) : ∀ b : Nat, b ≤ 6 → fw_P (fw_M b) (fw_b fw_h (fw_0 R) b)
  | 0, _ => by
    refine ⟨fun i i0 i1 => ?_, fun j j0 j1 => ?_⟩
    · show -1 ≤ fw_0 R i ∧ fw_0 R i ≤ 9
      unfold fw_0
      have := H i i0 i1
      split <;> omega
    · show fw_0 R (7 * j) = 0
      unfold fw_0
      rw [if_pos (by omega)]
  | b + 1, h => by
    have h1 := fw_Pb H b (by omega)
    have h2 := fw_Is (fw_M0 b) (b := (b : Int)) (by omega) (by omega) (fw_PI (fw_M0 b) h1) 6 (by omega)
    exact show fw_P (2 * fw_M b) (fw_s fw_h (fw_b fw_h (fw_0 R) b) (b : Int) 6) from ⟨h2.2.1, h2.2.2.1⟩
/-- all that the class's row is on its way -/
theorem fw_all {R : Int → Int} (H : fw_ok R) {b s o : Nat} (hb : b < 6) (hs : s < 6) (ho : o ≤ 6) : fw_I (fw_b fw_h (fw_0 R) b) (b : Int) (fw_M b) (fw_o fw_h (fw_s fw_h (fw_b fw_h (fw_0 R) b) (b : Int) s) (s : Int) (b : Int) o) :=
  fw_Io (fw_M0 b) (by omega) (by omega) (by omega) (by omega) (fw_Is (fw_M0 b) (by omega) (by omega) (fw_PI (fw_M0 b) (fw_Pb H b (by omega))) s (by omega)) o ho
theorem fw_bd {R : Int → Int} (H : fw_ok R) {b s o : Nat} (hb : b < 6) (hs : s < 6) (ho : o ≤ 6) {i : Int} (i0 : 0 ≤ i) (i1 : i < 36) : -1 ≤ fw_o fw_h (fw_s fw_h (fw_b fw_h (fw_0 R) b) (b : Int) s) (s : Int) (b : Int) o i ∧ fw_o fw_h (fw_s fw_h (fw_b fw_h (fw_0 R) b) (b : Int) s) (s : Int) (b : Int) o i ≤ 1152 := by
  have := (fw_all H hb hs ho).2.1 i i0 i1
  have := fw_M1 (b := b) (by omega)
  omega
/-- the rows of class and reference -/
def fw_E (W F : Int → Int) : Prop := ∀ i, 0 ≤ i → i < 36 → (W i = -1 ∧ F i = 100000) ∨ (0 ≤ W i ∧ F i = W i)
theorem fw_Eh {W F : Int → Int} {s b o : Int} (b0 : 0 ≤ b) (b1 : b < 6) (s0 : 0 ≤ s) (s1 : s < 6) (o0 : 0 ≤ o) (o1 : o < 6) (hW : ∀ i, 0 ≤ i → i < 36 → W i ≤ 1152) (H : fw_E W F) : fw_E (fw_h W s b o) (gw_h F s b o) := by
  have e1 := H (6 * s + b) (by omega) (by omega)
  have e2 := H (6 * b + o) (by omega) (by omega)
  have e3 := H (6 * s + o) (by omega) (by omega)
  have c1 := hW (6 * s + b) (by omega) (by omega)
  have c2 := hW (6 * b + o) (by omega) (by omega)
  have c3 := hW (6 * s + o) (by omega) (by omega)
  unfold fw_h gw_h
  by_cases q : W (6 * s + b) ≠ -1 ∧ W (6 * b + o) ≠ -1 ∧ (W (6 * s + o) = -1 ∨ W (6 * s + b) + W (6 * b + o) < W (6 * s + o))
  · rw [if_pos q, if_pos (by omega)]
    intro i i0 i1
    by_cases z : i = 6 * s + o
    · rw [z, fw_at, fw_at]
      omega
    · rw [fw_ne _ z, fw_ne _ z]
      exact H i i0 i1
  · rw [if_neg q, if_neg (by omega)]
    exact H
theorem fw_Eo {W F : Int → Int} {s b : Int} (b0 : 0 ≤ b) (b1 : b < 6) (s0 : 0 ≤ s) (s1 : s < 6) (hW : ∀ (o : Nat), o ≤ 6 → ∀ i, 0 ≤ i → i < 36 → fw_o fw_h W s b o i ≤ 1152) (H : fw_E W F) : ∀ o : Nat, o ≤ 6 → fw_E (fw_o fw_h W s b o) (fw_o gw_h F s b o)
  | 0, _ => H
  | o + 1, h => show fw_E (fw_h (fw_o fw_h W s b o) s b (o : Int)) (gw_h (fw_o gw_h F s b o) s b (o : Int)) from fw_Eh b0 b1 s0 s1 (by omega) (by omega) (hW o (by omega)) (fw_Eo b0 b1 s0 s1 hW H o (by omega))
theorem fw_Es {W F : Int → Int} {b : Int} (b0 : 0 ≤ b) (b1 : b < 6) (hW : ∀ (s o : Nat), s < 6 → o ≤ 6 → ∀ i, 0 ≤ i → i < 36 → fw_o fw_h (fw_s fw_h W b s) (s : Int) b o i ≤ 1152) (H : fw_E W F) : ∀ s : Nat, s ≤ 6 → fw_E (fw_s fw_h W b s) (fw_s gw_h F b s)
  | 0, _ => H
  | s + 1, h => show fw_E (fw_o fw_h (fw_s fw_h W b s) (s : Int) b 6) (fw_o gw_h (fw_s gw_h F b s) (s : Int) b 6) from fw_Eo b0 b1 (by omega) (by omega) (fun o ho => hW s o (by omega) ho) (fw_Es b0 b1 hW H s (by omega)) 6 (by omega)
theorem fw_Eb {R : Int → Int} (H : fw_ok R) : ∀ b : Nat, b ≤ 6 → fw_E (fw_b fw_h (fw_0 R) b) (fw_b gw_h (gw_0 R) b)
  | 0, _ => fun i i0 i1 => by
    show (fw_0 R i = -1 ∧ gw_0 R i = 100000) ∨ (0 ≤ fw_0 R i ∧ gw_0 R i = fw_0 R i)
    unfold fw_0 gw_0
    have := H i i0 i1
    by_cases z : i % 7 = 0
    · rw [if_pos z, if_pos z]
      omega
    · rw [if_neg z, if_neg z]
      by_cases y : R i = -1
      · rw [if_pos y]
        omega
      · rw [if_neg y]
        omega
  | b + 1, h => show fw_E (fw_s fw_h (fw_b fw_h (fw_0 R) b) (b : Int) 6) (fw_s gw_h (fw_b gw_h (gw_0 R) b) (b : Int) 6) from fw_Es (by omega) (by omega) (fun s o hs ho i i0 i1 => (fw_bd H (by omega) hs ho i0 i1).2) (fw_Eb H b (by omega)) 6 (by omega)
/-- no roads: no ways -/
theorem fw_no {W : Int → Int} {s b o : Int} (hW : W = fw_0 (fun _ => -1)) (b0 : 0 ≤ b) (b1 : b < 6) (s0 : 0 ≤ s) (s1 : s < 6) (o0 : 0 ≤ o) (o1 : o < 6) : fw_h W s b o = W := by
  unfold fw_h
  rw [if_neg]
  subst hW
  unfold fw_0
  rintro ⟨q1, q2, q3⟩
  by_cases z1 : (6 * s + b) % 7 = 0
  · by_cases z2 : (6 * b + o) % 7 = 0
    · have : s = b := by omega
      have : o = b := by omega
      rw [if_pos z1, if_pos z2, if_pos (by omega)] at q3
      omega
    · rw [if_neg z2] at q2
      exact q2 rfl
  · rw [if_neg z1] at q1
    exact q1 rfl
theorem fw_nob : ∀ b : Nat, b ≤ 6 → fw_b fw_h (fw_0 (fun _ => -1)) b = fw_0 (fun _ => -1) := by
  have ho : ∀ (s b : Int), 0 ≤ b → b < 6 → 0 ≤ s → s < 6 → ∀ o : Nat, o ≤ 6 → fw_o fw_h (fw_0 (fun _ => -1)) s b o = fw_0 (fun _ => -1) := by
    intro s b b0 b1 s0 s1 o
    induction o with
    | zero => intro _; rfl
    | succ o ih =>
      intro h
      show fw_h (fw_o fw_h _ s b o) s b o = _
      rw [ih (by omega)]
      exact fw_no rfl b0 b1 s0 s1 (by omega) (by omega)
  have hs : ∀ (b : Int), 0 ≤ b → b < 6 → ∀ s : Nat, s ≤ 6 → fw_s fw_h (fw_0 (fun _ => -1)) b s = fw_0 (fun _ => -1) := by
    intro b b0 b1 s
    induction s with
    | zero => intro _; rfl
    | succ s ih =>
      intro h
      show fw_o fw_h (fw_s fw_h _ b s) s b 6 = _
      rw [ih (by omega)]
      exact ho s b b0 b1 (by omega) (by omega) 6 (by omega)
  intro b
  induction b with
  | zero => intro _; rfl
  | succ b ih =>
    intro h
    show fw_s fw_h (fw_b fw_h _ b) b 6 = _
    rw [ih (by omega)]
    exact hs b (by omega) (by omega) 6 (by omega)
