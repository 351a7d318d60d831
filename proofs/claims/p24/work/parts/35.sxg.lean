/-! what the interval machine's words mean, over the abstract machine's -/
theorem sx_le_iff {a b : Int} : sx_le a b = true ↔ a ≤ b := by
  unfold sx_le
  have e : Int.sub b a = b - a := rfl
  rw [e]
  split
  · rename_i n h
    simp only [true_iff]
    have : (Int.ofNat n) = (n : Int) := rfl
    omega
  · rename_i n h
    simp only [Bool.false_eq_true, false_iff]
    have := Int.negSucc_eq n
    omega
theorem sx_le_neg {a b : Int} (h : sx_le a b = false) : b < a := by
  by_cases hb : a ≤ b
  · rw [sx_le_iff.mpr hb] at h; cases h
  · omega
theorem sx_eq_iff {a b : Int} : sx_eq a b = true ↔ a = b := by
  cases a <;> cases b <;> simp [sx_eq] <;> omega
theorem sx_mx_le {a b c : Int} (h1 : a ≤ c) (h2 : b ≤ c) : sx_mx a b ≤ c := by
  unfold sx_mx
  cases sx_le a b <;> assumption
theorem sx_mn_le {a b c : Int} (h1 : c ≤ a) (h2 : c ≤ b) : c ≤ sx_mn a b := by
  unfold sx_mn
  cases sx_le a b <;> assumption
theorem sx_w_eq (z : Int) : sx_w z = Int.bmod z 4294967296 := by
  unfold sx_w
  cases h : (sx_le sx_min z && sx_le z sx_max)
  · rfl
  · rw [Bool.and_eq_true] at h
    have h1 := sx_le_iff.mp h.1
    have h2 := sx_le_iff.mp h.2
    have e1 : sx_min = -2147483648 := rfl
    have e2 : sx_max = 2147483647 := rfl
    show z = Int.bmod z 4294967296
    rw [Int.bmod_eq_of_le (by omega) (by omega)]
theorem sx_get_put {α : Type} (i j : Nat) (v : α) : ∀ l : List (Nat × α), sx_get j (sx_put i v l) = if j = i then some v else sx_get j l
  | [] => by
    unfold sx_put sx_get
    by_cases h : j = i
    · subst h; simp [sx_get]
    · have : Nat.beq i j = false := by
        cases hb : Nat.beq i j with
        | false => rfl
        | true => exact absurd (Nat.eq_of_beq_eq_true hb).symm h
      simp [this, h, sx_get]
  | q :: l => by
    unfold sx_put
    cases hq : Nat.beq q.1 i with
    | true =>
      have e := Nat.eq_of_beq_eq_true hq
      simp only [cond_true, sx_get]
      by_cases h : j = i
      · subst h; simp
      · have : Nat.beq i j = false := by
          cases hb : Nat.beq i j with
          | false => rfl
          | true => exact absurd (Nat.eq_of_beq_eq_true hb).symm h
        rw [e, this]
        simp [h]
    | false =>
      simp only [cond_false, sx_get]
      rw [sx_get_put i j v l]
      cases hj : Nat.beq q.1 j with
      | true =>
        have e := Nat.eq_of_beq_eq_true hj
        have : j ≠ i := fun h => by
          subst h
          rw [e] at hq
          simp at hq
        simp [this]
      | false => rfl
theorem sx_N_eq {α : Type} (n : Nat) (k : Nat → α) : sx_N n k = k n := by cases n <;> rfl
theorem sx_vf_eq {α : Type} (v : sx_V) (k : sx_V → α) : sx_vf v k = k v := by
  unfold sx_vf
  split
  · rw [sx_N_eq]
  · rw [sx_N_eq]
  · rfl
/-- a long that is known, or the one that the tag names -/
def sx_jm (ρ : Nat → Int32) (c : Int) (n : Int64) : Prop := n.toInt = if c = sx_jt then (ρ 10).toInt * 4294967296 + (ρ 11).toInt + 2147483648 else c
/-- a value that an interval's word says -/
def sx_g (ρ : Nat → Int32) : sx_V → Value → Prop
  | .inl c, w => ∃ n : Int32, w = .int n ∧ n.toInt = c
  | .inr (.inl (lo, hi, t)), w => ∃ n : Int32, w = .int n ∧ lo ≤ n.toInt ∧ n.toInt ≤ hi ∧ ∀ k c, t = some (k, c) → n.toInt = (ρ k).toInt + c
  | .inr (.inr (.inl t)), w => ∃ n : Int64, w = .long n ∧ ∀ c, t = some c → sx_jm ρ c n
  | .inr (.inr (.inr none)), w => w = .null
  | .inr (.inr (.inr (some a))), w => w = .ref a ∨ (a = 7 ∧ w = .null)
def sx_gB (ρ : Nat → Int32) (B : sx_B) : Prop := ∀ k p, B[k]? = some p → p.1 ≤ (ρ k).toInt ∧ (ρ k).toInt ≤ p.2
def sx_gS (ρ : Nat → Int32) : List sx_V → List Value → Prop
  | [], [] => True
  | v :: vs, w :: ws => sx_g ρ v w ∧ sx_gS ρ vs ws
  | _, _ => False
def sx_gL (ρ : Nat → Int32) : sx_L → am_L → Prop
  | [], [] => True
  | v :: vs, w :: ws => (v.1 = w.1 ∧ sx_g ρ v.2 w.2) ∧ sx_gL ρ vs ws
  | _, _ => False
def sx_gE (tt : List (List FieldType)) (ρ : Nat → Int32) : sx_E → am_E → Prop
  | .inl (ty, n, d, ov), y => ∃ c, y = .inl (ty, n, c) ∧ (match ty with
    | .long => ∃ f, c = .inr (.inl f) ∧ ∀ j, j < n → sx_g ρ (sx_elt d ov j) (.long (f j))
    | .object _ => ∃ f, c = .inr (.inr (.inr (.inr f))) ∧ ∀ j, j < n → sx_g ρ (sx_elt d ov j) (va_rf (f j))
    | _ => ∃ f, c = .inl f ∧ ∀ j, j < n → sx_g ρ (sx_elt d ov j) (.int (f j)))
  | .inr (ci, ov, bs), y => ∃ fs : List Value, y = .inr (ci, fs) ∧ fs.length = (tt.getD ci []).length ∧ ∀ j v, sx_fld tt ci j ov bs = some v → ∃ w, fs[j]? = some w ∧ sx_g ρ v w
/-- a heap: its cells as they are said, all others as they stood in h0 -/
def sx_gH (tt : List (List FieldType)) (ρ : Nat → Int32) (h0 : am_H) (H : sx_H) (h : am_H) : Prop :=
  h.length = (if 1000000000 ≤ H.2.2 then h0.length else H.2.2) ∧ h0.length ≤ h.length ∧ (∀ i e, sx_hget H i = some e → ∃ x, h[i]? = some x ∧ sx_gE tt ρ e x) ∧ ∀ i, i < h0.length → sx_get i H.1 = none → h[i]? = h0[i]?
section SX1
variable {ρ : Nat → Int32} {B : sx_B}
theorem sx_g_int {v : sx_V} {w : Value} {p : Int × Int} (hB : sx_gB ρ B) (hg : sx_g ρ v w) (h : sx_iv B v = some p) : ∃ n : Int32, w = .int n ∧ p.1 ≤ n.toInt ∧ n.toInt ≤ p.2 := by
  match v, hg, h with
  | .inl c, hg, h =>
    obtain ⟨n, e, hn⟩ := hg
    cases h
    exact ⟨n, e, by omega, by omega⟩
  | .inr (.inl (lo, hi, none)), hg, h =>
    obtain ⟨n, e, h1, h2, -⟩ := hg
    cases h
    exact ⟨n, e, h1, h2⟩
  | .inr (.inl (lo, hi, some (k, c))), hg, h =>
    obtain ⟨n, e, h1, h2, h3⟩ := hg
    have h3 := h3 k c rfl
    cases hk : B[k]? with
    | none =>
      simp only [sx_iv, hk] at h
      cases h
      exact ⟨n, e, h1, h2⟩
    | some q =>
      simp only [sx_iv, hk] at h
      cases h
      obtain ⟨b1, b2⟩ := hB k q hk
      refine ⟨n, e, sx_mx_le h1 ?_, sx_mn_le h2 ?_⟩
      · show q.1 + c ≤ _; omega
      · show _ ≤ q.2 + c; omega
  | .inr (.inr (.inl t)), hg, h => cases h
  | .inr (.inr (.inr t)), hg, h => cases h
theorem sx_g_con {v : sx_V} {w : Value} {c : Int} (hB : sx_gB ρ B) (hg : sx_g ρ v w) (h : sx_con B v = some c) : ∃ n : Int32, w = .int n ∧ n.toInt = c := by
  unfold sx_con at h
  cases hi : sx_iv B v with
  | none => rw [hi] at h; cases h
  | some p =>
    rw [hi] at h
    cases he : sx_eq p.1 p.2 with
    | false => simp only [he, cond_false] at h; cases h
    | true =>
      simp only [he, cond_true] at h
      cases h
      obtain ⟨n, e, h1, h2⟩ := sx_g_int hB hg hi
      have := sx_eq_iff.mp he
      exact ⟨n, e, by omega⟩
theorem sx_g_isI {v : sx_V} {w : Value} (hg : sx_g ρ v w) (h : sx_isI v = true) : ∃ n : Int32, w = .int n := by
  match v, hg, h with
  | .inl c, hg, h => obtain ⟨n, e, -⟩ := hg; exact ⟨n, e⟩
  | .inr (.inl (_, _, _)), hg, h => obtain ⟨n, e, -⟩ := hg; exact ⟨n, e⟩
theorem sx_g_isJ {v : sx_V} {w : Value} (hg : sx_g ρ v w) (h : sx_isJ v = true) : ∃ n : Int64, w = .long n := by
  match v, hg, h with
  | .inr (.inr (.inl _)), hg, h => obtain ⟨n, e, -⟩ := hg; exact ⟨n, e⟩
theorem sx_g_isA {v : sx_V} {w : Value} (hg : sx_g ρ v w) (h : sx_isA v = true) : (∃ a, w = .ref a) ∨ w = .null := by
  match v, hg, h with
  | .inr (.inr (.inr none)), hg, h => exact Or.inr hg
  | .inr (.inr (.inr (some a))), hg, h =>
    rcases hg with e | ⟨-, e⟩
    · exact Or.inl ⟨a, e⟩
    · exact Or.inr e
theorem sx_g_iv {v : sx_V} {p : Int × Int} (h : sx_iv B v = some p) : sx_isI v = true := by
  match v, h with
  | .inl c, h => rfl
  | .inr (.inl (_, _, _)), h => rfl
  | .inr (.inr (.inl t)), h => cases h
  | .inr (.inr (.inr t)), h => cases h
theorem sx_g_top (n : Int32) : sx_g ρ sx_top (.int n) := by
  refine ⟨n, rfl, ?_, ?_, fun _ _ h => by cases h⟩
  · have := Int32.le_toInt n
    show (-2147483648 : Int) ≤ _
    omega
  · have := Int32.toInt_lt n
    show _ ≤ (2147483647 : Int)
    omega
theorem sx_g_cat {v : sx_V} {w : Value} (hg : sx_g ρ v w) : w.category = sx_cat v := by
  match v, hg with
  | .inl c, hg => obtain ⟨n, e, -⟩ := hg; rw [e]; rfl
  | .inr (.inl (_, _, _)), hg => obtain ⟨n, e, -⟩ := hg; rw [e]; rfl
  | .inr (.inr (.inl _)), hg => obtain ⟨n, e, -⟩ := hg; rw [e]; rfl
  | .inr (.inr (.inr none)), hg => rw [show w = .null from hg]; rfl
  | .inr (.inr (.inr (some a))), hg =>
    rcases hg with e | ⟨-, e⟩ <;> rw [e] <;> rfl
theorem sx_gS_cons {v : sx_V} {vs : List sx_V} {ws : List Value} (h : sx_gS ρ (v :: vs) ws) : ∃ w ws', ws = w :: ws' ∧ sx_g ρ v w ∧ sx_gS ρ vs ws' := by
  match ws, h with
  | w :: ws', h => exact ⟨w, ws', rfl, h.1, h.2⟩
theorem sx_gS_nil {ws : List Value} (h : sx_gS ρ [] ws) : ws = [] := by
  match ws, h with
  | [], _ => rfl
theorem sx_gS_len : ∀ {vs : List sx_V} {ws : List Value}, sx_gS ρ vs ws → ws.length = vs.length
  | [], [], _ => rfl
  | _ :: _, _ :: _, h => by simp [sx_gS_len h.2]
theorem sx_gS_take (n : Nat) : ∀ {vs : List sx_V} {ws : List Value}, sx_gS ρ vs ws → sx_gS ρ (vs.take n) (ws.take n) := by
  induction n with
  | zero => intro vs ws _; simp [sx_gS]
  | succ n ih =>
    intro vs ws h
    match vs, ws, h with
    | [], [], _ => simp [sx_gS]
    | v :: vs, w :: ws, h => exact ⟨h.1, ih h.2⟩
theorem sx_gS_drop (n : Nat) : ∀ {vs : List sx_V} {ws : List Value}, sx_gS ρ vs ws → sx_gS ρ (vs.drop n) (ws.drop n) := by
  induction n with
  | zero => intro vs ws h; exact h
  | succ n ih =>
    intro vs ws h
    match vs, ws, h with
    | [], [], _ => simp [sx_gS]
    | v :: vs, w :: ws, h => exact ih h.2
theorem sx_gS_app : ∀ {vs : List sx_V} {ws : List Value} {vs' : List sx_V} {ws' : List Value}, sx_gS ρ vs ws → sx_gS ρ vs' ws' → sx_gS ρ (vs ++ vs') (ws ++ ws')
  | [], [], _, _, _, h => h
  | _ :: _, _ :: _, _, _, h, h' => ⟨h.1, sx_gS_app h.2 h'⟩
theorem sx_gS_rev : ∀ {vs : List sx_V} {ws : List Value}, sx_gS ρ vs ws → sx_gS ρ vs.reverse ws.reverse
  | [], [], _ => trivial
  | v :: vs, w :: ws, h => by
    rw [List.reverse_cons, List.reverse_cons]
    exact sx_gS_app (sx_gS_rev h.2) ⟨h.1, trivial⟩
theorem sx_gS_cats : ∀ {vs : List sx_V} {ws : List Value}, sx_gS ρ vs ws → (ws.map fun v => v.category).sum = sx_cats vs
  | [], [], _ => rfl
  | v :: vs, w :: ws, h => by
    simp only [List.map_cons, List.sum_cons, sx_cats]
    rw [sx_gS_cats h.2, sx_g_cat h.1]
theorem sx_gL_get (i : Nat) : ∀ {l : sx_L} {l' : am_L}, sx_gL ρ l l' → ∀ v, sx_get i l = some v → ∃ w, am_ld i l' = some w ∧ sx_g ρ v w
  | [], [], _, v, h => by cases h
  | q :: l, r :: l', hl, v, h => by
    unfold sx_get at h
    unfold am_ld
    cases hq : Nat.beq q.1 i with
    | true =>
      simp only [hq, cond_true] at h
      cases h
      rw [← hl.1.1, if_pos (Nat.eq_of_beq_eq_true hq)]
      exact ⟨r.2, rfl, hl.1.2⟩
    | false =>
      simp only [hq, cond_false] at h
      have : ¬ r.1 = i := fun e => by
        rw [← hl.1.1] at e
        rw [e] at hq
        simp at hq
      rw [if_neg this]
      exact sx_gL_get i hl.2 v h
theorem sx_gL_filter {p : Nat × sx_V → Bool} {p' : Nat × Value → Bool} (hp : ∀ q r, q.1 = r.1 → sx_g ρ q.2 r.2 → p q = p' r) : ∀ {l : sx_L} {l' : am_L}, sx_gL ρ l l' → sx_gL ρ (l.filter p) (l'.filter p')
  | [], [], _ => trivial
  | q :: l, r :: l', h => by
    have e := hp q r h.1.1 h.1.2
    rw [List.filter_cons, List.filter_cons, ← e]
    cases p q
    · exact sx_gL_filter hp h.2
    · exact ⟨h.1, sx_gL_filter hp h.2⟩
theorem sx_beq (a b : Nat) : (a == b) = Nat.beq a b := by
  cases h : Nat.beq a b with
  | true => rw [Nat.eq_of_beq_eq_true h]; simp
  | false =>
    have : a ≠ b := fun e => by subst e; simp at h
    simp [this]
theorem sx_gL_st1 {i : Nat} {v : sx_V} {w : Value} {l : sx_L} {l' : am_L} (hl : sx_gL ρ l l') (hg : sx_g ρ v w) : sx_gL ρ (sx_st1 i v l) (am_st1 i w l') := by
  refine ⟨⟨rfl, hg⟩, sx_gL_filter (fun q r e hq => ?_) hl⟩
  rw [sx_beq, sx_beq, sx_beq, e, sx_g_cat hq]
theorem sx_gL_st2 {i : Nat} {v : sx_V} {w : Value} {l : sx_L} {l' : am_L} (hl : sx_gL ρ l l') (hg : sx_g ρ v w) : sx_gL ρ (sx_st2 i v l) (am_st2 i w l') := by
  refine ⟨⟨rfl, hg⟩, sx_gL_filter (fun q r e hq => ?_) hl⟩
  rw [sx_beq, sx_beq, sx_beq, sx_beq, e, sx_g_cat hq]
theorem sx_gL_args : ∀ {vs : List sx_V} {ws : List Value} (i : Nat), sx_gS ρ vs ws → sx_gL ρ (sx_args i vs) (lv_args i ws)
  | [], [], _, _ => trivial
  | v :: vs, w :: ws, i, h => by
    refine ⟨⟨rfl, h.1⟩, ?_⟩
    have e : (if w.category = 2 then i + 2 else i + 1) = i + sx_cat v := by
      rw [sx_g_cat h.1]
      match v with
      | .inl _ => rfl
      | .inr (.inl _) => rfl
      | .inr (.inr (.inl _)) => rfl
      | .inr (.inr (.inr _)) => rfl
    rw [e]
    exact sx_gL_args _ h.2
end SX1
