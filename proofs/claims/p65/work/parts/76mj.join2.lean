/-! PRINTED by wip/p2/hp_join2.py: join of the reference, exactly as to the table -/
theorem rcq7 {f g : Int → Option Int} {a b d ma mb md : Int} (k0 : g 0 = some ma) (k1 : g 1 = some mb) (k2 : g 2 = some md) (h : a < ma ∧ b < mb ∧ d < md) : 0 ≤ rc f g 7 a b d ∧ rc f g 7 a b d ≤ 12 := by
  rw [rc_of (f := f) (s := 7) (a := a) (b := b) (d := d) k0 k1 k2]
  unfold rc_v
  rw [if_neg (by decide), if_neg (by decide), if_neg (by decide), if_neg (by decide), if_neg (by decide), if_neg (by decide), if_pos h]
  have z0 := rc_cb ((f (b + 10)).getD 0) ((f a).getD 0)
  have z1 := rc_cb ((f (d + 20)).getD 0) ((f a).getD 0)
  have z2 := rc_cb ((f (d + 20)).getD 0) ((f (b + 10)).getD 0)
  omega
theorem rcq3 {f g : Int → Option Int} {a b d ma mb md : Int} (k0 : g 0 = some ma) (k1 : g 1 = some mb) (k2 : g 2 = some md) (h : a < ma ∧ b < mb) : 0 ≤ rc f g 3 a b d ∧ rc f g 3 a b d ≤ 12 := by
  rw [rc_of (f := f) (s := 3) (a := a) (b := b) (d := d) k0 k1 k2]
  unfold rc_v
  rw [if_neg (by decide), if_neg (by decide), if_neg (by decide), if_pos rfl, if_pos h]
  have z0 := rc_cb ((f (b + 10)).getD 0) ((f a).getD 0)
  omega
theorem rcq5 {f g : Int → Option Int} {a b d ma mb md : Int} (k0 : g 0 = some ma) (k1 : g 1 = some mb) (k2 : g 2 = some md) (h : a < ma ∧ d < md) : 0 ≤ rc f g 5 a b d ∧ rc f g 5 a b d ≤ 12 := by
  rw [rc_of (f := f) (s := 5) (a := a) (b := b) (d := d) k0 k1 k2]
  unfold rc_v
  rw [if_neg (by decide), if_neg (by decide), if_neg (by decide), if_neg (by decide), if_pos rfl, if_pos h]
  have z0 := rc_cb ((f (d + 20)).getD 0) ((f a).getD 0)
  omega
theorem rcq6 {f g : Int → Option Int} {a b d ma mb md : Int} (k0 : g 0 = some ma) (k1 : g 1 = some mb) (k2 : g 2 = some md) (h : b < mb ∧ d < md) : 0 ≤ rc f g 6 a b d ∧ rc f g 6 a b d ≤ 12 := by
  rw [rc_of (f := f) (s := 6) (a := a) (b := b) (d := d) k0 k1 k2]
  unfold rc_v
  rw [if_neg (by decide), if_neg (by decide), if_neg (by decide), if_neg (by decide), if_neg (by decide), if_pos rfl, if_pos h]
  have z0 := rc_cb ((f (d + 20)).getD 0) ((f (b + 10)).getD 0)
  omega
theorem rcq1 {f g : Int → Option Int} {a b d ma mb md : Int} (k0 : g 0 = some ma) (k1 : g 1 = some mb) (k2 : g 2 = some md) (h : a < ma) : 0 ≤ rc f g 1 a b d ∧ rc f g 1 a b d ≤ 12 := by
  rw [rc_of (f := f) (s := 1) (a := a) (b := b) (d := d) k0 k1 k2]
  unfold rc_v
  rw [if_pos rfl, if_pos h]
  omega
theorem rcq2 {f g : Int → Option Int} {a b d ma mb md : Int} (k0 : g 0 = some ma) (k1 : g 1 = some mb) (k2 : g 2 = some md) (h : b < mb) : 0 ≤ rc f g 2 a b d ∧ rc f g 2 a b d ≤ 12 := by
  rw [rc_of (f := f) (s := 2) (a := a) (b := b) (d := d) k0 k1 k2]
  unfold rc_v
  rw [if_neg (by decide), if_pos rfl, if_pos h]
  omega
theorem rcq4 {f g : Int → Option Int} {a b d ma mb md : Int} (k0 : g 0 = some ma) (k1 : g 1 = some mb) (k2 : g 2 = some md) (h : d < md) : 0 ≤ rc f g 4 a b d ∧ rc f g 4 a b d ≤ 12 := by
  rw [rc_of (f := f) (s := 4) (a := a) (b := b) (d := d) k0 k1 k2]
  unfold rc_v
  rw [if_neg (by decide), if_neg (by decide), if_pos rfl, if_pos h]
  omega
/-- at most what a row of this set costs with what follows -/
def ju_M (f g j : Int → Option Int) (a b d e s o : Int) : Prop := 0 ≤ rc f g s a b d → e ≠ -1 ∧ ∀ y, j (121 * a + 11 * b + d + o) = some y → e ≤ rc f g s a b d + y
def ju_N (f g j : Int → Option Int) (a b d e s o : Int) : Prop := 0 ≤ rc f g s a b d → ∀ y, j (121 * a + 11 * b + d + o) = some y → rc f g s a b d + y ≠ e
def ju_A (f g j : Int → Option Int) (a b d e : Int) (i : Nat) : Prop := (1 ≤ i → ju_M f g j a b d e 7 133) ∧ (2 ≤ i → ju_M f g j a b d e 3 132) ∧ (3 ≤ i → ju_M f g j a b d e 5 122) ∧ (4 ≤ i → ju_M f g j a b d e 6 12) ∧ (5 ≤ i → ju_M f g j a b d e 1 121) ∧ (6 ≤ i → ju_M f g j a b d e 2 11) ∧ (7 ≤ i → ju_M f g j a b d e 4 1)
def ju_F (f g j : Int → Option Int) (a b d e : Int) (i : Nat) : Prop := (1 ≤ i → ju_N f g j a b d e 7 133) ∧ (2 ≤ i → ju_N f g j a b d e 3 132) ∧ (3 ≤ i → ju_N f g j a b d e 5 122) ∧ (4 ≤ i → ju_N f g j a b d e 6 12) ∧ (5 ≤ i → ju_N f g j a b d e 1 121) ∧ (6 ≤ i → ju_N f g j a b d e 2 11) ∧ (7 ≤ i → ju_N f g j a b d e 4 1)
def ju_ok (f g j : Int → Option Int) (ma mb md a b d : Int) : Prop := ∃ y, j (121 * a + 11 * b + d) = some y ∧ 0 ≤ y ∧ y ≤ 12 * ((ma - a) + (mb - b) + (md - d)) ∧ ((a = ma ∧ b = mb ∧ d = md) ∨ jn_x f g j a b d y) ∧ ((a = ma ∧ b = mb ∧ d = md) → y = 0) ∧ ju_A f g j a b d y 7
def ju_T (f g j : Int → Option Int) (ma mb md z : Int) : Prop := ∀ a b d, 0 ≤ a → a ≤ ma → 0 ≤ b → b ≤ mb → 0 ≤ d → d ≤ md → z < 121 * a + 11 * b + d → ju_ok f g j ma mb md a b d
theorem ju_M_but {f g j j' : Int → Option Int} {a b d y s o z : Int} (h1 : z < 121 * a + 11 * b + d + o) (e : ∀ k, k ≠ z → j' k = j k) (m : ju_M f g j a b d y s o) : ju_M f g j' a b d y s o := fun r => ⟨(m r).1, fun y' h => (m r).2 y' (by rw [← e _ (by omega)]; exact h)⟩
theorem ju_A_but {f g j j' : Int → Option Int} {a b d y z : Int} {i : Nat} (h1 : z ≤ 121 * a + 11 * b + d) (e : ∀ k, k ≠ z → j' k = j k) (A : ju_A f g j a b d y i) : ju_A f g j' a b d y i := ⟨fun t => ju_M_but (by omega) e (A.1 t), fun t => ju_M_but (by omega) e (A.2.1 t), fun t => ju_M_but (by omega) e (A.2.2.1 t), fun t => ju_M_but (by omega) e (A.2.2.2.1 t), fun t => ju_M_but (by omega) e (A.2.2.2.2.1 t), fun t => ju_M_but (by omega) e (A.2.2.2.2.2.1 t), fun t => ju_M_but (by omega) e (A.2.2.2.2.2.2 t)⟩
theorem ju_FA {f g j : Int → Option Int} {a b d e k : Int} {i : Nat} (A : ju_A f g j a b d e i) (lt : e = -1 ∨ k < e) : ju_F f g j a b d k i := ⟨fun t r y h => by have z := A.1 t r; have z1 := z.1; have z2 := z.2 y h; omega, fun t r y h => by have z := A.2.1 t r; have z1 := z.1; have z2 := z.2 y h; omega, fun t r y h => by have z := A.2.2.1 t r; have z1 := z.1; have z2 := z.2 y h; omega, fun t r y h => by have z := A.2.2.2.1 t r; have z1 := z.1; have z2 := z.2 y h; omega, fun t r y h => by have z := A.2.2.2.2.1 t r; have z1 := z.1; have z2 := z.2 y h; omega, fun t r y h => by have z := A.2.2.2.2.2.1 t r; have z1 := z.1; have z2 := z.2 y h; omega, fun t r y h => by have z := A.2.2.2.2.2.2 t r; have z1 := z.1; have z2 := z.2 y h; omega⟩
theorem ju_AF {f g j : Int → Option Int} {a b d e k : Int} {i : Nat} (A : ju_A f g j a b d e i) (he : e = -1) : ju_A f g j a b d k i := ⟨fun t r => absurd he (A.1 t r).1, fun t r => absurd he (A.2.1 t r).1, fun t r => absurd he (A.2.2.1 t r).1, fun t r => absurd he (A.2.2.2.1 t r).1, fun t r => absurd he (A.2.2.2.2.1 t r).1, fun t r => absurd he (A.2.2.2.2.2.1 t r).1, fun t r => absurd he (A.2.2.2.2.2.2 t r).1⟩
theorem ju_T_put {f g j j' : Int → Option Int} {ma mb md a b d y : Int} (A1 : ma ≤ 10) (B1 : mb ≤ 10) (D1 : md ≤ 10) (a1 : a ≤ ma) (b1 : b ≤ mb) (d1 : d ≤ md) (a0 : 0 ≤ a) (b0 : 0 ≤ b) (d0 : 0 ≤ d) (T : ju_T f g j ma mb md (121 * a + 11 * b + d)) (y0 : 0 ≤ y) (y1 : y ≤ 12 * ((ma - a) + (mb - b) + (md - d))) (x : (a = ma ∧ b = mb ∧ d = md) ∨ jn_x f g j a b d y) (xe : (a = ma ∧ b = mb ∧ d = md) → y = 0) (A : ju_A f g j a b d y 7) (e : j' (121 * a + 11 * b + d) = some y) (e' : ∀ k, k ≠ 121 * a + 11 * b + d → j' k = j k) : ju_T f g j' ma mb md (121 * a + 11 * b + (d - 1)) := by
  intro a' b' d' h1 h2 h3 h4 h5 h6 h7
  by_cases q : 121 * a' + 11 * b' + d' = 121 * a + 11 * b + d
  · have ea : a' = a := by omega
    have eb : b' = b := by omega
    have ed : d' = d := by omega
    subst ea
    subst eb
    subst ed
    exact ⟨y, e, y0, y1, x.elim Or.inl (fun x => Or.inr (jn_x_but (Int.le_refl _) e' x)), xe, ju_A_but (Int.le_refl _) e' A⟩
  · obtain ⟨y', g1, g2, g3, g4, g5, g6⟩ := T a' b' d' h1 h2 h3 h4 h5 h6 (by omega)
    exact ⟨y', by rw [e' _ q]; exact g1, g2, g3, g4.elim Or.inl (fun x => Or.inr (jn_x_but (by omega) e' x)), g5, ju_A_but (by omega) e' g6⟩
theorem ju_An0 {f g j : Int → Option Int} {a b d e : Int} (A : ju_A f g j a b d e 0) (hk : rc f g 7 a b d = -1) : ju_A f g j a b d e 1 := ⟨fun _ t => absurd t (by rw [hk]; decide), fun t => absurd t (by omega), fun t => absurd t (by omega), fun t => absurd t (by omega), fun t => absurd t (by omega), fun t => absurd t (by omega), fun t => absurd t (by omega)⟩
theorem ju_Ab0 {f g j : Int → Option Int} {a b d e k : Int} (A : ju_A f g j a b d e 0) (lt : e = -1 ∨ k ≤ e) (ne : k ≠ -1) (hv : ∀ y, j (121 * a + 11 * b + d + 133) = some y → k ≤ rc f g 7 a b d + y) : ju_A f g j a b d k 1 := ⟨fun _ _ => ⟨ne, hv⟩, fun t => absurd t (by omega), fun t => absurd t (by omega), fun t => absurd t (by omega), fun t => absurd t (by omega), fun t => absurd t (by omega), fun t => absurd t (by omega)⟩
theorem ju_An1 {f g j : Int → Option Int} {a b d e : Int} (A : ju_A f g j a b d e 1) (hk : rc f g 3 a b d = -1) : ju_A f g j a b d e 2 := ⟨fun _ => A.1 (by decide), fun _ t => absurd t (by rw [hk]; decide), fun t => absurd t (by omega), fun t => absurd t (by omega), fun t => absurd t (by omega), fun t => absurd t (by omega), fun t => absurd t (by omega)⟩
theorem ju_Ab1 {f g j : Int → Option Int} {a b d e k : Int} (A : ju_A f g j a b d e 1) (lt : e = -1 ∨ k ≤ e) (ne : k ≠ -1) (hv : ∀ y, j (121 * a + 11 * b + d + 132) = some y → k ≤ rc f g 3 a b d + y) : ju_A f g j a b d k 2 := ⟨fun _ r => ⟨ne, fun y h => by have z := A.1 (by decide) r; have z1 := z.1; have z2 := z.2 y h; omega⟩, fun _ _ => ⟨ne, hv⟩, fun t => absurd t (by omega), fun t => absurd t (by omega), fun t => absurd t (by omega), fun t => absurd t (by omega), fun t => absurd t (by omega)⟩
theorem ju_An2 {f g j : Int → Option Int} {a b d e : Int} (A : ju_A f g j a b d e 2) (hk : rc f g 5 a b d = -1) : ju_A f g j a b d e 3 := ⟨fun _ => A.1 (by decide), fun _ => A.2.1 (by decide), fun _ t => absurd t (by rw [hk]; decide), fun t => absurd t (by omega), fun t => absurd t (by omega), fun t => absurd t (by omega), fun t => absurd t (by omega)⟩
theorem ju_Ab2 {f g j : Int → Option Int} {a b d e k : Int} (A : ju_A f g j a b d e 2) (lt : e = -1 ∨ k ≤ e) (ne : k ≠ -1) (hv : ∀ y, j (121 * a + 11 * b + d + 122) = some y → k ≤ rc f g 5 a b d + y) : ju_A f g j a b d k 3 := ⟨fun _ r => ⟨ne, fun y h => by have z := A.1 (by decide) r; have z1 := z.1; have z2 := z.2 y h; omega⟩, fun _ r => ⟨ne, fun y h => by have z := A.2.1 (by decide) r; have z1 := z.1; have z2 := z.2 y h; omega⟩, fun _ _ => ⟨ne, hv⟩, fun t => absurd t (by omega), fun t => absurd t (by omega), fun t => absurd t (by omega), fun t => absurd t (by omega)⟩
theorem ju_An3 {f g j : Int → Option Int} {a b d e : Int} (A : ju_A f g j a b d e 3) (hk : rc f g 6 a b d = -1) : ju_A f g j a b d e 4 := ⟨fun _ => A.1 (by decide), fun _ => A.2.1 (by decide), fun _ => A.2.2.1 (by decide), fun _ t => absurd t (by rw [hk]; decide), fun t => absurd t (by omega), fun t => absurd t (by omega), fun t => absurd t (by omega)⟩
theorem ju_Ab3 {f g j : Int → Option Int} {a b d e k : Int} (A : ju_A f g j a b d e 3) (lt : e = -1 ∨ k ≤ e) (ne : k ≠ -1) (hv : ∀ y, j (121 * a + 11 * b + d + 12) = some y → k ≤ rc f g 6 a b d + y) : ju_A f g j a b d k 4 := ⟨fun _ r => ⟨ne, fun y h => by have z := A.1 (by decide) r; have z1 := z.1; have z2 := z.2 y h; omega⟩, fun _ r => ⟨ne, fun y h => by have z := A.2.1 (by decide) r; have z1 := z.1; have z2 := z.2 y h; omega⟩, fun _ r => ⟨ne, fun y h => by have z := A.2.2.1 (by decide) r; have z1 := z.1; have z2 := z.2 y h; omega⟩, fun _ _ => ⟨ne, hv⟩, fun t => absurd t (by omega), fun t => absurd t (by omega), fun t => absurd t (by omega)⟩
theorem ju_An4 {f g j : Int → Option Int} {a b d e : Int} (A : ju_A f g j a b d e 4) (hk : rc f g 1 a b d = -1) : ju_A f g j a b d e 5 := ⟨fun _ => A.1 (by decide), fun _ => A.2.1 (by decide), fun _ => A.2.2.1 (by decide), fun _ => A.2.2.2.1 (by decide), fun _ t => absurd t (by rw [hk]; decide), fun t => absurd t (by omega), fun t => absurd t (by omega)⟩
theorem ju_Ab4 {f g j : Int → Option Int} {a b d e k : Int} (A : ju_A f g j a b d e 4) (lt : e = -1 ∨ k ≤ e) (ne : k ≠ -1) (hv : ∀ y, j (121 * a + 11 * b + d + 121) = some y → k ≤ rc f g 1 a b d + y) : ju_A f g j a b d k 5 := ⟨fun _ r => ⟨ne, fun y h => by have z := A.1 (by decide) r; have z1 := z.1; have z2 := z.2 y h; omega⟩, fun _ r => ⟨ne, fun y h => by have z := A.2.1 (by decide) r; have z1 := z.1; have z2 := z.2 y h; omega⟩, fun _ r => ⟨ne, fun y h => by have z := A.2.2.1 (by decide) r; have z1 := z.1; have z2 := z.2 y h; omega⟩, fun _ r => ⟨ne, fun y h => by have z := A.2.2.2.1 (by decide) r; have z1 := z.1; have z2 := z.2 y h; omega⟩, fun _ _ => ⟨ne, hv⟩, fun t => absurd t (by omega), fun t => absurd t (by omega)⟩
theorem ju_An5 {f g j : Int → Option Int} {a b d e : Int} (A : ju_A f g j a b d e 5) (hk : rc f g 2 a b d = -1) : ju_A f g j a b d e 6 := ⟨fun _ => A.1 (by decide), fun _ => A.2.1 (by decide), fun _ => A.2.2.1 (by decide), fun _ => A.2.2.2.1 (by decide), fun _ => A.2.2.2.2.1 (by decide), fun _ t => absurd t (by rw [hk]; decide), fun t => absurd t (by omega)⟩
theorem ju_Ab5 {f g j : Int → Option Int} {a b d e k : Int} (A : ju_A f g j a b d e 5) (lt : e = -1 ∨ k ≤ e) (ne : k ≠ -1) (hv : ∀ y, j (121 * a + 11 * b + d + 11) = some y → k ≤ rc f g 2 a b d + y) : ju_A f g j a b d k 6 := ⟨fun _ r => ⟨ne, fun y h => by have z := A.1 (by decide) r; have z1 := z.1; have z2 := z.2 y h; omega⟩, fun _ r => ⟨ne, fun y h => by have z := A.2.1 (by decide) r; have z1 := z.1; have z2 := z.2 y h; omega⟩, fun _ r => ⟨ne, fun y h => by have z := A.2.2.1 (by decide) r; have z1 := z.1; have z2 := z.2 y h; omega⟩, fun _ r => ⟨ne, fun y h => by have z := A.2.2.2.1 (by decide) r; have z1 := z.1; have z2 := z.2 y h; omega⟩, fun _ r => ⟨ne, fun y h => by have z := A.2.2.2.2.1 (by decide) r; have z1 := z.1; have z2 := z.2 y h; omega⟩, fun _ _ => ⟨ne, hv⟩, fun t => absurd t (by omega)⟩
theorem ju_An6 {f g j : Int → Option Int} {a b d e : Int} (A : ju_A f g j a b d e 6) (hk : rc f g 4 a b d = -1) : ju_A f g j a b d e 7 := ⟨fun _ => A.1 (by decide), fun _ => A.2.1 (by decide), fun _ => A.2.2.1 (by decide), fun _ => A.2.2.2.1 (by decide), fun _ => A.2.2.2.2.1 (by decide), fun _ => A.2.2.2.2.2.1 (by decide), fun _ t => absurd t (by rw [hk]; decide)⟩
theorem ju_Ab6 {f g j : Int → Option Int} {a b d e k : Int} (A : ju_A f g j a b d e 6) (lt : e = -1 ∨ k ≤ e) (ne : k ≠ -1) (hv : ∀ y, j (121 * a + 11 * b + d + 1) = some y → k ≤ rc f g 4 a b d + y) : ju_A f g j a b d k 7 := ⟨fun _ r => ⟨ne, fun y h => by have z := A.1 (by decide) r; have z1 := z.1; have z2 := z.2 y h; omega⟩, fun _ r => ⟨ne, fun y h => by have z := A.2.1 (by decide) r; have z1 := z.1; have z2 := z.2 y h; omega⟩, fun _ r => ⟨ne, fun y h => by have z := A.2.2.1 (by decide) r; have z1 := z.1; have z2 := z.2 y h; omega⟩, fun _ r => ⟨ne, fun y h => by have z := A.2.2.2.1 (by decide) r; have z1 := z.1; have z2 := z.2 y h; omega⟩, fun _ r => ⟨ne, fun y h => by have z := A.2.2.2.2.1 (by decide) r; have z1 := z.1; have z2 := z.2 y h; omega⟩, fun _ r => ⟨ne, fun y h => by have z := A.2.2.2.2.2.1 (by decide) r; have z1 := z.1; have z2 := z.2 y h; omega⟩, fun _ _ => ⟨ne, hv⟩⟩
/-- two tables that both are so are one -/
theorem ju_le {f g j j' : Int → Option Int} {ma mb md a b d y y' : Int} (k0 : g 0 = some ma) (k1 : g 1 = some mb) (k2 : g 2 = some md) (X : jn_x f g j a b d y) (A : ju_A f g j' a b d y' 7) (a0 : 0 ≤ a) (a1 : a ≤ ma) (b0 : 0 ≤ b) (b1 : b ≤ mb) (d0 : 0 ≤ d) (d1 : d ≤ md)
    (ih : ∀ a' b' d', 0 ≤ a' → a' ≤ ma → 0 ≤ b' → b' ≤ mb → 0 ≤ d' → d' ≤ md → a + b + d < a' + b' + d' → j (121 * a' + 11 * b' + d') = j' (121 * a' + 11 * b' + d')) : y' ≤ y := by
  unfold jn_x at X
  rcases X with w | w | w | w | w | w | w
  · obtain ⟨w0, y1, w1, w2⟩ := w
    rcases rcb7 (f := f) (a := a) (b := b) (d := d) k0 k1 k2 with hk | ⟨-, -, ⟨p0, p1, p2⟩⟩
    · rw [hk] at w0
      exact absurd w0 (by decide)
    · have e := ih (a + 1) (b + 1) (d + 1) (by omega) (by omega) (by omega) (by omega) (by omega) (by omega) (by omega)
      rw [show 121 * (a + 1) + 11 * (b + 1) + (d + 1) = 121 * a + 11 * b + d + 133 by omega, w1] at e
      have := (A.1 (by decide) w0).2 y1 e.symm
      omega
  · obtain ⟨w0, y1, w1, w2⟩ := w
    rcases rcb3 (f := f) (a := a) (b := b) (d := d) k0 k1 k2 with hk | ⟨-, -, ⟨p0, p1⟩⟩
    · rw [hk] at w0
      exact absurd w0 (by decide)
    · have e := ih (a + 1) (b + 1) (d + 0) (by omega) (by omega) (by omega) (by omega) (by omega) (by omega) (by omega)
      rw [show 121 * (a + 1) + 11 * (b + 1) + (d + 0) = 121 * a + 11 * b + d + 132 by omega, w1] at e
      have := (A.2.1 (by decide) w0).2 y1 e.symm
      omega
  · obtain ⟨w0, y1, w1, w2⟩ := w
    rcases rcb5 (f := f) (a := a) (b := b) (d := d) k0 k1 k2 with hk | ⟨-, -, ⟨p0, p1⟩⟩
    · rw [hk] at w0
      exact absurd w0 (by decide)
    · have e := ih (a + 1) (b + 0) (d + 1) (by omega) (by omega) (by omega) (by omega) (by omega) (by omega) (by omega)
      rw [show 121 * (a + 1) + 11 * (b + 0) + (d + 1) = 121 * a + 11 * b + d + 122 by omega, w1] at e
      have := (A.2.2.1 (by decide) w0).2 y1 e.symm
      omega
  · obtain ⟨w0, y1, w1, w2⟩ := w
    rcases rcb6 (f := f) (a := a) (b := b) (d := d) k0 k1 k2 with hk | ⟨-, -, ⟨p0, p1⟩⟩
    · rw [hk] at w0
      exact absurd w0 (by decide)
    · have e := ih (a + 0) (b + 1) (d + 1) (by omega) (by omega) (by omega) (by omega) (by omega) (by omega) (by omega)
      rw [show 121 * (a + 0) + 11 * (b + 1) + (d + 1) = 121 * a + 11 * b + d + 12 by omega, w1] at e
      have := (A.2.2.2.1 (by decide) w0).2 y1 e.symm
      omega
  · obtain ⟨w0, y1, w1, w2⟩ := w
    rcases rcb1 (f := f) (a := a) (b := b) (d := d) k0 k1 k2 with hk | ⟨-, -, p0⟩
    · rw [hk] at w0
      exact absurd w0 (by decide)
    · have e := ih (a + 1) (b + 0) (d + 0) (by omega) (by omega) (by omega) (by omega) (by omega) (by omega) (by omega)
      rw [show 121 * (a + 1) + 11 * (b + 0) + (d + 0) = 121 * a + 11 * b + d + 121 by omega, w1] at e
      have := (A.2.2.2.2.1 (by decide) w0).2 y1 e.symm
      omega
  · obtain ⟨w0, y1, w1, w2⟩ := w
    rcases rcb2 (f := f) (a := a) (b := b) (d := d) k0 k1 k2 with hk | ⟨-, -, p0⟩
    · rw [hk] at w0
      exact absurd w0 (by decide)
    · have e := ih (a + 0) (b + 1) (d + 0) (by omega) (by omega) (by omega) (by omega) (by omega) (by omega) (by omega)
      rw [show 121 * (a + 0) + 11 * (b + 1) + (d + 0) = 121 * a + 11 * b + d + 11 by omega, w1] at e
      have := (A.2.2.2.2.2.1 (by decide) w0).2 y1 e.symm
      omega
  · obtain ⟨w0, y1, w1, w2⟩ := w
    rcases rcb4 (f := f) (a := a) (b := b) (d := d) k0 k1 k2 with hk | ⟨-, -, p0⟩
    · rw [hk] at w0
      exact absurd w0 (by decide)
    · have e := ih (a + 0) (b + 0) (d + 1) (by omega) (by omega) (by omega) (by omega) (by omega) (by omega) (by omega)
      rw [show 121 * (a + 0) + 11 * (b + 0) + (d + 1) = 121 * a + 11 * b + d + 1 by omega, w1] at e
      have := (A.2.2.2.2.2.2 (by decide) w0).2 y1 e.symm
      omega
theorem ju_uni {f g j j' : Int → Option Int} {ma mb md : Int} (k0 : g 0 = some ma) (k1 : g 1 = some mb) (k2 : g 2 = some md) (T : ju_T f g j ma mb md (-1)) (T' : ju_T f g j' ma mb md (-1)) : ∀ (N : Nat) (a b d : Int), (ma + mb + md - (a + b + d)).toNat < N → 0 ≤ a → a ≤ ma → 0 ≤ b → b ≤ mb → 0 ≤ d → d ≤ md → j (121 * a + 11 * b + d) = j' (121 * a + 11 * b + d) := by
  intro N
  induction N with
  | zero => intro a b d hN; omega
  | succ N ih =>
    intro a b d hN a0 a1 b0 b1 d0 d1
    obtain ⟨y, h1, -, -, h4, h5, h6⟩ := T a b d a0 a1 b0 b1 d0 d1 (by omega)
    obtain ⟨y', h1', -, -, h4', h5', h6'⟩ := T' a b d a0 a1 b0 b1 d0 d1 (by omega)
    rw [h1, h1']
    by_cases e : (a = ma ∧ b = mb ∧ d = md)
    · rw [h5 e, h5' e]
    · have X := h4.resolve_left e
      have X' := h4'.resolve_left e
      have ih' : ∀ a' b' d', 0 ≤ a' → a' ≤ ma → 0 ≤ b' → b' ≤ mb → 0 ≤ d' → d' ≤ md → a + b + d < a' + b' + d' → j (121 * a' + 11 * b' + d') = j' (121 * a' + 11 * b' + d') := fun a' b' d' p1 p2 p3 p4 p5 p6 p7 => ih a' b' d' (by omega) p1 p2 p3 p4 p5 p6
      have l1 := ju_le k0 k1 k2 X h6' a0 a1 b0 b1 d0 d1 ih'
      have l2 := ju_le k0 k1 k2 X' h6 a0 a1 b0 b1 d0 d1 (fun a' b' d' p1 p2 p3 p4 p5 p6 p7 => (ih' a' b' d' p1 p2 p3 p4 p5 p6 p7).symm)
      rw [show y = y' by omega]
def ju_I (cst : am_K) (h0 : am_H) (ma mb md : Int) (h : am_H) (z : Int) : Prop := ly_hy m_tt ly_TH h ∧ ly_fr cst jn_mods h0 h ∧ h0.length ≤ h.length ∧ ly_hv cst h 44288 0 = some ma ∧ ly_hv cst h 44288 1 = some mb ∧ ly_hv cst h 44288 2 = some md ∧ ju_T (ly_hv cst h 44032) (ly_hv cst h 44288) (ly_hv cst h 45056) ma mb md z
def ju_B (f g j : Int → Option Int) (ma mb md a b d e : Int) (i : Nat) : Prop := -1 ≤ e ∧ (e = -1 ∨ (0 ≤ e ∧ e ≤ 12 * ((ma - a) + (mb - b) + (md - d)) ∧ ((a = ma ∧ b = mb ∧ d = md) ∨ jn_x f g j a b d e))) ∧ ((a = ma ∧ b = mb ∧ d = md) → e = 0) ∧ ju_A f g j a b d e i
def ju_h (cst : am_K) (ma mb md a b d e : Int) (i : Nat) (h : am_H) : Prop := ju_B (ly_hv cst h 44032) (ly_hv cst h 44288) (ly_hv cst h 45056) ma mb md a b d e i
def ju_Φ (cst : am_K) (h0 : am_H) (ma mb md : Int) (r : am_Q) : Prop := (∃ x : Int32, r.1 = some (.int x) ∧ ∃ j, ju_T (ly_hv cst h0 44032) (ly_hv cst h0 44288) j ma mb md (-1) ∧ j 0 = some x.toInt) ∧ r.2.2.1 = 0 ∧ r.2.2.2 = 0 ∧ ly_hy m_tt ly_TH r.2.1 ∧ ly_fr cst jn_mods h0 r.2.1 ∧ h0.length ≤ r.2.1.length
section JU
variable {cst : am_K} {strs : List Nat} {D : Nat} {M : am_M} {h0 : am_H} {ma mb md : Int} {Φ : am_Q → Prop}
theorem ju_I_arc {h h' : am_H} {z : Int} {ms : List Nat} (hm1 : ly_has 44032 ms = false) (hm2 : ly_has 44288 ms = false) (hm3 : ly_has 45056 ms = false) (hms : ∀ r, ly_has r jn_mods = false → ly_has r ms = false) (I : ju_I cst h0 ma mb md h z) (hy' : ly_hy m_tt ly_TH h') (fr : ly_fr cst ms h h') (len : h.length ≤ h'.length) : ju_I cst h0 ma mb md h' z := by
  obtain ⟨a, b, c, d, e, f, g⟩ := I
  obtain ⟨e1, e2, e3⟩ := jn_eqs hm1 hm2 hm3 a hy' fr
  refine ⟨hy', ly_fr_tr b (fun r i v hr e => fr r i v (hms r hr) e), Nat.le_trans c len, by rw [e2]; exact d, by rw [e2]; exact e, by rw [e2]; exact f, ?_⟩
  rw [e1, e2, e3]
  exact g
theorem ju_I_0 {h h' : am_H} {z : Int} (I : ju_I cst h0 ma mb md h z) (hy' : ly_hy m_tt ly_TH h') (fr : ly_fr cst [] h h') (len : h.length ≤ h'.length) : ju_I cst h0 ma mb md h' z := ju_I_arc rfl rfl rfl (fun _ _ => rfl) I hy' fr len
theorem ju_h_0 {h h' : am_H} {a b d e : Int} {i : Nat} (hy : ly_hy m_tt ly_TH h) (H : ju_h cst ma mb md a b d e i h) (hy' : ly_hy m_tt ly_TH h') (fr : ly_fr cst [] h h') : ju_h cst ma mb md a b d e i h' := by
  obtain ⟨e1, e2, e3⟩ := jn_eqs rfl rfl rfl hy hy' fr
  unfold ju_h
  rw [e1, e2, e3]
  exact H
theorem juF (c1 : hp_C cst strs D) (c : hp_C cst strs (D + 1)) (hM : m_P[411]? = some M) (hD : (5 : Int) ≤ ((D + 1 : Nat) : Int) + 1) (A0 : 0 ≤ ma) (A1 : ma ≤ 10) (B0 : 0 ≤ mb) (B1 : mb ≤ 10) (D0 : 0 ≤ md) (D1 : md ≤ 10) {a b d : Int} (a0 : 0 ≤ a) (a1 : a ≤ ma) (b0 : 0 ≤ b) (b1 : b ≤ mb) (d0 : 0 ≤ d) (d1 : d ≤ md) (ih : ∀ (h : am_H) (l : am_L), ju_I cst h0 ma mb md h (121 * a + 11 * b + (d - 1)) → hp_a l 0 94 → hp_i l 1 a → hp_i l 2 b → hp_i l 3 (d - 1) → hp_F cst strs Φ (D + 1) M 29 l [] h) (h : am_H) (l : am_L) (y0 y1 : Int32) (e : Int) (hy0 : y0.toInt = e) (hy1 : y1.toInt = 121 * a + 11 * b + d) (I : ju_I cst h0 ma mb md h (121 * a + 11 * b + d)) (H : ju_h cst ma mb md a b d e 7 h) (l0 : hp_a l 0 94) (l1 : hp_i l 1 a) (l2 : hp_i l 2 b) (l3 : hp_i l 3 d) : hp_F cst strs Φ (D + 1) M 186 l [.int y0, .int y1, .ref 192] h := by
  obtain ⟨hy, fr, len, k0, k1, k2, T⟩ := I
  obtain ⟨m1, g1, g2, g3⟩ := H
  have ne : e ≠ -1 := by
    by_cases p1 : a < ma
    · exact (g3.2.2.2.2.1 (by decide) (rcp1 k0 k1 k2 p1)).1
    · by_cases p2 : b < mb
      · exact (g3.2.2.2.2.2.1 (by decide) (rcp2 k0 k1 k2 p2)).1
      · by_cases p3 : d < md
        · exact (g3.2.2.2.2.2.2 (by decide) (rcp4 k0 k1 k2 p3)).1
        · have := g2 ⟨by omega, by omega, by omega⟩
          omega
  obtain ⟨e0, e1, ex⟩ := g1.resolve_left ne
  refine hp_st (c := 176) hM (by decide +kernel) hy th_JC rfl (by omega) (by omega) (by omega) (by omega) (fun h' q1 q2 q3 => ?_)
  rw [hy0, hy1] at q3
  have os : ∀ r, r ≠ 45056 → ly_hv cst h' r = ly_hv cst h r := fun r hr => funext fun k => q3.2 r k (Or.inl hr)
  have I' : ju_I cst h0 ma mb md h' (121 * a + 11 * b + (d - 1)) := by
    refine ⟨q1, ly_fr_tr fr (hp_put_fr (by rfl) q3), by omega, by rw [os _ (by decide)]; exact k0, by rw [os _ (by decide)]; exact k1, by rw [os _ (by decide)]; exact k2, ?_⟩
    rw [os 44032 (by decide), os 44288 (by decide)]
    exact ju_T_put A1 B1 D1 a1 b1 d1 a0 b0 d0 T e0 e1 ex g2 g3 q3.1 (fun k hk => q3.2 45056 k (Or.inr hk))
  exact jn5 c hM (by omega) q1 a b d ma mb md a0 (by omega) b0 (by omega) d0 (by omega) A0 A1 B0 B1 D0 D1 l0 l1 l2 l3 (fun l' h2 u1 u2 u3 v0 v1 v2 v3 => ih h2 l' (ju_I_0 I' u1 u2 u3) v0 v1 v2 v3)
theorem jup6 (c1 : hp_C cst strs D) (c : hp_C cst strs (D + 1)) (hM : m_P[411]? = some M) (hD : (5 : Int) ≤ ((D + 1 : Nat) : Int) + 1) (A0 : 0 ≤ ma) (A1 : ma ≤ 10) (B0 : 0 ≤ mb) (B1 : mb ≤ 10) (D0 : 0 ≤ md) (D1 : md ≤ 10) {a b d : Int} (a0 : 0 ≤ a) (a1 : a ≤ ma) (b0 : 0 ≤ b) (b1 : b ≤ mb) (d0 : 0 ≤ d) (d1 : d ≤ md) (ih : ∀ (h : am_H) (l : am_L), ju_I cst h0 ma mb md h (121 * a + 11 * b + (d - 1)) → hp_a l 0 94 → hp_i l 1 a → hp_i l 2 b → hp_i l 3 (d - 1) → hp_F cst strs Φ (D + 1) M 29 l [] h) (h : am_H) (l : am_L) (y0 y1 y2 y3 : Int32) (e : Int) (hy0 : y0.toInt = d) (hy1 : y1.toInt = b) (hy2 : y2.toInt = a) (hy3 : y3.toInt = 4) (I : ju_I cst h0 ma mb md h (121 * a + 11 * b + d)) (H : ju_h cst ma mb md a b d e 6 h) (l0 : hp_a l 0 94) (l1 : hp_i l 1 a) (l2 : hp_i l 2 b) (l3 : hp_i l 3 d) (l4 : hp_i l 4 e) (l5 : hp_i l 5 6) (l6 : hp_i l 6 4) : hp_F cst strs Φ (D + 1) M 99 l [.int y0, .int y1, .int y2, .int y3, .ref 94] h := by
  obtain ⟨r, hrun, ⟨x, r1, hx⟩, r2, r3, rhy, rfr, rlen⟩ := rc_run c1 (by omega) I.1 (xs := y3) (xa := y2) (xb := y1) (xd := y0) (by omega) (by omega) (by omega) (by omega) (by omega) (by omega) (by omega)
  refine hp_call (mi := 411) (pc := 99) (tg := 412) (na := 5) (c := 78) (ci := 12) (st0 := [.int y0, .int y1, .int y2, .int y3, .ref 94]) (st := []) (av := [.int y3, .int y2, .int y1, .int y0]) hM (by decide +kernel) I.1 rfl rfl rfl (by decide) hrun r2 r3 ?_
  rw [r1]
  rw [hy0, hy1, hy2, hy3] at hx
  have I2 := ju_I_0 I rhy rfr rlen
  obtain ⟨e1, e2, e3⟩ := jn_eqs rfl rfl rfl I.1 rhy rfr
  rw [← e1, ← e2] at hx
  obtain ⟨-, -, -, k0, k1, k2, T⟩ := id I2
  obtain ⟨m1, g1, g2, gA⟩ := ju_h_0 I.1 H rhy rfr
  have eb : e ≤ 360 := by rcases g1 with g1 | ⟨-, g1, -⟩ <;> omega
  rcases rcb4 (f := ly_hv cst r.2.1 44032) (a := a) (b := b) (d := d) k0 k1 k2 with hk | ⟨kk0, kk1, p0⟩
  · have H2 : ju_h cst ma mb md a b d e 7 r.2.1 := ⟨m1, g1, g2, ju_An6 gA hk⟩
    exact jm6n c hM hD rhy a b d ma mb md e x (by omega) a0 (by omega) b0 (by omega) d0 (by omega) A0 A1 B0 B1 D0 D1 m1 (by omega) l0 l1 l2 l3 l4 l5 l6 (fun l' h2 z0 z1 w0 w1 u1 u2 u3 v0 v1 v2 v3 => juF c1 c hM hD A0 A1 B0 B1 D0 D1 a0 a1 b0 b1 d0 d1 ih h2 l' z0 z1 (e) w0 w1 (ju_I_0 I2 u1 u2 u3) (ju_h_0 rhy H2 u1 u2) v0 v1 v2 v3)
  · obtain ⟨y, hyv, yy0, yy1, -⟩ := T (a + 0) (b + 0) (d + 1) (by omega) (by omega) (by omega) (by omega) (by omega) (by omega) (by omega)
    rw [show 121 * (a + 0) + 11 * (b + 0) + (d + 1) = 121 * a + 11 * b + d + 1 by omega] at hyv
    have W : ∀ z : Int, z = x.toInt + y → jn_x (ly_hv cst r.2.1 44032) (ly_hv cst r.2.1 44288) (ly_hv cst r.2.1 45056) a b d z := fun z hz => Or.inr (Or.inr (Or.inr (Or.inr (Or.inr (Or.inr (⟨kk0, y, hyv, by omega⟩))))))
    have new : (e = -1 ∨ x.toInt + y ≤ e) → ju_h cst ma mb md a b d (x.toInt + y) 7 r.2.1 := fun lt => ⟨by omega, Or.inr ⟨by omega, by omega, Or.inr (W _ rfl)⟩, fun q => absurd q (by omega), ju_Ab6 gA lt (by omega) (fun y2 h2 => by rw [hyv] at h2; cases h2; omega)⟩
    by_cases he : e = -1
    · have H2 := new (Or.inl he)
      rw [he] at l4
      exact jm6a c hM hD rhy a b d ma mb md x.toInt y x rfl a0 (by omega) b0 (by omega) d0 (by omega) A0 A1 B0 B1 D0 D1 (by omega) (by omega) yy0 (by omega) (by omega) k0 k1 k2 hyv l0 l1 l2 l3 l4 l5 l6 (fun l' h2 z0 z1 w0 w1 u1 u2 u3 v0 v1 v2 v3 => juF c1 c hM hD A0 A1 B0 B1 D0 D1 a0 a1 b0 b1 d0 d1 ih h2 l' z0 z1 (x.toInt + y) w0 w1 (ju_I_0 I2 u1 u2 u3) (ju_h_0 rhy H2 u1 u2) v0 v1 v2 v3)
    · by_cases hl : x.toInt + y < e
      · have H2 := new (Or.inr (by omega))
        exact jm6b c hM hD rhy a b d ma mb md x.toInt y e x rfl a0 (by omega) b0 (by omega) d0 (by omega) A0 A1 B0 B1 D0 D1 (by omega) (by omega) yy0 (by omega) (by omega) (by omega) (by omega) (by omega) k0 k1 k2 hyv l0 l1 l2 l3 l4 l5 l6 (fun l' h2 z0 z1 w0 w1 u1 u2 u3 v0 v1 v2 v3 => juF c1 c hM hD A0 A1 B0 B1 D0 D1 a0 a1 b0 b1 d0 d1 ih h2 l' z0 z1 (x.toInt + y) w0 w1 (ju_I_0 I2 u1 u2 u3) (ju_h_0 rhy H2 u1 u2) v0 v1 v2 v3)
      · have H2 : ju_h cst ma mb md a b d e 7 r.2.1 := ⟨m1, g1, g2, ju_Ab6 gA (Or.inr (Int.le_refl _)) he (fun y2 h2 => by rw [hyv] at h2; cases h2; omega)⟩
        exact jm6c c hM hD rhy a b d ma mb md x.toInt y e x rfl a0 (by omega) b0 (by omega) d0 (by omega) A0 A1 B0 B1 D0 D1 (by omega) (by omega) yy0 (by omega) (by omega) (by omega) (by omega) (by omega) k0 k1 k2 hyv l0 l1 l2 l3 l4 l5 l6 (fun l' h2 z0 z1 w0 w1 u1 u2 u3 v0 v1 v2 v3 => juF c1 c hM hD A0 A1 B0 B1 D0 D1 a0 a1 b0 b1 d0 d1 ih h2 l' z0 z1 (e) w0 w1 (ju_I_0 I2 u1 u2 u3) (ju_h_0 rhy H2 u1 u2) v0 v1 v2 v3)
theorem jup5 (c1 : hp_C cst strs D) (c : hp_C cst strs (D + 1)) (hM : m_P[411]? = some M) (hD : (5 : Int) ≤ ((D + 1 : Nat) : Int) + 1) (A0 : 0 ≤ ma) (A1 : ma ≤ 10) (B0 : 0 ≤ mb) (B1 : mb ≤ 10) (D0 : 0 ≤ md) (D1 : md ≤ 10) {a b d : Int} (a0 : 0 ≤ a) (a1 : a ≤ ma) (b0 : 0 ≤ b) (b1 : b ≤ mb) (d0 : 0 ≤ d) (d1 : d ≤ md) (ih : ∀ (h : am_H) (l : am_L), ju_I cst h0 ma mb md h (121 * a + 11 * b + (d - 1)) → hp_a l 0 94 → hp_i l 1 a → hp_i l 2 b → hp_i l 3 (d - 1) → hp_F cst strs Φ (D + 1) M 29 l [] h) (h : am_H) (l : am_L) (y0 y1 y2 y3 : Int32) (e : Int) (hy0 : y0.toInt = d) (hy1 : y1.toInt = b) (hy2 : y2.toInt = a) (hy3 : y3.toInt = 2) (I : ju_I cst h0 ma mb md h (121 * a + 11 * b + d)) (H : ju_h cst ma mb md a b d e 5 h) (l0 : hp_a l 0 94) (l1 : hp_i l 1 a) (l2 : hp_i l 2 b) (l3 : hp_i l 3 d) (l4 : hp_i l 4 e) (l5 : hp_i l 5 5) (l6 : hp_i l 6 2) : hp_F cst strs Φ (D + 1) M 99 l [.int y0, .int y1, .int y2, .int y3, .ref 94] h := by
  obtain ⟨r, hrun, ⟨x, r1, hx⟩, r2, r3, rhy, rfr, rlen⟩ := rc_run c1 (by omega) I.1 (xs := y3) (xa := y2) (xb := y1) (xd := y0) (by omega) (by omega) (by omega) (by omega) (by omega) (by omega) (by omega)
  refine hp_call (mi := 411) (pc := 99) (tg := 412) (na := 5) (c := 78) (ci := 12) (st0 := [.int y0, .int y1, .int y2, .int y3, .ref 94]) (st := []) (av := [.int y3, .int y2, .int y1, .int y0]) hM (by decide +kernel) I.1 rfl rfl rfl (by decide) hrun r2 r3 ?_
  rw [r1]
  rw [hy0, hy1, hy2, hy3] at hx
  have I2 := ju_I_0 I rhy rfr rlen
  obtain ⟨e1, e2, e3⟩ := jn_eqs rfl rfl rfl I.1 rhy rfr
  rw [← e1, ← e2] at hx
  obtain ⟨-, -, -, k0, k1, k2, T⟩ := id I2
  obtain ⟨m1, g1, g2, gA⟩ := ju_h_0 I.1 H rhy rfr
  have eb : e ≤ 360 := by rcases g1 with g1 | ⟨-, g1, -⟩ <;> omega
  rcases rcb2 (f := ly_hv cst r.2.1 44032) (a := a) (b := b) (d := d) k0 k1 k2 with hk | ⟨kk0, kk1, p0⟩
  · have H2 : ju_h cst ma mb md a b d e 6 r.2.1 := ⟨m1, g1, g2, ju_An5 gA hk⟩
    exact jm5n c hM hD rhy a b d ma mb md e x (by omega) a0 (by omega) b0 (by omega) d0 (by omega) A0 A1 B0 B1 D0 D1 m1 (by omega) l0 l1 l2 l3 l4 l5 l6 (fun l' h2 z0 z1 z2 z3 w0 w1 w2 w3 u1 u2 u3 v0 v1 v2 v3 v4 v5 v6 => jup6 c1 c hM hD A0 A1 B0 B1 D0 D1 a0 a1 b0 b1 d0 d1 ih h2 l' z0 z1 z2 z3 (e) w0 w1 w2 w3 (ju_I_0 I2 u1 u2 u3) (ju_h_0 rhy H2 u1 u2) v0 v1 v2 v3 v4 v5 v6)
  · obtain ⟨y, hyv, yy0, yy1, -⟩ := T (a + 0) (b + 1) (d + 0) (by omega) (by omega) (by omega) (by omega) (by omega) (by omega) (by omega)
    rw [show 121 * (a + 0) + 11 * (b + 1) + (d + 0) = 121 * a + 11 * b + d + 11 by omega] at hyv
    have W : ∀ z : Int, z = x.toInt + y → jn_x (ly_hv cst r.2.1 44032) (ly_hv cst r.2.1 44288) (ly_hv cst r.2.1 45056) a b d z := fun z hz => Or.inr (Or.inr (Or.inr (Or.inr (Or.inr (Or.inl ⟨kk0, y, hyv, by omega⟩)))))
    have new : (e = -1 ∨ x.toInt + y ≤ e) → ju_h cst ma mb md a b d (x.toInt + y) 6 r.2.1 := fun lt => ⟨by omega, Or.inr ⟨by omega, by omega, Or.inr (W _ rfl)⟩, fun q => absurd q (by omega), ju_Ab5 gA lt (by omega) (fun y2 h2 => by rw [hyv] at h2; cases h2; omega)⟩
    by_cases he : e = -1
    · have H2 := new (Or.inl he)
      rw [he] at l4
      exact jm5a c hM hD rhy a b d ma mb md x.toInt y x rfl a0 (by omega) b0 (by omega) d0 (by omega) A0 A1 B0 B1 D0 D1 (by omega) (by omega) yy0 (by omega) (by omega) k0 k1 k2 hyv l0 l1 l2 l3 l4 l5 l6 (fun l' h2 z0 z1 z2 z3 w0 w1 w2 w3 u1 u2 u3 v0 v1 v2 v3 v4 v5 v6 => jup6 c1 c hM hD A0 A1 B0 B1 D0 D1 a0 a1 b0 b1 d0 d1 ih h2 l' z0 z1 z2 z3 (x.toInt + y) w0 w1 w2 w3 (ju_I_0 I2 u1 u2 u3) (ju_h_0 rhy H2 u1 u2) v0 v1 v2 v3 v4 v5 v6)
    · by_cases hl : x.toInt + y < e
      · have H2 := new (Or.inr (by omega))
        exact jm5b c hM hD rhy a b d ma mb md x.toInt y e x rfl a0 (by omega) b0 (by omega) d0 (by omega) A0 A1 B0 B1 D0 D1 (by omega) (by omega) yy0 (by omega) (by omega) (by omega) (by omega) (by omega) k0 k1 k2 hyv l0 l1 l2 l3 l4 l5 l6 (fun l' h2 z0 z1 z2 z3 w0 w1 w2 w3 u1 u2 u3 v0 v1 v2 v3 v4 v5 v6 => jup6 c1 c hM hD A0 A1 B0 B1 D0 D1 a0 a1 b0 b1 d0 d1 ih h2 l' z0 z1 z2 z3 (x.toInt + y) w0 w1 w2 w3 (ju_I_0 I2 u1 u2 u3) (ju_h_0 rhy H2 u1 u2) v0 v1 v2 v3 v4 v5 v6)
      · have H2 : ju_h cst ma mb md a b d e 6 r.2.1 := ⟨m1, g1, g2, ju_Ab5 gA (Or.inr (Int.le_refl _)) he (fun y2 h2 => by rw [hyv] at h2; cases h2; omega)⟩
        exact jm5c c hM hD rhy a b d ma mb md x.toInt y e x rfl a0 (by omega) b0 (by omega) d0 (by omega) A0 A1 B0 B1 D0 D1 (by omega) (by omega) yy0 (by omega) (by omega) (by omega) (by omega) (by omega) k0 k1 k2 hyv l0 l1 l2 l3 l4 l5 l6 (fun l' h2 z0 z1 z2 z3 w0 w1 w2 w3 u1 u2 u3 v0 v1 v2 v3 v4 v5 v6 => jup6 c1 c hM hD A0 A1 B0 B1 D0 D1 a0 a1 b0 b1 d0 d1 ih h2 l' z0 z1 z2 z3 (e) w0 w1 w2 w3 (ju_I_0 I2 u1 u2 u3) (ju_h_0 rhy H2 u1 u2) v0 v1 v2 v3 v4 v5 v6)
theorem jup4 (c1 : hp_C cst strs D) (c : hp_C cst strs (D + 1)) (hM : m_P[411]? = some M) (hD : (5 : Int) ≤ ((D + 1 : Nat) : Int) + 1) (A0 : 0 ≤ ma) (A1 : ma ≤ 10) (B0 : 0 ≤ mb) (B1 : mb ≤ 10) (D0 : 0 ≤ md) (D1 : md ≤ 10) {a b d : Int} (a0 : 0 ≤ a) (a1 : a ≤ ma) (b0 : 0 ≤ b) (b1 : b ≤ mb) (d0 : 0 ≤ d) (d1 : d ≤ md) (ih : ∀ (h : am_H) (l : am_L), ju_I cst h0 ma mb md h (121 * a + 11 * b + (d - 1)) → hp_a l 0 94 → hp_i l 1 a → hp_i l 2 b → hp_i l 3 (d - 1) → hp_F cst strs Φ (D + 1) M 29 l [] h) (h : am_H) (l : am_L) (y0 y1 y2 y3 : Int32) (e : Int) (hy0 : y0.toInt = d) (hy1 : y1.toInt = b) (hy2 : y2.toInt = a) (hy3 : y3.toInt = 1) (I : ju_I cst h0 ma mb md h (121 * a + 11 * b + d)) (H : ju_h cst ma mb md a b d e 4 h) (l0 : hp_a l 0 94) (l1 : hp_i l 1 a) (l2 : hp_i l 2 b) (l3 : hp_i l 3 d) (l4 : hp_i l 4 e) (l5 : hp_i l 5 4) (l6 : hp_i l 6 1) : hp_F cst strs Φ (D + 1) M 99 l [.int y0, .int y1, .int y2, .int y3, .ref 94] h := by
  obtain ⟨r, hrun, ⟨x, r1, hx⟩, r2, r3, rhy, rfr, rlen⟩ := rc_run c1 (by omega) I.1 (xs := y3) (xa := y2) (xb := y1) (xd := y0) (by omega) (by omega) (by omega) (by omega) (by omega) (by omega) (by omega)
  refine hp_call (mi := 411) (pc := 99) (tg := 412) (na := 5) (c := 78) (ci := 12) (st0 := [.int y0, .int y1, .int y2, .int y3, .ref 94]) (st := []) (av := [.int y3, .int y2, .int y1, .int y0]) hM (by decide +kernel) I.1 rfl rfl rfl (by decide) hrun r2 r3 ?_
  rw [r1]
  rw [hy0, hy1, hy2, hy3] at hx
  have I2 := ju_I_0 I rhy rfr rlen
  obtain ⟨e1, e2, e3⟩ := jn_eqs rfl rfl rfl I.1 rhy rfr
  rw [← e1, ← e2] at hx
  obtain ⟨-, -, -, k0, k1, k2, T⟩ := id I2
  obtain ⟨m1, g1, g2, gA⟩ := ju_h_0 I.1 H rhy rfr
  have eb : e ≤ 360 := by rcases g1 with g1 | ⟨-, g1, -⟩ <;> omega
  rcases rcb1 (f := ly_hv cst r.2.1 44032) (a := a) (b := b) (d := d) k0 k1 k2 with hk | ⟨kk0, kk1, p0⟩
  · have H2 : ju_h cst ma mb md a b d e 5 r.2.1 := ⟨m1, g1, g2, ju_An4 gA hk⟩
    exact jm4n c hM hD rhy a b d ma mb md e x (by omega) a0 (by omega) b0 (by omega) d0 (by omega) A0 A1 B0 B1 D0 D1 m1 (by omega) l0 l1 l2 l3 l4 l5 l6 (fun l' h2 z0 z1 z2 z3 w0 w1 w2 w3 u1 u2 u3 v0 v1 v2 v3 v4 v5 v6 => jup5 c1 c hM hD A0 A1 B0 B1 D0 D1 a0 a1 b0 b1 d0 d1 ih h2 l' z0 z1 z2 z3 (e) w0 w1 w2 w3 (ju_I_0 I2 u1 u2 u3) (ju_h_0 rhy H2 u1 u2) v0 v1 v2 v3 v4 v5 v6)
  · obtain ⟨y, hyv, yy0, yy1, -⟩ := T (a + 1) (b + 0) (d + 0) (by omega) (by omega) (by omega) (by omega) (by omega) (by omega) (by omega)
    rw [show 121 * (a + 1) + 11 * (b + 0) + (d + 0) = 121 * a + 11 * b + d + 121 by omega] at hyv
    have W : ∀ z : Int, z = x.toInt + y → jn_x (ly_hv cst r.2.1 44032) (ly_hv cst r.2.1 44288) (ly_hv cst r.2.1 45056) a b d z := fun z hz => Or.inr (Or.inr (Or.inr (Or.inr (Or.inl ⟨kk0, y, hyv, by omega⟩))))
    have new : (e = -1 ∨ x.toInt + y ≤ e) → ju_h cst ma mb md a b d (x.toInt + y) 5 r.2.1 := fun lt => ⟨by omega, Or.inr ⟨by omega, by omega, Or.inr (W _ rfl)⟩, fun q => absurd q (by omega), ju_Ab4 gA lt (by omega) (fun y2 h2 => by rw [hyv] at h2; cases h2; omega)⟩
    by_cases he : e = -1
    · have H2 := new (Or.inl he)
      rw [he] at l4
      exact jm4a c hM hD rhy a b d ma mb md x.toInt y x rfl a0 (by omega) b0 (by omega) d0 (by omega) A0 A1 B0 B1 D0 D1 (by omega) (by omega) yy0 (by omega) (by omega) k0 k1 k2 hyv l0 l1 l2 l3 l4 l5 l6 (fun l' h2 z0 z1 z2 z3 w0 w1 w2 w3 u1 u2 u3 v0 v1 v2 v3 v4 v5 v6 => jup5 c1 c hM hD A0 A1 B0 B1 D0 D1 a0 a1 b0 b1 d0 d1 ih h2 l' z0 z1 z2 z3 (x.toInt + y) w0 w1 w2 w3 (ju_I_0 I2 u1 u2 u3) (ju_h_0 rhy H2 u1 u2) v0 v1 v2 v3 v4 v5 v6)
    · by_cases hl : x.toInt + y < e
      · have H2 := new (Or.inr (by omega))
        exact jm4b c hM hD rhy a b d ma mb md x.toInt y e x rfl a0 (by omega) b0 (by omega) d0 (by omega) A0 A1 B0 B1 D0 D1 (by omega) (by omega) yy0 (by omega) (by omega) (by omega) (by omega) (by omega) k0 k1 k2 hyv l0 l1 l2 l3 l4 l5 l6 (fun l' h2 z0 z1 z2 z3 w0 w1 w2 w3 u1 u2 u3 v0 v1 v2 v3 v4 v5 v6 => jup5 c1 c hM hD A0 A1 B0 B1 D0 D1 a0 a1 b0 b1 d0 d1 ih h2 l' z0 z1 z2 z3 (x.toInt + y) w0 w1 w2 w3 (ju_I_0 I2 u1 u2 u3) (ju_h_0 rhy H2 u1 u2) v0 v1 v2 v3 v4 v5 v6)
      · have H2 : ju_h cst ma mb md a b d e 5 r.2.1 := ⟨m1, g1, g2, ju_Ab4 gA (Or.inr (Int.le_refl _)) he (fun y2 h2 => by rw [hyv] at h2; cases h2; omega)⟩
        exact jm4c c hM hD rhy a b d ma mb md x.toInt y e x rfl a0 (by omega) b0 (by omega) d0 (by omega) A0 A1 B0 B1 D0 D1 (by omega) (by omega) yy0 (by omega) (by omega) (by omega) (by omega) (by omega) k0 k1 k2 hyv l0 l1 l2 l3 l4 l5 l6 (fun l' h2 z0 z1 z2 z3 w0 w1 w2 w3 u1 u2 u3 v0 v1 v2 v3 v4 v5 v6 => jup5 c1 c hM hD A0 A1 B0 B1 D0 D1 a0 a1 b0 b1 d0 d1 ih h2 l' z0 z1 z2 z3 (e) w0 w1 w2 w3 (ju_I_0 I2 u1 u2 u3) (ju_h_0 rhy H2 u1 u2) v0 v1 v2 v3 v4 v5 v6)
theorem jup3 (c1 : hp_C cst strs D) (c : hp_C cst strs (D + 1)) (hM : m_P[411]? = some M) (hD : (5 : Int) ≤ ((D + 1 : Nat) : Int) + 1) (A0 : 0 ≤ ma) (A1 : ma ≤ 10) (B0 : 0 ≤ mb) (B1 : mb ≤ 10) (D0 : 0 ≤ md) (D1 : md ≤ 10) {a b d : Int} (a0 : 0 ≤ a) (a1 : a ≤ ma) (b0 : 0 ≤ b) (b1 : b ≤ mb) (d0 : 0 ≤ d) (d1 : d ≤ md) (ih : ∀ (h : am_H) (l : am_L), ju_I cst h0 ma mb md h (121 * a + 11 * b + (d - 1)) → hp_a l 0 94 → hp_i l 1 a → hp_i l 2 b → hp_i l 3 (d - 1) → hp_F cst strs Φ (D + 1) M 29 l [] h) (h : am_H) (l : am_L) (y0 y1 y2 y3 : Int32) (e : Int) (hy0 : y0.toInt = d) (hy1 : y1.toInt = b) (hy2 : y2.toInt = a) (hy3 : y3.toInt = 6) (I : ju_I cst h0 ma mb md h (121 * a + 11 * b + d)) (H : ju_h cst ma mb md a b d e 3 h) (l0 : hp_a l 0 94) (l1 : hp_i l 1 a) (l2 : hp_i l 2 b) (l3 : hp_i l 3 d) (l4 : hp_i l 4 e) (l5 : hp_i l 5 3) (l6 : hp_i l 6 6) : hp_F cst strs Φ (D + 1) M 99 l [.int y0, .int y1, .int y2, .int y3, .ref 94] h := by
  obtain ⟨r, hrun, ⟨x, r1, hx⟩, r2, r3, rhy, rfr, rlen⟩ := rc_run c1 (by omega) I.1 (xs := y3) (xa := y2) (xb := y1) (xd := y0) (by omega) (by omega) (by omega) (by omega) (by omega) (by omega) (by omega)
  refine hp_call (mi := 411) (pc := 99) (tg := 412) (na := 5) (c := 78) (ci := 12) (st0 := [.int y0, .int y1, .int y2, .int y3, .ref 94]) (st := []) (av := [.int y3, .int y2, .int y1, .int y0]) hM (by decide +kernel) I.1 rfl rfl rfl (by decide) hrun r2 r3 ?_
  rw [r1]
  rw [hy0, hy1, hy2, hy3] at hx
  have I2 := ju_I_0 I rhy rfr rlen
  obtain ⟨e1, e2, e3⟩ := jn_eqs rfl rfl rfl I.1 rhy rfr
  rw [← e1, ← e2] at hx
  obtain ⟨-, -, -, k0, k1, k2, T⟩ := id I2
  obtain ⟨m1, g1, g2, gA⟩ := ju_h_0 I.1 H rhy rfr
  have eb : e ≤ 360 := by rcases g1 with g1 | ⟨-, g1, -⟩ <;> omega
  rcases rcb6 (f := ly_hv cst r.2.1 44032) (a := a) (b := b) (d := d) k0 k1 k2 with hk | ⟨kk0, kk1, ⟨p0, p1⟩⟩
  · have H2 : ju_h cst ma mb md a b d e 4 r.2.1 := ⟨m1, g1, g2, ju_An3 gA hk⟩
    exact jm3n c hM hD rhy a b d ma mb md e x (by omega) a0 (by omega) b0 (by omega) d0 (by omega) A0 A1 B0 B1 D0 D1 m1 (by omega) l0 l1 l2 l3 l4 l5 l6 (fun l' h2 z0 z1 z2 z3 w0 w1 w2 w3 u1 u2 u3 v0 v1 v2 v3 v4 v5 v6 => jup4 c1 c hM hD A0 A1 B0 B1 D0 D1 a0 a1 b0 b1 d0 d1 ih h2 l' z0 z1 z2 z3 (e) w0 w1 w2 w3 (ju_I_0 I2 u1 u2 u3) (ju_h_0 rhy H2 u1 u2) v0 v1 v2 v3 v4 v5 v6)
  · obtain ⟨y, hyv, yy0, yy1, -⟩ := T (a + 0) (b + 1) (d + 1) (by omega) (by omega) (by omega) (by omega) (by omega) (by omega) (by omega)
    rw [show 121 * (a + 0) + 11 * (b + 1) + (d + 1) = 121 * a + 11 * b + d + 12 by omega] at hyv
    have W : ∀ z : Int, z = x.toInt + y → jn_x (ly_hv cst r.2.1 44032) (ly_hv cst r.2.1 44288) (ly_hv cst r.2.1 45056) a b d z := fun z hz => Or.inr (Or.inr (Or.inr (Or.inl ⟨kk0, y, hyv, by omega⟩)))
    have new : (e = -1 ∨ x.toInt + y ≤ e) → ju_h cst ma mb md a b d (x.toInt + y) 4 r.2.1 := fun lt => ⟨by omega, Or.inr ⟨by omega, by omega, Or.inr (W _ rfl)⟩, fun q => absurd q (by omega), ju_Ab3 gA lt (by omega) (fun y2 h2 => by rw [hyv] at h2; cases h2; omega)⟩
    by_cases he : e = -1
    · have H2 := new (Or.inl he)
      rw [he] at l4
      exact jm3a c hM hD rhy a b d ma mb md x.toInt y x rfl a0 (by omega) b0 (by omega) d0 (by omega) A0 A1 B0 B1 D0 D1 (by omega) (by omega) yy0 (by omega) (by omega) (by omega) k0 k1 k2 hyv l0 l1 l2 l3 l4 l5 l6 (fun l' h2 z0 z1 z2 z3 w0 w1 w2 w3 u1 u2 u3 v0 v1 v2 v3 v4 v5 v6 => jup4 c1 c hM hD A0 A1 B0 B1 D0 D1 a0 a1 b0 b1 d0 d1 ih h2 l' z0 z1 z2 z3 (x.toInt + y) w0 w1 w2 w3 (ju_I_0 I2 u1 u2 u3) (ju_h_0 rhy H2 u1 u2) v0 v1 v2 v3 v4 v5 v6)
    · by_cases hl : x.toInt + y < e
      · have H2 := new (Or.inr (by omega))
        exact jm3b c hM hD rhy a b d ma mb md x.toInt y e x rfl a0 (by omega) b0 (by omega) d0 (by omega) A0 A1 B0 B1 D0 D1 (by omega) (by omega) yy0 (by omega) (by omega) (by omega) (by omega) (by omega) (by omega) k0 k1 k2 hyv l0 l1 l2 l3 l4 l5 l6 (fun l' h2 z0 z1 z2 z3 w0 w1 w2 w3 u1 u2 u3 v0 v1 v2 v3 v4 v5 v6 => jup4 c1 c hM hD A0 A1 B0 B1 D0 D1 a0 a1 b0 b1 d0 d1 ih h2 l' z0 z1 z2 z3 (x.toInt + y) w0 w1 w2 w3 (ju_I_0 I2 u1 u2 u3) (ju_h_0 rhy H2 u1 u2) v0 v1 v2 v3 v4 v5 v6)
      · have H2 : ju_h cst ma mb md a b d e 4 r.2.1 := ⟨m1, g1, g2, ju_Ab3 gA (Or.inr (Int.le_refl _)) he (fun y2 h2 => by rw [hyv] at h2; cases h2; omega)⟩
        exact jm3c c hM hD rhy a b d ma mb md x.toInt y e x rfl a0 (by omega) b0 (by omega) d0 (by omega) A0 A1 B0 B1 D0 D1 (by omega) (by omega) yy0 (by omega) (by omega) (by omega) (by omega) (by omega) (by omega) k0 k1 k2 hyv l0 l1 l2 l3 l4 l5 l6 (fun l' h2 z0 z1 z2 z3 w0 w1 w2 w3 u1 u2 u3 v0 v1 v2 v3 v4 v5 v6 => jup4 c1 c hM hD A0 A1 B0 B1 D0 D1 a0 a1 b0 b1 d0 d1 ih h2 l' z0 z1 z2 z3 (e) w0 w1 w2 w3 (ju_I_0 I2 u1 u2 u3) (ju_h_0 rhy H2 u1 u2) v0 v1 v2 v3 v4 v5 v6)
theorem jup2 (c1 : hp_C cst strs D) (c : hp_C cst strs (D + 1)) (hM : m_P[411]? = some M) (hD : (5 : Int) ≤ ((D + 1 : Nat) : Int) + 1) (A0 : 0 ≤ ma) (A1 : ma ≤ 10) (B0 : 0 ≤ mb) (B1 : mb ≤ 10) (D0 : 0 ≤ md) (D1 : md ≤ 10) {a b d : Int} (a0 : 0 ≤ a) (a1 : a ≤ ma) (b0 : 0 ≤ b) (b1 : b ≤ mb) (d0 : 0 ≤ d) (d1 : d ≤ md) (ih : ∀ (h : am_H) (l : am_L), ju_I cst h0 ma mb md h (121 * a + 11 * b + (d - 1)) → hp_a l 0 94 → hp_i l 1 a → hp_i l 2 b → hp_i l 3 (d - 1) → hp_F cst strs Φ (D + 1) M 29 l [] h) (h : am_H) (l : am_L) (y0 y1 y2 y3 : Int32) (e : Int) (hy0 : y0.toInt = d) (hy1 : y1.toInt = b) (hy2 : y2.toInt = a) (hy3 : y3.toInt = 5) (I : ju_I cst h0 ma mb md h (121 * a + 11 * b + d)) (H : ju_h cst ma mb md a b d e 2 h) (l0 : hp_a l 0 94) (l1 : hp_i l 1 a) (l2 : hp_i l 2 b) (l3 : hp_i l 3 d) (l4 : hp_i l 4 e) (l5 : hp_i l 5 2) (l6 : hp_i l 6 5) : hp_F cst strs Φ (D + 1) M 99 l [.int y0, .int y1, .int y2, .int y3, .ref 94] h := by
  obtain ⟨r, hrun, ⟨x, r1, hx⟩, r2, r3, rhy, rfr, rlen⟩ := rc_run c1 (by omega) I.1 (xs := y3) (xa := y2) (xb := y1) (xd := y0) (by omega) (by omega) (by omega) (by omega) (by omega) (by omega) (by omega)
  refine hp_call (mi := 411) (pc := 99) (tg := 412) (na := 5) (c := 78) (ci := 12) (st0 := [.int y0, .int y1, .int y2, .int y3, .ref 94]) (st := []) (av := [.int y3, .int y2, .int y1, .int y0]) hM (by decide +kernel) I.1 rfl rfl rfl (by decide) hrun r2 r3 ?_
  rw [r1]
  rw [hy0, hy1, hy2, hy3] at hx
  have I2 := ju_I_0 I rhy rfr rlen
  obtain ⟨e1, e2, e3⟩ := jn_eqs rfl rfl rfl I.1 rhy rfr
  rw [← e1, ← e2] at hx
  obtain ⟨-, -, -, k0, k1, k2, T⟩ := id I2
  obtain ⟨m1, g1, g2, gA⟩ := ju_h_0 I.1 H rhy rfr
  have eb : e ≤ 360 := by rcases g1 with g1 | ⟨-, g1, -⟩ <;> omega
  rcases rcb5 (f := ly_hv cst r.2.1 44032) (a := a) (b := b) (d := d) k0 k1 k2 with hk | ⟨kk0, kk1, ⟨p0, p1⟩⟩
  · have H2 : ju_h cst ma mb md a b d e 3 r.2.1 := ⟨m1, g1, g2, ju_An2 gA hk⟩
    exact jm2n c hM hD rhy a b d ma mb md e x (by omega) a0 (by omega) b0 (by omega) d0 (by omega) A0 A1 B0 B1 D0 D1 m1 (by omega) l0 l1 l2 l3 l4 l5 l6 (fun l' h2 z0 z1 z2 z3 w0 w1 w2 w3 u1 u2 u3 v0 v1 v2 v3 v4 v5 v6 => jup3 c1 c hM hD A0 A1 B0 B1 D0 D1 a0 a1 b0 b1 d0 d1 ih h2 l' z0 z1 z2 z3 (e) w0 w1 w2 w3 (ju_I_0 I2 u1 u2 u3) (ju_h_0 rhy H2 u1 u2) v0 v1 v2 v3 v4 v5 v6)
  · obtain ⟨y, hyv, yy0, yy1, -⟩ := T (a + 1) (b + 0) (d + 1) (by omega) (by omega) (by omega) (by omega) (by omega) (by omega) (by omega)
    rw [show 121 * (a + 1) + 11 * (b + 0) + (d + 1) = 121 * a + 11 * b + d + 122 by omega] at hyv
    have W : ∀ z : Int, z = x.toInt + y → jn_x (ly_hv cst r.2.1 44032) (ly_hv cst r.2.1 44288) (ly_hv cst r.2.1 45056) a b d z := fun z hz => Or.inr (Or.inr (Or.inl ⟨kk0, y, hyv, by omega⟩))
    have new : (e = -1 ∨ x.toInt + y ≤ e) → ju_h cst ma mb md a b d (x.toInt + y) 3 r.2.1 := fun lt => ⟨by omega, Or.inr ⟨by omega, by omega, Or.inr (W _ rfl)⟩, fun q => absurd q (by omega), ju_Ab2 gA lt (by omega) (fun y2 h2 => by rw [hyv] at h2; cases h2; omega)⟩
    by_cases he : e = -1
    · have H2 := new (Or.inl he)
      rw [he] at l4
      exact jm2a c hM hD rhy a b d ma mb md x.toInt y x rfl a0 (by omega) b0 (by omega) d0 (by omega) A0 A1 B0 B1 D0 D1 (by omega) (by omega) yy0 (by omega) (by omega) (by omega) k0 k1 k2 hyv l0 l1 l2 l3 l4 l5 l6 (fun l' h2 z0 z1 z2 z3 w0 w1 w2 w3 u1 u2 u3 v0 v1 v2 v3 v4 v5 v6 => jup3 c1 c hM hD A0 A1 B0 B1 D0 D1 a0 a1 b0 b1 d0 d1 ih h2 l' z0 z1 z2 z3 (x.toInt + y) w0 w1 w2 w3 (ju_I_0 I2 u1 u2 u3) (ju_h_0 rhy H2 u1 u2) v0 v1 v2 v3 v4 v5 v6)
    · by_cases hl : x.toInt + y < e
      · have H2 := new (Or.inr (by omega))
        exact jm2b c hM hD rhy a b d ma mb md x.toInt y e x rfl a0 (by omega) b0 (by omega) d0 (by omega) A0 A1 B0 B1 D0 D1 (by omega) (by omega) yy0 (by omega) (by omega) (by omega) (by omega) (by omega) (by omega) k0 k1 k2 hyv l0 l1 l2 l3 l4 l5 l6 (fun l' h2 z0 z1 z2 z3 w0 w1 w2 w3 u1 u2 u3 v0 v1 v2 v3 v4 v5 v6 => jup3 c1 c hM hD A0 A1 B0 B1 D0 D1 a0 a1 b0 b1 d0 d1 ih h2 l' z0 z1 z2 z3 (x.toInt + y) w0 w1 w2 w3 (ju_I_0 I2 u1 u2 u3) (ju_h_0 rhy H2 u1 u2) v0 v1 v2 v3 v4 v5 v6)
      · have H2 : ju_h cst ma mb md a b d e 3 r.2.1 := ⟨m1, g1, g2, ju_Ab2 gA (Or.inr (Int.le_refl _)) he (fun y2 h2 => by rw [hyv] at h2; cases h2; omega)⟩
        exact jm2c c hM hD rhy a b d ma mb md x.toInt y e x rfl a0 (by omega) b0 (by omega) d0 (by omega) A0 A1 B0 B1 D0 D1 (by omega) (by omega) yy0 (by omega) (by omega) (by omega) (by omega) (by omega) (by omega) k0 k1 k2 hyv l0 l1 l2 l3 l4 l5 l6 (fun l' h2 z0 z1 z2 z3 w0 w1 w2 w3 u1 u2 u3 v0 v1 v2 v3 v4 v5 v6 => jup3 c1 c hM hD A0 A1 B0 B1 D0 D1 a0 a1 b0 b1 d0 d1 ih h2 l' z0 z1 z2 z3 (e) w0 w1 w2 w3 (ju_I_0 I2 u1 u2 u3) (ju_h_0 rhy H2 u1 u2) v0 v1 v2 v3 v4 v5 v6)
theorem jup1 (c1 : hp_C cst strs D) (c : hp_C cst strs (D + 1)) (hM : m_P[411]? = some M) (hD : (5 : Int) ≤ ((D + 1 : Nat) : Int) + 1) (A0 : 0 ≤ ma) (A1 : ma ≤ 10) (B0 : 0 ≤ mb) (B1 : mb ≤ 10) (D0 : 0 ≤ md) (D1 : md ≤ 10) {a b d : Int} (a0 : 0 ≤ a) (a1 : a ≤ ma) (b0 : 0 ≤ b) (b1 : b ≤ mb) (d0 : 0 ≤ d) (d1 : d ≤ md) (ih : ∀ (h : am_H) (l : am_L), ju_I cst h0 ma mb md h (121 * a + 11 * b + (d - 1)) → hp_a l 0 94 → hp_i l 1 a → hp_i l 2 b → hp_i l 3 (d - 1) → hp_F cst strs Φ (D + 1) M 29 l [] h) (h : am_H) (l : am_L) (y0 y1 y2 y3 : Int32) (e : Int) (hy0 : y0.toInt = d) (hy1 : y1.toInt = b) (hy2 : y2.toInt = a) (hy3 : y3.toInt = 3) (I : ju_I cst h0 ma mb md h (121 * a + 11 * b + d)) (H : ju_h cst ma mb md a b d e 1 h) (l0 : hp_a l 0 94) (l1 : hp_i l 1 a) (l2 : hp_i l 2 b) (l3 : hp_i l 3 d) (l4 : hp_i l 4 e) (l5 : hp_i l 5 1) (l6 : hp_i l 6 3) : hp_F cst strs Φ (D + 1) M 99 l [.int y0, .int y1, .int y2, .int y3, .ref 94] h := by
  obtain ⟨r, hrun, ⟨x, r1, hx⟩, r2, r3, rhy, rfr, rlen⟩ := rc_run c1 (by omega) I.1 (xs := y3) (xa := y2) (xb := y1) (xd := y0) (by omega) (by omega) (by omega) (by omega) (by omega) (by omega) (by omega)
  refine hp_call (mi := 411) (pc := 99) (tg := 412) (na := 5) (c := 78) (ci := 12) (st0 := [.int y0, .int y1, .int y2, .int y3, .ref 94]) (st := []) (av := [.int y3, .int y2, .int y1, .int y0]) hM (by decide +kernel) I.1 rfl rfl rfl (by decide) hrun r2 r3 ?_
  rw [r1]
  rw [hy0, hy1, hy2, hy3] at hx
  have I2 := ju_I_0 I rhy rfr rlen
  obtain ⟨e1, e2, e3⟩ := jn_eqs rfl rfl rfl I.1 rhy rfr
  rw [← e1, ← e2] at hx
  obtain ⟨-, -, -, k0, k1, k2, T⟩ := id I2
  obtain ⟨m1, g1, g2, gA⟩ := ju_h_0 I.1 H rhy rfr
  have eb : e ≤ 360 := by rcases g1 with g1 | ⟨-, g1, -⟩ <;> omega
  rcases rcb3 (f := ly_hv cst r.2.1 44032) (a := a) (b := b) (d := d) k0 k1 k2 with hk | ⟨kk0, kk1, ⟨p0, p1⟩⟩
  · have H2 : ju_h cst ma mb md a b d e 2 r.2.1 := ⟨m1, g1, g2, ju_An1 gA hk⟩
    exact jm1n c hM hD rhy a b d ma mb md e x (by omega) a0 (by omega) b0 (by omega) d0 (by omega) A0 A1 B0 B1 D0 D1 m1 (by omega) l0 l1 l2 l3 l4 l5 l6 (fun l' h2 z0 z1 z2 z3 w0 w1 w2 w3 u1 u2 u3 v0 v1 v2 v3 v4 v5 v6 => jup2 c1 c hM hD A0 A1 B0 B1 D0 D1 a0 a1 b0 b1 d0 d1 ih h2 l' z0 z1 z2 z3 (e) w0 w1 w2 w3 (ju_I_0 I2 u1 u2 u3) (ju_h_0 rhy H2 u1 u2) v0 v1 v2 v3 v4 v5 v6)
  · obtain ⟨y, hyv, yy0, yy1, -⟩ := T (a + 1) (b + 1) (d + 0) (by omega) (by omega) (by omega) (by omega) (by omega) (by omega) (by omega)
    rw [show 121 * (a + 1) + 11 * (b + 1) + (d + 0) = 121 * a + 11 * b + d + 132 by omega] at hyv
    have W : ∀ z : Int, z = x.toInt + y → jn_x (ly_hv cst r.2.1 44032) (ly_hv cst r.2.1 44288) (ly_hv cst r.2.1 45056) a b d z := fun z hz => Or.inr (Or.inl ⟨kk0, y, hyv, by omega⟩)
    have new : (e = -1 ∨ x.toInt + y ≤ e) → ju_h cst ma mb md a b d (x.toInt + y) 2 r.2.1 := fun lt => ⟨by omega, Or.inr ⟨by omega, by omega, Or.inr (W _ rfl)⟩, fun q => absurd q (by omega), ju_Ab1 gA lt (by omega) (fun y2 h2 => by rw [hyv] at h2; cases h2; omega)⟩
    by_cases he : e = -1
    · have H2 := new (Or.inl he)
      rw [he] at l4
      exact jm1a c hM hD rhy a b d ma mb md x.toInt y x rfl a0 (by omega) b0 (by omega) d0 (by omega) A0 A1 B0 B1 D0 D1 (by omega) (by omega) yy0 (by omega) (by omega) (by omega) k0 k1 k2 hyv l0 l1 l2 l3 l4 l5 l6 (fun l' h2 z0 z1 z2 z3 w0 w1 w2 w3 u1 u2 u3 v0 v1 v2 v3 v4 v5 v6 => jup2 c1 c hM hD A0 A1 B0 B1 D0 D1 a0 a1 b0 b1 d0 d1 ih h2 l' z0 z1 z2 z3 (x.toInt + y) w0 w1 w2 w3 (ju_I_0 I2 u1 u2 u3) (ju_h_0 rhy H2 u1 u2) v0 v1 v2 v3 v4 v5 v6)
    · by_cases hl : x.toInt + y < e
      · have H2 := new (Or.inr (by omega))
        exact jm1b c hM hD rhy a b d ma mb md x.toInt y e x rfl a0 (by omega) b0 (by omega) d0 (by omega) A0 A1 B0 B1 D0 D1 (by omega) (by omega) yy0 (by omega) (by omega) (by omega) (by omega) (by omega) (by omega) k0 k1 k2 hyv l0 l1 l2 l3 l4 l5 l6 (fun l' h2 z0 z1 z2 z3 w0 w1 w2 w3 u1 u2 u3 v0 v1 v2 v3 v4 v5 v6 => jup2 c1 c hM hD A0 A1 B0 B1 D0 D1 a0 a1 b0 b1 d0 d1 ih h2 l' z0 z1 z2 z3 (x.toInt + y) w0 w1 w2 w3 (ju_I_0 I2 u1 u2 u3) (ju_h_0 rhy H2 u1 u2) v0 v1 v2 v3 v4 v5 v6)
      · have H2 : ju_h cst ma mb md a b d e 2 r.2.1 := ⟨m1, g1, g2, ju_Ab1 gA (Or.inr (Int.le_refl _)) he (fun y2 h2 => by rw [hyv] at h2; cases h2; omega)⟩
        exact jm1c c hM hD rhy a b d ma mb md x.toInt y e x rfl a0 (by omega) b0 (by omega) d0 (by omega) A0 A1 B0 B1 D0 D1 (by omega) (by omega) yy0 (by omega) (by omega) (by omega) (by omega) (by omega) (by omega) k0 k1 k2 hyv l0 l1 l2 l3 l4 l5 l6 (fun l' h2 z0 z1 z2 z3 w0 w1 w2 w3 u1 u2 u3 v0 v1 v2 v3 v4 v5 v6 => jup2 c1 c hM hD A0 A1 B0 B1 D0 D1 a0 a1 b0 b1 d0 d1 ih h2 l' z0 z1 z2 z3 (e) w0 w1 w2 w3 (ju_I_0 I2 u1 u2 u3) (ju_h_0 rhy H2 u1 u2) v0 v1 v2 v3 v4 v5 v6)
theorem jup0 (c1 : hp_C cst strs D) (c : hp_C cst strs (D + 1)) (hM : m_P[411]? = some M) (hD : (5 : Int) ≤ ((D + 1 : Nat) : Int) + 1) (A0 : 0 ≤ ma) (A1 : ma ≤ 10) (B0 : 0 ≤ mb) (B1 : mb ≤ 10) (D0 : 0 ≤ md) (D1 : md ≤ 10) {a b d : Int} (a0 : 0 ≤ a) (a1 : a ≤ ma) (b0 : 0 ≤ b) (b1 : b ≤ mb) (d0 : 0 ≤ d) (d1 : d ≤ md) (ih : ∀ (h : am_H) (l : am_L), ju_I cst h0 ma mb md h (121 * a + 11 * b + (d - 1)) → hp_a l 0 94 → hp_i l 1 a → hp_i l 2 b → hp_i l 3 (d - 1) → hp_F cst strs Φ (D + 1) M 29 l [] h) (h : am_H) (l : am_L) (y0 y1 y2 y3 : Int32) (e : Int) (hy0 : y0.toInt = d) (hy1 : y1.toInt = b) (hy2 : y2.toInt = a) (hy3 : y3.toInt = 7) (I : ju_I cst h0 ma mb md h (121 * a + 11 * b + d)) (H : ju_h cst ma mb md a b d e 0 h) (l0 : hp_a l 0 94) (l1 : hp_i l 1 a) (l2 : hp_i l 2 b) (l3 : hp_i l 3 d) (l4 : hp_i l 4 e) (l5 : hp_i l 5 0) (l6 : hp_i l 6 7) : hp_F cst strs Φ (D + 1) M 99 l [.int y0, .int y1, .int y2, .int y3, .ref 94] h := by
  obtain ⟨r, hrun, ⟨x, r1, hx⟩, r2, r3, rhy, rfr, rlen⟩ := rc_run c1 (by omega) I.1 (xs := y3) (xa := y2) (xb := y1) (xd := y0) (by omega) (by omega) (by omega) (by omega) (by omega) (by omega) (by omega)
  refine hp_call (mi := 411) (pc := 99) (tg := 412) (na := 5) (c := 78) (ci := 12) (st0 := [.int y0, .int y1, .int y2, .int y3, .ref 94]) (st := []) (av := [.int y3, .int y2, .int y1, .int y0]) hM (by decide +kernel) I.1 rfl rfl rfl (by decide) hrun r2 r3 ?_
  rw [r1]
  rw [hy0, hy1, hy2, hy3] at hx
  have I2 := ju_I_0 I rhy rfr rlen
  obtain ⟨e1, e2, e3⟩ := jn_eqs rfl rfl rfl I.1 rhy rfr
  rw [← e1, ← e2] at hx
  obtain ⟨-, -, -, k0, k1, k2, T⟩ := id I2
  obtain ⟨m1, g1, g2, gA⟩ := ju_h_0 I.1 H rhy rfr
  have eb : e ≤ 360 := by rcases g1 with g1 | ⟨-, g1, -⟩ <;> omega
  rcases rcb7 (f := ly_hv cst r.2.1 44032) (a := a) (b := b) (d := d) k0 k1 k2 with hk | ⟨kk0, kk1, ⟨p0, p1, p2⟩⟩
  · have H2 : ju_h cst ma mb md a b d e 1 r.2.1 := ⟨m1, g1, g2, ju_An0 gA hk⟩
    exact jm0n c hM hD rhy a b d ma mb md e x (by omega) a0 (by omega) b0 (by omega) d0 (by omega) A0 A1 B0 B1 D0 D1 m1 (by omega) l0 l1 l2 l3 l4 l5 l6 (fun l' h2 z0 z1 z2 z3 w0 w1 w2 w3 u1 u2 u3 v0 v1 v2 v3 v4 v5 v6 => jup1 c1 c hM hD A0 A1 B0 B1 D0 D1 a0 a1 b0 b1 d0 d1 ih h2 l' z0 z1 z2 z3 (e) w0 w1 w2 w3 (ju_I_0 I2 u1 u2 u3) (ju_h_0 rhy H2 u1 u2) v0 v1 v2 v3 v4 v5 v6)
  · obtain ⟨y, hyv, yy0, yy1, -⟩ := T (a + 1) (b + 1) (d + 1) (by omega) (by omega) (by omega) (by omega) (by omega) (by omega) (by omega)
    rw [show 121 * (a + 1) + 11 * (b + 1) + (d + 1) = 121 * a + 11 * b + d + 133 by omega] at hyv
    have W : ∀ z : Int, z = x.toInt + y → jn_x (ly_hv cst r.2.1 44032) (ly_hv cst r.2.1 44288) (ly_hv cst r.2.1 45056) a b d z := fun z hz => Or.inl ⟨kk0, y, hyv, by omega⟩
    have new : (e = -1 ∨ x.toInt + y ≤ e) → ju_h cst ma mb md a b d (x.toInt + y) 1 r.2.1 := fun lt => ⟨by omega, Or.inr ⟨by omega, by omega, Or.inr (W _ rfl)⟩, fun q => absurd q (by omega), ju_Ab0 gA lt (by omega) (fun y2 h2 => by rw [hyv] at h2; cases h2; omega)⟩
    by_cases he : e = -1
    · have H2 := new (Or.inl he)
      rw [he] at l4
      exact jm0a c hM hD rhy a b d ma mb md x.toInt y x rfl a0 (by omega) b0 (by omega) d0 (by omega) A0 A1 B0 B1 D0 D1 (by omega) (by omega) yy0 (by omega) (by omega) (by omega) (by omega) k0 k1 k2 hyv l0 l1 l2 l3 l4 l5 l6 (fun l' h2 z0 z1 z2 z3 w0 w1 w2 w3 u1 u2 u3 v0 v1 v2 v3 v4 v5 v6 => jup1 c1 c hM hD A0 A1 B0 B1 D0 D1 a0 a1 b0 b1 d0 d1 ih h2 l' z0 z1 z2 z3 (x.toInt + y) w0 w1 w2 w3 (ju_I_0 I2 u1 u2 u3) (ju_h_0 rhy H2 u1 u2) v0 v1 v2 v3 v4 v5 v6)
    · by_cases hl : x.toInt + y < e
      · have H2 := new (Or.inr (by omega))
        exact jm0b c hM hD rhy a b d ma mb md x.toInt y e x rfl a0 (by omega) b0 (by omega) d0 (by omega) A0 A1 B0 B1 D0 D1 (by omega) (by omega) yy0 (by omega) (by omega) (by omega) (by omega) (by omega) (by omega) (by omega) k0 k1 k2 hyv l0 l1 l2 l3 l4 l5 l6 (fun l' h2 z0 z1 z2 z3 w0 w1 w2 w3 u1 u2 u3 v0 v1 v2 v3 v4 v5 v6 => jup1 c1 c hM hD A0 A1 B0 B1 D0 D1 a0 a1 b0 b1 d0 d1 ih h2 l' z0 z1 z2 z3 (x.toInt + y) w0 w1 w2 w3 (ju_I_0 I2 u1 u2 u3) (ju_h_0 rhy H2 u1 u2) v0 v1 v2 v3 v4 v5 v6)
      · have H2 : ju_h cst ma mb md a b d e 1 r.2.1 := ⟨m1, g1, g2, ju_Ab0 gA (Or.inr (Int.le_refl _)) he (fun y2 h2 => by rw [hyv] at h2; cases h2; omega)⟩
        exact jm0c c hM hD rhy a b d ma mb md x.toInt y e x rfl a0 (by omega) b0 (by omega) d0 (by omega) A0 A1 B0 B1 D0 D1 (by omega) (by omega) yy0 (by omega) (by omega) (by omega) (by omega) (by omega) (by omega) (by omega) k0 k1 k2 hyv l0 l1 l2 l3 l4 l5 l6 (fun l' h2 z0 z1 z2 z3 w0 w1 w2 w3 u1 u2 u3 v0 v1 v2 v3 v4 v5 v6 => jup1 c1 c hM hD A0 A1 B0 B1 D0 D1 a0 a1 b0 b1 d0 d1 ih h2 l' z0 z1 z2 z3 (e) w0 w1 w2 w3 (ju_I_0 I2 u1 u2 u3) (ju_h_0 rhy H2 u1 u2) v0 v1 v2 v3 v4 v5 v6)
theorem juq6 (c1 : hp_C cst strs D) (c : hp_C cst strs (D + 1)) (hM : m_P[411]? = some M) (hD : (5 : Int) ≤ ((D + 1 : Nat) : Int) + 1) (A0 : 0 ≤ ma) (A1 : ma ≤ 10) (B0 : 0 ≤ mb) (B1 : mb ≤ 10) (D0 : 0 ≤ md) (D1 : md ≤ 10) {a b d n x : Int} (a0 : 0 ≤ a) (a1 : a ≤ ma) (b0 : 0 ≤ b) (b1 : b ≤ mb) (d0 : 0 ≤ d) (d1 : d ≤ md) (n0 : 0 ≤ n) (n1 : n ≤ a + b + d) (ih : ∀ (h : am_H) (l : am_L) (a' b' d' n' : Int), a' + b' + d' > a + b + d → 0 ≤ a' → a' ≤ ma → 0 ≤ b' → b' ≤ mb → 0 ≤ d' → d' ≤ md → n' ≤ a' + b' + d' → 0 ≤ n' → ju_I cst h0 ma mb md h (-1) → ly_hv cst h 20104 0 = some n' → hp_a l 0 94 → hp_i l 1 a' → hp_i l 2 b' → hp_i l 3 d' → hp_F cst strs (ju_Φ cst h0 ma mb md) (D + 1) M 216 l [] h) (h : am_H) (l : am_L) (y0 y1 y2 y3 : Int32) (hy0 : y0.toInt = d) (hy1 : y1.toInt = b) (hy2 : y2.toInt = a) (hy3 : y3.toInt = 4) (I : ju_I cst h0 ma mb md h (-1)) (hn : ly_hv cst h 20104 0 = some n) (hxv : ly_hv cst h 45056 (121 * a + 11 * b + d) = some x) (x0 : 0 ≤ x) (x1 : x ≤ 360) (R : jn_w (ly_hv cst h 44032) (ly_hv cst h 44288) (ly_hv cst h 45056) a b d x 4 1) (l0 : hp_a l 0 94) (l1 : hp_i l 1 a) (l2 : hp_i l 2 b) (l3 : hp_i l 3 d) (l4 : hp_i l 4 0) (l5 : hp_i l 5 6) (l6 : hp_i l 6 4) : hp_F cst strs (ju_Φ cst h0 ma mb md) (D + 1) M 283 l [.int y0, .int y1, .int y2, .int y3, .ref 94] h := by
  obtain ⟨r, hrun, ⟨x', r1, hx⟩, r2, r3, rhy, rfr, rlen⟩ := rc_run c1 (by omega) I.1 (xs := y3) (xa := y2) (xb := y1) (xd := y0) (by omega) (by omega) (by omega) (by omega) (by omega) (by omega) (by omega)
  refine hp_call (mi := 411) (pc := 283) (tg := 412) (na := 5) (c := 78) (ci := 12) (st0 := [.int y0, .int y1, .int y2, .int y3, .ref 94]) (st := []) (av := [.int y3, .int y2, .int y1, .int y0]) hM (by decide +kernel) I.1 rfl rfl rfl (by decide) hrun r2 r3 ?_
  rw [r1]
  rw [hy0, hy1, hy2, hy3] at hx
  have I2 := ju_I_0 I rhy rfr rlen
  obtain ⟨e1, e2, e3⟩ := jn_eqs rfl rfl rfl I.1 rhy rfr
  rw [← e1, ← e2] at hx
  obtain ⟨-, -, -, k0, k1, k2, T⟩ := id I2
  have hxz := hxv
  rw [← e3] at hxz
  have hnz := rfr _ _ _ rfl hn
  rw [← e1, ← e2, ← e3] at R
  rcases rcb4 (f := ly_hv cst r.2.1 44032) (a := a) (b := b) (d := d) k0 k1 k2 with hk | ⟨kk0, kk1, p0⟩
  · exact absurd R.1 (by rw [hk]; decide)
  · obtain ⟨y, hyv, yy0, yy1, -⟩ := T (a + 0) (b + 0) (d + 1) (by omega) (by omega) (by omega) (by omega) (by omega) (by omega) (by omega)
    rw [show 121 * (a + 0) + 11 * (b + 0) + (d + 1) = 121 * a + 11 * b + d + 1 by omega] at hyv
    have he : x'.toInt + y = x := by
      obtain ⟨-, y2, h1, h2⟩ := R
      rw [hyv] at h1
      cases h1
      omega
    exact jw6e c hM hD rhy a b d ma mb md x'.toInt y n x' rfl a0 (by omega) b0 (by omega) d0 (by omega) A0 A1 B0 B1 D0 D1 (by omega) (by omega) yy0 (by omega) n0 (by omega) (by omega) k0 k1 k2 hyv (by rw [hxz]; congr 1; omega) hnz l0 l1 l2 l3 l4 l5 l6 (fun l' h2 u1 u2 u3 hn2 v0 v1 v2 v3 => ih h2 l' (a + 0) (b + 0) (d + 1) (n + 1) (by omega) (by omega) (by omega) (by omega) (by omega) (by omega) (by omega) (by omega) (by omega) (ju_I_arc rfl rfl rfl (jn_sub rfl) I2 u1 u2 u3) hn2 v0 (by rw [Int.add_zero]; exact v1) (by rw [Int.add_zero]; exact v2) v3)
theorem juq5 (c1 : hp_C cst strs D) (c : hp_C cst strs (D + 1)) (hM : m_P[411]? = some M) (hD : (5 : Int) ≤ ((D + 1 : Nat) : Int) + 1) (A0 : 0 ≤ ma) (A1 : ma ≤ 10) (B0 : 0 ≤ mb) (B1 : mb ≤ 10) (D0 : 0 ≤ md) (D1 : md ≤ 10) {a b d n x : Int} (a0 : 0 ≤ a) (a1 : a ≤ ma) (b0 : 0 ≤ b) (b1 : b ≤ mb) (d0 : 0 ≤ d) (d1 : d ≤ md) (n0 : 0 ≤ n) (n1 : n ≤ a + b + d) (ih : ∀ (h : am_H) (l : am_L) (a' b' d' n' : Int), a' + b' + d' > a + b + d → 0 ≤ a' → a' ≤ ma → 0 ≤ b' → b' ≤ mb → 0 ≤ d' → d' ≤ md → n' ≤ a' + b' + d' → 0 ≤ n' → ju_I cst h0 ma mb md h (-1) → ly_hv cst h 20104 0 = some n' → hp_a l 0 94 → hp_i l 1 a' → hp_i l 2 b' → hp_i l 3 d' → hp_F cst strs (ju_Φ cst h0 ma mb md) (D + 1) M 216 l [] h) (h : am_H) (l : am_L) (y0 y1 y2 y3 : Int32) (hy0 : y0.toInt = d) (hy1 : y1.toInt = b) (hy2 : y2.toInt = a) (hy3 : y3.toInt = 2) (I : ju_I cst h0 ma mb md h (-1)) (hn : ly_hv cst h 20104 0 = some n) (hxv : ly_hv cst h 45056 (121 * a + 11 * b + d) = some x) (x0 : 0 ≤ x) (x1 : x ≤ 360) (R : jn_w (ly_hv cst h 44032) (ly_hv cst h 44288) (ly_hv cst h 45056) a b d x 2 11 ∨ jn_w (ly_hv cst h 44032) (ly_hv cst h 44288) (ly_hv cst h 45056) a b d x 4 1) (l0 : hp_a l 0 94) (l1 : hp_i l 1 a) (l2 : hp_i l 2 b) (l3 : hp_i l 3 d) (l4 : hp_i l 4 0) (l5 : hp_i l 5 5) (l6 : hp_i l 6 2) : hp_F cst strs (ju_Φ cst h0 ma mb md) (D + 1) M 283 l [.int y0, .int y1, .int y2, .int y3, .ref 94] h := by
  obtain ⟨r, hrun, ⟨x', r1, hx⟩, r2, r3, rhy, rfr, rlen⟩ := rc_run c1 (by omega) I.1 (xs := y3) (xa := y2) (xb := y1) (xd := y0) (by omega) (by omega) (by omega) (by omega) (by omega) (by omega) (by omega)
  refine hp_call (mi := 411) (pc := 283) (tg := 412) (na := 5) (c := 78) (ci := 12) (st0 := [.int y0, .int y1, .int y2, .int y3, .ref 94]) (st := []) (av := [.int y3, .int y2, .int y1, .int y0]) hM (by decide +kernel) I.1 rfl rfl rfl (by decide) hrun r2 r3 ?_
  rw [r1]
  rw [hy0, hy1, hy2, hy3] at hx
  have I2 := ju_I_0 I rhy rfr rlen
  obtain ⟨e1, e2, e3⟩ := jn_eqs rfl rfl rfl I.1 rhy rfr
  rw [← e1, ← e2] at hx
  obtain ⟨-, -, -, k0, k1, k2, T⟩ := id I2
  have hxz := hxv
  rw [← e3] at hxz
  have hnz := rfr _ _ _ rfl hn
  rw [← e1, ← e2, ← e3] at R
  rcases rcb2 (f := ly_hv cst r.2.1 44032) (a := a) (b := b) (d := d) k0 k1 k2 with hk | ⟨kk0, kk1, p0⟩
  · have R2 := R.resolve_left (fun w => by have := w.1; rw [hk] at this; exact absurd this (by decide))
    exact jw5n c hM hD rhy a b d ma mb md x' (by omega) a0 (by omega) b0 (by omega) d0 (by omega) A0 A1 B0 B1 D0 D1 l0 l1 l2 l3 l4 l5 l6 (fun l' h2 z0 z1 z2 z3 w0 w1 w2 w3 u1 u2 u3 v0 v1 v2 v3 v4 v5 v6 => juq6 c1 c hM hD A0 A1 B0 B1 D0 D1 a0 a1 b0 b1 d0 d1 n0 n1 ih h2 l' z0 z1 z2 z3 w0 w1 w2 w3 (ju_I_0 I2 u1 u2 u3) (u2 _ _ _ rfl hnz) (u2 _ _ _ rfl hxz) x0 x1 (by obtain ⟨f1, f2, f3⟩ := jn_eqs rfl rfl rfl rhy u1 u2; rw [f1, f2, f3]; exact R2) v0 v1 v2 v3 v4 v5 v6)
  · obtain ⟨y, hyv, yy0, yy1, -⟩ := T (a + 0) (b + 1) (d + 0) (by omega) (by omega) (by omega) (by omega) (by omega) (by omega) (by omega)
    rw [show 121 * (a + 0) + 11 * (b + 1) + (d + 0) = 121 * a + 11 * b + d + 11 by omega] at hyv
    by_cases he : x'.toInt + y = x
    · exact jw5e c hM hD rhy a b d ma mb md x'.toInt y n x' rfl a0 (by omega) b0 (by omega) d0 (by omega) A0 A1 B0 B1 D0 D1 (by omega) (by omega) yy0 (by omega) n0 (by omega) (by omega) k0 k1 k2 hyv (by rw [hxz]; congr 1; omega) hnz l0 l1 l2 l3 l4 l5 l6 (fun l' h2 u1 u2 u3 hn2 v0 v1 v2 v3 => ih h2 l' (a + 0) (b + 1) (d + 0) (n + 1) (by omega) (by omega) (by omega) (by omega) (by omega) (by omega) (by omega) (by omega) (by omega) (ju_I_arc rfl rfl rfl (jn_sub rfl) I2 u1 u2 u3) hn2 v0 (by rw [Int.add_zero]; exact v1) v2 (by rw [Int.add_zero]; exact v3))
    · have R2 := R.resolve_left (fun w => by
        obtain ⟨-, y2, h1, h2⟩ := w
        rw [hyv] at h1
        cases h1
        exact he (by omega))
      exact jw5q c hM hD rhy a b d ma mb md x'.toInt y x x' rfl a0 (by omega) b0 (by omega) d0 (by omega) A0 A1 B0 B1 D0 D1 (by omega) (by omega) yy0 (by omega) x0 x1 (by omega) k0 k1 k2 hyv hxz (hp_ne (by omega)) l0 l1 l2 l3 l4 l5 l6 (fun l' h2 z0 z1 z2 z3 w0 w1 w2 w3 u1 u2 u3 v0 v1 v2 v3 v4 v5 v6 => juq6 c1 c hM hD A0 A1 B0 B1 D0 D1 a0 a1 b0 b1 d0 d1 n0 n1 ih h2 l' z0 z1 z2 z3 w0 w1 w2 w3 (ju_I_0 I2 u1 u2 u3) (u2 _ _ _ rfl hnz) (u2 _ _ _ rfl hxz) x0 x1 (by obtain ⟨f1, f2, f3⟩ := jn_eqs rfl rfl rfl rhy u1 u2; rw [f1, f2, f3]; exact R2) v0 v1 v2 v3 v4 v5 v6)
theorem juq4 (c1 : hp_C cst strs D) (c : hp_C cst strs (D + 1)) (hM : m_P[411]? = some M) (hD : (5 : Int) ≤ ((D + 1 : Nat) : Int) + 1) (A0 : 0 ≤ ma) (A1 : ma ≤ 10) (B0 : 0 ≤ mb) (B1 : mb ≤ 10) (D0 : 0 ≤ md) (D1 : md ≤ 10) {a b d n x : Int} (a0 : 0 ≤ a) (a1 : a ≤ ma) (b0 : 0 ≤ b) (b1 : b ≤ mb) (d0 : 0 ≤ d) (d1 : d ≤ md) (n0 : 0 ≤ n) (n1 : n ≤ a + b + d) (ih : ∀ (h : am_H) (l : am_L) (a' b' d' n' : Int), a' + b' + d' > a + b + d → 0 ≤ a' → a' ≤ ma → 0 ≤ b' → b' ≤ mb → 0 ≤ d' → d' ≤ md → n' ≤ a' + b' + d' → 0 ≤ n' → ju_I cst h0 ma mb md h (-1) → ly_hv cst h 20104 0 = some n' → hp_a l 0 94 → hp_i l 1 a' → hp_i l 2 b' → hp_i l 3 d' → hp_F cst strs (ju_Φ cst h0 ma mb md) (D + 1) M 216 l [] h) (h : am_H) (l : am_L) (y0 y1 y2 y3 : Int32) (hy0 : y0.toInt = d) (hy1 : y1.toInt = b) (hy2 : y2.toInt = a) (hy3 : y3.toInt = 1) (I : ju_I cst h0 ma mb md h (-1)) (hn : ly_hv cst h 20104 0 = some n) (hxv : ly_hv cst h 45056 (121 * a + 11 * b + d) = some x) (x0 : 0 ≤ x) (x1 : x ≤ 360) (R : jn_w (ly_hv cst h 44032) (ly_hv cst h 44288) (ly_hv cst h 45056) a b d x 1 121 ∨ jn_w (ly_hv cst h 44032) (ly_hv cst h 44288) (ly_hv cst h 45056) a b d x 2 11 ∨ jn_w (ly_hv cst h 44032) (ly_hv cst h 44288) (ly_hv cst h 45056) a b d x 4 1) (l0 : hp_a l 0 94) (l1 : hp_i l 1 a) (l2 : hp_i l 2 b) (l3 : hp_i l 3 d) (l4 : hp_i l 4 0) (l5 : hp_i l 5 4) (l6 : hp_i l 6 1) : hp_F cst strs (ju_Φ cst h0 ma mb md) (D + 1) M 283 l [.int y0, .int y1, .int y2, .int y3, .ref 94] h := by
  obtain ⟨r, hrun, ⟨x', r1, hx⟩, r2, r3, rhy, rfr, rlen⟩ := rc_run c1 (by omega) I.1 (xs := y3) (xa := y2) (xb := y1) (xd := y0) (by omega) (by omega) (by omega) (by omega) (by omega) (by omega) (by omega)
  refine hp_call (mi := 411) (pc := 283) (tg := 412) (na := 5) (c := 78) (ci := 12) (st0 := [.int y0, .int y1, .int y2, .int y3, .ref 94]) (st := []) (av := [.int y3, .int y2, .int y1, .int y0]) hM (by decide +kernel) I.1 rfl rfl rfl (by decide) hrun r2 r3 ?_
  rw [r1]
  rw [hy0, hy1, hy2, hy3] at hx
  have I2 := ju_I_0 I rhy rfr rlen
  obtain ⟨e1, e2, e3⟩ := jn_eqs rfl rfl rfl I.1 rhy rfr
  rw [← e1, ← e2] at hx
  obtain ⟨-, -, -, k0, k1, k2, T⟩ := id I2
  have hxz := hxv
  rw [← e3] at hxz
  have hnz := rfr _ _ _ rfl hn
  rw [← e1, ← e2, ← e3] at R
  rcases rcb1 (f := ly_hv cst r.2.1 44032) (a := a) (b := b) (d := d) k0 k1 k2 with hk | ⟨kk0, kk1, p0⟩
  · have R2 := R.resolve_left (fun w => by have := w.1; rw [hk] at this; exact absurd this (by decide))
    exact jw4n c hM hD rhy a b d ma mb md x' (by omega) a0 (by omega) b0 (by omega) d0 (by omega) A0 A1 B0 B1 D0 D1 l0 l1 l2 l3 l4 l5 l6 (fun l' h2 z0 z1 z2 z3 w0 w1 w2 w3 u1 u2 u3 v0 v1 v2 v3 v4 v5 v6 => juq5 c1 c hM hD A0 A1 B0 B1 D0 D1 a0 a1 b0 b1 d0 d1 n0 n1 ih h2 l' z0 z1 z2 z3 w0 w1 w2 w3 (ju_I_0 I2 u1 u2 u3) (u2 _ _ _ rfl hnz) (u2 _ _ _ rfl hxz) x0 x1 (by obtain ⟨f1, f2, f3⟩ := jn_eqs rfl rfl rfl rhy u1 u2; rw [f1, f2, f3]; exact R2) v0 v1 v2 v3 v4 v5 v6)
  · obtain ⟨y, hyv, yy0, yy1, -⟩ := T (a + 1) (b + 0) (d + 0) (by omega) (by omega) (by omega) (by omega) (by omega) (by omega) (by omega)
    rw [show 121 * (a + 1) + 11 * (b + 0) + (d + 0) = 121 * a + 11 * b + d + 121 by omega] at hyv
    by_cases he : x'.toInt + y = x
    · exact jw4e c hM hD rhy a b d ma mb md x'.toInt y n x' rfl a0 (by omega) b0 (by omega) d0 (by omega) A0 A1 B0 B1 D0 D1 (by omega) (by omega) yy0 (by omega) n0 (by omega) (by omega) k0 k1 k2 hyv (by rw [hxz]; congr 1; omega) hnz l0 l1 l2 l3 l4 l5 l6 (fun l' h2 u1 u2 u3 hn2 v0 v1 v2 v3 => ih h2 l' (a + 1) (b + 0) (d + 0) (n + 1) (by omega) (by omega) (by omega) (by omega) (by omega) (by omega) (by omega) (by omega) (by omega) (ju_I_arc rfl rfl rfl (jn_sub rfl) I2 u1 u2 u3) hn2 v0 v1 (by rw [Int.add_zero]; exact v2) (by rw [Int.add_zero]; exact v3))
    · have R2 := R.resolve_left (fun w => by
        obtain ⟨-, y2, h1, h2⟩ := w
        rw [hyv] at h1
        cases h1
        exact he (by omega))
      exact jw4q c hM hD rhy a b d ma mb md x'.toInt y x x' rfl a0 (by omega) b0 (by omega) d0 (by omega) A0 A1 B0 B1 D0 D1 (by omega) (by omega) yy0 (by omega) x0 x1 (by omega) k0 k1 k2 hyv hxz (hp_ne (by omega)) l0 l1 l2 l3 l4 l5 l6 (fun l' h2 z0 z1 z2 z3 w0 w1 w2 w3 u1 u2 u3 v0 v1 v2 v3 v4 v5 v6 => juq5 c1 c hM hD A0 A1 B0 B1 D0 D1 a0 a1 b0 b1 d0 d1 n0 n1 ih h2 l' z0 z1 z2 z3 w0 w1 w2 w3 (ju_I_0 I2 u1 u2 u3) (u2 _ _ _ rfl hnz) (u2 _ _ _ rfl hxz) x0 x1 (by obtain ⟨f1, f2, f3⟩ := jn_eqs rfl rfl rfl rhy u1 u2; rw [f1, f2, f3]; exact R2) v0 v1 v2 v3 v4 v5 v6)
theorem juq3 (c1 : hp_C cst strs D) (c : hp_C cst strs (D + 1)) (hM : m_P[411]? = some M) (hD : (5 : Int) ≤ ((D + 1 : Nat) : Int) + 1) (A0 : 0 ≤ ma) (A1 : ma ≤ 10) (B0 : 0 ≤ mb) (B1 : mb ≤ 10) (D0 : 0 ≤ md) (D1 : md ≤ 10) {a b d n x : Int} (a0 : 0 ≤ a) (a1 : a ≤ ma) (b0 : 0 ≤ b) (b1 : b ≤ mb) (d0 : 0 ≤ d) (d1 : d ≤ md) (n0 : 0 ≤ n) (n1 : n ≤ a + b + d) (ih : ∀ (h : am_H) (l : am_L) (a' b' d' n' : Int), a' + b' + d' > a + b + d → 0 ≤ a' → a' ≤ ma → 0 ≤ b' → b' ≤ mb → 0 ≤ d' → d' ≤ md → n' ≤ a' + b' + d' → 0 ≤ n' → ju_I cst h0 ma mb md h (-1) → ly_hv cst h 20104 0 = some n' → hp_a l 0 94 → hp_i l 1 a' → hp_i l 2 b' → hp_i l 3 d' → hp_F cst strs (ju_Φ cst h0 ma mb md) (D + 1) M 216 l [] h) (h : am_H) (l : am_L) (y0 y1 y2 y3 : Int32) (hy0 : y0.toInt = d) (hy1 : y1.toInt = b) (hy2 : y2.toInt = a) (hy3 : y3.toInt = 6) (I : ju_I cst h0 ma mb md h (-1)) (hn : ly_hv cst h 20104 0 = some n) (hxv : ly_hv cst h 45056 (121 * a + 11 * b + d) = some x) (x0 : 0 ≤ x) (x1 : x ≤ 360) (R : jn_w (ly_hv cst h 44032) (ly_hv cst h 44288) (ly_hv cst h 45056) a b d x 6 12 ∨ jn_w (ly_hv cst h 44032) (ly_hv cst h 44288) (ly_hv cst h 45056) a b d x 1 121 ∨ jn_w (ly_hv cst h 44032) (ly_hv cst h 44288) (ly_hv cst h 45056) a b d x 2 11 ∨ jn_w (ly_hv cst h 44032) (ly_hv cst h 44288) (ly_hv cst h 45056) a b d x 4 1) (l0 : hp_a l 0 94) (l1 : hp_i l 1 a) (l2 : hp_i l 2 b) (l3 : hp_i l 3 d) (l4 : hp_i l 4 0) (l5 : hp_i l 5 3) (l6 : hp_i l 6 6) : hp_F cst strs (ju_Φ cst h0 ma mb md) (D + 1) M 283 l [.int y0, .int y1, .int y2, .int y3, .ref 94] h := by
  obtain ⟨r, hrun, ⟨x', r1, hx⟩, r2, r3, rhy, rfr, rlen⟩ := rc_run c1 (by omega) I.1 (xs := y3) (xa := y2) (xb := y1) (xd := y0) (by omega) (by omega) (by omega) (by omega) (by omega) (by omega) (by omega)
  refine hp_call (mi := 411) (pc := 283) (tg := 412) (na := 5) (c := 78) (ci := 12) (st0 := [.int y0, .int y1, .int y2, .int y3, .ref 94]) (st := []) (av := [.int y3, .int y2, .int y1, .int y0]) hM (by decide +kernel) I.1 rfl rfl rfl (by decide) hrun r2 r3 ?_
  rw [r1]
  rw [hy0, hy1, hy2, hy3] at hx
  have I2 := ju_I_0 I rhy rfr rlen
  obtain ⟨e1, e2, e3⟩ := jn_eqs rfl rfl rfl I.1 rhy rfr
  rw [← e1, ← e2] at hx
  obtain ⟨-, -, -, k0, k1, k2, T⟩ := id I2
  have hxz := hxv
  rw [← e3] at hxz
  have hnz := rfr _ _ _ rfl hn
  rw [← e1, ← e2, ← e3] at R
  rcases rcb6 (f := ly_hv cst r.2.1 44032) (a := a) (b := b) (d := d) k0 k1 k2 with hk | ⟨kk0, kk1, ⟨p0, p1⟩⟩
  · have R2 := R.resolve_left (fun w => by have := w.1; rw [hk] at this; exact absurd this (by decide))
    exact jw3n c hM hD rhy a b d ma mb md x' (by omega) a0 (by omega) b0 (by omega) d0 (by omega) A0 A1 B0 B1 D0 D1 l0 l1 l2 l3 l4 l5 l6 (fun l' h2 z0 z1 z2 z3 w0 w1 w2 w3 u1 u2 u3 v0 v1 v2 v3 v4 v5 v6 => juq4 c1 c hM hD A0 A1 B0 B1 D0 D1 a0 a1 b0 b1 d0 d1 n0 n1 ih h2 l' z0 z1 z2 z3 w0 w1 w2 w3 (ju_I_0 I2 u1 u2 u3) (u2 _ _ _ rfl hnz) (u2 _ _ _ rfl hxz) x0 x1 (by obtain ⟨f1, f2, f3⟩ := jn_eqs rfl rfl rfl rhy u1 u2; rw [f1, f2, f3]; exact R2) v0 v1 v2 v3 v4 v5 v6)
  · obtain ⟨y, hyv, yy0, yy1, -⟩ := T (a + 0) (b + 1) (d + 1) (by omega) (by omega) (by omega) (by omega) (by omega) (by omega) (by omega)
    rw [show 121 * (a + 0) + 11 * (b + 1) + (d + 1) = 121 * a + 11 * b + d + 12 by omega] at hyv
    by_cases he : x'.toInt + y = x
    · exact jw3e c hM hD rhy a b d ma mb md x'.toInt y n x' rfl a0 (by omega) b0 (by omega) d0 (by omega) A0 A1 B0 B1 D0 D1 (by omega) (by omega) yy0 (by omega) n0 (by omega) (by omega) (by omega) k0 k1 k2 hyv (by rw [hxz]; congr 1; omega) hnz l0 l1 l2 l3 l4 l5 l6 (fun l' h2 u1 u2 u3 hn2 v0 v1 v2 v3 => ih h2 l' (a + 0) (b + 1) (d + 1) (n + 1) (by omega) (by omega) (by omega) (by omega) (by omega) (by omega) (by omega) (by omega) (by omega) (ju_I_arc rfl rfl rfl (jn_sub rfl) I2 u1 u2 u3) hn2 v0 (by rw [Int.add_zero]; exact v1) v2 v3)
    · have R2 := R.resolve_left (fun w => by
        obtain ⟨-, y2, h1, h2⟩ := w
        rw [hyv] at h1
        cases h1
        exact he (by omega))
      exact jw3q c hM hD rhy a b d ma mb md x'.toInt y x x' rfl a0 (by omega) b0 (by omega) d0 (by omega) A0 A1 B0 B1 D0 D1 (by omega) (by omega) yy0 (by omega) x0 x1 (by omega) (by omega) k0 k1 k2 hyv hxz (hp_ne (by omega)) l0 l1 l2 l3 l4 l5 l6 (fun l' h2 z0 z1 z2 z3 w0 w1 w2 w3 u1 u2 u3 v0 v1 v2 v3 v4 v5 v6 => juq4 c1 c hM hD A0 A1 B0 B1 D0 D1 a0 a1 b0 b1 d0 d1 n0 n1 ih h2 l' z0 z1 z2 z3 w0 w1 w2 w3 (ju_I_0 I2 u1 u2 u3) (u2 _ _ _ rfl hnz) (u2 _ _ _ rfl hxz) x0 x1 (by obtain ⟨f1, f2, f3⟩ := jn_eqs rfl rfl rfl rhy u1 u2; rw [f1, f2, f3]; exact R2) v0 v1 v2 v3 v4 v5 v6)
theorem juq2 (c1 : hp_C cst strs D) (c : hp_C cst strs (D + 1)) (hM : m_P[411]? = some M) (hD : (5 : Int) ≤ ((D + 1 : Nat) : Int) + 1) (A0 : 0 ≤ ma) (A1 : ma ≤ 10) (B0 : 0 ≤ mb) (B1 : mb ≤ 10) (D0 : 0 ≤ md) (D1 : md ≤ 10) {a b d n x : Int} (a0 : 0 ≤ a) (a1 : a ≤ ma) (b0 : 0 ≤ b) (b1 : b ≤ mb) (d0 : 0 ≤ d) (d1 : d ≤ md) (n0 : 0 ≤ n) (n1 : n ≤ a + b + d) (ih : ∀ (h : am_H) (l : am_L) (a' b' d' n' : Int), a' + b' + d' > a + b + d → 0 ≤ a' → a' ≤ ma → 0 ≤ b' → b' ≤ mb → 0 ≤ d' → d' ≤ md → n' ≤ a' + b' + d' → 0 ≤ n' → ju_I cst h0 ma mb md h (-1) → ly_hv cst h 20104 0 = some n' → hp_a l 0 94 → hp_i l 1 a' → hp_i l 2 b' → hp_i l 3 d' → hp_F cst strs (ju_Φ cst h0 ma mb md) (D + 1) M 216 l [] h) (h : am_H) (l : am_L) (y0 y1 y2 y3 : Int32) (hy0 : y0.toInt = d) (hy1 : y1.toInt = b) (hy2 : y2.toInt = a) (hy3 : y3.toInt = 5) (I : ju_I cst h0 ma mb md h (-1)) (hn : ly_hv cst h 20104 0 = some n) (hxv : ly_hv cst h 45056 (121 * a + 11 * b + d) = some x) (x0 : 0 ≤ x) (x1 : x ≤ 360) (R : jn_w (ly_hv cst h 44032) (ly_hv cst h 44288) (ly_hv cst h 45056) a b d x 5 122 ∨ jn_w (ly_hv cst h 44032) (ly_hv cst h 44288) (ly_hv cst h 45056) a b d x 6 12 ∨ jn_w (ly_hv cst h 44032) (ly_hv cst h 44288) (ly_hv cst h 45056) a b d x 1 121 ∨ jn_w (ly_hv cst h 44032) (ly_hv cst h 44288) (ly_hv cst h 45056) a b d x 2 11 ∨ jn_w (ly_hv cst h 44032) (ly_hv cst h 44288) (ly_hv cst h 45056) a b d x 4 1) (l0 : hp_a l 0 94) (l1 : hp_i l 1 a) (l2 : hp_i l 2 b) (l3 : hp_i l 3 d) (l4 : hp_i l 4 0) (l5 : hp_i l 5 2) (l6 : hp_i l 6 5) : hp_F cst strs (ju_Φ cst h0 ma mb md) (D + 1) M 283 l [.int y0, .int y1, .int y2, .int y3, .ref 94] h := by
  obtain ⟨r, hrun, ⟨x', r1, hx⟩, r2, r3, rhy, rfr, rlen⟩ := rc_run c1 (by omega) I.1 (xs := y3) (xa := y2) (xb := y1) (xd := y0) (by omega) (by omega) (by omega) (by omega) (by omega) (by omega) (by omega)
  refine hp_call (mi := 411) (pc := 283) (tg := 412) (na := 5) (c := 78) (ci := 12) (st0 := [.int y0, .int y1, .int y2, .int y3, .ref 94]) (st := []) (av := [.int y3, .int y2, .int y1, .int y0]) hM (by decide +kernel) I.1 rfl rfl rfl (by decide) hrun r2 r3 ?_
  rw [r1]
  rw [hy0, hy1, hy2, hy3] at hx
  have I2 := ju_I_0 I rhy rfr rlen
  obtain ⟨e1, e2, e3⟩ := jn_eqs rfl rfl rfl I.1 rhy rfr
  rw [← e1, ← e2] at hx
  obtain ⟨-, -, -, k0, k1, k2, T⟩ := id I2
  have hxz := hxv
  rw [← e3] at hxz
  have hnz := rfr _ _ _ rfl hn
  rw [← e1, ← e2, ← e3] at R
  rcases rcb5 (f := ly_hv cst r.2.1 44032) (a := a) (b := b) (d := d) k0 k1 k2 with hk | ⟨kk0, kk1, ⟨p0, p1⟩⟩
  · have R2 := R.resolve_left (fun w => by have := w.1; rw [hk] at this; exact absurd this (by decide))
    exact jw2n c hM hD rhy a b d ma mb md x' (by omega) a0 (by omega) b0 (by omega) d0 (by omega) A0 A1 B0 B1 D0 D1 l0 l1 l2 l3 l4 l5 l6 (fun l' h2 z0 z1 z2 z3 w0 w1 w2 w3 u1 u2 u3 v0 v1 v2 v3 v4 v5 v6 => juq3 c1 c hM hD A0 A1 B0 B1 D0 D1 a0 a1 b0 b1 d0 d1 n0 n1 ih h2 l' z0 z1 z2 z3 w0 w1 w2 w3 (ju_I_0 I2 u1 u2 u3) (u2 _ _ _ rfl hnz) (u2 _ _ _ rfl hxz) x0 x1 (by obtain ⟨f1, f2, f3⟩ := jn_eqs rfl rfl rfl rhy u1 u2; rw [f1, f2, f3]; exact R2) v0 v1 v2 v3 v4 v5 v6)
  · obtain ⟨y, hyv, yy0, yy1, -⟩ := T (a + 1) (b + 0) (d + 1) (by omega) (by omega) (by omega) (by omega) (by omega) (by omega) (by omega)
    rw [show 121 * (a + 1) + 11 * (b + 0) + (d + 1) = 121 * a + 11 * b + d + 122 by omega] at hyv
    by_cases he : x'.toInt + y = x
    · exact jw2e c hM hD rhy a b d ma mb md x'.toInt y n x' rfl a0 (by omega) b0 (by omega) d0 (by omega) A0 A1 B0 B1 D0 D1 (by omega) (by omega) yy0 (by omega) n0 (by omega) (by omega) (by omega) k0 k1 k2 hyv (by rw [hxz]; congr 1; omega) hnz l0 l1 l2 l3 l4 l5 l6 (fun l' h2 u1 u2 u3 hn2 v0 v1 v2 v3 => ih h2 l' (a + 1) (b + 0) (d + 1) (n + 1) (by omega) (by omega) (by omega) (by omega) (by omega) (by omega) (by omega) (by omega) (by omega) (ju_I_arc rfl rfl rfl (jn_sub rfl) I2 u1 u2 u3) hn2 v0 v1 (by rw [Int.add_zero]; exact v2) v3)
    · have R2 := R.resolve_left (fun w => by
        obtain ⟨-, y2, h1, h2⟩ := w
        rw [hyv] at h1
        cases h1
        exact he (by omega))
      exact jw2q c hM hD rhy a b d ma mb md x'.toInt y x x' rfl a0 (by omega) b0 (by omega) d0 (by omega) A0 A1 B0 B1 D0 D1 (by omega) (by omega) yy0 (by omega) x0 x1 (by omega) (by omega) k0 k1 k2 hyv hxz (hp_ne (by omega)) l0 l1 l2 l3 l4 l5 l6 (fun l' h2 z0 z1 z2 z3 w0 w1 w2 w3 u1 u2 u3 v0 v1 v2 v3 v4 v5 v6 => juq3 c1 c hM hD A0 A1 B0 B1 D0 D1 a0 a1 b0 b1 d0 d1 n0 n1 ih h2 l' z0 z1 z2 z3 w0 w1 w2 w3 (ju_I_0 I2 u1 u2 u3) (u2 _ _ _ rfl hnz) (u2 _ _ _ rfl hxz) x0 x1 (by obtain ⟨f1, f2, f3⟩ := jn_eqs rfl rfl rfl rhy u1 u2; rw [f1, f2, f3]; exact R2) v0 v1 v2 v3 v4 v5 v6)
theorem juq1 (c1 : hp_C cst strs D) (c : hp_C cst strs (D + 1)) (hM : m_P[411]? = some M) (hD : (5 : Int) ≤ ((D + 1 : Nat) : Int) + 1) (A0 : 0 ≤ ma) (A1 : ma ≤ 10) (B0 : 0 ≤ mb) (B1 : mb ≤ 10) (D0 : 0 ≤ md) (D1 : md ≤ 10) {a b d n x : Int} (a0 : 0 ≤ a) (a1 : a ≤ ma) (b0 : 0 ≤ b) (b1 : b ≤ mb) (d0 : 0 ≤ d) (d1 : d ≤ md) (n0 : 0 ≤ n) (n1 : n ≤ a + b + d) (ih : ∀ (h : am_H) (l : am_L) (a' b' d' n' : Int), a' + b' + d' > a + b + d → 0 ≤ a' → a' ≤ ma → 0 ≤ b' → b' ≤ mb → 0 ≤ d' → d' ≤ md → n' ≤ a' + b' + d' → 0 ≤ n' → ju_I cst h0 ma mb md h (-1) → ly_hv cst h 20104 0 = some n' → hp_a l 0 94 → hp_i l 1 a' → hp_i l 2 b' → hp_i l 3 d' → hp_F cst strs (ju_Φ cst h0 ma mb md) (D + 1) M 216 l [] h) (h : am_H) (l : am_L) (y0 y1 y2 y3 : Int32) (hy0 : y0.toInt = d) (hy1 : y1.toInt = b) (hy2 : y2.toInt = a) (hy3 : y3.toInt = 3) (I : ju_I cst h0 ma mb md h (-1)) (hn : ly_hv cst h 20104 0 = some n) (hxv : ly_hv cst h 45056 (121 * a + 11 * b + d) = some x) (x0 : 0 ≤ x) (x1 : x ≤ 360) (R : jn_w (ly_hv cst h 44032) (ly_hv cst h 44288) (ly_hv cst h 45056) a b d x 3 132 ∨ jn_w (ly_hv cst h 44032) (ly_hv cst h 44288) (ly_hv cst h 45056) a b d x 5 122 ∨ jn_w (ly_hv cst h 44032) (ly_hv cst h 44288) (ly_hv cst h 45056) a b d x 6 12 ∨ jn_w (ly_hv cst h 44032) (ly_hv cst h 44288) (ly_hv cst h 45056) a b d x 1 121 ∨ jn_w (ly_hv cst h 44032) (ly_hv cst h 44288) (ly_hv cst h 45056) a b d x 2 11 ∨ jn_w (ly_hv cst h 44032) (ly_hv cst h 44288) (ly_hv cst h 45056) a b d x 4 1) (l0 : hp_a l 0 94) (l1 : hp_i l 1 a) (l2 : hp_i l 2 b) (l3 : hp_i l 3 d) (l4 : hp_i l 4 0) (l5 : hp_i l 5 1) (l6 : hp_i l 6 3) : hp_F cst strs (ju_Φ cst h0 ma mb md) (D + 1) M 283 l [.int y0, .int y1, .int y2, .int y3, .ref 94] h := by
  obtain ⟨r, hrun, ⟨x', r1, hx⟩, r2, r3, rhy, rfr, rlen⟩ := rc_run c1 (by omega) I.1 (xs := y3) (xa := y2) (xb := y1) (xd := y0) (by omega) (by omega) (by omega) (by omega) (by omega) (by omega) (by omega)
  refine hp_call (mi := 411) (pc := 283) (tg := 412) (na := 5) (c := 78) (ci := 12) (st0 := [.int y0, .int y1, .int y2, .int y3, .ref 94]) (st := []) (av := [.int y3, .int y2, .int y1, .int y0]) hM (by decide +kernel) I.1 rfl rfl rfl (by decide) hrun r2 r3 ?_
  rw [r1]
  rw [hy0, hy1, hy2, hy3] at hx
  have I2 := ju_I_0 I rhy rfr rlen
  obtain ⟨e1, e2, e3⟩ := jn_eqs rfl rfl rfl I.1 rhy rfr
  rw [← e1, ← e2] at hx
  obtain ⟨-, -, -, k0, k1, k2, T⟩ := id I2
  have hxz := hxv
  rw [← e3] at hxz
  have hnz := rfr _ _ _ rfl hn
  rw [← e1, ← e2, ← e3] at R
  rcases rcb3 (f := ly_hv cst r.2.1 44032) (a := a) (b := b) (d := d) k0 k1 k2 with hk | ⟨kk0, kk1, ⟨p0, p1⟩⟩
  · have R2 := R.resolve_left (fun w => by have := w.1; rw [hk] at this; exact absurd this (by decide))
    exact jw1n c hM hD rhy a b d ma mb md x' (by omega) a0 (by omega) b0 (by omega) d0 (by omega) A0 A1 B0 B1 D0 D1 l0 l1 l2 l3 l4 l5 l6 (fun l' h2 z0 z1 z2 z3 w0 w1 w2 w3 u1 u2 u3 v0 v1 v2 v3 v4 v5 v6 => juq2 c1 c hM hD A0 A1 B0 B1 D0 D1 a0 a1 b0 b1 d0 d1 n0 n1 ih h2 l' z0 z1 z2 z3 w0 w1 w2 w3 (ju_I_0 I2 u1 u2 u3) (u2 _ _ _ rfl hnz) (u2 _ _ _ rfl hxz) x0 x1 (by obtain ⟨f1, f2, f3⟩ := jn_eqs rfl rfl rfl rhy u1 u2; rw [f1, f2, f3]; exact R2) v0 v1 v2 v3 v4 v5 v6)
  · obtain ⟨y, hyv, yy0, yy1, -⟩ := T (a + 1) (b + 1) (d + 0) (by omega) (by omega) (by omega) (by omega) (by omega) (by omega) (by omega)
    rw [show 121 * (a + 1) + 11 * (b + 1) + (d + 0) = 121 * a + 11 * b + d + 132 by omega] at hyv
    by_cases he : x'.toInt + y = x
    · exact jw1e c hM hD rhy a b d ma mb md x'.toInt y n x' rfl a0 (by omega) b0 (by omega) d0 (by omega) A0 A1 B0 B1 D0 D1 (by omega) (by omega) yy0 (by omega) n0 (by omega) (by omega) (by omega) k0 k1 k2 hyv (by rw [hxz]; congr 1; omega) hnz l0 l1 l2 l3 l4 l5 l6 (fun l' h2 u1 u2 u3 hn2 v0 v1 v2 v3 => ih h2 l' (a + 1) (b + 1) (d + 0) (n + 1) (by omega) (by omega) (by omega) (by omega) (by omega) (by omega) (by omega) (by omega) (by omega) (ju_I_arc rfl rfl rfl (jn_sub rfl) I2 u1 u2 u3) hn2 v0 v1 v2 (by rw [Int.add_zero]; exact v3))
    · have R2 := R.resolve_left (fun w => by
        obtain ⟨-, y2, h1, h2⟩ := w
        rw [hyv] at h1
        cases h1
        exact he (by omega))
      exact jw1q c hM hD rhy a b d ma mb md x'.toInt y x x' rfl a0 (by omega) b0 (by omega) d0 (by omega) A0 A1 B0 B1 D0 D1 (by omega) (by omega) yy0 (by omega) x0 x1 (by omega) (by omega) k0 k1 k2 hyv hxz (hp_ne (by omega)) l0 l1 l2 l3 l4 l5 l6 (fun l' h2 z0 z1 z2 z3 w0 w1 w2 w3 u1 u2 u3 v0 v1 v2 v3 v4 v5 v6 => juq2 c1 c hM hD A0 A1 B0 B1 D0 D1 a0 a1 b0 b1 d0 d1 n0 n1 ih h2 l' z0 z1 z2 z3 w0 w1 w2 w3 (ju_I_0 I2 u1 u2 u3) (u2 _ _ _ rfl hnz) (u2 _ _ _ rfl hxz) x0 x1 (by obtain ⟨f1, f2, f3⟩ := jn_eqs rfl rfl rfl rhy u1 u2; rw [f1, f2, f3]; exact R2) v0 v1 v2 v3 v4 v5 v6)
theorem juq0 (c1 : hp_C cst strs D) (c : hp_C cst strs (D + 1)) (hM : m_P[411]? = some M) (hD : (5 : Int) ≤ ((D + 1 : Nat) : Int) + 1) (A0 : 0 ≤ ma) (A1 : ma ≤ 10) (B0 : 0 ≤ mb) (B1 : mb ≤ 10) (D0 : 0 ≤ md) (D1 : md ≤ 10) {a b d n x : Int} (a0 : 0 ≤ a) (a1 : a ≤ ma) (b0 : 0 ≤ b) (b1 : b ≤ mb) (d0 : 0 ≤ d) (d1 : d ≤ md) (n0 : 0 ≤ n) (n1 : n ≤ a + b + d) (ih : ∀ (h : am_H) (l : am_L) (a' b' d' n' : Int), a' + b' + d' > a + b + d → 0 ≤ a' → a' ≤ ma → 0 ≤ b' → b' ≤ mb → 0 ≤ d' → d' ≤ md → n' ≤ a' + b' + d' → 0 ≤ n' → ju_I cst h0 ma mb md h (-1) → ly_hv cst h 20104 0 = some n' → hp_a l 0 94 → hp_i l 1 a' → hp_i l 2 b' → hp_i l 3 d' → hp_F cst strs (ju_Φ cst h0 ma mb md) (D + 1) M 216 l [] h) (h : am_H) (l : am_L) (y0 y1 y2 y3 : Int32) (hy0 : y0.toInt = d) (hy1 : y1.toInt = b) (hy2 : y2.toInt = a) (hy3 : y3.toInt = 7) (I : ju_I cst h0 ma mb md h (-1)) (hn : ly_hv cst h 20104 0 = some n) (hxv : ly_hv cst h 45056 (121 * a + 11 * b + d) = some x) (x0 : 0 ≤ x) (x1 : x ≤ 360) (R : jn_w (ly_hv cst h 44032) (ly_hv cst h 44288) (ly_hv cst h 45056) a b d x 7 133 ∨ jn_w (ly_hv cst h 44032) (ly_hv cst h 44288) (ly_hv cst h 45056) a b d x 3 132 ∨ jn_w (ly_hv cst h 44032) (ly_hv cst h 44288) (ly_hv cst h 45056) a b d x 5 122 ∨ jn_w (ly_hv cst h 44032) (ly_hv cst h 44288) (ly_hv cst h 45056) a b d x 6 12 ∨ jn_w (ly_hv cst h 44032) (ly_hv cst h 44288) (ly_hv cst h 45056) a b d x 1 121 ∨ jn_w (ly_hv cst h 44032) (ly_hv cst h 44288) (ly_hv cst h 45056) a b d x 2 11 ∨ jn_w (ly_hv cst h 44032) (ly_hv cst h 44288) (ly_hv cst h 45056) a b d x 4 1) (l0 : hp_a l 0 94) (l1 : hp_i l 1 a) (l2 : hp_i l 2 b) (l3 : hp_i l 3 d) (l4 : hp_i l 4 0) (l5 : hp_i l 5 0) (l6 : hp_i l 6 7) : hp_F cst strs (ju_Φ cst h0 ma mb md) (D + 1) M 283 l [.int y0, .int y1, .int y2, .int y3, .ref 94] h := by
  obtain ⟨r, hrun, ⟨x', r1, hx⟩, r2, r3, rhy, rfr, rlen⟩ := rc_run c1 (by omega) I.1 (xs := y3) (xa := y2) (xb := y1) (xd := y0) (by omega) (by omega) (by omega) (by omega) (by omega) (by omega) (by omega)
  refine hp_call (mi := 411) (pc := 283) (tg := 412) (na := 5) (c := 78) (ci := 12) (st0 := [.int y0, .int y1, .int y2, .int y3, .ref 94]) (st := []) (av := [.int y3, .int y2, .int y1, .int y0]) hM (by decide +kernel) I.1 rfl rfl rfl (by decide) hrun r2 r3 ?_
  rw [r1]
  rw [hy0, hy1, hy2, hy3] at hx
  have I2 := ju_I_0 I rhy rfr rlen
  obtain ⟨e1, e2, e3⟩ := jn_eqs rfl rfl rfl I.1 rhy rfr
  rw [← e1, ← e2] at hx
  obtain ⟨-, -, -, k0, k1, k2, T⟩ := id I2
  have hxz := hxv
  rw [← e3] at hxz
  have hnz := rfr _ _ _ rfl hn
  rw [← e1, ← e2, ← e3] at R
  rcases rcb7 (f := ly_hv cst r.2.1 44032) (a := a) (b := b) (d := d) k0 k1 k2 with hk | ⟨kk0, kk1, ⟨p0, p1, p2⟩⟩
  · have R2 := R.resolve_left (fun w => by have := w.1; rw [hk] at this; exact absurd this (by decide))
    exact jw0n c hM hD rhy a b d ma mb md x' (by omega) a0 (by omega) b0 (by omega) d0 (by omega) A0 A1 B0 B1 D0 D1 l0 l1 l2 l3 l4 l5 l6 (fun l' h2 z0 z1 z2 z3 w0 w1 w2 w3 u1 u2 u3 v0 v1 v2 v3 v4 v5 v6 => juq1 c1 c hM hD A0 A1 B0 B1 D0 D1 a0 a1 b0 b1 d0 d1 n0 n1 ih h2 l' z0 z1 z2 z3 w0 w1 w2 w3 (ju_I_0 I2 u1 u2 u3) (u2 _ _ _ rfl hnz) (u2 _ _ _ rfl hxz) x0 x1 (by obtain ⟨f1, f2, f3⟩ := jn_eqs rfl rfl rfl rhy u1 u2; rw [f1, f2, f3]; exact R2) v0 v1 v2 v3 v4 v5 v6)
  · obtain ⟨y, hyv, yy0, yy1, -⟩ := T (a + 1) (b + 1) (d + 1) (by omega) (by omega) (by omega) (by omega) (by omega) (by omega) (by omega)
    rw [show 121 * (a + 1) + 11 * (b + 1) + (d + 1) = 121 * a + 11 * b + d + 133 by omega] at hyv
    by_cases he : x'.toInt + y = x
    · exact jw0e c hM hD rhy a b d ma mb md x'.toInt y n x' rfl a0 (by omega) b0 (by omega) d0 (by omega) A0 A1 B0 B1 D0 D1 (by omega) (by omega) yy0 (by omega) n0 (by omega) (by omega) (by omega) (by omega) k0 k1 k2 hyv (by rw [hxz]; congr 1; omega) hnz l0 l1 l2 l3 l4 l5 l6 (fun l' h2 u1 u2 u3 hn2 v0 v1 v2 v3 => ih h2 l' (a + 1) (b + 1) (d + 1) (n + 1) (by omega) (by omega) (by omega) (by omega) (by omega) (by omega) (by omega) (by omega) (by omega) (ju_I_arc rfl rfl rfl (jn_sub rfl) I2 u1 u2 u3) hn2 v0 v1 v2 v3)
    · have R2 := R.resolve_left (fun w => by
        obtain ⟨-, y2, h1, h2⟩ := w
        rw [hyv] at h1
        cases h1
        exact he (by omega))
      exact jw0q c hM hD rhy a b d ma mb md x'.toInt y x x' rfl a0 (by omega) b0 (by omega) d0 (by omega) A0 A1 B0 B1 D0 D1 (by omega) (by omega) yy0 (by omega) x0 x1 (by omega) (by omega) (by omega) k0 k1 k2 hyv hxz (hp_ne (by omega)) l0 l1 l2 l3 l4 l5 l6 (fun l' h2 z0 z1 z2 z3 w0 w1 w2 w3 u1 u2 u3 v0 v1 v2 v3 v4 v5 v6 => juq1 c1 c hM hD A0 A1 B0 B1 D0 D1 a0 a1 b0 b1 d0 d1 n0 n1 ih h2 l' z0 z1 z2 z3 w0 w1 w2 w3 (ju_I_0 I2 u1 u2 u3) (u2 _ _ _ rfl hnz) (u2 _ _ _ rfl hxz) x0 x1 (by obtain ⟨f1, f2, f3⟩ := jn_eqs rfl rfl rfl rhy u1 u2; rw [f1, f2, f3]; exact R2) v0 v1 v2 v3 v4 v5 v6)
theorem ju_one (c1 : hp_C cst strs D) (c : hp_C cst strs (D + 1)) (hM : m_P[411]? = some M) (hD : (5 : Int) ≤ ((D + 1 : Nat) : Int) + 1) (fin : ∀ (h : am_H) (l : am_L), ju_I cst h0 ma mb md h (-1) → ly_hv cst h 20104 0 = some 0 → hp_a l 0 94 → hp_i l 1 0 → hp_i l 2 0 → hp_i l 3 0 → hp_F cst strs Φ (D + 1) M 216 l [] h) (A0 : 0 ≤ ma) (A1 : ma ≤ 10) (B0 : 0 ≤ mb) (B1 : mb ≤ 10) (D0 : 0 ≤ md) (D1 : md ≤ 10) : ∀ (N : Nat) (h : am_H) (l : am_L) (a b d : Int), (200 * a + 15 * b + (d + 1)).toNat < N → 0 ≤ a → a ≤ ma → 0 ≤ b → b ≤ mb → -1 ≤ d → d ≤ md → ju_I cst h0 ma mb md h (121 * a + 11 * b + d) → hp_a l 0 94 → hp_i l 1 a → hp_i l 2 b → hp_i l 3 d → hp_F cst strs Φ (D + 1) M 29 l [] h := by
  intro N
  induction N with
  | zero => intro h l a b d hN; omega
  | succ N ih =>
    intro h l a b d hN a0 a1 b0 b1 d0 d1 I l0 l1 l2 l3
    obtain ⟨hy, fr, len, k0, k1, k2, T⟩ := id I
    by_cases hd : d = -1
    · subst hd
      by_cases hb : b = 0
      · subst hb
        by_cases ha : a = 0
        · subst ha
          refine jn8 c hM (by omega) hy ma mb md A0 A1 B0 B1 D0 D1 k0 k1 k2 l0 l1 l2 l3 (fun l' h' u1 u2 u3 hn v0 v1 v2 v3 => ?_)
          have I' := ju_I_arc rfl rfl rfl (jn_sub rfl) I u1 u2 u3
          exact fin h' l' I' hn v0 v1 v2 v3
        · refine jn7 c hM (by omega) hy a ma mb md (by omega) (by omega) A0 A1 B0 B1 D0 D1 k0 k1 k2 l0 l1 l2 l3 (fun l' h' u1 u2 u3 v0 v1 v2 v3 => ?_)
          refine ih h' l' (a - 1) mb md (by omega) (by omega) (by omega) B0 (by omega) (by omega) (by omega) ?_ v0 v1 v2 v3
          obtain ⟨p1, p2, p3, p4, p5, p6, p7⟩ := ju_I_0 I u1 u2 u3
          exact ⟨p1, p2, p3, p4, p5, p6, fun a' b' d' q1 q2 q3 q4 q5 q6 q7 => p7 a' b' d' q1 q2 q3 q4 q5 q6 (by omega)⟩
      · refine jn6 c hM (by omega) hy a b ma mb md a0 (by omega) (by omega) (by omega) A0 A1 B0 B1 D0 D1 k0 k1 k2 l0 l1 l2 l3 (fun l' h' u1 u2 u3 v0 v1 v2 v3 => ?_)
        refine ih h' l' a (b - 1) md (by omega) a0 a1 (by omega) (by omega) (by omega) (by omega) ?_ v0 v1 v2 v3
        obtain ⟨p1, p2, p3, p4, p5, p6, p7⟩ := ju_I_0 I u1 u2 u3
        exact ⟨p1, p2, p3, p4, p5, p6, fun a' b' d' q1 q2 q3 q4 q5 q6 q7 => p7 a' b' d' q1 q2 q3 q4 q5 q6 (by omega)⟩
    · have e0 : 0 ≤ d := by omega
      have ih' : ∀ (h : am_H) (l : am_L), ju_I cst h0 ma mb md h (121 * a + 11 * b + (d - 1)) → hp_a l 0 94 → hp_i l 1 a → hp_i l 2 b → hp_i l 3 (d - 1) → hp_F cst strs Φ (D + 1) M 29 l [] h := fun h l I' => ih h l a b (d - 1) (by omega) a0 a1 b0 b1 (by omega) (by omega) I'
      have go : ∀ (e : Int), (∀ h2, ju_I cst h0 ma mb md h2 (121 * a + 11 * b + d) → ju_h cst ma mb md a b d e 0 h2) → ∀ (l' : am_L) (h2 : am_H) (z0 z1 z2 z3 : Int32), z0.toInt = d → z1.toInt = b → z2.toInt = a → z3.toInt = 7 → ly_hy m_tt ly_TH h2 → ly_fr cst [] h h2 → h.length ≤ h2.length → hp_a l' 0 94 → hp_i l' 1 a → hp_i l' 2 b → hp_i l' 3 d → hp_i l' 4 e → hp_i l' 5 0 → hp_i l' 6 7 → hp_F cst strs Φ (D + 1) M 99 l' [.int z0, .int z1, .int z2, .int z3, .ref 94] h2 := by
        intro e H l' h2 z0 z1 z2 z3 w0 w1 w2 w3 u1 u2 u3 v0 v1 v2 v3 v4 v5 v6
        have I2 := ju_I_0 I u1 u2 u3
        exact jup0 c1 c hM hD A0 A1 B0 B1 D0 D1 a0 a1 b0 b1 e0 d1 ih' h2 l' z0 z1 z2 z3 e w0 w1 w2 w3 I2 (H h2 I2) v0 v1 v2 v3 v4 v5 v6
      have none : ¬ (a = ma ∧ b = mb ∧ d = md) → ∀ h2, ju_I cst h0 ma mb md h2 (121 * a + 11 * b + d) → ju_h cst ma mb md a b d (-1) 0 h2 := fun ne h2 _ => ⟨by omega, Or.inl rfl, fun q => absurd q ne, fun q => absurd q (by decide), fun q => absurd q (by decide), fun q => absurd q (by decide), fun q => absurd q (by decide), fun q => absurd q (by decide), fun q => absurd q (by decide), fun q => absurd q (by decide)⟩
      by_cases p1 : a < ma
      · exact jn2 c hM hD hy a b d ma mb md a0 (by omega) b0 (by omega) e0 (by omega) A0 A1 B0 B1 D0 D1 (by omega) (by omega) (by omega) k0 k1 k2 l0 l1 l2 l3 (go (-1) (none (by omega)))
      · have ea : a = ma := by omega
        subst ea
        by_cases p2 : b < mb
        · exact jn3 c hM hD hy b d a mb md b0 (by omega) e0 (by omega) A0 A1 B0 B1 D0 D1 (by omega) (by omega) k0 k1 k2 l0 l1 l2 l3 (go (-1) (none (by omega)))
        · have eb : b = mb := by omega
          subst eb
          by_cases p3 : d < md
          · exact jn4 c hM hD hy d a b md e0 (by omega) A0 A1 B0 B1 D0 D1 (by omega) k0 k1 k2 l0 l1 l2 l3 (go (-1) (none (by omega)))
          · have ed : d = md := by omega
            subst ed
            exact jn1 c hM hD hy a b d A0 A1 B0 B1 D0 D1 k0 k1 k2 l0 l1 l2 l3 (go 0 (fun h2 _ => ⟨by omega, Or.inr ⟨by omega, by omega, Or.inl ⟨rfl, rfl, rfl⟩⟩, fun _ => rfl, fun q => absurd q (by decide), fun q => absurd q (by decide), fun q => absurd q (by decide), fun q => absurd q (by decide), fun q => absurd q (by decide), fun q => absurd q (by decide), fun q => absurd q (by decide)⟩))
theorem ju_two (c1 : hp_C cst strs D) (c : hp_C cst strs (D + 1)) (hM : m_P[411]? = some M) (hD : (5 : Int) ≤ ((D + 1 : Nat) : Int) + 1) (hy0 : ly_hy m_tt ly_TH h0) (A0 : 0 ≤ ma) (A1 : ma ≤ 10) (B0 : 0 ≤ mb) (B1 : mb ≤ 10) (D0 : 0 ≤ md) (D1 : md ≤ 10) : ∀ (N : Nat) (h : am_H) (l : am_L) (a b d n : Int), (ma + mb + md - (a + b + d)).toNat < N → 0 ≤ a → a ≤ ma → 0 ≤ b → b ≤ mb → 0 ≤ d → d ≤ md → n ≤ a + b + d → 0 ≤ n → ju_I cst h0 ma mb md h (-1) → ly_hv cst h 20104 0 = some n → hp_a l 0 94 → hp_i l 1 a → hp_i l 2 b → hp_i l 3 d → hp_F cst strs (ju_Φ cst h0 ma mb md) (D + 1) M 216 l [] h := by
  intro N
  induction N with
  | zero => intro h l a b d n hN; omega
  | succ N ih =>
    intro h l a b d n hN a0 a1 b0 b1 d0 d1 n1 n0 I hn l0 l1 l2 l3
    obtain ⟨hy, fr, len, k0, k1, k2, T⟩ := id I
    have ih' : ∀ (h : am_H) (l : am_L) (a' b' d' n' : Int), a' + b' + d' > a + b + d → 0 ≤ a' → a' ≤ ma → 0 ≤ b' → b' ≤ mb → 0 ≤ d' → d' ≤ md → n' ≤ a' + b' + d' → 0 ≤ n' → ju_I cst h0 ma mb md h (-1) → ly_hv cst h 20104 0 = some n' → hp_a l 0 94 → hp_i l 1 a' → hp_i l 2 b' → hp_i l 3 d' → hp_F cst strs (ju_Φ cst h0 ma mb md) (D + 1) M 216 l [] h := fun h l a' b' d' n' g p1 p2 p3 p4 p5 p6 => ih h l a' b' d' n' (by omega) p1 p2 p3 p4 p5 p6
    obtain ⟨x, hx, x0, x1, hend, -, -⟩ := T a b d a0 a1 b0 b1 d0 d1 (by omega)
    have x3 : x ≤ 360 := by omega
    by_cases he : a = ma ∧ b = mb ∧ d = md
    · obtain ⟨rfl, rfl, rfl⟩ := he
      obtain ⟨y, hyv, y0, y1⟩ := hp_row (cst := cst) (i := 0) hy th_JC (by omega) (by omega)
      exact jn9 c hM (by omega) hy a b d y A0 A1 B0 B1 D0 D1 y0 y1 k0 k1 k2 hyv l0 l1 l2 l3 (fun h' z hz u1 u2 u3 => ⟨⟨z, rfl, ly_hv cst h 45056, by rw [← hp_same th_RL rfl hy0 hy fr, ← hp_same th_RM rfl hy0 hy fr]; exact T, by rw [hz]; exact hyv⟩, rfl, rfl, u1, ly_fr_tr fr (fun r i v hr e => u2 r i v (jn_sub rfl r hr) e), Nat.le_trans len u3⟩)
    · have X := hend.resolve_left he
      unfold jn_x at X
      have go : ∀ (l' : am_L) (h2 : am_H) (z0 z1 z2 z3 : Int32), z0.toInt = d → z1.toInt = b → z2.toInt = a → z3.toInt = 7 → ly_hy m_tt ly_TH h2 → ly_fr cst [] h h2 → h.length ≤ h2.length → hp_a l' 0 94 → hp_i l' 1 a → hp_i l' 2 b → hp_i l' 3 d → hp_i l' 4 0 → hp_i l' 5 0 → hp_i l' 6 7 → hp_F cst strs (ju_Φ cst h0 ma mb md) (D + 1) M 283 l' [.int z0, .int z1, .int z2, .int z3, .ref 94] h2 := by
        intro l' h2 z0 z1 z2 z3 w0 w1 w2 w3 u1 u2 u3 v0 v1 v2 v3 v4 v5 v6
        obtain ⟨f1, f2, f3⟩ := jn_eqs rfl rfl rfl hy u1 u2
        exact juq0 c1 c hM hD A0 A1 B0 B1 D0 D1 a0 a1 b0 b1 d0 d1 n0 n1 ih' h2 l' z0 z1 z2 z3 w0 w1 w2 w3 (ju_I_0 I u1 u2 u3) (u2 _ _ _ rfl hn) (u2 _ _ _ rfl hx) x0 x3 (by rw [f1, f2, f3]; exact X) v0 v1 v2 v3 v4 v5 v6
      by_cases p1 : a < ma
      · exact jna c hM hD hy a b d ma mb md a0 (by omega) b0 (by omega) d0 (by omega) A0 A1 B0 B1 D0 D1 (by omega) (by omega) (by omega) k0 k1 k2 l0 l1 l2 l3 go
      · have ea : a = ma := by omega
        subst ea
        by_cases p2 : b < mb
        · exact jnb c hM hD hy b d a mb md b0 (by omega) d0 (by omega) A0 A1 B0 B1 D0 D1 (by omega) (by omega) k0 k1 k2 l0 l1 l2 l3 go
        · have eb : b = mb := by omega
          subst eb
          exact jnc c hM hD hy d a b md d0 (by omega) A0 A1 B0 B1 D0 D1 (by omega) k0 k1 k2 l0 l1 l2 l3 go
end JU
theorem ju_run {cst : am_K} {strs : List Nat} {D : Nat} {h : am_H} (c1 : hp_C cst strs D) (c : hp_C cst strs (D + 1)) (hD : (5 : Int) ≤ (D : Int) + 1) (hy : ly_hy m_tt ly_TH h) : ∃ ma mb md, (ly_hv cst h 44288 0 = some ma ∧ ly_hv cst h 44288 1 = some mb ∧ ly_hv cst h 44288 2 = some md ∧ 0 ≤ ma ∧ 0 ≤ mb ∧ 0 ≤ md) ∧ ∃ r, am_Run cst m_cl m_tt m_P strs sx_bi (D + 1 + 1) 411 [.ref 94] h r ∧ ju_Φ cst h ma mb md r := by
  obtain ⟨M, hM, hsl⟩ := hp_M (mi := 411) (k := 1) (by decide +kernel)
  obtain ⟨ma, k0, A0, A1⟩ := hp_row (cst := cst) (i := 0) hy th_RM (by omega) (by omega)
  obtain ⟨mb, k1, B0, B1⟩ := hp_row (cst := cst) (i := 1) hy th_RM (by omega) (by omega)
  obtain ⟨md, k2, D0, D1⟩ := hp_row (cst := cst) (i := 2) hy th_RM (by omega) (by omega)
  have fin : hp_F cst strs (ju_Φ cst h ma mb md) (D + 1) M 0 (lv_args 0 [.ref 94]) [] h := by
    refine jn0 (Φ := ju_Φ cst h ma mb md) c hM (by omega) hy ma mb md A0 A1 B0 B1 D0 D1 k0 k1 k2 rfl (fun l' h' u1 u2 u3 v0 v1 v2 v3 => ?_)
    have I : ju_I cst h ma mb md h' (121 * ma + 11 * mb + md) := ju_I_0 (h := h) ⟨hy, ly_fr_rf h, Nat.le_refl _, k0, k1, k2, fun a' b' d' q1 q2 q3 q4 q5 q6 q7 => absurd q7 (by omega)⟩ u1 u2 u3
    exact ju_one c1 c hM (by omega) (fun h2 l2 I2 hn w0 w1 w2 w3 => ju_two c1 c hM (by omega) hy A0 A1 B0 B1 D0 D1 ((ma + mb + md - (0 + 0 + 0)).toNat + 1) h2 l2 0 0 0 0 (Nat.lt_succ_self _) (by omega) A0 (by omega) B0 (by omega) D0 (by omega) (by omega) I2 hn w0 w1 w2 w3) A0 A1 B0 B1 D0 D1 ((200 * ma + 15 * mb + (md + 1)).toNat + 1) h' l' ma mb md (Nat.lt_succ_self _) A0 (by omega) B0 (by omega) (by omega) (by omega) I v0 v1 v2 v3
  obtain ⟨n, r, hgo, hx, r2, r3, r4⟩ := fin
  simp only [Nat.zero_add] at r2 r3
  exact ⟨ma, mb, md, ⟨k0, k1, k2, A0, B0, D0⟩, r, Or.inr ⟨M, n, hM, hsl, hgo⟩, hx, r2, r3, r4⟩
