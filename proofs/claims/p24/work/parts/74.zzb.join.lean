/-! PRINTED by wip/p2/hp_join.py: join keeps its contract -/
theorem rcb7 {f g : Int → Option Int} {a b d ma mb md : Int} (k0 : g 0 = some ma) (k1 : g 1 = some mb) (k2 : g 2 = some md) : rc f g 7 a b d = -1 ∨ (0 ≤ rc f g 7 a b d ∧ rc f g 7 a b d ≤ 12 ∧ a < ma ∧ b < mb ∧ d < md) := by
  rw [rc_of (f := f) (s := 7) (a := a) (b := b) (d := d) k0 k1 k2]
  unfold rc_v
  rw [if_neg (by decide), if_neg (by decide), if_neg (by decide), if_neg (by decide), if_neg (by decide), if_neg (by decide)]
  by_cases h : a < ma ∧ b < mb ∧ d < md
  · right
    rw [if_pos h]
    have z0 := rc_cb ((f (b + 10)).getD 0) ((f a).getD 0)
    have z1 := rc_cb ((f (d + 20)).getD 0) ((f a).getD 0)
    have z2 := rc_cb ((f (d + 20)).getD 0) ((f (b + 10)).getD 0)
    exact ⟨by omega, by omega, h⟩
  · left
    rw [if_neg h]
theorem rcb3 {f g : Int → Option Int} {a b d ma mb md : Int} (k0 : g 0 = some ma) (k1 : g 1 = some mb) (k2 : g 2 = some md) : rc f g 3 a b d = -1 ∨ (0 ≤ rc f g 3 a b d ∧ rc f g 3 a b d ≤ 12 ∧ a < ma ∧ b < mb) := by
  rw [rc_of (f := f) (s := 3) (a := a) (b := b) (d := d) k0 k1 k2]
  unfold rc_v
  rw [if_neg (by decide), if_neg (by decide), if_neg (by decide), if_pos rfl]
  by_cases h : a < ma ∧ b < mb
  · right
    rw [if_pos h]
    have z0 := rc_cb ((f (b + 10)).getD 0) ((f a).getD 0)
    exact ⟨by omega, by omega, h⟩
  · left
    rw [if_neg h]
theorem rcb5 {f g : Int → Option Int} {a b d ma mb md : Int} (k0 : g 0 = some ma) (k1 : g 1 = some mb) (k2 : g 2 = some md) : rc f g 5 a b d = -1 ∨ (0 ≤ rc f g 5 a b d ∧ rc f g 5 a b d ≤ 12 ∧ a < ma ∧ d < md) := by
  rw [rc_of (f := f) (s := 5) (a := a) (b := b) (d := d) k0 k1 k2]
  unfold rc_v
  rw [if_neg (by decide), if_neg (by decide), if_neg (by decide), if_neg (by decide), if_pos rfl]
  by_cases h : a < ma ∧ d < md
  · right
    rw [if_pos h]
    have z0 := rc_cb ((f (d + 20)).getD 0) ((f a).getD 0)
    exact ⟨by omega, by omega, h⟩
  · left
    rw [if_neg h]
theorem rcb6 {f g : Int → Option Int} {a b d ma mb md : Int} (k0 : g 0 = some ma) (k1 : g 1 = some mb) (k2 : g 2 = some md) : rc f g 6 a b d = -1 ∨ (0 ≤ rc f g 6 a b d ∧ rc f g 6 a b d ≤ 12 ∧ b < mb ∧ d < md) := by
  rw [rc_of (f := f) (s := 6) (a := a) (b := b) (d := d) k0 k1 k2]
  unfold rc_v
  rw [if_neg (by decide), if_neg (by decide), if_neg (by decide), if_neg (by decide), if_neg (by decide), if_pos rfl]
  by_cases h : b < mb ∧ d < md
  · right
    rw [if_pos h]
    have z0 := rc_cb ((f (d + 20)).getD 0) ((f (b + 10)).getD 0)
    exact ⟨by omega, by omega, h⟩
  · left
    rw [if_neg h]
theorem rcb1 {f g : Int → Option Int} {a b d ma mb md : Int} (k0 : g 0 = some ma) (k1 : g 1 = some mb) (k2 : g 2 = some md) : rc f g 1 a b d = -1 ∨ (0 ≤ rc f g 1 a b d ∧ rc f g 1 a b d ≤ 12 ∧ a < ma) := by
  rw [rc_of (f := f) (s := 1) (a := a) (b := b) (d := d) k0 k1 k2]
  unfold rc_v
  rw [if_pos rfl]
  by_cases h : a < ma
  · right
    rw [if_pos h]
    exact ⟨by omega, by omega, h⟩
  · left
    rw [if_neg h]
theorem rcb2 {f g : Int → Option Int} {a b d ma mb md : Int} (k0 : g 0 = some ma) (k1 : g 1 = some mb) (k2 : g 2 = some md) : rc f g 2 a b d = -1 ∨ (0 ≤ rc f g 2 a b d ∧ rc f g 2 a b d ≤ 12 ∧ b < mb) := by
  rw [rc_of (f := f) (s := 2) (a := a) (b := b) (d := d) k0 k1 k2]
  unfold rc_v
  rw [if_neg (by decide), if_pos rfl]
  by_cases h : b < mb
  · right
    rw [if_pos h]
    exact ⟨by omega, by omega, h⟩
  · left
    rw [if_neg h]
theorem rcb4 {f g : Int → Option Int} {a b d ma mb md : Int} (k0 : g 0 = some ma) (k1 : g 1 = some mb) (k2 : g 2 = some md) : rc f g 4 a b d = -1 ∨ (0 ≤ rc f g 4 a b d ∧ rc f g 4 a b d ≤ 12 ∧ d < md) := by
  rw [rc_of (f := f) (s := 4) (a := a) (b := b) (d := d) k0 k1 k2]
  unfold rc_v
  rw [if_neg (by decide), if_neg (by decide), if_pos rfl]
  by_cases h : d < md
  · right
    rw [if_pos h]
    exact ⟨by omega, by omega, h⟩
  · left
    rw [if_neg h]
theorem rcp1 {f g : Int → Option Int} {a b d ma mb md : Int} (k0 : g 0 = some ma) (k1 : g 1 = some mb) (k2 : g 2 = some md) (h : a < ma) : 0 ≤ rc f g 1 a b d := by
  rw [rc_of (f := f) (s := 1) (a := a) (b := b) (d := d) k0 k1 k2]
  unfold rc_v
  rw [if_pos rfl, if_pos h]
  omega
theorem rcp2 {f g : Int → Option Int} {a b d ma mb md : Int} (k0 : g 0 = some ma) (k1 : g 1 = some mb) (k2 : g 2 = some md) (h : b < mb) : 0 ≤ rc f g 2 a b d := by
  rw [rc_of (f := f) (s := 2) (a := a) (b := b) (d := d) k0 k1 k2]
  unfold rc_v
  rw [if_neg (by decide), if_pos rfl, if_pos h]
  omega
theorem rcp4 {f g : Int → Option Int} {a b d ma mb md : Int} (k0 : g 0 = some ma) (k1 : g 1 = some mb) (k2 : g 2 = some md) (h : d < md) : 0 ≤ rc f g 4 a b d := by
  rw [rc_of (f := f) (s := 4) (a := a) (b := b) (d := d) k0 k1 k2]
  unfold rc_v
  rw [if_neg (by decide), if_neg (by decide), if_pos rfl, if_pos h]
  omega
def jn_w (f g j : Int → Option Int) (a b d y s o : Int) : Prop := 0 ≤ rc f g s a b d ∧ ∃ y', j (121 * a + 11 * b + d + o) = some y' ∧ y = rc f g s a b d + y'
def jn_x (f g j : Int → Option Int) (a b d y : Int) : Prop := jn_w f g j a b d y 7 133 ∨ jn_w f g j a b d y 3 132 ∨ jn_w f g j a b d y 5 122 ∨ jn_w f g j a b d y 6 12 ∨ jn_w f g j a b d y 1 121 ∨ jn_w f g j a b d y 2 11 ∨ jn_w f g j a b d y 4 1
def jn_ok (f g j : Int → Option Int) (ma mb md a b d : Int) : Prop := ∃ y, j (121 * a + 11 * b + d) = some y ∧ 0 ≤ y ∧ y ≤ 12 * ((ma - a) + (mb - b) + (md - d)) ∧ ((a = ma ∧ b = mb ∧ d = md) ∨ jn_x f g j a b d y)
def jn_T (f g j : Int → Option Int) (ma mb md z : Int) : Prop := ∀ a b d, 0 ≤ a → a ≤ ma → 0 ≤ b → b ≤ mb → 0 ≤ d → d ≤ md → z < 121 * a + 11 * b + d → jn_ok f g j ma mb md a b d
theorem jn_w_but {f g j j' : Int → Option Int} {a b d y s o z : Int} (h1 : z < 121 * a + 11 * b + d + o) (e : ∀ k, k ≠ z → j' k = j k) (w : jn_w f g j a b d y s o) : jn_w f g j' a b d y s o := by
  obtain ⟨w0, y', w1, w2⟩ := w
  exact ⟨w0, y', by rw [e _ (by omega)]; exact w1, w2⟩
theorem jn_x_but {f g j j' : Int → Option Int} {a b d y z : Int} (h1 : z ≤ 121 * a + 11 * b + d) (e : ∀ k, k ≠ z → j' k = j k) (x : jn_x f g j a b d y) : jn_x f g j' a b d y := by
  unfold jn_x at x ⊢
  rcases x with w | w | w | w | w | w | w
  · exact Or.inl (jn_w_but (by omega) e w)
  · exact Or.inr (Or.inl (jn_w_but (by omega) e w))
  · exact Or.inr (Or.inr (Or.inl (jn_w_but (by omega) e w)))
  · exact Or.inr (Or.inr (Or.inr (Or.inl (jn_w_but (by omega) e w))))
  · exact Or.inr (Or.inr (Or.inr (Or.inr (Or.inl (jn_w_but (by omega) e w)))))
  · exact Or.inr (Or.inr (Or.inr (Or.inr (Or.inr (Or.inl (jn_w_but (by omega) e w))))))
  · exact Or.inr (Or.inr (Or.inr (Or.inr (Or.inr (Or.inr (jn_w_but (by omega) e w))))))
theorem jn_T_put {f g j j' : Int → Option Int} {ma mb md a b d y : Int} (A1 : ma ≤ 10) (B1 : mb ≤ 10) (D1 : md ≤ 10) (a1 : a ≤ ma) (b1 : b ≤ mb) (d1 : d ≤ md) (a0 : 0 ≤ a) (b0 : 0 ≤ b) (d0 : 0 ≤ d) (T : jn_T f g j ma mb md (121 * a + 11 * b + d)) (y0 : 0 ≤ y) (y1 : y ≤ 12 * ((ma - a) + (mb - b) + (md - d))) (x : (a = ma ∧ b = mb ∧ d = md) ∨ jn_x f g j a b d y) (e : j' (121 * a + 11 * b + d) = some y) (e' : ∀ k, k ≠ 121 * a + 11 * b + d → j' k = j k) : jn_T f g j' ma mb md (121 * a + 11 * b + (d - 1)) := by
  intro a' b' d' h1 h2 h3 h4 h5 h6 h7
  by_cases q : 121 * a' + 11 * b' + d' = 121 * a + 11 * b + d
  · have ea : a' = a := by omega
    have eb : b' = b := by omega
    have ed : d' = d := by omega
    subst ea
    subst eb
    subst ed
    exact ⟨y, e, y0, y1, x.elim Or.inl (fun x => Or.inr (jn_x_but (Int.le_refl _) e' x))⟩
  · obtain ⟨y', g1, g2, g3, g4⟩ := T a' b' d' h1 h2 h3 h4 h5 h6 (by omega)
    exact ⟨y', by rw [e' _ q]; exact g1, g2, g3, g4.elim Or.inl (fun x => Or.inr (jn_x_but (by omega) e' x))⟩
abbrev jn_mods : List Nat := [20103, 20104, 44544, 44800, 45056]
def jn_I (cst : am_K) (h0 : am_H) (ma mb md : Int) (h : am_H) (z : Int) : Prop := ly_hy m_tt ly_TH h ∧ ly_fr cst jn_mods h0 h ∧ h0.length ≤ h.length ∧ ly_hv cst h 44288 0 = some ma ∧ ly_hv cst h 44288 1 = some mb ∧ ly_hv cst h 44288 2 = some md ∧ jn_T (ly_hv cst h 44032) (ly_hv cst h 44288) (ly_hv cst h 45056) ma mb md z
/-- the best so far, behind i sets -/
def jn_B (f g j : Int → Option Int) (ma mb md a b d e : Int) (i : Nat) : Prop := -1 ≤ e ∧ (e = -1 ∨ (0 ≤ e ∧ e ≤ 12 * ((ma - a) + (mb - b) + (md - d)) ∧ ((a = ma ∧ b = mb ∧ d = md) ∨ jn_x f g j a b d e))) ∧ ((a = ma ∧ b = mb ∧ d = md) → e ≠ -1) ∧ (5 ≤ i → 0 ≤ rc f g 1 a b d → e ≠ -1) ∧ (6 ≤ i → 0 ≤ rc f g 2 a b d → e ≠ -1) ∧ (7 ≤ i → 0 ≤ rc f g 4 a b d → e ≠ -1)
def jn_h (cst : am_K) (ma mb md a b d e : Int) (i : Nat) (h : am_H) : Prop := jn_B (ly_hv cst h 44032) (ly_hv cst h 44288) (ly_hv cst h 45056) ma mb md a b d e i
def jn_Φ (cst : am_K) (h0 : am_H) (r : am_Q) : Prop := (∃ x : Int32, r.1 = some (.int x)) ∧ r.2.2.1 = 0 ∧ r.2.2.2 = 0 ∧ ly_hy m_tt ly_TH r.2.1 ∧ ly_fr cst jn_mods h0 r.2.1 ∧ h0.length ≤ r.2.1.length
section JN
variable {cst : am_K} {strs : List Nat} {D : Nat} {M : am_M} {h0 : am_H} {ma mb md : Int}
theorem jn_eqs {h h' : am_H} {ms : List Nat} (hm1 : ly_has 44032 ms = false) (hm2 : ly_has 44288 ms = false) (hm3 : ly_has 45056 ms = false) (hy : ly_hy m_tt ly_TH h) (hy' : ly_hy m_tt ly_TH h') (fr : ly_fr cst ms h h') : ly_hv cst h' 44032 = ly_hv cst h 44032 ∧ ly_hv cst h' 44288 = ly_hv cst h 44288 ∧ ly_hv cst h' 45056 = ly_hv cst h 45056 := ⟨hp_same th_RL hm1 hy hy' fr, hp_same th_RM hm2 hy hy' fr, hp_same th_JC hm3 hy hy' fr⟩
theorem jn_I_arc {h h' : am_H} {z : Int} {ms : List Nat} (hm1 : ly_has 44032 ms = false) (hm2 : ly_has 44288 ms = false) (hm3 : ly_has 45056 ms = false) (hms : ∀ r, ly_has r jn_mods = false → ly_has r ms = false) (I : jn_I cst h0 ma mb md h z) (hy' : ly_hy m_tt ly_TH h') (fr : ly_fr cst ms h h') (len : h.length ≤ h'.length) : jn_I cst h0 ma mb md h' z := by
  obtain ⟨a, b, c, d, e, f, g⟩ := I
  obtain ⟨e1, e2, e3⟩ := jn_eqs hm1 hm2 hm3 a hy' fr
  refine ⟨hy', ly_fr_tr b (fun r i v hr e => fr r i v (hms r hr) e), Nat.le_trans c len, by rw [e2]; exact d, by rw [e2]; exact e, by rw [e2]; exact f, ?_⟩
  rw [e1, e2, e3]
  exact g
theorem jn_I_0 {h h' : am_H} {z : Int} (I : jn_I cst h0 ma mb md h z) (hy' : ly_hy m_tt ly_TH h') (fr : ly_fr cst [] h h') (len : h.length ≤ h'.length) : jn_I cst h0 ma mb md h' z := jn_I_arc rfl rfl rfl (fun _ _ => rfl) I hy' fr len
theorem jn_h_0 {h h' : am_H} {a b d e : Int} {i : Nat} (hy : ly_hy m_tt ly_TH h) (H : jn_h cst ma mb md a b d e i h) (hy' : ly_hy m_tt ly_TH h') (fr : ly_fr cst [] h h') : jn_h cst ma mb md a b d e i h' := by
  obtain ⟨e1, e2, e3⟩ := jn_eqs rfl rfl rfl hy hy' fr
  unfold jn_h
  rw [e1, e2, e3]
  exact H
theorem jn_sub {ms : List Nat} (h : ms.all (fun q => ly_has q jn_mods) = true) : ∀ r, ly_has r jn_mods = false → ly_has r ms = false := by
  intro r hr
  cases hh : ly_has r ms with
  | false => rfl
  | true =>
    unfold ly_has at hh
    obtain ⟨q, hq, hqe⟩ := List.any_eq_true.mp hh
    have := List.all_eq_true.mp h q hq
    rw [← sx_beqn.mp hqe, this] at hr
    cases hr
theorem jpF (c1 : hp_C cst strs D) (c : hp_C cst strs (D + 1)) (hM : m_P[411]? = some M) (hD : (5 : Int) ≤ ((D + 1 : Nat) : Int) + 1) (A0 : 0 ≤ ma) (A1 : ma ≤ 10) (B0 : 0 ≤ mb) (B1 : mb ≤ 10) (D0 : 0 ≤ md) (D1 : md ≤ 10) {a b d : Int} (a0 : 0 ≤ a) (a1 : a ≤ ma) (b0 : 0 ≤ b) (b1 : b ≤ mb) (d0 : 0 ≤ d) (d1 : d ≤ md) (ih : ∀ (h : am_H) (l : am_L), jn_I cst h0 ma mb md h (121 * a + 11 * b + (d - 1)) → hp_a l 0 94 → hp_i l 1 a → hp_i l 2 b → hp_i l 3 (d - 1) → hp_F cst strs (jn_Φ cst h0) (D + 1) M 29 l [] h) (h : am_H) (l : am_L) (y0 y1 : Int32) (e : Int) (hy0 : y0.toInt = e) (hy1 : y1.toInt = 121 * a + 11 * b + d) (I : jn_I cst h0 ma mb md h (121 * a + 11 * b + d)) (H : jn_h cst ma mb md a b d e 7 h) (l0 : hp_a l 0 94) (l1 : hp_i l 1 a) (l2 : hp_i l 2 b) (l3 : hp_i l 3 d) : hp_F cst strs (jn_Φ cst h0) (D + 1) M 186 l [.int y0, .int y1, .ref 192] h := by
  obtain ⟨hy, fr, len, k0, k1, k2, T⟩ := I
  obtain ⟨m1, g1, g2, g3, g4, g5⟩ := H
  have ne : e ≠ -1 := by
    by_cases p1 : a < ma
    · exact g3 (by decide) (rcp1 k0 k1 k2 p1)
    · by_cases p2 : b < mb
      · exact g4 (by decide) (rcp2 k0 k1 k2 p2)
      · by_cases p3 : d < md
        · exact g5 (by decide) (rcp4 k0 k1 k2 p3)
        · exact g2 ⟨by omega, by omega, by omega⟩
  obtain ⟨e0, e1, ex⟩ := g1.resolve_left ne
  refine hp_st (c := 176) hM (by decide +kernel) hy th_JC rfl (by omega) (by omega) (by omega) (by omega) (fun h' q1 q2 q3 => ?_)
  rw [hy0, hy1] at q3
  have os : ∀ r, r ≠ 45056 → ly_hv cst h' r = ly_hv cst h r := fun r hr => funext fun k => q3.2 r k (Or.inl hr)
  have I' : jn_I cst h0 ma mb md h' (121 * a + 11 * b + (d - 1)) := by
    refine ⟨q1, ly_fr_tr fr (hp_put_fr (by rfl) q3), by omega, by rw [os _ (by decide)]; exact k0, by rw [os _ (by decide)]; exact k1, by rw [os _ (by decide)]; exact k2, ?_⟩
    rw [os 44032 (by decide), os 44288 (by decide)]
    exact jn_T_put A1 B1 D1 a1 b1 d1 a0 b0 d0 T e0 e1 ex q3.1 (fun k hk => q3.2 45056 k (Or.inr hk))
  exact jn5 c hM (by omega) q1 a b d ma mb md a0 (by omega) b0 (by omega) d0 (by omega) A0 A1 B0 B1 D0 D1 l0 l1 l2 l3 (fun l' h2 u1 u2 u3 v0 v1 v2 v3 => ih h2 l' (jn_I_0 I' u1 u2 u3) v0 v1 v2 v3)
theorem jp6 (c1 : hp_C cst strs D) (c : hp_C cst strs (D + 1)) (hM : m_P[411]? = some M) (hD : (5 : Int) ≤ ((D + 1 : Nat) : Int) + 1) (A0 : 0 ≤ ma) (A1 : ma ≤ 10) (B0 : 0 ≤ mb) (B1 : mb ≤ 10) (D0 : 0 ≤ md) (D1 : md ≤ 10) {a b d : Int} (a0 : 0 ≤ a) (a1 : a ≤ ma) (b0 : 0 ≤ b) (b1 : b ≤ mb) (d0 : 0 ≤ d) (d1 : d ≤ md) (ih : ∀ (h : am_H) (l : am_L), jn_I cst h0 ma mb md h (121 * a + 11 * b + (d - 1)) → hp_a l 0 94 → hp_i l 1 a → hp_i l 2 b → hp_i l 3 (d - 1) → hp_F cst strs (jn_Φ cst h0) (D + 1) M 29 l [] h) (h : am_H) (l : am_L) (y0 y1 y2 y3 : Int32) (e : Int) (hy0 : y0.toInt = d) (hy1 : y1.toInt = b) (hy2 : y2.toInt = a) (hy3 : y3.toInt = 4) (I : jn_I cst h0 ma mb md h (121 * a + 11 * b + d)) (H : jn_h cst ma mb md a b d e 6 h) (l0 : hp_a l 0 94) (l1 : hp_i l 1 a) (l2 : hp_i l 2 b) (l3 : hp_i l 3 d) (l4 : hp_i l 4 e) (l5 : hp_i l 5 6) (l6 : hp_i l 6 4) : hp_F cst strs (jn_Φ cst h0) (D + 1) M 99 l [.int y0, .int y1, .int y2, .int y3, .ref 94] h := by
  obtain ⟨r, hrun, ⟨x, r1, hx⟩, r2, r3, rhy, rfr, rlen⟩ := rc_run c1 (by omega) I.1 (xs := y3) (xa := y2) (xb := y1) (xd := y0) (by omega) (by omega) (by omega) (by omega) (by omega) (by omega) (by omega)
  refine hp_call (mi := 411) (pc := 99) (tg := 412) (na := 5) (c := 78) (ci := 12) (st0 := [.int y0, .int y1, .int y2, .int y3, .ref 94]) (st := []) (av := [.int y3, .int y2, .int y1, .int y0]) hM (by decide +kernel) I.1 rfl rfl rfl (by decide) hrun r2 r3 ?_
  rw [r1]
  rw [hy0, hy1, hy2, hy3] at hx
  have I2 := jn_I_0 I rhy rfr rlen
  obtain ⟨e1, e2, e3⟩ := jn_eqs rfl rfl rfl I.1 rhy rfr
  rw [← e1, ← e2] at hx
  obtain ⟨-, -, -, k0, k1, k2, T⟩ := id I2
  have H1 := jn_h_0 I.1 H rhy rfr
  obtain ⟨m1, g1, g2, g3, g4, g5⟩ := H1
  have eb : e ≤ 360 := by rcases g1 with g1 | ⟨-, g1, -⟩ <;> omega
  rcases rcb4 (f := ly_hv cst r.2.1 44032) (a := a) (b := b) (d := d) k0 k1 k2 with hk | ⟨kk0, kk1, p0⟩
  · have H2 : jn_h cst ma mb md a b d e 7 r.2.1 := ⟨m1, g1, g2, fun _ => g3 (by decide), fun _ => g4 (by decide), fun _ t => absurd t (by rw [hk]; decide)⟩
    exact jm6n c hM hD rhy a b d ma mb md e x (by omega) a0 (by omega) b0 (by omega) d0 (by omega) A0 A1 B0 B1 D0 D1 m1 (by omega) l0 l1 l2 l3 l4 l5 l6 (fun l' h2 z0 z1 w0 w1 u1 u2 u3 v0 v1 v2 v3 => jpF c1 c hM hD A0 A1 B0 B1 D0 D1 a0 a1 b0 b1 d0 d1 ih h2 l' z0 z1 (e) w0 w1 (jn_I_0 I2 u1 u2 u3) (jn_h_0 rhy H2 u1 u2) v0 v1 v2 v3)
  · obtain ⟨y, hyv, yy0, yy1, -⟩ := T (a + 0) (b + 0) (d + 1) (by omega) (by omega) (by omega) (by omega) (by omega) (by omega) (by omega)
    rw [show 121 * (a + 0) + 11 * (b + 0) + (d + 1) = 121 * a + 11 * b + d + 1 by omega] at hyv
    have W : ∀ z : Int, z = x.toInt + y → jn_x (ly_hv cst r.2.1 44032) (ly_hv cst r.2.1 44288) (ly_hv cst r.2.1 45056) a b d z := fun z hz => Or.inr (Or.inr (Or.inr (Or.inr (Or.inr (Or.inr (⟨kk0, y, hyv, by omega⟩))))))
    have new : jn_h cst ma mb md a b d (x.toInt + y) 7 r.2.1 := ⟨by omega, Or.inr ⟨by omega, by omega, Or.inr (W _ rfl)⟩, fun _ => by omega, fun _ _ => by omega, fun _ _ => by omega, fun _ _ => by omega⟩
    by_cases he : e = -1
    · have H2 := new
      rw [he] at l4
      exact jm6a c hM hD rhy a b d ma mb md x.toInt y x rfl a0 (by omega) b0 (by omega) d0 (by omega) A0 A1 B0 B1 D0 D1 (by omega) (by omega) yy0 (by omega) (by omega) k0 k1 k2 hyv l0 l1 l2 l3 l4 l5 l6 (fun l' h2 z0 z1 w0 w1 u1 u2 u3 v0 v1 v2 v3 => jpF c1 c hM hD A0 A1 B0 B1 D0 D1 a0 a1 b0 b1 d0 d1 ih h2 l' z0 z1 (x.toInt + y) w0 w1 (jn_I_0 I2 u1 u2 u3) (jn_h_0 rhy H2 u1 u2) v0 v1 v2 v3)
    · by_cases hl : x.toInt + y < e
      · have H2 := new
        exact jm6b c hM hD rhy a b d ma mb md x.toInt y e x rfl a0 (by omega) b0 (by omega) d0 (by omega) A0 A1 B0 B1 D0 D1 (by omega) (by omega) yy0 (by omega) (by omega) (by omega) (by omega) (by omega) k0 k1 k2 hyv l0 l1 l2 l3 l4 l5 l6 (fun l' h2 z0 z1 w0 w1 u1 u2 u3 v0 v1 v2 v3 => jpF c1 c hM hD A0 A1 B0 B1 D0 D1 a0 a1 b0 b1 d0 d1 ih h2 l' z0 z1 (x.toInt + y) w0 w1 (jn_I_0 I2 u1 u2 u3) (jn_h_0 rhy H2 u1 u2) v0 v1 v2 v3)
      · have H2 : jn_h cst ma mb md a b d e 7 r.2.1 := ⟨m1, g1, g2, fun _ _ => he, fun _ _ => he, fun _ _ => he⟩
        exact jm6c c hM hD rhy a b d ma mb md x.toInt y e x rfl a0 (by omega) b0 (by omega) d0 (by omega) A0 A1 B0 B1 D0 D1 (by omega) (by omega) yy0 (by omega) (by omega) (by omega) (by omega) (by omega) k0 k1 k2 hyv l0 l1 l2 l3 l4 l5 l6 (fun l' h2 z0 z1 w0 w1 u1 u2 u3 v0 v1 v2 v3 => jpF c1 c hM hD A0 A1 B0 B1 D0 D1 a0 a1 b0 b1 d0 d1 ih h2 l' z0 z1 (e) w0 w1 (jn_I_0 I2 u1 u2 u3) (jn_h_0 rhy H2 u1 u2) v0 v1 v2 v3)
theorem jp5 (c1 : hp_C cst strs D) (c : hp_C cst strs (D + 1)) (hM : m_P[411]? = some M) (hD : (5 : Int) ≤ ((D + 1 : Nat) : Int) + 1) (A0 : 0 ≤ ma) (A1 : ma ≤ 10) (B0 : 0 ≤ mb) (B1 : mb ≤ 10) (D0 : 0 ≤ md) (D1 : md ≤ 10) {a b d : Int} (a0 : 0 ≤ a) (a1 : a ≤ ma) (b0 : 0 ≤ b) (b1 : b ≤ mb) (d0 : 0 ≤ d) (d1 : d ≤ md) (ih : ∀ (h : am_H) (l : am_L), jn_I cst h0 ma mb md h (121 * a + 11 * b + (d - 1)) → hp_a l 0 94 → hp_i l 1 a → hp_i l 2 b → hp_i l 3 (d - 1) → hp_F cst strs (jn_Φ cst h0) (D + 1) M 29 l [] h) (h : am_H) (l : am_L) (y0 y1 y2 y3 : Int32) (e : Int) (hy0 : y0.toInt = d) (hy1 : y1.toInt = b) (hy2 : y2.toInt = a) (hy3 : y3.toInt = 2) (I : jn_I cst h0 ma mb md h (121 * a + 11 * b + d)) (H : jn_h cst ma mb md a b d e 5 h) (l0 : hp_a l 0 94) (l1 : hp_i l 1 a) (l2 : hp_i l 2 b) (l3 : hp_i l 3 d) (l4 : hp_i l 4 e) (l5 : hp_i l 5 5) (l6 : hp_i l 6 2) : hp_F cst strs (jn_Φ cst h0) (D + 1) M 99 l [.int y0, .int y1, .int y2, .int y3, .ref 94] h := by
  obtain ⟨r, hrun, ⟨x, r1, hx⟩, r2, r3, rhy, rfr, rlen⟩ := rc_run c1 (by omega) I.1 (xs := y3) (xa := y2) (xb := y1) (xd := y0) (by omega) (by omega) (by omega) (by omega) (by omega) (by omega) (by omega)
  refine hp_call (mi := 411) (pc := 99) (tg := 412) (na := 5) (c := 78) (ci := 12) (st0 := [.int y0, .int y1, .int y2, .int y3, .ref 94]) (st := []) (av := [.int y3, .int y2, .int y1, .int y0]) hM (by decide +kernel) I.1 rfl rfl rfl (by decide) hrun r2 r3 ?_
  rw [r1]
  rw [hy0, hy1, hy2, hy3] at hx
  have I2 := jn_I_0 I rhy rfr rlen
  obtain ⟨e1, e2, e3⟩ := jn_eqs rfl rfl rfl I.1 rhy rfr
  rw [← e1, ← e2] at hx
  obtain ⟨-, -, -, k0, k1, k2, T⟩ := id I2
  have H1 := jn_h_0 I.1 H rhy rfr
  obtain ⟨m1, g1, g2, g3, g4, g5⟩ := H1
  have eb : e ≤ 360 := by rcases g1 with g1 | ⟨-, g1, -⟩ <;> omega
  rcases rcb2 (f := ly_hv cst r.2.1 44032) (a := a) (b := b) (d := d) k0 k1 k2 with hk | ⟨kk0, kk1, p0⟩
  · have H2 : jn_h cst ma mb md a b d e 6 r.2.1 := ⟨m1, g1, g2, fun _ => g3 (by decide), fun _ t => absurd t (by rw [hk]; decide), fun t => absurd t (by decide)⟩
    exact jm5n c hM hD rhy a b d ma mb md e x (by omega) a0 (by omega) b0 (by omega) d0 (by omega) A0 A1 B0 B1 D0 D1 m1 (by omega) l0 l1 l2 l3 l4 l5 l6 (fun l' h2 z0 z1 z2 z3 w0 w1 w2 w3 u1 u2 u3 v0 v1 v2 v3 v4 v5 v6 => jp6 c1 c hM hD A0 A1 B0 B1 D0 D1 a0 a1 b0 b1 d0 d1 ih h2 l' z0 z1 z2 z3 (e) w0 w1 w2 w3 (jn_I_0 I2 u1 u2 u3) (jn_h_0 rhy H2 u1 u2) v0 v1 v2 v3 v4 v5 v6)
  · obtain ⟨y, hyv, yy0, yy1, -⟩ := T (a + 0) (b + 1) (d + 0) (by omega) (by omega) (by omega) (by omega) (by omega) (by omega) (by omega)
    rw [show 121 * (a + 0) + 11 * (b + 1) + (d + 0) = 121 * a + 11 * b + d + 11 by omega] at hyv
    have W : ∀ z : Int, z = x.toInt + y → jn_x (ly_hv cst r.2.1 44032) (ly_hv cst r.2.1 44288) (ly_hv cst r.2.1 45056) a b d z := fun z hz => Or.inr (Or.inr (Or.inr (Or.inr (Or.inr (Or.inl ⟨kk0, y, hyv, by omega⟩)))))
    have new : jn_h cst ma mb md a b d (x.toInt + y) 6 r.2.1 := ⟨by omega, Or.inr ⟨by omega, by omega, Or.inr (W _ rfl)⟩, fun _ => by omega, fun _ _ => by omega, fun _ _ => by omega, fun _ _ => by omega⟩
    by_cases he : e = -1
    · have H2 := new
      rw [he] at l4
      exact jm5a c hM hD rhy a b d ma mb md x.toInt y x rfl a0 (by omega) b0 (by omega) d0 (by omega) A0 A1 B0 B1 D0 D1 (by omega) (by omega) yy0 (by omega) (by omega) k0 k1 k2 hyv l0 l1 l2 l3 l4 l5 l6 (fun l' h2 z0 z1 z2 z3 w0 w1 w2 w3 u1 u2 u3 v0 v1 v2 v3 v4 v5 v6 => jp6 c1 c hM hD A0 A1 B0 B1 D0 D1 a0 a1 b0 b1 d0 d1 ih h2 l' z0 z1 z2 z3 (x.toInt + y) w0 w1 w2 w3 (jn_I_0 I2 u1 u2 u3) (jn_h_0 rhy H2 u1 u2) v0 v1 v2 v3 v4 v5 v6)
    · by_cases hl : x.toInt + y < e
      · have H2 := new
        exact jm5b c hM hD rhy a b d ma mb md x.toInt y e x rfl a0 (by omega) b0 (by omega) d0 (by omega) A0 A1 B0 B1 D0 D1 (by omega) (by omega) yy0 (by omega) (by omega) (by omega) (by omega) (by omega) k0 k1 k2 hyv l0 l1 l2 l3 l4 l5 l6 (fun l' h2 z0 z1 z2 z3 w0 w1 w2 w3 u1 u2 u3 v0 v1 v2 v3 v4 v5 v6 => jp6 c1 c hM hD A0 A1 B0 B1 D0 D1 a0 a1 b0 b1 d0 d1 ih h2 l' z0 z1 z2 z3 (x.toInt + y) w0 w1 w2 w3 (jn_I_0 I2 u1 u2 u3) (jn_h_0 rhy H2 u1 u2) v0 v1 v2 v3 v4 v5 v6)
      · have H2 : jn_h cst ma mb md a b d e 6 r.2.1 := ⟨m1, g1, g2, fun _ _ => he, fun _ _ => he, fun _ _ => he⟩
        exact jm5c c hM hD rhy a b d ma mb md x.toInt y e x rfl a0 (by omega) b0 (by omega) d0 (by omega) A0 A1 B0 B1 D0 D1 (by omega) (by omega) yy0 (by omega) (by omega) (by omega) (by omega) (by omega) k0 k1 k2 hyv l0 l1 l2 l3 l4 l5 l6 (fun l' h2 z0 z1 z2 z3 w0 w1 w2 w3 u1 u2 u3 v0 v1 v2 v3 v4 v5 v6 => jp6 c1 c hM hD A0 A1 B0 B1 D0 D1 a0 a1 b0 b1 d0 d1 ih h2 l' z0 z1 z2 z3 (e) w0 w1 w2 w3 (jn_I_0 I2 u1 u2 u3) (jn_h_0 rhy H2 u1 u2) v0 v1 v2 v3 v4 v5 v6)
theorem jp4 (c1 : hp_C cst strs D) (c : hp_C cst strs (D + 1)) (hM : m_P[411]? = some M) (hD : (5 : Int) ≤ ((D + 1 : Nat) : Int) + 1) (A0 : 0 ≤ ma) (A1 : ma ≤ 10) (B0 : 0 ≤ mb) (B1 : mb ≤ 10) (D0 : 0 ≤ md) (D1 : md ≤ 10) {a b d : Int} (a0 : 0 ≤ a) (a1 : a ≤ ma) (b0 : 0 ≤ b) (b1 : b ≤ mb) (d0 : 0 ≤ d) (d1 : d ≤ md) (ih : ∀ (h : am_H) (l : am_L), jn_I cst h0 ma mb md h (121 * a + 11 * b + (d - 1)) → hp_a l 0 94 → hp_i l 1 a → hp_i l 2 b → hp_i l 3 (d - 1) → hp_F cst strs (jn_Φ cst h0) (D + 1) M 29 l [] h) (h : am_H) (l : am_L) (y0 y1 y2 y3 : Int32) (e : Int) (hy0 : y0.toInt = d) (hy1 : y1.toInt = b) (hy2 : y2.toInt = a) (hy3 : y3.toInt = 1) (I : jn_I cst h0 ma mb md h (121 * a + 11 * b + d)) (H : jn_h cst ma mb md a b d e 4 h) (l0 : hp_a l 0 94) (l1 : hp_i l 1 a) (l2 : hp_i l 2 b) (l3 : hp_i l 3 d) (l4 : hp_i l 4 e) (l5 : hp_i l 5 4) (l6 : hp_i l 6 1) : hp_F cst strs (jn_Φ cst h0) (D + 1) M 99 l [.int y0, .int y1, .int y2, .int y3, .ref 94] h := by
  obtain ⟨r, hrun, ⟨x, r1, hx⟩, r2, r3, rhy, rfr, rlen⟩ := rc_run c1 (by omega) I.1 (xs := y3) (xa := y2) (xb := y1) (xd := y0) (by omega) (by omega) (by omega) (by omega) (by omega) (by omega) (by omega)
  refine hp_call (mi := 411) (pc := 99) (tg := 412) (na := 5) (c := 78) (ci := 12) (st0 := [.int y0, .int y1, .int y2, .int y3, .ref 94]) (st := []) (av := [.int y3, .int y2, .int y1, .int y0]) hM (by decide +kernel) I.1 rfl rfl rfl (by decide) hrun r2 r3 ?_
  rw [r1]
  rw [hy0, hy1, hy2, hy3] at hx
  have I2 := jn_I_0 I rhy rfr rlen
  obtain ⟨e1, e2, e3⟩ := jn_eqs rfl rfl rfl I.1 rhy rfr
  rw [← e1, ← e2] at hx
  obtain ⟨-, -, -, k0, k1, k2, T⟩ := id I2
  have H1 := jn_h_0 I.1 H rhy rfr
  obtain ⟨m1, g1, g2, g3, g4, g5⟩ := H1
  have eb : e ≤ 360 := by rcases g1 with g1 | ⟨-, g1, -⟩ <;> omega
  rcases rcb1 (f := ly_hv cst r.2.1 44032) (a := a) (b := b) (d := d) k0 k1 k2 with hk | ⟨kk0, kk1, p0⟩
  · have H2 : jn_h cst ma mb md a b d e 5 r.2.1 := ⟨m1, g1, g2, fun _ t => absurd t (by rw [hk]; decide), fun t => absurd t (by decide), fun t => absurd t (by decide)⟩
    exact jm4n c hM hD rhy a b d ma mb md e x (by omega) a0 (by omega) b0 (by omega) d0 (by omega) A0 A1 B0 B1 D0 D1 m1 (by omega) l0 l1 l2 l3 l4 l5 l6 (fun l' h2 z0 z1 z2 z3 w0 w1 w2 w3 u1 u2 u3 v0 v1 v2 v3 v4 v5 v6 => jp5 c1 c hM hD A0 A1 B0 B1 D0 D1 a0 a1 b0 b1 d0 d1 ih h2 l' z0 z1 z2 z3 (e) w0 w1 w2 w3 (jn_I_0 I2 u1 u2 u3) (jn_h_0 rhy H2 u1 u2) v0 v1 v2 v3 v4 v5 v6)
  · obtain ⟨y, hyv, yy0, yy1, -⟩ := T (a + 1) (b + 0) (d + 0) (by omega) (by omega) (by omega) (by omega) (by omega) (by omega) (by omega)
    rw [show 121 * (a + 1) + 11 * (b + 0) + (d + 0) = 121 * a + 11 * b + d + 121 by omega] at hyv
    have W : ∀ z : Int, z = x.toInt + y → jn_x (ly_hv cst r.2.1 44032) (ly_hv cst r.2.1 44288) (ly_hv cst r.2.1 45056) a b d z := fun z hz => Or.inr (Or.inr (Or.inr (Or.inr (Or.inl ⟨kk0, y, hyv, by omega⟩))))
    have new : jn_h cst ma mb md a b d (x.toInt + y) 5 r.2.1 := ⟨by omega, Or.inr ⟨by omega, by omega, Or.inr (W _ rfl)⟩, fun _ => by omega, fun _ _ => by omega, fun _ _ => by omega, fun _ _ => by omega⟩
    by_cases he : e = -1
    · have H2 := new
      rw [he] at l4
      exact jm4a c hM hD rhy a b d ma mb md x.toInt y x rfl a0 (by omega) b0 (by omega) d0 (by omega) A0 A1 B0 B1 D0 D1 (by omega) (by omega) yy0 (by omega) (by omega) k0 k1 k2 hyv l0 l1 l2 l3 l4 l5 l6 (fun l' h2 z0 z1 z2 z3 w0 w1 w2 w3 u1 u2 u3 v0 v1 v2 v3 v4 v5 v6 => jp5 c1 c hM hD A0 A1 B0 B1 D0 D1 a0 a1 b0 b1 d0 d1 ih h2 l' z0 z1 z2 z3 (x.toInt + y) w0 w1 w2 w3 (jn_I_0 I2 u1 u2 u3) (jn_h_0 rhy H2 u1 u2) v0 v1 v2 v3 v4 v5 v6)
    · by_cases hl : x.toInt + y < e
      · have H2 := new
        exact jm4b c hM hD rhy a b d ma mb md x.toInt y e x rfl a0 (by omega) b0 (by omega) d0 (by omega) A0 A1 B0 B1 D0 D1 (by omega) (by omega) yy0 (by omega) (by omega) (by omega) (by omega) (by omega) k0 k1 k2 hyv l0 l1 l2 l3 l4 l5 l6 (fun l' h2 z0 z1 z2 z3 w0 w1 w2 w3 u1 u2 u3 v0 v1 v2 v3 v4 v5 v6 => jp5 c1 c hM hD A0 A1 B0 B1 D0 D1 a0 a1 b0 b1 d0 d1 ih h2 l' z0 z1 z2 z3 (x.toInt + y) w0 w1 w2 w3 (jn_I_0 I2 u1 u2 u3) (jn_h_0 rhy H2 u1 u2) v0 v1 v2 v3 v4 v5 v6)
      · have H2 : jn_h cst ma mb md a b d e 5 r.2.1 := ⟨m1, g1, g2, fun _ _ => he, fun _ _ => he, fun _ _ => he⟩
        exact jm4c c hM hD rhy a b d ma mb md x.toInt y e x rfl a0 (by omega) b0 (by omega) d0 (by omega) A0 A1 B0 B1 D0 D1 (by omega) (by omega) yy0 (by omega) (by omega) (by omega) (by omega) (by omega) k0 k1 k2 hyv l0 l1 l2 l3 l4 l5 l6 (fun l' h2 z0 z1 z2 z3 w0 w1 w2 w3 u1 u2 u3 v0 v1 v2 v3 v4 v5 v6 => jp5 c1 c hM hD A0 A1 B0 B1 D0 D1 a0 a1 b0 b1 d0 d1 ih h2 l' z0 z1 z2 z3 (e) w0 w1 w2 w3 (jn_I_0 I2 u1 u2 u3) (jn_h_0 rhy H2 u1 u2) v0 v1 v2 v3 v4 v5 v6)
theorem jp3 (c1 : hp_C cst strs D) (c : hp_C cst strs (D + 1)) (hM : m_P[411]? = some M) (hD : (5 : Int) ≤ ((D + 1 : Nat) : Int) + 1) (A0 : 0 ≤ ma) (A1 : ma ≤ 10) (B0 : 0 ≤ mb) (B1 : mb ≤ 10) (D0 : 0 ≤ md) (D1 : md ≤ 10) {a b d : Int} (a0 : 0 ≤ a) (a1 : a ≤ ma) (b0 : 0 ≤ b) (b1 : b ≤ mb) (d0 : 0 ≤ d) (d1 : d ≤ md) (ih : ∀ (h : am_H) (l : am_L), jn_I cst h0 ma mb md h (121 * a + 11 * b + (d - 1)) → hp_a l 0 94 → hp_i l 1 a → hp_i l 2 b → hp_i l 3 (d - 1) → hp_F cst strs (jn_Φ cst h0) (D + 1) M 29 l [] h) (h : am_H) (l : am_L) (y0 y1 y2 y3 : Int32) (e : Int) (hy0 : y0.toInt = d) (hy1 : y1.toInt = b) (hy2 : y2.toInt = a) (hy3 : y3.toInt = 6) (I : jn_I cst h0 ma mb md h (121 * a + 11 * b + d)) (H : jn_h cst ma mb md a b d e 3 h) (l0 : hp_a l 0 94) (l1 : hp_i l 1 a) (l2 : hp_i l 2 b) (l3 : hp_i l 3 d) (l4 : hp_i l 4 e) (l5 : hp_i l 5 3) (l6 : hp_i l 6 6) : hp_F cst strs (jn_Φ cst h0) (D + 1) M 99 l [.int y0, .int y1, .int y2, .int y3, .ref 94] h := by
  obtain ⟨r, hrun, ⟨x, r1, hx⟩, r2, r3, rhy, rfr, rlen⟩ := rc_run c1 (by omega) I.1 (xs := y3) (xa := y2) (xb := y1) (xd := y0) (by omega) (by omega) (by omega) (by omega) (by omega) (by omega) (by omega)
  refine hp_call (mi := 411) (pc := 99) (tg := 412) (na := 5) (c := 78) (ci := 12) (st0 := [.int y0, .int y1, .int y2, .int y3, .ref 94]) (st := []) (av := [.int y3, .int y2, .int y1, .int y0]) hM (by decide +kernel) I.1 rfl rfl rfl (by decide) hrun r2 r3 ?_
  rw [r1]
  rw [hy0, hy1, hy2, hy3] at hx
  have I2 := jn_I_0 I rhy rfr rlen
  obtain ⟨e1, e2, e3⟩ := jn_eqs rfl rfl rfl I.1 rhy rfr
  rw [← e1, ← e2] at hx
  obtain ⟨-, -, -, k0, k1, k2, T⟩ := id I2
  have H1 := jn_h_0 I.1 H rhy rfr
  obtain ⟨m1, g1, g2, g3, g4, g5⟩ := H1
  have eb : e ≤ 360 := by rcases g1 with g1 | ⟨-, g1, -⟩ <;> omega
  rcases rcb6 (f := ly_hv cst r.2.1 44032) (a := a) (b := b) (d := d) k0 k1 k2 with hk | ⟨kk0, kk1, ⟨p0, p1⟩⟩
  · have H2 : jn_h cst ma mb md a b d e 4 r.2.1 := ⟨m1, g1, g2, fun t => absurd t (by decide), fun t => absurd t (by decide), fun t => absurd t (by decide)⟩
    exact jm3n c hM hD rhy a b d ma mb md e x (by omega) a0 (by omega) b0 (by omega) d0 (by omega) A0 A1 B0 B1 D0 D1 m1 (by omega) l0 l1 l2 l3 l4 l5 l6 (fun l' h2 z0 z1 z2 z3 w0 w1 w2 w3 u1 u2 u3 v0 v1 v2 v3 v4 v5 v6 => jp4 c1 c hM hD A0 A1 B0 B1 D0 D1 a0 a1 b0 b1 d0 d1 ih h2 l' z0 z1 z2 z3 (e) w0 w1 w2 w3 (jn_I_0 I2 u1 u2 u3) (jn_h_0 rhy H2 u1 u2) v0 v1 v2 v3 v4 v5 v6)
  · obtain ⟨y, hyv, yy0, yy1, -⟩ := T (a + 0) (b + 1) (d + 1) (by omega) (by omega) (by omega) (by omega) (by omega) (by omega) (by omega)
    rw [show 121 * (a + 0) + 11 * (b + 1) + (d + 1) = 121 * a + 11 * b + d + 12 by omega] at hyv
    have W : ∀ z : Int, z = x.toInt + y → jn_x (ly_hv cst r.2.1 44032) (ly_hv cst r.2.1 44288) (ly_hv cst r.2.1 45056) a b d z := fun z hz => Or.inr (Or.inr (Or.inr (Or.inl ⟨kk0, y, hyv, by omega⟩)))
    have new : jn_h cst ma mb md a b d (x.toInt + y) 4 r.2.1 := ⟨by omega, Or.inr ⟨by omega, by omega, Or.inr (W _ rfl)⟩, fun _ => by omega, fun _ _ => by omega, fun _ _ => by omega, fun _ _ => by omega⟩
    by_cases he : e = -1
    · have H2 := new
      rw [he] at l4
      exact jm3a c hM hD rhy a b d ma mb md x.toInt y x rfl a0 (by omega) b0 (by omega) d0 (by omega) A0 A1 B0 B1 D0 D1 (by omega) (by omega) yy0 (by omega) (by omega) (by omega) k0 k1 k2 hyv l0 l1 l2 l3 l4 l5 l6 (fun l' h2 z0 z1 z2 z3 w0 w1 w2 w3 u1 u2 u3 v0 v1 v2 v3 v4 v5 v6 => jp4 c1 c hM hD A0 A1 B0 B1 D0 D1 a0 a1 b0 b1 d0 d1 ih h2 l' z0 z1 z2 z3 (x.toInt + y) w0 w1 w2 w3 (jn_I_0 I2 u1 u2 u3) (jn_h_0 rhy H2 u1 u2) v0 v1 v2 v3 v4 v5 v6)
    · by_cases hl : x.toInt + y < e
      · have H2 := new
        exact jm3b c hM hD rhy a b d ma mb md x.toInt y e x rfl a0 (by omega) b0 (by omega) d0 (by omega) A0 A1 B0 B1 D0 D1 (by omega) (by omega) yy0 (by omega) (by omega) (by omega) (by omega) (by omega) (by omega) k0 k1 k2 hyv l0 l1 l2 l3 l4 l5 l6 (fun l' h2 z0 z1 z2 z3 w0 w1 w2 w3 u1 u2 u3 v0 v1 v2 v3 v4 v5 v6 => jp4 c1 c hM hD A0 A1 B0 B1 D0 D1 a0 a1 b0 b1 d0 d1 ih h2 l' z0 z1 z2 z3 (x.toInt + y) w0 w1 w2 w3 (jn_I_0 I2 u1 u2 u3) (jn_h_0 rhy H2 u1 u2) v0 v1 v2 v3 v4 v5 v6)
      · have H2 : jn_h cst ma mb md a b d e 4 r.2.1 := ⟨m1, g1, g2, fun _ _ => he, fun _ _ => he, fun _ _ => he⟩
        exact jm3c c hM hD rhy a b d ma mb md x.toInt y e x rfl a0 (by omega) b0 (by omega) d0 (by omega) A0 A1 B0 B1 D0 D1 (by omega) (by omega) yy0 (by omega) (by omega) (by omega) (by omega) (by omega) (by omega) k0 k1 k2 hyv l0 l1 l2 l3 l4 l5 l6 (fun l' h2 z0 z1 z2 z3 w0 w1 w2 w3 u1 u2 u3 v0 v1 v2 v3 v4 v5 v6 => jp4 c1 c hM hD A0 A1 B0 B1 D0 D1 a0 a1 b0 b1 d0 d1 ih h2 l' z0 z1 z2 z3 (e) w0 w1 w2 w3 (jn_I_0 I2 u1 u2 u3) (jn_h_0 rhy H2 u1 u2) v0 v1 v2 v3 v4 v5 v6)
theorem jp2 (c1 : hp_C cst strs D) (c : hp_C cst strs (D + 1)) (hM : m_P[411]? = some M) (hD : (5 : Int) ≤ ((D + 1 : Nat) : Int) + 1) (A0 : 0 ≤ ma) (A1 : ma ≤ 10) (B0 : 0 ≤ mb) (B1 : mb ≤ 10) (D0 : 0 ≤ md) (D1 : md ≤ 10) {a b d : Int} (a0 : 0 ≤ a) (a1 : a ≤ ma) (b0 : 0 ≤ b) (b1 : b ≤ mb) (d0 : 0 ≤ d) (d1 : d ≤ md) (ih : ∀ (h : am_H) (l : am_L), jn_I cst h0 ma mb md h (121 * a + 11 * b + (d - 1)) → hp_a l 0 94 → hp_i l 1 a → hp_i l 2 b → hp_i l 3 (d - 1) → hp_F cst strs (jn_Φ cst h0) (D + 1) M 29 l [] h) (h : am_H) (l : am_L) (y0 y1 y2 y3 : Int32) (e : Int) (hy0 : y0.toInt = d) (hy1 : y1.toInt = b) (hy2 : y2.toInt = a) (hy3 : y3.toInt = 5) (I : jn_I cst h0 ma mb md h (121 * a + 11 * b + d)) (H : jn_h cst ma mb md a b d e 2 h) (l0 : hp_a l 0 94) (l1 : hp_i l 1 a) (l2 : hp_i l 2 b) (l3 : hp_i l 3 d) (l4 : hp_i l 4 e) (l5 : hp_i l 5 2) (l6 : hp_i l 6 5) : hp_F cst strs (jn_Φ cst h0) (D + 1) M 99 l [.int y0, .int y1, .int y2, .int y3, .ref 94] h := by
  obtain ⟨r, hrun, ⟨x, r1, hx⟩, r2, r3, rhy, rfr, rlen⟩ := rc_run c1 (by omega) I.1 (xs := y3) (xa := y2) (xb := y1) (xd := y0) (by omega) (by omega) (by omega) (by omega) (by omega) (by omega) (by omega)
  refine hp_call (mi := 411) (pc := 99) (tg := 412) (na := 5) (c := 78) (ci := 12) (st0 := [.int y0, .int y1, .int y2, .int y3, .ref 94]) (st := []) (av := [.int y3, .int y2, .int y1, .int y0]) hM (by decide +kernel) I.1 rfl rfl rfl (by decide) hrun r2 r3 ?_
  rw [r1]
  rw [hy0, hy1, hy2, hy3] at hx
  have I2 := jn_I_0 I rhy rfr rlen
  obtain ⟨e1, e2, e3⟩ := jn_eqs rfl rfl rfl I.1 rhy rfr
  rw [← e1, ← e2] at hx
  obtain ⟨-, -, -, k0, k1, k2, T⟩ := id I2
  have H1 := jn_h_0 I.1 H rhy rfr
  obtain ⟨m1, g1, g2, g3, g4, g5⟩ := H1
  have eb : e ≤ 360 := by rcases g1 with g1 | ⟨-, g1, -⟩ <;> omega
  rcases rcb5 (f := ly_hv cst r.2.1 44032) (a := a) (b := b) (d := d) k0 k1 k2 with hk | ⟨kk0, kk1, ⟨p0, p1⟩⟩
  · have H2 : jn_h cst ma mb md a b d e 3 r.2.1 := ⟨m1, g1, g2, fun t => absurd t (by decide), fun t => absurd t (by decide), fun t => absurd t (by decide)⟩
    exact jm2n c hM hD rhy a b d ma mb md e x (by omega) a0 (by omega) b0 (by omega) d0 (by omega) A0 A1 B0 B1 D0 D1 m1 (by omega) l0 l1 l2 l3 l4 l5 l6 (fun l' h2 z0 z1 z2 z3 w0 w1 w2 w3 u1 u2 u3 v0 v1 v2 v3 v4 v5 v6 => jp3 c1 c hM hD A0 A1 B0 B1 D0 D1 a0 a1 b0 b1 d0 d1 ih h2 l' z0 z1 z2 z3 (e) w0 w1 w2 w3 (jn_I_0 I2 u1 u2 u3) (jn_h_0 rhy H2 u1 u2) v0 v1 v2 v3 v4 v5 v6)
  · obtain ⟨y, hyv, yy0, yy1, -⟩ := T (a + 1) (b + 0) (d + 1) (by omega) (by omega) (by omega) (by omega) (by omega) (by omega) (by omega)
    rw [show 121 * (a + 1) + 11 * (b + 0) + (d + 1) = 121 * a + 11 * b + d + 122 by omega] at hyv
    have W : ∀ z : Int, z = x.toInt + y → jn_x (ly_hv cst r.2.1 44032) (ly_hv cst r.2.1 44288) (ly_hv cst r.2.1 45056) a b d z := fun z hz => Or.inr (Or.inr (Or.inl ⟨kk0, y, hyv, by omega⟩))
    have new : jn_h cst ma mb md a b d (x.toInt + y) 3 r.2.1 := ⟨by omega, Or.inr ⟨by omega, by omega, Or.inr (W _ rfl)⟩, fun _ => by omega, fun _ _ => by omega, fun _ _ => by omega, fun _ _ => by omega⟩
    by_cases he : e = -1
    · have H2 := new
      rw [he] at l4
      exact jm2a c hM hD rhy a b d ma mb md x.toInt y x rfl a0 (by omega) b0 (by omega) d0 (by omega) A0 A1 B0 B1 D0 D1 (by omega) (by omega) yy0 (by omega) (by omega) (by omega) k0 k1 k2 hyv l0 l1 l2 l3 l4 l5 l6 (fun l' h2 z0 z1 z2 z3 w0 w1 w2 w3 u1 u2 u3 v0 v1 v2 v3 v4 v5 v6 => jp3 c1 c hM hD A0 A1 B0 B1 D0 D1 a0 a1 b0 b1 d0 d1 ih h2 l' z0 z1 z2 z3 (x.toInt + y) w0 w1 w2 w3 (jn_I_0 I2 u1 u2 u3) (jn_h_0 rhy H2 u1 u2) v0 v1 v2 v3 v4 v5 v6)
    · by_cases hl : x.toInt + y < e
      · have H2 := new
        exact jm2b c hM hD rhy a b d ma mb md x.toInt y e x rfl a0 (by omega) b0 (by omega) d0 (by omega) A0 A1 B0 B1 D0 D1 (by omega) (by omega) yy0 (by omega) (by omega) (by omega) (by omega) (by omega) (by omega) k0 k1 k2 hyv l0 l1 l2 l3 l4 l5 l6 (fun l' h2 z0 z1 z2 z3 w0 w1 w2 w3 u1 u2 u3 v0 v1 v2 v3 v4 v5 v6 => jp3 c1 c hM hD A0 A1 B0 B1 D0 D1 a0 a1 b0 b1 d0 d1 ih h2 l' z0 z1 z2 z3 (x.toInt + y) w0 w1 w2 w3 (jn_I_0 I2 u1 u2 u3) (jn_h_0 rhy H2 u1 u2) v0 v1 v2 v3 v4 v5 v6)
      · have H2 : jn_h cst ma mb md a b d e 3 r.2.1 := ⟨m1, g1, g2, fun _ _ => he, fun _ _ => he, fun _ _ => he⟩
        exact jm2c c hM hD rhy a b d ma mb md x.toInt y e x rfl a0 (by omega) b0 (by omega) d0 (by omega) A0 A1 B0 B1 D0 D1 (by omega) (by omega) yy0 (by omega) (by omega) (by omega) (by omega) (by omega) (by omega) k0 k1 k2 hyv l0 l1 l2 l3 l4 l5 l6 (fun l' h2 z0 z1 z2 z3 w0 w1 w2 w3 u1 u2 u3 v0 v1 v2 v3 v4 v5 v6 => jp3 c1 c hM hD A0 A1 B0 B1 D0 D1 a0 a1 b0 b1 d0 d1 ih h2 l' z0 z1 z2 z3 (e) w0 w1 w2 w3 (jn_I_0 I2 u1 u2 u3) (jn_h_0 rhy H2 u1 u2) v0 v1 v2 v3 v4 v5 v6)
theorem jp1 (c1 : hp_C cst strs D) (c : hp_C cst strs (D + 1)) (hM : m_P[411]? = some M) (hD : (5 : Int) ≤ ((D + 1 : Nat) : Int) + 1) (A0 : 0 ≤ ma) (A1 : ma ≤ 10) (B0 : 0 ≤ mb) (B1 : mb ≤ 10) (D0 : 0 ≤ md) (D1 : md ≤ 10) {a b d : Int} (a0 : 0 ≤ a) (a1 : a ≤ ma) (b0 : 0 ≤ b) (b1 : b ≤ mb) (d0 : 0 ≤ d) (d1 : d ≤ md) (ih : ∀ (h : am_H) (l : am_L), jn_I cst h0 ma mb md h (121 * a + 11 * b + (d - 1)) → hp_a l 0 94 → hp_i l 1 a → hp_i l 2 b → hp_i l 3 (d - 1) → hp_F cst strs (jn_Φ cst h0) (D + 1) M 29 l [] h) (h : am_H) (l : am_L) (y0 y1 y2 y3 : Int32) (e : Int) (hy0 : y0.toInt = d) (hy1 : y1.toInt = b) (hy2 : y2.toInt = a) (hy3 : y3.toInt = 3) (I : jn_I cst h0 ma mb md h (121 * a + 11 * b + d)) (H : jn_h cst ma mb md a b d e 1 h) (l0 : hp_a l 0 94) (l1 : hp_i l 1 a) (l2 : hp_i l 2 b) (l3 : hp_i l 3 d) (l4 : hp_i l 4 e) (l5 : hp_i l 5 1) (l6 : hp_i l 6 3) : hp_F cst strs (jn_Φ cst h0) (D + 1) M 99 l [.int y0, .int y1, .int y2, .int y3, .ref 94] h := by
  obtain ⟨r, hrun, ⟨x, r1, hx⟩, r2, r3, rhy, rfr, rlen⟩ := rc_run c1 (by omega) I.1 (xs := y3) (xa := y2) (xb := y1) (xd := y0) (by omega) (by omega) (by omega) (by omega) (by omega) (by omega) (by omega)
  refine hp_call (mi := 411) (pc := 99) (tg := 412) (na := 5) (c := 78) (ci := 12) (st0 := [.int y0, .int y1, .int y2, .int y3, .ref 94]) (st := []) (av := [.int y3, .int y2, .int y1, .int y0]) hM (by decide +kernel) I.1 rfl rfl rfl (by decide) hrun r2 r3 ?_
  rw [r1]
  rw [hy0, hy1, hy2, hy3] at hx
  have I2 := jn_I_0 I rhy rfr rlen
  obtain ⟨e1, e2, e3⟩ := jn_eqs rfl rfl rfl I.1 rhy rfr
  rw [← e1, ← e2] at hx
  obtain ⟨-, -, -, k0, k1, k2, T⟩ := id I2
  have H1 := jn_h_0 I.1 H rhy rfr
  obtain ⟨m1, g1, g2, g3, g4, g5⟩ := H1
  have eb : e ≤ 360 := by rcases g1 with g1 | ⟨-, g1, -⟩ <;> omega
  rcases rcb3 (f := ly_hv cst r.2.1 44032) (a := a) (b := b) (d := d) k0 k1 k2 with hk | ⟨kk0, kk1, ⟨p0, p1⟩⟩
  · have H2 : jn_h cst ma mb md a b d e 2 r.2.1 := ⟨m1, g1, g2, fun t => absurd t (by decide), fun t => absurd t (by decide), fun t => absurd t (by decide)⟩
    exact jm1n c hM hD rhy a b d ma mb md e x (by omega) a0 (by omega) b0 (by omega) d0 (by omega) A0 A1 B0 B1 D0 D1 m1 (by omega) l0 l1 l2 l3 l4 l5 l6 (fun l' h2 z0 z1 z2 z3 w0 w1 w2 w3 u1 u2 u3 v0 v1 v2 v3 v4 v5 v6 => jp2 c1 c hM hD A0 A1 B0 B1 D0 D1 a0 a1 b0 b1 d0 d1 ih h2 l' z0 z1 z2 z3 (e) w0 w1 w2 w3 (jn_I_0 I2 u1 u2 u3) (jn_h_0 rhy H2 u1 u2) v0 v1 v2 v3 v4 v5 v6)
  · obtain ⟨y, hyv, yy0, yy1, -⟩ := T (a + 1) (b + 1) (d + 0) (by omega) (by omega) (by omega) (by omega) (by omega) (by omega) (by omega)
    rw [show 121 * (a + 1) + 11 * (b + 1) + (d + 0) = 121 * a + 11 * b + d + 132 by omega] at hyv
    have W : ∀ z : Int, z = x.toInt + y → jn_x (ly_hv cst r.2.1 44032) (ly_hv cst r.2.1 44288) (ly_hv cst r.2.1 45056) a b d z := fun z hz => Or.inr (Or.inl ⟨kk0, y, hyv, by omega⟩)
    have new : jn_h cst ma mb md a b d (x.toInt + y) 2 r.2.1 := ⟨by omega, Or.inr ⟨by omega, by omega, Or.inr (W _ rfl)⟩, fun _ => by omega, fun _ _ => by omega, fun _ _ => by omega, fun _ _ => by omega⟩
    by_cases he : e = -1
    · have H2 := new
      rw [he] at l4
      exact jm1a c hM hD rhy a b d ma mb md x.toInt y x rfl a0 (by omega) b0 (by omega) d0 (by omega) A0 A1 B0 B1 D0 D1 (by omega) (by omega) yy0 (by omega) (by omega) (by omega) k0 k1 k2 hyv l0 l1 l2 l3 l4 l5 l6 (fun l' h2 z0 z1 z2 z3 w0 w1 w2 w3 u1 u2 u3 v0 v1 v2 v3 v4 v5 v6 => jp2 c1 c hM hD A0 A1 B0 B1 D0 D1 a0 a1 b0 b1 d0 d1 ih h2 l' z0 z1 z2 z3 (x.toInt + y) w0 w1 w2 w3 (jn_I_0 I2 u1 u2 u3) (jn_h_0 rhy H2 u1 u2) v0 v1 v2 v3 v4 v5 v6)
    · by_cases hl : x.toInt + y < e
      · have H2 := new
        exact jm1b c hM hD rhy a b d ma mb md x.toInt y e x rfl a0 (by omega) b0 (by omega) d0 (by omega) A0 A1 B0 B1 D0 D1 (by omega) (by omega) yy0 (by omega) (by omega) (by omega) (by omega) (by omega) (by omega) k0 k1 k2 hyv l0 l1 l2 l3 l4 l5 l6 (fun l' h2 z0 z1 z2 z3 w0 w1 w2 w3 u1 u2 u3 v0 v1 v2 v3 v4 v5 v6 => jp2 c1 c hM hD A0 A1 B0 B1 D0 D1 a0 a1 b0 b1 d0 d1 ih h2 l' z0 z1 z2 z3 (x.toInt + y) w0 w1 w2 w3 (jn_I_0 I2 u1 u2 u3) (jn_h_0 rhy H2 u1 u2) v0 v1 v2 v3 v4 v5 v6)
      · have H2 : jn_h cst ma mb md a b d e 2 r.2.1 := ⟨m1, g1, g2, fun _ _ => he, fun _ _ => he, fun _ _ => he⟩
        exact jm1c c hM hD rhy a b d ma mb md x.toInt y e x rfl a0 (by omega) b0 (by omega) d0 (by omega) A0 A1 B0 B1 D0 D1 (by omega) (by omega) yy0 (by omega) (by omega) (by omega) (by omega) (by omega) (by omega) k0 k1 k2 hyv l0 l1 l2 l3 l4 l5 l6 (fun l' h2 z0 z1 z2 z3 w0 w1 w2 w3 u1 u2 u3 v0 v1 v2 v3 v4 v5 v6 => jp2 c1 c hM hD A0 A1 B0 B1 D0 D1 a0 a1 b0 b1 d0 d1 ih h2 l' z0 z1 z2 z3 (e) w0 w1 w2 w3 (jn_I_0 I2 u1 u2 u3) (jn_h_0 rhy H2 u1 u2) v0 v1 v2 v3 v4 v5 v6)
theorem jp0 (c1 : hp_C cst strs D) (c : hp_C cst strs (D + 1)) (hM : m_P[411]? = some M) (hD : (5 : Int) ≤ ((D + 1 : Nat) : Int) + 1) (A0 : 0 ≤ ma) (A1 : ma ≤ 10) (B0 : 0 ≤ mb) (B1 : mb ≤ 10) (D0 : 0 ≤ md) (D1 : md ≤ 10) {a b d : Int} (a0 : 0 ≤ a) (a1 : a ≤ ma) (b0 : 0 ≤ b) (b1 : b ≤ mb) (d0 : 0 ≤ d) (d1 : d ≤ md) (ih : ∀ (h : am_H) (l : am_L), jn_I cst h0 ma mb md h (121 * a + 11 * b + (d - 1)) → hp_a l 0 94 → hp_i l 1 a → hp_i l 2 b → hp_i l 3 (d - 1) → hp_F cst strs (jn_Φ cst h0) (D + 1) M 29 l [] h) (h : am_H) (l : am_L) (y0 y1 y2 y3 : Int32) (e : Int) (hy0 : y0.toInt = d) (hy1 : y1.toInt = b) (hy2 : y2.toInt = a) (hy3 : y3.toInt = 7) (I : jn_I cst h0 ma mb md h (121 * a + 11 * b + d)) (H : jn_h cst ma mb md a b d e 0 h) (l0 : hp_a l 0 94) (l1 : hp_i l 1 a) (l2 : hp_i l 2 b) (l3 : hp_i l 3 d) (l4 : hp_i l 4 e) (l5 : hp_i l 5 0) (l6 : hp_i l 6 7) : hp_F cst strs (jn_Φ cst h0) (D + 1) M 99 l [.int y0, .int y1, .int y2, .int y3, .ref 94] h := by
  obtain ⟨r, hrun, ⟨x, r1, hx⟩, r2, r3, rhy, rfr, rlen⟩ := rc_run c1 (by omega) I.1 (xs := y3) (xa := y2) (xb := y1) (xd := y0) (by omega) (by omega) (by omega) (by omega) (by omega) (by omega) (by omega)
  refine hp_call (mi := 411) (pc := 99) (tg := 412) (na := 5) (c := 78) (ci := 12) (st0 := [.int y0, .int y1, .int y2, .int y3, .ref 94]) (st := []) (av := [.int y3, .int y2, .int y1, .int y0]) hM (by decide +kernel) I.1 rfl rfl rfl (by decide) hrun r2 r3 ?_
  rw [r1]
  rw [hy0, hy1, hy2, hy3] at hx
  have I2 := jn_I_0 I rhy rfr rlen
  obtain ⟨e1, e2, e3⟩ := jn_eqs rfl rfl rfl I.1 rhy rfr
  rw [← e1, ← e2] at hx
  obtain ⟨-, -, -, k0, k1, k2, T⟩ := id I2
  have H1 := jn_h_0 I.1 H rhy rfr
  obtain ⟨m1, g1, g2, g3, g4, g5⟩ := H1
  have eb : e ≤ 360 := by rcases g1 with g1 | ⟨-, g1, -⟩ <;> omega
  rcases rcb7 (f := ly_hv cst r.2.1 44032) (a := a) (b := b) (d := d) k0 k1 k2 with hk | ⟨kk0, kk1, ⟨p0, p1, p2⟩⟩
  · have H2 : jn_h cst ma mb md a b d e 1 r.2.1 := ⟨m1, g1, g2, fun t => absurd t (by decide), fun t => absurd t (by decide), fun t => absurd t (by decide)⟩
    exact jm0n c hM hD rhy a b d ma mb md e x (by omega) a0 (by omega) b0 (by omega) d0 (by omega) A0 A1 B0 B1 D0 D1 m1 (by omega) l0 l1 l2 l3 l4 l5 l6 (fun l' h2 z0 z1 z2 z3 w0 w1 w2 w3 u1 u2 u3 v0 v1 v2 v3 v4 v5 v6 => jp1 c1 c hM hD A0 A1 B0 B1 D0 D1 a0 a1 b0 b1 d0 d1 ih h2 l' z0 z1 z2 z3 (e) w0 w1 w2 w3 (jn_I_0 I2 u1 u2 u3) (jn_h_0 rhy H2 u1 u2) v0 v1 v2 v3 v4 v5 v6)
  · obtain ⟨y, hyv, yy0, yy1, -⟩ := T (a + 1) (b + 1) (d + 1) (by omega) (by omega) (by omega) (by omega) (by omega) (by omega) (by omega)
    rw [show 121 * (a + 1) + 11 * (b + 1) + (d + 1) = 121 * a + 11 * b + d + 133 by omega] at hyv
    have W : ∀ z : Int, z = x.toInt + y → jn_x (ly_hv cst r.2.1 44032) (ly_hv cst r.2.1 44288) (ly_hv cst r.2.1 45056) a b d z := fun z hz => Or.inl ⟨kk0, y, hyv, by omega⟩
    have new : jn_h cst ma mb md a b d (x.toInt + y) 1 r.2.1 := ⟨by omega, Or.inr ⟨by omega, by omega, Or.inr (W _ rfl)⟩, fun _ => by omega, fun _ _ => by omega, fun _ _ => by omega, fun _ _ => by omega⟩
    by_cases he : e = -1
    · have H2 := new
      rw [he] at l4
      exact jm0a c hM hD rhy a b d ma mb md x.toInt y x rfl a0 (by omega) b0 (by omega) d0 (by omega) A0 A1 B0 B1 D0 D1 (by omega) (by omega) yy0 (by omega) (by omega) (by omega) (by omega) k0 k1 k2 hyv l0 l1 l2 l3 l4 l5 l6 (fun l' h2 z0 z1 z2 z3 w0 w1 w2 w3 u1 u2 u3 v0 v1 v2 v3 v4 v5 v6 => jp1 c1 c hM hD A0 A1 B0 B1 D0 D1 a0 a1 b0 b1 d0 d1 ih h2 l' z0 z1 z2 z3 (x.toInt + y) w0 w1 w2 w3 (jn_I_0 I2 u1 u2 u3) (jn_h_0 rhy H2 u1 u2) v0 v1 v2 v3 v4 v5 v6)
    · by_cases hl : x.toInt + y < e
      · have H2 := new
        exact jm0b c hM hD rhy a b d ma mb md x.toInt y e x rfl a0 (by omega) b0 (by omega) d0 (by omega) A0 A1 B0 B1 D0 D1 (by omega) (by omega) yy0 (by omega) (by omega) (by omega) (by omega) (by omega) (by omega) (by omega) k0 k1 k2 hyv l0 l1 l2 l3 l4 l5 l6 (fun l' h2 z0 z1 z2 z3 w0 w1 w2 w3 u1 u2 u3 v0 v1 v2 v3 v4 v5 v6 => jp1 c1 c hM hD A0 A1 B0 B1 D0 D1 a0 a1 b0 b1 d0 d1 ih h2 l' z0 z1 z2 z3 (x.toInt + y) w0 w1 w2 w3 (jn_I_0 I2 u1 u2 u3) (jn_h_0 rhy H2 u1 u2) v0 v1 v2 v3 v4 v5 v6)
      · have H2 : jn_h cst ma mb md a b d e 1 r.2.1 := ⟨m1, g1, g2, fun _ _ => he, fun _ _ => he, fun _ _ => he⟩
        exact jm0c c hM hD rhy a b d ma mb md x.toInt y e x rfl a0 (by omega) b0 (by omega) d0 (by omega) A0 A1 B0 B1 D0 D1 (by omega) (by omega) yy0 (by omega) (by omega) (by omega) (by omega) (by omega) (by omega) (by omega) k0 k1 k2 hyv l0 l1 l2 l3 l4 l5 l6 (fun l' h2 z0 z1 z2 z3 w0 w1 w2 w3 u1 u2 u3 v0 v1 v2 v3 v4 v5 v6 => jp1 c1 c hM hD A0 A1 B0 B1 D0 D1 a0 a1 b0 b1 d0 d1 ih h2 l' z0 z1 z2 z3 (e) w0 w1 w2 w3 (jn_I_0 I2 u1 u2 u3) (jn_h_0 rhy H2 u1 u2) v0 v1 v2 v3 v4 v5 v6)
theorem jq6 (c1 : hp_C cst strs D) (c : hp_C cst strs (D + 1)) (hM : m_P[411]? = some M) (hD : (5 : Int) ≤ ((D + 1 : Nat) : Int) + 1) (A0 : 0 ≤ ma) (A1 : ma ≤ 10) (B0 : 0 ≤ mb) (B1 : mb ≤ 10) (D0 : 0 ≤ md) (D1 : md ≤ 10) {a b d n x : Int} (a0 : 0 ≤ a) (a1 : a ≤ ma) (b0 : 0 ≤ b) (b1 : b ≤ mb) (d0 : 0 ≤ d) (d1 : d ≤ md) (n0 : 0 ≤ n) (n1 : n ≤ a + b + d) (ih : ∀ (h : am_H) (l : am_L) (a' b' d' n' : Int), a' + b' + d' > a + b + d → 0 ≤ a' → a' ≤ ma → 0 ≤ b' → b' ≤ mb → 0 ≤ d' → d' ≤ md → n' ≤ a' + b' + d' → 0 ≤ n' → jn_I cst h0 ma mb md h (-1) → ly_hv cst h 20104 0 = some n' → hp_a l 0 94 → hp_i l 1 a' → hp_i l 2 b' → hp_i l 3 d' → hp_F cst strs (jn_Φ cst h0) (D + 1) M 216 l [] h) (h : am_H) (l : am_L) (y0 y1 y2 y3 : Int32) (hy0 : y0.toInt = d) (hy1 : y1.toInt = b) (hy2 : y2.toInt = a) (hy3 : y3.toInt = 4) (I : jn_I cst h0 ma mb md h (-1)) (hn : ly_hv cst h 20104 0 = some n) (hxv : ly_hv cst h 45056 (121 * a + 11 * b + d) = some x) (x0 : 0 ≤ x) (x1 : x ≤ 360) (R : jn_w (ly_hv cst h 44032) (ly_hv cst h 44288) (ly_hv cst h 45056) a b d x 4 1) (l0 : hp_a l 0 94) (l1 : hp_i l 1 a) (l2 : hp_i l 2 b) (l3 : hp_i l 3 d) (l4 : hp_i l 4 0) (l5 : hp_i l 5 6) (l6 : hp_i l 6 4) : hp_F cst strs (jn_Φ cst h0) (D + 1) M 283 l [.int y0, .int y1, .int y2, .int y3, .ref 94] h := by
  obtain ⟨r, hrun, ⟨x', r1, hx⟩, r2, r3, rhy, rfr, rlen⟩ := rc_run c1 (by omega) I.1 (xs := y3) (xa := y2) (xb := y1) (xd := y0) (by omega) (by omega) (by omega) (by omega) (by omega) (by omega) (by omega)
  refine hp_call (mi := 411) (pc := 283) (tg := 412) (na := 5) (c := 78) (ci := 12) (st0 := [.int y0, .int y1, .int y2, .int y3, .ref 94]) (st := []) (av := [.int y3, .int y2, .int y1, .int y0]) hM (by decide +kernel) I.1 rfl rfl rfl (by decide) hrun r2 r3 ?_
  rw [r1]
  rw [hy0, hy1, hy2, hy3] at hx
  have I2 := jn_I_0 I rhy rfr rlen
  obtain ⟨e1, e2, e3⟩ := jn_eqs rfl rfl rfl I.1 rhy rfr
  rw [← e1, ← e2] at hx
  obtain ⟨-, -, -, k0, k1, k2, T⟩ := id I2
  have hxz := hxv
  rw [← e3] at hxz
  have hnz := rfr _ _ _ rfl hn
  rw [← e1, ← e2, ← e3] at R
  rcases rcb4 (f := ly_hv cst r.2.1 44032) (a := a) (b := b) (d := d) k0 k1 k2 with hk | ⟨kk0, kk1, p0⟩
  · exact absurd R.1 (by rw [hk]; decide)
  · obtain ⟨y, hyv, yy0, yy1, -⟩ := T (a + 0) (b + 0) (d + 1) (by omega) (by omega) (by omega) (by omega) (by omega) (by omega) (by omega)
    rw [show 121 * (a + 0) + 11 * (b + 0) + (d + 1) = 121 * a + 11 * b + d + 1 by omega] at hyv
    have he : x'.toInt + y = x := by
      obtain ⟨-, y2, h1, h2⟩ := R
      rw [hyv] at h1
      cases h1
      omega
    exact jw6e c hM hD rhy a b d ma mb md x'.toInt y n x' rfl a0 (by omega) b0 (by omega) d0 (by omega) A0 A1 B0 B1 D0 D1 (by omega) (by omega) yy0 (by omega) n0 (by omega) (by omega) k0 k1 k2 hyv (by rw [hxz]; congr 1; omega) hnz l0 l1 l2 l3 l4 l5 l6 (fun l' h2 u1 u2 u3 hn2 v0 v1 v2 v3 => ih h2 l' (a + 0) (b + 0) (d + 1) (n + 1) (by omega) (by omega) (by omega) (by omega) (by omega) (by omega) (by omega) (by omega) (by omega) (jn_I_arc rfl rfl rfl (jn_sub rfl) I2 u1 u2 u3) hn2 v0 (by rw [Int.add_zero]; exact v1) (by rw [Int.add_zero]; exact v2) v3)
theorem jq5 (c1 : hp_C cst strs D) (c : hp_C cst strs (D + 1)) (hM : m_P[411]? = some M) (hD : (5 : Int) ≤ ((D + 1 : Nat) : Int) + 1) (A0 : 0 ≤ ma) (A1 : ma ≤ 10) (B0 : 0 ≤ mb) (B1 : mb ≤ 10) (D0 : 0 ≤ md) (D1 : md ≤ 10) {a b d n x : Int} (a0 : 0 ≤ a) (a1 : a ≤ ma) (b0 : 0 ≤ b) (b1 : b ≤ mb) (d0 : 0 ≤ d) (d1 : d ≤ md) (n0 : 0 ≤ n) (n1 : n ≤ a + b + d) (ih : ∀ (h : am_H) (l : am_L) (a' b' d' n' : Int), a' + b' + d' > a + b + d → 0 ≤ a' → a' ≤ ma → 0 ≤ b' → b' ≤ mb → 0 ≤ d' → d' ≤ md → n' ≤ a' + b' + d' → 0 ≤ n' → jn_I cst h0 ma mb md h (-1) → ly_hv cst h 20104 0 = some n' → hp_a l 0 94 → hp_i l 1 a' → hp_i l 2 b' → hp_i l 3 d' → hp_F cst strs (jn_Φ cst h0) (D + 1) M 216 l [] h) (h : am_H) (l : am_L) (y0 y1 y2 y3 : Int32) (hy0 : y0.toInt = d) (hy1 : y1.toInt = b) (hy2 : y2.toInt = a) (hy3 : y3.toInt = 2) (I : jn_I cst h0 ma mb md h (-1)) (hn : ly_hv cst h 20104 0 = some n) (hxv : ly_hv cst h 45056 (121 * a + 11 * b + d) = some x) (x0 : 0 ≤ x) (x1 : x ≤ 360) (R : jn_w (ly_hv cst h 44032) (ly_hv cst h 44288) (ly_hv cst h 45056) a b d x 2 11 ∨ jn_w (ly_hv cst h 44032) (ly_hv cst h 44288) (ly_hv cst h 45056) a b d x 4 1) (l0 : hp_a l 0 94) (l1 : hp_i l 1 a) (l2 : hp_i l 2 b) (l3 : hp_i l 3 d) (l4 : hp_i l 4 0) (l5 : hp_i l 5 5) (l6 : hp_i l 6 2) : hp_F cst strs (jn_Φ cst h0) (D + 1) M 283 l [.int y0, .int y1, .int y2, .int y3, .ref 94] h := by
  obtain ⟨r, hrun, ⟨x', r1, hx⟩, r2, r3, rhy, rfr, rlen⟩ := rc_run c1 (by omega) I.1 (xs := y3) (xa := y2) (xb := y1) (xd := y0) (by omega) (by omega) (by omega) (by omega) (by omega) (by omega) (by omega)
  refine hp_call (mi := 411) (pc := 283) (tg := 412) (na := 5) (c := 78) (ci := 12) (st0 := [.int y0, .int y1, .int y2, .int y3, .ref 94]) (st := []) (av := [.int y3, .int y2, .int y1, .int y0]) hM (by decide +kernel) I.1 rfl rfl rfl (by decide) hrun r2 r3 ?_
  rw [r1]
  rw [hy0, hy1, hy2, hy3] at hx
  have I2 := jn_I_0 I rhy rfr rlen
  obtain ⟨e1, e2, e3⟩ := jn_eqs rfl rfl rfl I.1 rhy rfr
  rw [← e1, ← e2] at hx
  obtain ⟨-, -, -, k0, k1, k2, T⟩ := id I2
  have hxz := hxv
  rw [← e3] at hxz
  have hnz := rfr _ _ _ rfl hn
  rw [← e1, ← e2, ← e3] at R
  rcases rcb2 (f := ly_hv cst r.2.1 44032) (a := a) (b := b) (d := d) k0 k1 k2 with hk | ⟨kk0, kk1, p0⟩
  · have R2 := R.resolve_left (fun w => by have := w.1; rw [hk] at this; exact absurd this (by decide))
    exact jw5n c hM hD rhy a b d ma mb md x' (by omega) a0 (by omega) b0 (by omega) d0 (by omega) A0 A1 B0 B1 D0 D1 l0 l1 l2 l3 l4 l5 l6 (fun l' h2 z0 z1 z2 z3 w0 w1 w2 w3 u1 u2 u3 v0 v1 v2 v3 v4 v5 v6 => jq6 c1 c hM hD A0 A1 B0 B1 D0 D1 a0 a1 b0 b1 d0 d1 n0 n1 ih h2 l' z0 z1 z2 z3 w0 w1 w2 w3 (jn_I_0 I2 u1 u2 u3) (u2 _ _ _ rfl hnz) (u2 _ _ _ rfl hxz) x0 x1 (by obtain ⟨f1, f2, f3⟩ := jn_eqs rfl rfl rfl rhy u1 u2; rw [f1, f2, f3]; exact R2) v0 v1 v2 v3 v4 v5 v6)
  · obtain ⟨y, hyv, yy0, yy1, -⟩ := T (a + 0) (b + 1) (d + 0) (by omega) (by omega) (by omega) (by omega) (by omega) (by omega) (by omega)
    rw [show 121 * (a + 0) + 11 * (b + 1) + (d + 0) = 121 * a + 11 * b + d + 11 by omega] at hyv
    by_cases he : x'.toInt + y = x
    · exact jw5e c hM hD rhy a b d ma mb md x'.toInt y n x' rfl a0 (by omega) b0 (by omega) d0 (by omega) A0 A1 B0 B1 D0 D1 (by omega) (by omega) yy0 (by omega) n0 (by omega) (by omega) k0 k1 k2 hyv (by rw [hxz]; congr 1; omega) hnz l0 l1 l2 l3 l4 l5 l6 (fun l' h2 u1 u2 u3 hn2 v0 v1 v2 v3 => ih h2 l' (a + 0) (b + 1) (d + 0) (n + 1) (by omega) (by omega) (by omega) (by omega) (by omega) (by omega) (by omega) (by omega) (by omega) (jn_I_arc rfl rfl rfl (jn_sub rfl) I2 u1 u2 u3) hn2 v0 (by rw [Int.add_zero]; exact v1) v2 (by rw [Int.add_zero]; exact v3))
    · have R2 := R.resolve_left (fun w => by
        obtain ⟨-, y2, h1, h2⟩ := w
        rw [hyv] at h1
        cases h1
        exact he (by omega))
      exact jw5q c hM hD rhy a b d ma mb md x'.toInt y x x' rfl a0 (by omega) b0 (by omega) d0 (by omega) A0 A1 B0 B1 D0 D1 (by omega) (by omega) yy0 (by omega) x0 x1 (by omega) k0 k1 k2 hyv hxz (hp_ne (by omega)) l0 l1 l2 l3 l4 l5 l6 (fun l' h2 z0 z1 z2 z3 w0 w1 w2 w3 u1 u2 u3 v0 v1 v2 v3 v4 v5 v6 => jq6 c1 c hM hD A0 A1 B0 B1 D0 D1 a0 a1 b0 b1 d0 d1 n0 n1 ih h2 l' z0 z1 z2 z3 w0 w1 w2 w3 (jn_I_0 I2 u1 u2 u3) (u2 _ _ _ rfl hnz) (u2 _ _ _ rfl hxz) x0 x1 (by obtain ⟨f1, f2, f3⟩ := jn_eqs rfl rfl rfl rhy u1 u2; rw [f1, f2, f3]; exact R2) v0 v1 v2 v3 v4 v5 v6)
theorem jq4 (c1 : hp_C cst strs D) (c : hp_C cst strs (D + 1)) (hM : m_P[411]? = some M) (hD : (5 : Int) ≤ ((D + 1 : Nat) : Int) + 1) (A0 : 0 ≤ ma) (A1 : ma ≤ 10) (B0 : 0 ≤ mb) (B1 : mb ≤ 10) (D0 : 0 ≤ md) (D1 : md ≤ 10) {a b d n x : Int} (a0 : 0 ≤ a) (a1 : a ≤ ma) (b0 : 0 ≤ b) (b1 : b ≤ mb) (d0 : 0 ≤ d) (d1 : d ≤ md) (n0 : 0 ≤ n) (n1 : n ≤ a + b + d) (ih : ∀ (h : am_H) (l : am_L) (a' b' d' n' : Int), a' + b' + d' > a + b + d → 0 ≤ a' → a' ≤ ma → 0 ≤ b' → b' ≤ mb → 0 ≤ d' → d' ≤ md → n' ≤ a' + b' + d' → 0 ≤ n' → jn_I cst h0 ma mb md h (-1) → ly_hv cst h 20104 0 = some n' → hp_a l 0 94 → hp_i l 1 a' → hp_i l 2 b' → hp_i l 3 d' → hp_F cst strs (jn_Φ cst h0) (D + 1) M 216 l [] h) (h : am_H) (l : am_L) (y0 y1 y2 y3 : Int32) (hy0 : y0.toInt = d) (hy1 : y1.toInt = b) (hy2 : y2.toInt = a) (hy3 : y3.toInt = 1) (I : jn_I cst h0 ma mb md h (-1)) (hn : ly_hv cst h 20104 0 = some n) (hxv : ly_hv cst h 45056 (121 * a + 11 * b + d) = some x) (x0 : 0 ≤ x) (x1 : x ≤ 360) (R : jn_w (ly_hv cst h 44032) (ly_hv cst h 44288) (ly_hv cst h 45056) a b d x 1 121 ∨ jn_w (ly_hv cst h 44032) (ly_hv cst h 44288) (ly_hv cst h 45056) a b d x 2 11 ∨ jn_w (ly_hv cst h 44032) (ly_hv cst h 44288) (ly_hv cst h 45056) a b d x 4 1) (l0 : hp_a l 0 94) (l1 : hp_i l 1 a) (l2 : hp_i l 2 b) (l3 : hp_i l 3 d) (l4 : hp_i l 4 0) (l5 : hp_i l 5 4) (l6 : hp_i l 6 1) : hp_F cst strs (jn_Φ cst h0) (D + 1) M 283 l [.int y0, .int y1, .int y2, .int y3, .ref 94] h := by
  obtain ⟨r, hrun, ⟨x', r1, hx⟩, r2, r3, rhy, rfr, rlen⟩ := rc_run c1 (by omega) I.1 (xs := y3) (xa := y2) (xb := y1) (xd := y0) (by omega) (by omega) (by omega) (by omega) (by omega) (by omega) (by omega)
  refine hp_call (mi := 411) (pc := 283) (tg := 412) (na := 5) (c := 78) (ci := 12) (st0 := [.int y0, .int y1, .int y2, .int y3, .ref 94]) (st := []) (av := [.int y3, .int y2, .int y1, .int y0]) hM (by decide +kernel) I.1 rfl rfl rfl (by decide) hrun r2 r3 ?_
  rw [r1]
  rw [hy0, hy1, hy2, hy3] at hx
  have I2 := jn_I_0 I rhy rfr rlen
  obtain ⟨e1, e2, e3⟩ := jn_eqs rfl rfl rfl I.1 rhy rfr
  rw [← e1, ← e2] at hx
  obtain ⟨-, -, -, k0, k1, k2, T⟩ := id I2
  have hxz := hxv
  rw [← e3] at hxz
  have hnz := rfr _ _ _ rfl hn
  rw [← e1, ← e2, ← e3] at R
  rcases rcb1 (f := ly_hv cst r.2.1 44032) (a := a) (b := b) (d := d) k0 k1 k2 with hk | ⟨kk0, kk1, p0⟩
  · have R2 := R.resolve_left (fun w => by have := w.1; rw [hk] at this; exact absurd this (by decide))
    exact jw4n c hM hD rhy a b d ma mb md x' (by omega) a0 (by omega) b0 (by omega) d0 (by omega) A0 A1 B0 B1 D0 D1 l0 l1 l2 l3 l4 l5 l6 (fun l' h2 z0 z1 z2 z3 w0 w1 w2 w3 u1 u2 u3 v0 v1 v2 v3 v4 v5 v6 => jq5 c1 c hM hD A0 A1 B0 B1 D0 D1 a0 a1 b0 b1 d0 d1 n0 n1 ih h2 l' z0 z1 z2 z3 w0 w1 w2 w3 (jn_I_0 I2 u1 u2 u3) (u2 _ _ _ rfl hnz) (u2 _ _ _ rfl hxz) x0 x1 (by obtain ⟨f1, f2, f3⟩ := jn_eqs rfl rfl rfl rhy u1 u2; rw [f1, f2, f3]; exact R2) v0 v1 v2 v3 v4 v5 v6)
  · obtain ⟨y, hyv, yy0, yy1, -⟩ := T (a + 1) (b + 0) (d + 0) (by omega) (by omega) (by omega) (by omega) (by omega) (by omega) (by omega)
    rw [show 121 * (a + 1) + 11 * (b + 0) + (d + 0) = 121 * a + 11 * b + d + 121 by omega] at hyv
    by_cases he : x'.toInt + y = x
    · exact jw4e c hM hD rhy a b d ma mb md x'.toInt y n x' rfl a0 (by omega) b0 (by omega) d0 (by omega) A0 A1 B0 B1 D0 D1 (by omega) (by omega) yy0 (by omega) n0 (by omega) (by omega) k0 k1 k2 hyv (by rw [hxz]; congr 1; omega) hnz l0 l1 l2 l3 l4 l5 l6 (fun l' h2 u1 u2 u3 hn2 v0 v1 v2 v3 => ih h2 l' (a + 1) (b + 0) (d + 0) (n + 1) (by omega) (by omega) (by omega) (by omega) (by omega) (by omega) (by omega) (by omega) (by omega) (jn_I_arc rfl rfl rfl (jn_sub rfl) I2 u1 u2 u3) hn2 v0 v1 (by rw [Int.add_zero]; exact v2) (by rw [Int.add_zero]; exact v3))
    · have R2 := R.resolve_left (fun w => by
        obtain ⟨-, y2, h1, h2⟩ := w
        rw [hyv] at h1
        cases h1
        exact he (by omega))
      exact jw4q c hM hD rhy a b d ma mb md x'.toInt y x x' rfl a0 (by omega) b0 (by omega) d0 (by omega) A0 A1 B0 B1 D0 D1 (by omega) (by omega) yy0 (by omega) x0 x1 (by omega) k0 k1 k2 hyv hxz (hp_ne (by omega)) l0 l1 l2 l3 l4 l5 l6 (fun l' h2 z0 z1 z2 z3 w0 w1 w2 w3 u1 u2 u3 v0 v1 v2 v3 v4 v5 v6 => jq5 c1 c hM hD A0 A1 B0 B1 D0 D1 a0 a1 b0 b1 d0 d1 n0 n1 ih h2 l' z0 z1 z2 z3 w0 w1 w2 w3 (jn_I_0 I2 u1 u2 u3) (u2 _ _ _ rfl hnz) (u2 _ _ _ rfl hxz) x0 x1 (by obtain ⟨f1, f2, f3⟩ := jn_eqs rfl rfl rfl rhy u1 u2; rw [f1, f2, f3]; exact R2) v0 v1 v2 v3 v4 v5 v6)
theorem jq3 (c1 : hp_C cst strs D) (c : hp_C cst strs (D + 1)) (hM : m_P[411]? = some M) (hD : (5 : Int) ≤ ((D + 1 : Nat) : Int) + 1) (A0 : 0 ≤ ma) (A1 : ma ≤ 10) (B0 : 0 ≤ mb) (B1 : mb ≤ 10) (D0 : 0 ≤ md) (D1 : md ≤ 10) {a b d n x : Int} (a0 : 0 ≤ a) (a1 : a ≤ ma) (b0 : 0 ≤ b) (b1 : b ≤ mb) (d0 : 0 ≤ d) (d1 : d ≤ md) (n0 : 0 ≤ n) (n1 : n ≤ a + b + d) (ih : ∀ (h : am_H) (l : am_L) (a' b' d' n' : Int), a' + b' + d' > a + b + d → 0 ≤ a' → a' ≤ ma → 0 ≤ b' → b' ≤ mb → 0 ≤ d' → d' ≤ md → n' ≤ a' + b' + d' → 0 ≤ n' → jn_I cst h0 ma mb md h (-1) → ly_hv cst h 20104 0 = some n' → hp_a l 0 94 → hp_i l 1 a' → hp_i l 2 b' → hp_i l 3 d' → hp_F cst strs (jn_Φ cst h0) (D + 1) M 216 l [] h) (h : am_H) (l : am_L) (y0 y1 y2 y3 : Int32) (hy0 : y0.toInt = d) (hy1 : y1.toInt = b) (hy2 : y2.toInt = a) (hy3 : y3.toInt = 6) (I : jn_I cst h0 ma mb md h (-1)) (hn : ly_hv cst h 20104 0 = some n) (hxv : ly_hv cst h 45056 (121 * a + 11 * b + d) = some x) (x0 : 0 ≤ x) (x1 : x ≤ 360) (R : jn_w (ly_hv cst h 44032) (ly_hv cst h 44288) (ly_hv cst h 45056) a b d x 6 12 ∨ jn_w (ly_hv cst h 44032) (ly_hv cst h 44288) (ly_hv cst h 45056) a b d x 1 121 ∨ jn_w (ly_hv cst h 44032) (ly_hv cst h 44288) (ly_hv cst h 45056) a b d x 2 11 ∨ jn_w (ly_hv cst h 44032) (ly_hv cst h 44288) (ly_hv cst h 45056) a b d x 4 1) (l0 : hp_a l 0 94) (l1 : hp_i l 1 a) (l2 : hp_i l 2 b) (l3 : hp_i l 3 d) (l4 : hp_i l 4 0) (l5 : hp_i l 5 3) (l6 : hp_i l 6 6) : hp_F cst strs (jn_Φ cst h0) (D + 1) M 283 l [.int y0, .int y1, .int y2, .int y3, .ref 94] h := by
  obtain ⟨r, hrun, ⟨x', r1, hx⟩, r2, r3, rhy, rfr, rlen⟩ := rc_run c1 (by omega) I.1 (xs := y3) (xa := y2) (xb := y1) (xd := y0) (by omega) (by omega) (by omega) (by omega) (by omega) (by omega) (by omega)
  refine hp_call (mi := 411) (pc := 283) (tg := 412) (na := 5) (c := 78) (ci := 12) (st0 := [.int y0, .int y1, .int y2, .int y3, .ref 94]) (st := []) (av := [.int y3, .int y2, .int y1, .int y0]) hM (by decide +kernel) I.1 rfl rfl rfl (by decide) hrun r2 r3 ?_
  rw [r1]
  rw [hy0, hy1, hy2, hy3] at hx
  have I2 := jn_I_0 I rhy rfr rlen
  obtain ⟨e1, e2, e3⟩ := jn_eqs rfl rfl rfl I.1 rhy rfr
  rw [← e1, ← e2] at hx
  obtain ⟨-, -, -, k0, k1, k2, T⟩ := id I2
  have hxz := hxv
  rw [← e3] at hxz
  have hnz := rfr _ _ _ rfl hn
  rw [← e1, ← e2, ← e3] at R
  rcases rcb6 (f := ly_hv cst r.2.1 44032) (a := a) (b := b) (d := d) k0 k1 k2 with hk | ⟨kk0, kk1, ⟨p0, p1⟩⟩
  · have R2 := R.resolve_left (fun w => by have := w.1; rw [hk] at this; exact absurd this (by decide))
    exact jw3n c hM hD rhy a b d ma mb md x' (by omega) a0 (by omega) b0 (by omega) d0 (by omega) A0 A1 B0 B1 D0 D1 l0 l1 l2 l3 l4 l5 l6 (fun l' h2 z0 z1 z2 z3 w0 w1 w2 w3 u1 u2 u3 v0 v1 v2 v3 v4 v5 v6 => jq4 c1 c hM hD A0 A1 B0 B1 D0 D1 a0 a1 b0 b1 d0 d1 n0 n1 ih h2 l' z0 z1 z2 z3 w0 w1 w2 w3 (jn_I_0 I2 u1 u2 u3) (u2 _ _ _ rfl hnz) (u2 _ _ _ rfl hxz) x0 x1 (by obtain ⟨f1, f2, f3⟩ := jn_eqs rfl rfl rfl rhy u1 u2; rw [f1, f2, f3]; exact R2) v0 v1 v2 v3 v4 v5 v6)
  · obtain ⟨y, hyv, yy0, yy1, -⟩ := T (a + 0) (b + 1) (d + 1) (by omega) (by omega) (by omega) (by omega) (by omega) (by omega) (by omega)
    rw [show 121 * (a + 0) + 11 * (b + 1) + (d + 1) = 121 * a + 11 * b + d + 12 by omega] at hyv
    by_cases he : x'.toInt + y = x
    · exact jw3e c hM hD rhy a b d ma mb md x'.toInt y n x' rfl a0 (by omega) b0 (by omega) d0 (by omega) A0 A1 B0 B1 D0 D1 (by omega) (by omega) yy0 (by omega) n0 (by omega) (by omega) (by omega) k0 k1 k2 hyv (by rw [hxz]; congr 1; omega) hnz l0 l1 l2 l3 l4 l5 l6 (fun l' h2 u1 u2 u3 hn2 v0 v1 v2 v3 => ih h2 l' (a + 0) (b + 1) (d + 1) (n + 1) (by omega) (by omega) (by omega) (by omega) (by omega) (by omega) (by omega) (by omega) (by omega) (jn_I_arc rfl rfl rfl (jn_sub rfl) I2 u1 u2 u3) hn2 v0 (by rw [Int.add_zero]; exact v1) v2 v3)
    · have R2 := R.resolve_left (fun w => by
        obtain ⟨-, y2, h1, h2⟩ := w
        rw [hyv] at h1
        cases h1
        exact he (by omega))
      exact jw3q c hM hD rhy a b d ma mb md x'.toInt y x x' rfl a0 (by omega) b0 (by omega) d0 (by omega) A0 A1 B0 B1 D0 D1 (by omega) (by omega) yy0 (by omega) x0 x1 (by omega) (by omega) k0 k1 k2 hyv hxz (hp_ne (by omega)) l0 l1 l2 l3 l4 l5 l6 (fun l' h2 z0 z1 z2 z3 w0 w1 w2 w3 u1 u2 u3 v0 v1 v2 v3 v4 v5 v6 => jq4 c1 c hM hD A0 A1 B0 B1 D0 D1 a0 a1 b0 b1 d0 d1 n0 n1 ih h2 l' z0 z1 z2 z3 w0 w1 w2 w3 (jn_I_0 I2 u1 u2 u3) (u2 _ _ _ rfl hnz) (u2 _ _ _ rfl hxz) x0 x1 (by obtain ⟨f1, f2, f3⟩ := jn_eqs rfl rfl rfl rhy u1 u2; rw [f1, f2, f3]; exact R2) v0 v1 v2 v3 v4 v5 v6)
theorem jq2 (c1 : hp_C cst strs D) (c : hp_C cst strs (D + 1)) (hM : m_P[411]? = some M) (hD : (5 : Int) ≤ ((D + 1 : Nat) : Int) + 1) (A0 : 0 ≤ ma) (A1 : ma ≤ 10) (B0 : 0 ≤ mb) (B1 : mb ≤ 10) (D0 : 0 ≤ md) (D1 : md ≤ 10) {a b d n x : Int} (a0 : 0 ≤ a) (a1 : a ≤ ma) (b0 : 0 ≤ b) (b1 : b ≤ mb) (d0 : 0 ≤ d) (d1 : d ≤ md) (n0 : 0 ≤ n) (n1 : n ≤ a + b + d) (ih : ∀ (h : am_H) (l : am_L) (a' b' d' n' : Int), a' + b' + d' > a + b + d → 0 ≤ a' → a' ≤ ma → 0 ≤ b' → b' ≤ mb → 0 ≤ d' → d' ≤ md → n' ≤ a' + b' + d' → 0 ≤ n' → jn_I cst h0 ma mb md h (-1) → ly_hv cst h 20104 0 = some n' → hp_a l 0 94 → hp_i l 1 a' → hp_i l 2 b' → hp_i l 3 d' → hp_F cst strs (jn_Φ cst h0) (D + 1) M 216 l [] h) (h : am_H) (l : am_L) (y0 y1 y2 y3 : Int32) (hy0 : y0.toInt = d) (hy1 : y1.toInt = b) (hy2 : y2.toInt = a) (hy3 : y3.toInt = 5) (I : jn_I cst h0 ma mb md h (-1)) (hn : ly_hv cst h 20104 0 = some n) (hxv : ly_hv cst h 45056 (121 * a + 11 * b + d) = some x) (x0 : 0 ≤ x) (x1 : x ≤ 360) (R : jn_w (ly_hv cst h 44032) (ly_hv cst h 44288) (ly_hv cst h 45056) a b d x 5 122 ∨ jn_w (ly_hv cst h 44032) (ly_hv cst h 44288) (ly_hv cst h 45056) a b d x 6 12 ∨ jn_w (ly_hv cst h 44032) (ly_hv cst h 44288) (ly_hv cst h 45056) a b d x 1 121 ∨ jn_w (ly_hv cst h 44032) (ly_hv cst h 44288) (ly_hv cst h 45056) a b d x 2 11 ∨ jn_w (ly_hv cst h 44032) (ly_hv cst h 44288) (ly_hv cst h 45056) a b d x 4 1) (l0 : hp_a l 0 94) (l1 : hp_i l 1 a) (l2 : hp_i l 2 b) (l3 : hp_i l 3 d) (l4 : hp_i l 4 0) (l5 : hp_i l 5 2) (l6 : hp_i l 6 5) : hp_F cst strs (jn_Φ cst h0) (D + 1) M 283 l [.int y0, .int y1, .int y2, .int y3, .ref 94] h := by
  obtain ⟨r, hrun, ⟨x', r1, hx⟩, r2, r3, rhy, rfr, rlen⟩ := rc_run c1 (by omega) I.1 (xs := y3) (xa := y2) (xb := y1) (xd := y0) (by omega) (by omega) (by omega) (by omega) (by omega) (by omega) (by omega)
  refine hp_call (mi := 411) (pc := 283) (tg := 412) (na := 5) (c := 78) (ci := 12) (st0 := [.int y0, .int y1, .int y2, .int y3, .ref 94]) (st := []) (av := [.int y3, .int y2, .int y1, .int y0]) hM (by decide +kernel) I.1 rfl rfl rfl (by decide) hrun r2 r3 ?_
  rw [r1]
  rw [hy0, hy1, hy2, hy3] at hx
  have I2 := jn_I_0 I rhy rfr rlen
  obtain ⟨e1, e2, e3⟩ := jn_eqs rfl rfl rfl I.1 rhy rfr
  rw [← e1, ← e2] at hx
  obtain ⟨-, -, -, k0, k1, k2, T⟩ := id I2
  have hxz := hxv
  rw [← e3] at hxz
  have hnz := rfr _ _ _ rfl hn
  rw [← e1, ← e2, ← e3] at R
  rcases rcb5 (f := ly_hv cst r.2.1 44032) (a := a) (b := b) (d := d) k0 k1 k2 with hk | ⟨kk0, kk1, ⟨p0, p1⟩⟩
  · have R2 := R.resolve_left (fun w => by have := w.1; rw [hk] at this; exact absurd this (by decide))
    exact jw2n c hM hD rhy a b d ma mb md x' (by omega) a0 (by omega) b0 (by omega) d0 (by omega) A0 A1 B0 B1 D0 D1 l0 l1 l2 l3 l4 l5 l6 (fun l' h2 z0 z1 z2 z3 w0 w1 w2 w3 u1 u2 u3 v0 v1 v2 v3 v4 v5 v6 => jq3 c1 c hM hD A0 A1 B0 B1 D0 D1 a0 a1 b0 b1 d0 d1 n0 n1 ih h2 l' z0 z1 z2 z3 w0 w1 w2 w3 (jn_I_0 I2 u1 u2 u3) (u2 _ _ _ rfl hnz) (u2 _ _ _ rfl hxz) x0 x1 (by obtain ⟨f1, f2, f3⟩ := jn_eqs rfl rfl rfl rhy u1 u2; rw [f1, f2, f3]; exact R2) v0 v1 v2 v3 v4 v5 v6)
  · obtain ⟨y, hyv, yy0, yy1, -⟩ := T (a + 1) (b + 0) (d + 1) (by omega) (by omega) (by omega) (by omega) (by omega) (by omega) (by omega)
    rw [show 121 * (a + 1) + 11 * (b + 0) + (d + 1) = 121 * a + 11 * b + d + 122 by omega] at hyv
    by_cases he : x'.toInt + y = x
    · exact jw2e c hM hD rhy a b d ma mb md x'.toInt y n x' rfl a0 (by omega) b0 (by omega) d0 (by omega) A0 A1 B0 B1 D0 D1 (by omega) (by omega) yy0 (by omega) n0 (by omega) (by omega) (by omega) k0 k1 k2 hyv (by rw [hxz]; congr 1; omega) hnz l0 l1 l2 l3 l4 l5 l6 (fun l' h2 u1 u2 u3 hn2 v0 v1 v2 v3 => ih h2 l' (a + 1) (b + 0) (d + 1) (n + 1) (by omega) (by omega) (by omega) (by omega) (by omega) (by omega) (by omega) (by omega) (by omega) (jn_I_arc rfl rfl rfl (jn_sub rfl) I2 u1 u2 u3) hn2 v0 v1 (by rw [Int.add_zero]; exact v2) v3)
    · have R2 := R.resolve_left (fun w => by
        obtain ⟨-, y2, h1, h2⟩ := w
        rw [hyv] at h1
        cases h1
        exact he (by omega))
      exact jw2q c hM hD rhy a b d ma mb md x'.toInt y x x' rfl a0 (by omega) b0 (by omega) d0 (by omega) A0 A1 B0 B1 D0 D1 (by omega) (by omega) yy0 (by omega) x0 x1 (by omega) (by omega) k0 k1 k2 hyv hxz (hp_ne (by omega)) l0 l1 l2 l3 l4 l5 l6 (fun l' h2 z0 z1 z2 z3 w0 w1 w2 w3 u1 u2 u3 v0 v1 v2 v3 v4 v5 v6 => jq3 c1 c hM hD A0 A1 B0 B1 D0 D1 a0 a1 b0 b1 d0 d1 n0 n1 ih h2 l' z0 z1 z2 z3 w0 w1 w2 w3 (jn_I_0 I2 u1 u2 u3) (u2 _ _ _ rfl hnz) (u2 _ _ _ rfl hxz) x0 x1 (by obtain ⟨f1, f2, f3⟩ := jn_eqs rfl rfl rfl rhy u1 u2; rw [f1, f2, f3]; exact R2) v0 v1 v2 v3 v4 v5 v6)
theorem jq1 (c1 : hp_C cst strs D) (c : hp_C cst strs (D + 1)) (hM : m_P[411]? = some M) (hD : (5 : Int) ≤ ((D + 1 : Nat) : Int) + 1) (A0 : 0 ≤ ma) (A1 : ma ≤ 10) (B0 : 0 ≤ mb) (B1 : mb ≤ 10) (D0 : 0 ≤ md) (D1 : md ≤ 10) {a b d n x : Int} (a0 : 0 ≤ a) (a1 : a ≤ ma) (b0 : 0 ≤ b) (b1 : b ≤ mb) (d0 : 0 ≤ d) (d1 : d ≤ md) (n0 : 0 ≤ n) (n1 : n ≤ a + b + d) (ih : ∀ (h : am_H) (l : am_L) (a' b' d' n' : Int), a' + b' + d' > a + b + d → 0 ≤ a' → a' ≤ ma → 0 ≤ b' → b' ≤ mb → 0 ≤ d' → d' ≤ md → n' ≤ a' + b' + d' → 0 ≤ n' → jn_I cst h0 ma mb md h (-1) → ly_hv cst h 20104 0 = some n' → hp_a l 0 94 → hp_i l 1 a' → hp_i l 2 b' → hp_i l 3 d' → hp_F cst strs (jn_Φ cst h0) (D + 1) M 216 l [] h) (h : am_H) (l : am_L) (y0 y1 y2 y3 : Int32) (hy0 : y0.toInt = d) (hy1 : y1.toInt = b) (hy2 : y2.toInt = a) (hy3 : y3.toInt = 3) (I : jn_I cst h0 ma mb md h (-1)) (hn : ly_hv cst h 20104 0 = some n) (hxv : ly_hv cst h 45056 (121 * a + 11 * b + d) = some x) (x0 : 0 ≤ x) (x1 : x ≤ 360) (R : jn_w (ly_hv cst h 44032) (ly_hv cst h 44288) (ly_hv cst h 45056) a b d x 3 132 ∨ jn_w (ly_hv cst h 44032) (ly_hv cst h 44288) (ly_hv cst h 45056) a b d x 5 122 ∨ jn_w (ly_hv cst h 44032) (ly_hv cst h 44288) (ly_hv cst h 45056) a b d x 6 12 ∨ jn_w (ly_hv cst h 44032) (ly_hv cst h 44288) (ly_hv cst h 45056) a b d x 1 121 ∨ jn_w (ly_hv cst h 44032) (ly_hv cst h 44288) (ly_hv cst h 45056) a b d x 2 11 ∨ jn_w (ly_hv cst h 44032) (ly_hv cst h 44288) (ly_hv cst h 45056) a b d x 4 1) (l0 : hp_a l 0 94) (l1 : hp_i l 1 a) (l2 : hp_i l 2 b) (l3 : hp_i l 3 d) (l4 : hp_i l 4 0) (l5 : hp_i l 5 1) (l6 : hp_i l 6 3) : hp_F cst strs (jn_Φ cst h0) (D + 1) M 283 l [.int y0, .int y1, .int y2, .int y3, .ref 94] h := by
  obtain ⟨r, hrun, ⟨x', r1, hx⟩, r2, r3, rhy, rfr, rlen⟩ := rc_run c1 (by omega) I.1 (xs := y3) (xa := y2) (xb := y1) (xd := y0) (by omega) (by omega) (by omega) (by omega) (by omega) (by omega) (by omega)
  refine hp_call (mi := 411) (pc := 283) (tg := 412) (na := 5) (c := 78) (ci := 12) (st0 := [.int y0, .int y1, .int y2, .int y3, .ref 94]) (st := []) (av := [.int y3, .int y2, .int y1, .int y0]) hM (by decide +kernel) I.1 rfl rfl rfl (by decide) hrun r2 r3 ?_
  rw [r1]
  rw [hy0, hy1, hy2, hy3] at hx
  have I2 := jn_I_0 I rhy rfr rlen
  obtain ⟨e1, e2, e3⟩ := jn_eqs rfl rfl rfl I.1 rhy rfr
  rw [← e1, ← e2] at hx
  obtain ⟨-, -, -, k0, k1, k2, T⟩ := id I2
  have hxz := hxv
  rw [← e3] at hxz
  have hnz := rfr _ _ _ rfl hn
  rw [← e1, ← e2, ← e3] at R
  rcases rcb3 (f := ly_hv cst r.2.1 44032) (a := a) (b := b) (d := d) k0 k1 k2 with hk | ⟨kk0, kk1, ⟨p0, p1⟩⟩
  · have R2 := R.resolve_left (fun w => by have := w.1; rw [hk] at this; exact absurd this (by decide))
    exact jw1n c hM hD rhy a b d ma mb md x' (by omega) a0 (by omega) b0 (by omega) d0 (by omega) A0 A1 B0 B1 D0 D1 l0 l1 l2 l3 l4 l5 l6 (fun l' h2 z0 z1 z2 z3 w0 w1 w2 w3 u1 u2 u3 v0 v1 v2 v3 v4 v5 v6 => jq2 c1 c hM hD A0 A1 B0 B1 D0 D1 a0 a1 b0 b1 d0 d1 n0 n1 ih h2 l' z0 z1 z2 z3 w0 w1 w2 w3 (jn_I_0 I2 u1 u2 u3) (u2 _ _ _ rfl hnz) (u2 _ _ _ rfl hxz) x0 x1 (by obtain ⟨f1, f2, f3⟩ := jn_eqs rfl rfl rfl rhy u1 u2; rw [f1, f2, f3]; exact R2) v0 v1 v2 v3 v4 v5 v6)
  · obtain ⟨y, hyv, yy0, yy1, -⟩ := T (a + 1) (b + 1) (d + 0) (by omega) (by omega) (by omega) (by omega) (by omega) (by omega) (by omega)
    rw [show 121 * (a + 1) + 11 * (b + 1) + (d + 0) = 121 * a + 11 * b + d + 132 by omega] at hyv
    by_cases he : x'.toInt + y = x
    · exact jw1e c hM hD rhy a b d ma mb md x'.toInt y n x' rfl a0 (by omega) b0 (by omega) d0 (by omega) A0 A1 B0 B1 D0 D1 (by omega) (by omega) yy0 (by omega) n0 (by omega) (by omega) (by omega) k0 k1 k2 hyv (by rw [hxz]; congr 1; omega) hnz l0 l1 l2 l3 l4 l5 l6 (fun l' h2 u1 u2 u3 hn2 v0 v1 v2 v3 => ih h2 l' (a + 1) (b + 1) (d + 0) (n + 1) (by omega) (by omega) (by omega) (by omega) (by omega) (by omega) (by omega) (by omega) (by omega) (jn_I_arc rfl rfl rfl (jn_sub rfl) I2 u1 u2 u3) hn2 v0 v1 v2 (by rw [Int.add_zero]; exact v3))
    · have R2 := R.resolve_left (fun w => by
        obtain ⟨-, y2, h1, h2⟩ := w
        rw [hyv] at h1
        cases h1
        exact he (by omega))
      exact jw1q c hM hD rhy a b d ma mb md x'.toInt y x x' rfl a0 (by omega) b0 (by omega) d0 (by omega) A0 A1 B0 B1 D0 D1 (by omega) (by omega) yy0 (by omega) x0 x1 (by omega) (by omega) k0 k1 k2 hyv hxz (hp_ne (by omega)) l0 l1 l2 l3 l4 l5 l6 (fun l' h2 z0 z1 z2 z3 w0 w1 w2 w3 u1 u2 u3 v0 v1 v2 v3 v4 v5 v6 => jq2 c1 c hM hD A0 A1 B0 B1 D0 D1 a0 a1 b0 b1 d0 d1 n0 n1 ih h2 l' z0 z1 z2 z3 w0 w1 w2 w3 (jn_I_0 I2 u1 u2 u3) (u2 _ _ _ rfl hnz) (u2 _ _ _ rfl hxz) x0 x1 (by obtain ⟨f1, f2, f3⟩ := jn_eqs rfl rfl rfl rhy u1 u2; rw [f1, f2, f3]; exact R2) v0 v1 v2 v3 v4 v5 v6)
theorem jq0 (c1 : hp_C cst strs D) (c : hp_C cst strs (D + 1)) (hM : m_P[411]? = some M) (hD : (5 : Int) ≤ ((D + 1 : Nat) : Int) + 1) (A0 : 0 ≤ ma) (A1 : ma ≤ 10) (B0 : 0 ≤ mb) (B1 : mb ≤ 10) (D0 : 0 ≤ md) (D1 : md ≤ 10) {a b d n x : Int} (a0 : 0 ≤ a) (a1 : a ≤ ma) (b0 : 0 ≤ b) (b1 : b ≤ mb) (d0 : 0 ≤ d) (d1 : d ≤ md) (n0 : 0 ≤ n) (n1 : n ≤ a + b + d) (ih : ∀ (h : am_H) (l : am_L) (a' b' d' n' : Int), a' + b' + d' > a + b + d → 0 ≤ a' → a' ≤ ma → 0 ≤ b' → b' ≤ mb → 0 ≤ d' → d' ≤ md → n' ≤ a' + b' + d' → 0 ≤ n' → jn_I cst h0 ma mb md h (-1) → ly_hv cst h 20104 0 = some n' → hp_a l 0 94 → hp_i l 1 a' → hp_i l 2 b' → hp_i l 3 d' → hp_F cst strs (jn_Φ cst h0) (D + 1) M 216 l [] h) (h : am_H) (l : am_L) (y0 y1 y2 y3 : Int32) (hy0 : y0.toInt = d) (hy1 : y1.toInt = b) (hy2 : y2.toInt = a) (hy3 : y3.toInt = 7) (I : jn_I cst h0 ma mb md h (-1)) (hn : ly_hv cst h 20104 0 = some n) (hxv : ly_hv cst h 45056 (121 * a + 11 * b + d) = some x) (x0 : 0 ≤ x) (x1 : x ≤ 360) (R : jn_w (ly_hv cst h 44032) (ly_hv cst h 44288) (ly_hv cst h 45056) a b d x 7 133 ∨ jn_w (ly_hv cst h 44032) (ly_hv cst h 44288) (ly_hv cst h 45056) a b d x 3 132 ∨ jn_w (ly_hv cst h 44032) (ly_hv cst h 44288) (ly_hv cst h 45056) a b d x 5 122 ∨ jn_w (ly_hv cst h 44032) (ly_hv cst h 44288) (ly_hv cst h 45056) a b d x 6 12 ∨ jn_w (ly_hv cst h 44032) (ly_hv cst h 44288) (ly_hv cst h 45056) a b d x 1 121 ∨ jn_w (ly_hv cst h 44032) (ly_hv cst h 44288) (ly_hv cst h 45056) a b d x 2 11 ∨ jn_w (ly_hv cst h 44032) (ly_hv cst h 44288) (ly_hv cst h 45056) a b d x 4 1) (l0 : hp_a l 0 94) (l1 : hp_i l 1 a) (l2 : hp_i l 2 b) (l3 : hp_i l 3 d) (l4 : hp_i l 4 0) (l5 : hp_i l 5 0) (l6 : hp_i l 6 7) : hp_F cst strs (jn_Φ cst h0) (D + 1) M 283 l [.int y0, .int y1, .int y2, .int y3, .ref 94] h := by
  obtain ⟨r, hrun, ⟨x', r1, hx⟩, r2, r3, rhy, rfr, rlen⟩ := rc_run c1 (by omega) I.1 (xs := y3) (xa := y2) (xb := y1) (xd := y0) (by omega) (by omega) (by omega) (by omega) (by omega) (by omega) (by omega)
  refine hp_call (mi := 411) (pc := 283) (tg := 412) (na := 5) (c := 78) (ci := 12) (st0 := [.int y0, .int y1, .int y2, .int y3, .ref 94]) (st := []) (av := [.int y3, .int y2, .int y1, .int y0]) hM (by decide +kernel) I.1 rfl rfl rfl (by decide) hrun r2 r3 ?_
  rw [r1]
  rw [hy0, hy1, hy2, hy3] at hx
  have I2 := jn_I_0 I rhy rfr rlen
  obtain ⟨e1, e2, e3⟩ := jn_eqs rfl rfl rfl I.1 rhy rfr
  rw [← e1, ← e2] at hx
  obtain ⟨-, -, -, k0, k1, k2, T⟩ := id I2
  have hxz := hxv
  rw [← e3] at hxz
  have hnz := rfr _ _ _ rfl hn
  rw [← e1, ← e2, ← e3] at R
  rcases rcb7 (f := ly_hv cst r.2.1 44032) (a := a) (b := b) (d := d) k0 k1 k2 with hk | ⟨kk0, kk1, ⟨p0, p1, p2⟩⟩
  · have R2 := R.resolve_left (fun w => by have := w.1; rw [hk] at this; exact absurd this (by decide))
    exact jw0n c hM hD rhy a b d ma mb md x' (by omega) a0 (by omega) b0 (by omega) d0 (by omega) A0 A1 B0 B1 D0 D1 l0 l1 l2 l3 l4 l5 l6 (fun l' h2 z0 z1 z2 z3 w0 w1 w2 w3 u1 u2 u3 v0 v1 v2 v3 v4 v5 v6 => jq1 c1 c hM hD A0 A1 B0 B1 D0 D1 a0 a1 b0 b1 d0 d1 n0 n1 ih h2 l' z0 z1 z2 z3 w0 w1 w2 w3 (jn_I_0 I2 u1 u2 u3) (u2 _ _ _ rfl hnz) (u2 _ _ _ rfl hxz) x0 x1 (by obtain ⟨f1, f2, f3⟩ := jn_eqs rfl rfl rfl rhy u1 u2; rw [f1, f2, f3]; exact R2) v0 v1 v2 v3 v4 v5 v6)
  · obtain ⟨y, hyv, yy0, yy1, -⟩ := T (a + 1) (b + 1) (d + 1) (by omega) (by omega) (by omega) (by omega) (by omega) (by omega) (by omega)
    rw [show 121 * (a + 1) + 11 * (b + 1) + (d + 1) = 121 * a + 11 * b + d + 133 by omega] at hyv
    by_cases he : x'.toInt + y = x
    · exact jw0e c hM hD rhy a b d ma mb md x'.toInt y n x' rfl a0 (by omega) b0 (by omega) d0 (by omega) A0 A1 B0 B1 D0 D1 (by omega) (by omega) yy0 (by omega) n0 (by omega) (by omega) (by omega) (by omega) k0 k1 k2 hyv (by rw [hxz]; congr 1; omega) hnz l0 l1 l2 l3 l4 l5 l6 (fun l' h2 u1 u2 u3 hn2 v0 v1 v2 v3 => ih h2 l' (a + 1) (b + 1) (d + 1) (n + 1) (by omega) (by omega) (by omega) (by omega) (by omega) (by omega) (by omega) (by omega) (by omega) (jn_I_arc rfl rfl rfl (jn_sub rfl) I2 u1 u2 u3) hn2 v0 v1 v2 v3)
    · have R2 := R.resolve_left (fun w => by
        obtain ⟨-, y2, h1, h2⟩ := w
        rw [hyv] at h1
        cases h1
        exact he (by omega))
      exact jw0q c hM hD rhy a b d ma mb md x'.toInt y x x' rfl a0 (by omega) b0 (by omega) d0 (by omega) A0 A1 B0 B1 D0 D1 (by omega) (by omega) yy0 (by omega) x0 x1 (by omega) (by omega) (by omega) k0 k1 k2 hyv hxz (hp_ne (by omega)) l0 l1 l2 l3 l4 l5 l6 (fun l' h2 z0 z1 z2 z3 w0 w1 w2 w3 u1 u2 u3 v0 v1 v2 v3 v4 v5 v6 => jq1 c1 c hM hD A0 A1 B0 B1 D0 D1 a0 a1 b0 b1 d0 d1 n0 n1 ih h2 l' z0 z1 z2 z3 w0 w1 w2 w3 (jn_I_0 I2 u1 u2 u3) (u2 _ _ _ rfl hnz) (u2 _ _ _ rfl hxz) x0 x1 (by obtain ⟨f1, f2, f3⟩ := jn_eqs rfl rfl rfl rhy u1 u2; rw [f1, f2, f3]; exact R2) v0 v1 v2 v3 v4 v5 v6)
end JN
