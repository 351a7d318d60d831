/-! join's contract -/
section JN2
variable {cst : am_K} {strs : List Nat} {D : Nat} {M : am_M} {h0 : am_H} {ma mb md : Int}
theorem jn_two (c1 : hp_C cst strs D) (c : hp_C cst strs (D + 1)) (hM : m_P[411]? = some M) (hD : (5 : Int) ≤ ((D + 1 : Nat) : Int) + 1) (A0 : 0 ≤ ma) (A1 : ma ≤ 10) (B0 : 0 ≤ mb) (B1 : mb ≤ 10) (D0 : 0 ≤ md) (D1 : md ≤ 10) : ∀ (N : Nat) (h : am_H) (l : am_L) (a b d n : Int), (ma + mb + md - (a + b + d)).toNat < N → 0 ≤ a → a ≤ ma → 0 ≤ b → b ≤ mb → 0 ≤ d → d ≤ md → n ≤ a + b + d → 0 ≤ n → jn_I cst h0 ma mb md h (-1) → ly_hv cst h 20104 0 = some n → hp_a l 0 94 → hp_i l 1 a → hp_i l 2 b → hp_i l 3 d → hp_F cst strs (jn_Φ cst h0) (D + 1) M 216 l [] h := by
  intro N
  induction N with
  | zero => intro h l a b d n hN; omega
  | succ N ih =>
    intro h l a b d n hN a0 a1 b0 b1 d0 d1 n1 n0 I hn l0 l1 l2 l3
    obtain ⟨hy, fr, len, k0, k1, k2, T⟩ := id I
    have ih' : ∀ (h : am_H) (l : am_L) (a' b' d' n' : Int), a' + b' + d' > a + b + d → 0 ≤ a' → a' ≤ ma → 0 ≤ b' → b' ≤ mb → 0 ≤ d' → d' ≤ md → n' ≤ a' + b' + d' → 0 ≤ n' → jn_I cst h0 ma mb md h (-1) → ly_hv cst h 20104 0 = some n' → hp_a l 0 94 → hp_i l 1 a' → hp_i l 2 b' → hp_i l 3 d' → hp_F cst strs (jn_Φ cst h0) (D + 1) M 216 l [] h := fun h l a' b' d' n' g p1 p2 p3 p4 p5 p6 => ih h l a' b' d' n' (by omega) p1 p2 p3 p4 p5 p6
    obtain ⟨x, hx, x0, x1, hend⟩ := T a b d a0 a1 b0 b1 d0 d1 (by omega)
    have x3 : x ≤ 360 := by omega
    by_cases he : a = ma ∧ b = mb ∧ d = md
    · obtain ⟨rfl, rfl, rfl⟩ := he
      obtain ⟨y, hyv, y0, y1⟩ := hp_row (cst := cst) (i := 0) hy th_JC (by omega) (by omega)
      exact jn9 c hM (by omega) hy a b d y A0 A1 B0 B1 D0 D1 y0 y1 k0 k1 k2 hyv l0 l1 l2 l3 (fun h' z hz u1 u2 u3 => ⟨⟨z, rfl⟩, rfl, rfl, u1, ly_fr_tr fr (fun r i v hr e => u2 r i v (jn_sub rfl r hr) e), Nat.le_trans len u3⟩)
    · have X := hend.resolve_left he
      unfold jn_x at X
      have go : ∀ (l' : am_L) (h2 : am_H) (z0 z1 z2 z3 : Int32), z0.toInt = d → z1.toInt = b → z2.toInt = a → z3.toInt = 7 → ly_hy m_tt ly_TH h2 → ly_fr cst [] h h2 → h.length ≤ h2.length → hp_a l' 0 94 → hp_i l' 1 a → hp_i l' 2 b → hp_i l' 3 d → hp_i l' 4 0 → hp_i l' 5 0 → hp_i l' 6 7 → hp_F cst strs (jn_Φ cst h0) (D + 1) M 283 l' [.int z0, .int z1, .int z2, .int z3, .ref 94] h2 := by
        intro l' h2 z0 z1 z2 z3 w0 w1 w2 w3 u1 u2 u3 v0 v1 v2 v3 v4 v5 v6
        obtain ⟨f1, f2, f3⟩ := jn_eqs rfl rfl rfl hy u1 u2
        exact jq0 c1 c hM hD A0 A1 B0 B1 D0 D1 a0 a1 b0 b1 d0 d1 n0 n1 ih' h2 l' z0 z1 z2 z3 w0 w1 w2 w3 (jn_I_0 I u1 u2 u3) (u2 _ _ _ rfl hn) (u2 _ _ _ rfl hx) x0 x3 (by rw [f1, f2, f3]; exact X) v0 v1 v2 v3 v4 v5 v6
      by_cases p1 : a < ma
      · exact jna c hM hD hy a b d ma mb md a0 (by omega) b0 (by omega) d0 (by omega) A0 A1 B0 B1 D0 D1 (by omega) (by omega) (by omega) k0 k1 k2 l0 l1 l2 l3 go
      · have ea : a = ma := by omega
        subst ea
        by_cases p2 : b < mb
        · exact jnb c hM hD hy b d a mb md b0 (by omega) d0 (by omega) A0 A1 B0 B1 D0 D1 (by omega) (by omega) k0 k1 k2 l0 l1 l2 l3 go
        · have eb : b = mb := by omega
          subst eb
          exact jnc c hM hD hy d a b md d0 (by omega) A0 A1 B0 B1 D0 D1 (by omega) k0 k1 k2 l0 l1 l2 l3 go
theorem jn_one (c1 : hp_C cst strs D) (c : hp_C cst strs (D + 1)) (hM : m_P[411]? = some M) (hD : (5 : Int) ≤ ((D + 1 : Nat) : Int) + 1) (A0 : 0 ≤ ma) (A1 : ma ≤ 10) (B0 : 0 ≤ mb) (B1 : mb ≤ 10) (D0 : 0 ≤ md) (D1 : md ≤ 10) : ∀ (N : Nat) (h : am_H) (l : am_L) (a b d : Int), (200 * a + 15 * b + (d + 1)).toNat < N → 0 ≤ a → a ≤ ma → 0 ≤ b → b ≤ mb → -1 ≤ d → d ≤ md → jn_I cst h0 ma mb md h (121 * a + 11 * b + d) → hp_a l 0 94 → hp_i l 1 a → hp_i l 2 b → hp_i l 3 d → hp_F cst strs (jn_Φ cst h0) (D + 1) M 29 l [] h := by
  intro N
  induction N with
  | zero => intro h l a b d hN; omega
  | succ N ih =>
    intro h l a b d hN a0 a1 b0 b1 d0 d1 I l0 l1 l2 l3
    obtain ⟨hy, fr, len, k0, k1, k2, T⟩ := id I
    by_cases hd : d = -1
    · subst hd
      by_cases hb : b = 0
      · subst hb
        by_cases ha : a = 0
        · subst ha
          refine jn8 c hM (by omega) hy ma mb md A0 A1 B0 B1 D0 D1 k0 k1 k2 l0 l1 l2 l3 (fun l' h' u1 u2 u3 hn v0 v1 v2 v3 => ?_)
          have I' := jn_I_arc rfl rfl rfl (jn_sub rfl) I u1 u2 u3
          exact jn_two c1 c hM hD A0 A1 B0 B1 D0 D1 ((ma + mb + md - (0 + 0 + 0)).toNat + 1) h' l' 0 0 0 0 (Nat.lt_succ_self _) (by omega) A0 (by omega) B0 (by omega) D0 (by omega) (by omega) I' hn v0 v1 v2 v3
        · refine jn7 c hM (by omega) hy a ma mb md (by omega) (by omega) A0 A1 B0 B1 D0 D1 k0 k1 k2 l0 l1 l2 l3 (fun l' h' u1 u2 u3 v0 v1 v2 v3 => ?_)
          refine ih h' l' (a - 1) mb md (by omega) (by omega) (by omega) B0 (by omega) (by omega) (by omega) ?_ v0 v1 v2 v3
          obtain ⟨p1, p2, p3, p4, p5, p6, p7⟩ := jn_I_0 I u1 u2 u3
          exact ⟨p1, p2, p3, p4, p5, p6, fun a' b' d' q1 q2 q3 q4 q5 q6 q7 => p7 a' b' d' q1 q2 q3 q4 q5 q6 (by omega)⟩
      · refine jn6 c hM (by omega) hy a b ma mb md a0 (by omega) (by omega) (by omega) A0 A1 B0 B1 D0 D1 k0 k1 k2 l0 l1 l2 l3 (fun l' h' u1 u2 u3 v0 v1 v2 v3 => ?_)
        refine ih h' l' a (b - 1) md (by omega) a0 a1 (by omega) (by omega) (by omega) (by omega) ?_ v0 v1 v2 v3
        obtain ⟨p1, p2, p3, p4, p5, p6, p7⟩ := jn_I_0 I u1 u2 u3
        exact ⟨p1, p2, p3, p4, p5, p6, fun a' b' d' q1 q2 q3 q4 q5 q6 q7 => p7 a' b' d' q1 q2 q3 q4 q5 q6 (by omega)⟩
    · have e0 : 0 ≤ d := by omega
      have ih' : ∀ (h : am_H) (l : am_L), jn_I cst h0 ma mb md h (121 * a + 11 * b + (d - 1)) → hp_a l 0 94 → hp_i l 1 a → hp_i l 2 b → hp_i l 3 (d - 1) → hp_F cst strs (jn_Φ cst h0) (D + 1) M 29 l [] h := fun h l I' => ih h l a b (d - 1) (by omega) a0 a1 b0 b1 (by omega) (by omega) I'
      have go : ∀ (e : Int), (∀ h2, jn_I cst h0 ma mb md h2 (121 * a + 11 * b + d) → jn_h cst ma mb md a b d e 0 h2) → ∀ (l' : am_L) (h2 : am_H) (z0 z1 z2 z3 : Int32), z0.toInt = d → z1.toInt = b → z2.toInt = a → z3.toInt = 7 → ly_hy m_tt ly_TH h2 → ly_fr cst [] h h2 → h.length ≤ h2.length → hp_a l' 0 94 → hp_i l' 1 a → hp_i l' 2 b → hp_i l' 3 d → hp_i l' 4 e → hp_i l' 5 0 → hp_i l' 6 7 → hp_F cst strs (jn_Φ cst h0) (D + 1) M 99 l' [.int z0, .int z1, .int z2, .int z3, .ref 94] h2 := by
        intro e H l' h2 z0 z1 z2 z3 w0 w1 w2 w3 u1 u2 u3 v0 v1 v2 v3 v4 v5 v6
        have I2 := jn_I_0 I u1 u2 u3
        exact jp0 c1 c hM hD A0 A1 B0 B1 D0 D1 a0 a1 b0 b1 e0 d1 ih' h2 l' z0 z1 z2 z3 e w0 w1 w2 w3 I2 (H h2 I2) v0 v1 v2 v3 v4 v5 v6
      have none : ¬ (a = ma ∧ b = mb ∧ d = md) → ∀ h2, jn_I cst h0 ma mb md h2 (121 * a + 11 * b + d) → jn_h cst ma mb md a b d (-1) 0 h2 := fun ne h2 _ => ⟨by omega, Or.inl rfl, fun q => absurd q ne, fun q => absurd q (by decide), fun q => absurd q (by decide), fun q => absurd q (by decide)⟩
      by_cases p1 : a < ma
      · exact jn2 c hM hD hy a b d ma mb md a0 (by omega) b0 (by omega) e0 (by omega) A0 A1 B0 B1 D0 D1 (by omega) (by omega) (by omega) k0 k1 k2 l0 l1 l2 l3 (go (-1) (none (by omega)))
      · have ea : a = ma := by omega
        subst ea
        by_cases p2 : b < mb
        · exact jn3 c hM hD hy b d a mb md b0 (by omega) e0 (by omega) A0 A1 B0 B1 D0 D1 (by omega) (by omega) k0 k1 k2 l0 l1 l2 l3 (go (-1) (none (by omega)))
        · have eb : b = mb := by omega
          subst eb
          by_cases p3 : d < md
          · exact jn4 c hM hD hy d a b md e0 (by omega) A0 A1 B0 B1 D0 D1 (by omega) k0 k1 k2 l0 l1 l2 l3 (go (-1) (none (by omega)))
          · have ed : d = md := by omega
            subst ed
            exact jn1 c hM hD hy a b d A0 A1 B0 B1 D0 D1 k0 k1 k2 l0 l1 l2 l3 (go 0 (fun h2 _ => ⟨by omega, Or.inr ⟨by omega, by omega, Or.inl ⟨rfl, rfl, rfl⟩⟩, fun _ => by omega, fun q => absurd q (by decide), fun q => absurd q (by decide), fun q => absurd q (by decide)⟩))
end JN2
theorem jn_kept : hp_kept 411 lyc340 := by
  intro cst strs gC hstr D hY ν av h zd M hM hsl hy gZ gL hzd hle
  have ez : zd = 5 := by
    have := ly_ev_c ν 5
    rw [show ly_ev ν lyc340.2.2.2.1 = some 5 from this] at hzd
    cases hzd
    rfl
  subst ez
  obtain ⟨D, rfl⟩ : ∃ D', D = D' + 1 + 1 := ⟨D - 2, by omega⟩
  have c : hp_C cst strs (D + 1) := ⟨gC, hstr, fun d hd => hY d (by omega)⟩
  have c1 : hp_C cst strs D := ⟨gC, hstr, fun d hd => hY d (by omega)⟩
  have l0 := hp_gLa gL (k := 0) (a := 94) (List.mem_of_getElem? (i := 0) rfl) (by decide)
  obtain ⟨ma, k0, A0, A1⟩ := hp_row (cst := cst) (i := 0) hy th_RM (by omega) (by omega)
  obtain ⟨mb, k1, B0, B1⟩ := hp_row (cst := cst) (i := 1) hy th_RM (by omega) (by omega)
  obtain ⟨md, k2, D0, D1⟩ := hp_row (cst := cst) (i := 2) hy th_RM (by omega) (by omega)
  have fin : hp_F cst strs (jn_Φ cst h) (D + 1) M 0 (lv_args 0 av) [] h := by
    refine jn0 (Φ := jn_Φ cst h) c hM (by omega) hy ma mb md A0 A1 B0 B1 D0 D1 k0 k1 k2 l0 (fun l' h' u1 u2 u3 v0 v1 v2 v3 => ?_)
    have I : jn_I cst h ma mb md h' (121 * ma + 11 * mb + md) := jn_I_0 (h := h) ⟨hy, ly_fr_rf h, Nat.le_refl _, k0, k1, k2, fun a' b' d' q1 q2 q3 q4 q5 q6 q7 => absurd q7 (by omega)⟩ u1 u2 u3
    exact jn_one c1 c hM (by omega) A0 A1 B0 B1 D0 D1 ((200 * ma + 15 * mb + (md + 1)).toNat + 1) h' l' ma mb md (Nat.lt_succ_self _) A0 (by omega) B0 (by omega) (by omega) (by omega) I v0 v1 v2 v3
  obtain ⟨n, r, hgo, ⟨x, r1⟩, r2, r3, r4, r5, r6⟩ := fin
  simp only [Nat.zero_add] at r1 r2 r3 r4 r5 r6
  refine ⟨r, Or.inr ⟨M, n, hM, hsl, hgo⟩, Nat.le_of_eq r2, Nat.le_of_eq r3, r4, r5, r6, _, List.mem_singleton.mpr rfl, ly_up ν 0 x.toInt, fun k hk => absurd hk (Nat.not_lt_zero k), ⟨fun k hk => ?_, ?_, hp_Fn, hp_Kn⟩, ?_⟩
  · have hk1 : 1 ≤ k := hk
    show (if k = 0 then some x.toInt else ν k) = none
    rw [if_neg (by omega)]
    exact gZ.1 k (Nat.zero_le k)
  · exact hp_Bc (z := x.toInt) rfl (by have := x.le_toInt; exact this) (by have := x.toInt_le; exact this) hp_Bn
  · rw [r1]
    exact ⟨⟨x, rfl, ly_ev_sym (n := 0) (show (if (0 : Nat) = 0 then some x.toInt else ν 0) = some x.toInt from if_pos rfl)⟩, trivial⟩
