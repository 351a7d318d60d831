/-! makeBoth: the table of the longest common row is right -/
theorem hp_same {cst : am_K} {h h' : am_H} {c n : Nat} {lo hi : Int} {mods : List Nat} (ht : ly_ths ly_TH c = some (.inl (.int, n, lo, hi))) (hm : ly_has (256 * c) mods = false) (hy : ly_hy m_tt ly_TH h) (hy' : ly_hy m_tt ly_TH h') (fr : ly_fr cst mods h h') : ly_hv cst h' (256 * c) = ly_hv cst h (256 * c) := by
  funext i
  by_cases hi : 0 ≤ i ∧ i < (n : Int)
  · obtain ⟨v, hv, -⟩ := hp_row (cst := cst) hy ht hi.1 hi.2
    rw [hv, fr _ _ _ hm hv]
  · have hc := ly_ths_lt ht
    have none : ∀ h : am_H, ly_hy m_tt ly_TH h → ly_hv cst h (256 * c) i = none := fun h hy => by
      obtain ⟨x, hx, cc, rfl, f, rfl, hf⟩ := hy.2.1 _ _ ht
      rw [ly_hv0 (by omega)]
      have := ly_h0_of1 (cst := cst) (h := h) (k := 0) (i := i) hc (by omega)
      rw [Nat.add_zero] at this
      rw [this, hx]
      simp only [ly_hs]
      rw [if_neg (by omega)]
    rw [none h hy, none h' hy']
theorem hp_samej {cst : am_K} {h h' : am_H} {c n : Nat} {lo hi : Int} {mods : List Nat} (ht : ly_ths ly_TH c = some (.inl (.long, n, lo, hi))) (hm : ly_has (256 * c) mods = false) (hy : ly_hy m_tt ly_TH h) (hy' : ly_hy m_tt ly_TH h') (fr : ly_fr cst mods h h') : ly_hv cst h' (256 * c) = ly_hv cst h (256 * c) := by
  funext i
  by_cases hi : 0 ≤ i ∧ i < (n : Int)
  · obtain ⟨v, hv, -⟩ := hp_rowj (cst := cst) hy ht hi.1 hi.2
    rw [hv, fr _ _ _ hm hv]
  · have hc := ly_ths_lt ht
    have none : ∀ h : am_H, ly_hy m_tt ly_TH h → ly_hv cst h (256 * c) i = none := fun h hy => by
      obtain ⟨x, hx, cc, rfl, f, rfl⟩ := hy.2.1 _ _ ht
      rw [ly_hv0 (by omega)]
      have := ly_h0_of1 (cst := cst) (h := h) (k := 0) (i := i) hc (by omega)
      rw [Nat.add_zero] at this
      rw [this, hx]
      simp only [ly_hs]
      rw [if_neg (by omega)]
    rw [none h hy, none h' hy']
theorem th_IW : ly_ths ly_TH 129 = some (.inl (.long, 3030, 0, 0)) := rfl
theorem th_IM : ly_ths ly_TH 130 = some (.inl (.int, 101, 0, 28)) := rfl
theorem th_CM : ly_ths ly_TH 96 = some (.inl (.int, 1240, 0, 20)) := rfl
theorem th_SW : ly_ths ly_TH 106 = some (.inl (.long, 10230, 0, 0)) := rfl
theorem th_CF : ly_ths ly_TH 95 = some (.inl (.int, 1240, 0, 401)) := rfl
theorem th_BO : ly_ths ly_TH 146 = some (.inl (.int, 270, 0, 8)) := rfl
def mb_s (fI fC fS fB : Int → Option Int) (m w mi mc i j s : Int) : Prop := 0 ≤ s ∧ s ≤ mi - i ∧ s ≤ mc - j ∧ (i < mi → j < mc → ∀ u f v, fI (30 * m + i) = some u → fC w = some f → fS (330 * w.tdiv 40 + f + j) = some v → (u = v → ∃ s1, fB (9 * i + j + 10) = some s1 ∧ s = s1 + 1) ∧ (u ≠ v → ∃ s1 t, fB (9 * i + j + 9) = some s1 ∧ fB (9 * i + j + 1) = some t ∧ (s = s1 ∨ s = t)))
def mb_T (fI fC fS fB : Int → Option Int) (m w mi mc i j : Int) : Prop := ∀ i' j', 0 ≤ i' → 0 ≤ j' → i' ≤ mi → j' ≤ mc → (i < i' ∨ (i' = i ∧ j < j')) → ∃ s, fB (9 * i' + j') = some s ∧ mb_s fI fC fS fB m w mi mc i' j' s
theorem mb_put {fI fC fS fB fB' : Int → Option Int} {m w mi mc i j s : Int} (i0 : 0 ≤ i) (hi : i ≤ mi) (hj0 : 0 ≤ j) (hj : j ≤ mc) (hc : mc ≤ 8) (T : mb_T fI fC fS fB m w mi mc i j) (hs : mb_s fI fC fS fB m w mi mc i j s) (e : fB' (9 * i + j) = some s) (e' : ∀ k, k ≠ 9 * i + j → fB' k = fB k) : mb_T fI fC fS fB' m w mi mc i (j - 1) := by
  have same : ∀ i' j' s', 0 ≤ j' → (i < i' ∨ (i' = i ∧ j ≤ j')) → mb_s fI fC fS fB m w mi mc i' j' s' → mb_s fI fC fS fB' m w mi mc i' j' s' := by
    intro i' j' s' h1 h2 ⟨a, b, c, d⟩
    have n1 : 9 * i' + j' + 10 ≠ 9 * i + j := by omega
    have n2 : 9 * i' + j' + 9 ≠ 9 * i + j := by omega
    have n3 : 9 * i' + j' + 1 ≠ 9 * i + j := by omega
    refine ⟨a, b, c, fun p q u f v hu hf hv => ?_⟩
    rw [e' _ n1, e' _ n2, e' _ n3]
    exact d p q u f v hu hf hv
  intro i' j' h1 h2 h3 h4 h5
  by_cases q : i' = i ∧ j' = j
  · obtain ⟨rfl, rfl⟩ := q
    exact ⟨s, e, same i' j' s h2 (Or.inr ⟨rfl, Int.le_refl _⟩) hs⟩
  · obtain ⟨s', hs', g⟩ := T i' j' h1 h2 h3 h4 (by omega)
    exact ⟨s', by rw [e' _ (by omega)]; exact hs', same i' j' s' h2 (by omega) g⟩
section MB
variable {cst : am_K} {strs : List Nat} {D : Nat} {M : am_M} {h0 : am_H} {m w mi mc : Int}
def mb_P (cst : am_K) (h : am_H) (m w mi mc i j : Int) : Prop := mb_T (ly_hv cst h 33024) (ly_hv cst h 24320) (ly_hv cst h 27136) (ly_hv cst h 37376) m w mi mc i j
def mb_I (cst : am_K) (h0 : am_H) (m w mi mc : Int) (h : am_H) (i j : Int) : Prop := ly_hy m_tt ly_TH h ∧ ly_fr cst [37376] h0 h ∧ h0.length ≤ h.length ∧ ly_hv cst h 33280 m = some mi ∧ ly_hv cst h 24576 w = some mc ∧ mb_P cst h m w mi mc i j
def mb_Φ (cst : am_K) (h0 : am_H) (m w mi mc : Int) (r : am_Q) : Prop := r.1 = none ∧ r.2.2.1 = 0 ∧ r.2.2.2 = 0 ∧ mb_I cst h0 m w mi mc r.2.1 0 (-1)
theorem mb_I_arc {h h' : am_H} {i j : Int} (I : mb_I cst h0 m w mi mc h i j) (hy' : ly_hy m_tt ly_TH h') (fr : ly_fr cst [] h h') (len : h.length ≤ h'.length) : mb_I cst h0 m w mi mc h' i j := by
  obtain ⟨a, b, c, d, e, f⟩ := I
  have frm : ly_fr cst [37376] h h' := fun r i v _ e => fr r i v rfl e
  refine ⟨hy', ly_fr_tr b frm, Nat.le_trans c len, fr _ _ _ rfl d, fr _ _ _ rfl e, ?_⟩
  unfold mb_P at f ⊢
  rw [hp_samej th_IW rfl a hy' fr, hp_same th_CF rfl a hy' fr, hp_samej th_SW rfl a hy' fr, hp_same th_BO rfl a hy' fr]
  exact f
theorem mb_I_put {h h' : am_H} {i j s : Int} (i0 : 0 ≤ i) (hi : i ≤ mi) (hj0 : 0 ≤ j) (hj : j ≤ mc) (hc : mc ≤ 8) (I : mb_I cst h0 m w mi mc h i j) (hs : mb_s (ly_hv cst h 33024) (ly_hv cst h 24320) (ly_hv cst h 27136) (ly_hv cst h 37376) m w mi mc i j s) (hy' : ly_hy m_tt ly_TH h') (hl : h'.length = h.length) (p : hp_put cst 37376 (9 * i + j) s h h') : mb_I cst h0 m w mi mc h' i (j - 1) := by
  obtain ⟨a, b, c, d, e, f⟩ := I
  have o : ∀ r, r ≠ 37376 → ly_hv cst h' r = ly_hv cst h r := fun r hr => funext fun k => p.2 r k (Or.inl hr)
  refine ⟨hy', ly_fr_tr b (hp_put_fr (by rfl) p), by omega, by rw [o _ (by decide)]; exact d, by rw [o _ (by decide)]; exact e, ?_⟩
  unfold mb_P
  rw [o 33024 (by decide), o 24320 (by decide), o 27136 (by decide)]
  exact mb_put i0 hi hj0 hj hc f hs p.1 (fun k hk => p.2 37376 k (Or.inr hk))
theorem mb_loop (c : hp_C cst strs D) (hM : m_P[346]? = some M) (hD : (2 : Int) ≤ (D : Int) + 1) (m0 : 0 ≤ m) (m1 : m ≤ 99) (w0 : 0 ≤ w) (w1 : w ≤ 1199) (a0 : 0 ≤ mi) (a1 : mi ≤ 28) (c0 : 0 ≤ mc) (c1 : mc ≤ 8) : ∀ (N : Nat) (h : am_H) (l : am_L) (i j : Int), (10 * i + (j + 1)).toNat < N → 0 ≤ i → i ≤ mi → -1 ≤ j → j ≤ mc → mb_I cst h0 m w mi mc h i j → hp_a l 0 94 → hp_i l 1 m → hp_i l 2 w → hp_i l 3 i → hp_i l 4 j → hp_F cst strs (mb_Φ cst h0 m w mi mc) D M 19 l [] h := by
  intro N
  induction N with
  | zero => intro h l i j hN; omega
  | succ N ih =>
    intro h l i j hN i0 i1 j0 j1 I l0 l1 l2 l3 l4
    obtain ⟨hy, fr, len, kI, kC, T⟩ := id I
    by_cases hj : j = -1
    · subst hj
      by_cases hi : i = 0
      · subst hi
        exact mba c hM hD hy m w mi mc m0 m1 w0 w1 a0 a1 c0 c1 kI kC l0 l1 l2 l3 l4 (fun h' q1 q2 q3 => ⟨rfl, rfl, rfl, mb_I_arc I q1 q2 q3⟩)
      · refine mb9 c hM hD hy m w mi mc i m0 m1 w0 w1 a0 a1 c0 c1 (by omega) (by omega) (by omega) kI kC l0 l1 l2 l3 l4 (fun l' h' q1 q2 q3 p0 p1 p2 p3 p4 => ?_)
        refine ih h' l' (i - 1) mc (by omega) (by omega) (by omega) (by omega) (by omega) ?_ p0 p1 p2 p3 p4
        obtain ⟨a, b, c, d, e, f⟩ := mb_I_arc I q1 q2 q3
        exact ⟨a, b, c, d, e, fun i' j' h1 h2 h3 h4 h5 => f i' j' h1 h2 h3 h4 (by omega)⟩
    · have hj0 : 0 ≤ j := by omega
      -- behind a store
      have fin : ∀ (pc : Nat), (pc = 62 ∨ pc = 106 ∨ pc = 160) → ∀ (h' : am_H) (l' : am_L), mb_I cst h0 m w mi mc h' i (j - 1) → hp_a l' 0 94 → hp_i l' 1 m → hp_i l' 2 w → hp_i l' 3 i → hp_i l' 4 j → hp_F cst strs (mb_Φ cst h0 m w mi mc) D M pc l' [] h' := by
        intro pc hpc h' l' I' p0 p1 p2 p3 p4
        have go : ∀ (l2 : am_L) (h2 : am_H), ly_hy m_tt ly_TH h2 → ly_fr cst [] h' h2 → h'.length ≤ h2.length → hp_a l2 0 94 → hp_i l2 1 m → hp_i l2 2 w → hp_i l2 3 i → hp_i l2 4 (j - 1) → hp_F cst strs (mb_Φ cst h0 m w mi mc) D M 19 l2 [] h2 :=
          fun l2 h2 q1 q2 q3 s0 s1 s2 s3 s4 => ih h2 l2 i (j - 1) (by omega) i0 i1 (by omega) (by omega) (mb_I_arc I' q1 q2 q3) s0 s1 s2 s3 s4
        rcases hpc with rfl | rfl | rfl
        · exact mb6 c hM hD I'.1 m w mi mc i j m0 m1 w0 w1 a0 a1 c0 c1 i0 (by omega) hj0 (by omega) (by omega) (by omega) p0 p1 p2 p3 p4 go
        · exact mb7 c hM hD I'.1 m w mi mc i j m0 m1 w0 w1 a0 a1 c0 c1 i0 (by omega) hj0 (by omega) (by omega) (by omega) p0 p1 p2 p3 p4 go
        · exact mb8 c hM hD I'.1 m w mi mc i j m0 m1 w0 w1 a0 a1 c0 c1 i0 (by omega) hj0 (by omega) (by omega) (by omega) p0 p1 p2 p3 p4 go
      have put : ∀ (pc : Nat), hp_isI 346 pc = true → (pc + 1 = 62 ∨ pc + 1 = 106 ∨ pc + 1 = 160) → ∀ (h' : am_H) (l' : am_L) (x k : Int32), mb_I cst h0 m w mi mc h' i j → mb_s (ly_hv cst h' 33024) (ly_hv cst h' 24320) (ly_hv cst h' 27136) (ly_hv cst h' 37376) m w mi mc i j x.toInt → k.toInt = 9 * i + j → hp_a l' 0 94 → hp_i l' 1 m → hp_i l' 2 w → hp_i l' 3 i → hp_i l' 4 j → hp_F cst strs (mb_Φ cst h0 m w mi mc) D M pc l' [.int x, .int k, .ref 162] h' := by
        intro pc hI hpc h' l' x k I' hs hk p0 p1 p2 p3 p4
        refine hp_st (c := 146) hM hI I'.1 th_BO rfl (by omega) (by omega) hs.1 (by have := hs.2.2.1; omega) (fun h2 q1 q2 q3 => ?_)
        rw [hk] at q3
        exact fin (pc + 1) hpc h2 l' (mb_I_put i0 i1 hj0 j1 c1 I' hs q1 q2 q3) p0 p1 p2 p3 p4
      by_cases hi : i = mi
      · subst hi
        refine mb1 c hM hD hy m w i mc j m0 m1 w0 w1 a0 a1 c0 c1 hj0 (by omega) (by omega) kI kC l0 l1 l2 l3 l4 (fun l' h' x k hx hk q1 q2 q3 p0 p1 p2 p3 p4 => ?_)
        exact put 61 (by decide +kernel) (Or.inl rfl) h' l' x k (mb_I_arc I q1 q2 q3) (by rw [hx]; exact ⟨by omega, by omega, by omega, fun q => by omega⟩) hk p0 p1 p2 p3 p4
      · by_cases hjc : j = mc
        · subst hjc
          refine mb2 c hM hD hy m w mi j i m0 m1 w0 w1 a0 a1 c0 c1 i0 (by omega) (by omega) kI kC l0 l1 l2 l3 l4 (fun l' h' x k hx hk q1 q2 q3 p0 p1 p2 p3 p4 => ?_)
          exact put 61 (by decide +kernel) (Or.inl rfl) h' l' x k (mb_I_arc I q1 q2 q3) (by rw [hx]; exact ⟨by omega, by omega, by omega, fun _ q => by omega⟩) hk p0 p1 p2 p3 p4
        · have eq : w.tdiv 40 = w / 40 := Int.tdiv_eq_ediv_of_nonneg w0
          obtain ⟨u, hu, u0, u1⟩ := hp_rowj (cst := cst) (i := 30 * m + i) hy th_IW (by omega) (by omega)
          obtain ⟨f, hf, f0, f1⟩ := hp_row (cst := cst) (i := w) hy th_CF (by omega) (by omega)
          obtain ⟨v, hv, v0, v1⟩ := hp_rowj (cst := cst) (i := 330 * w.tdiv 40 + f + j) hy th_SW (by omega) (by omega)
          have hq : ly_hv cst h 62040 w = some (w.tdiv 40) := hp_pure 40 w (by decide)
          by_cases huv : u = v
          · subst huv
            obtain ⟨s, hs, g⟩ := T (i + 1) (j + 1) (by omega) (by omega) (by omega) (by omega) (by omega)
            have es : 9 * (i + 1) + (j + 1) = 9 * i + j + 10 := by omega
            rw [es] at hs
            have g0 := g.1
            have g1 := g.2.1
            have g2 := g.2.2.1
            refine mb3 c hM hD hy m w mi mc i j (w.tdiv 40) f u s m0 m1 w0 w1 a0 a1 c0 c1 i0 (by omega) hj0 (by omega) (by omega) (by omega) f0 f1 u0 u1 g0 (by omega) (by omega) (by omega) kI kC hu hq hf hv hs l0 l1 l2 l3 l4 (fun l' h' x k hx hk q1 q2 q3 p0 p1 p2 p3 p4 => ?_)
            refine put 105 (by decide +kernel) (Or.inr (Or.inl rfl)) h' l' x k (mb_I_arc I q1 q2 q3) ?_ hk p0 p1 p2 p3 p4
            rw [hp_samej th_IW rfl hy q1 q2, hp_same th_CF rfl hy q1 q2, hp_samej th_SW rfl hy q1 q2, hp_same th_BO rfl hy q1 q2, hx]
            refine ⟨by omega, by omega, by omega, fun _ _ u' f' v' hu' hf' hv' => ⟨fun _ => ⟨s, hs, rfl⟩, fun ne => ?_⟩⟩
            rw [hf] at hf'
            cases hf'
            rw [hu] at hu'
            rw [hv] at hv'
            cases hu'
            cases hv'
            exact absurd rfl ne
          · obtain ⟨s, hs, g⟩ := T (i + 1) j (by omega) (by omega) (by omega) (by omega) (by omega)
            obtain ⟨t, ht, g'⟩ := T i (j + 1) (by omega) (by omega) (by omega) (by omega) (by omega)
            have es : 9 * (i + 1) + j = 9 * i + j + 9 := by omega
            have et : 9 * i + (j + 1) = 9 * i + j + 1 := by omega
            rw [es] at hs
            rw [et] at ht
            have g0 := g.1
            have g1 := g.2.1
            have g2 := g.2.2.1
            have g3 := g'.1
            have g4 := g'.2.1
            have g5 := g'.2.2.1
            have hne : ly_hv cst h 61000 (u - v) = some 1 := hp_ne (by omega)
            have close : ∀ (l' : am_L) (h' : am_H) (x k : Int32), (x.toInt = s ∨ x.toInt = t) → k.toInt = 9 * i + j → ly_hy m_tt ly_TH h' → ly_fr cst [] h h' → h.length ≤ h'.length → hp_a l' 0 94 → hp_i l' 1 m → hp_i l' 2 w → hp_i l' 3 i → hp_i l' 4 j → hp_F cst strs (mb_Φ cst h0 m w mi mc) D M 159 l' [.int x, .int k, .ref 162] h' := by
              intro l' h' x k hx hk q1 q2 q3 p0 p1 p2 p3 p4
              refine put 159 (by decide +kernel) (Or.inr (Or.inr rfl)) h' l' x k (mb_I_arc I q1 q2 q3) ?_ hk p0 p1 p2 p3 p4
              rw [hp_samej th_IW rfl hy q1 q2, hp_same th_CF rfl hy q1 q2, hp_samej th_SW rfl hy q1 q2, hp_same th_BO rfl hy q1 q2]
              refine ⟨by omega, by omega, by omega, fun _ _ u' f' v' hu' hf' hv' => ⟨fun e => ?_, fun _ => ⟨s, t, hs, ht, hx⟩⟩⟩
              rw [hf] at hf'
              cases hf'
              rw [hu] at hu'
              rw [hv] at hv'
              cases hu'
              cases hv'
              exact absurd e huv
            by_cases hst : t < s
            · exact mb4 c hM hD hy m w mi mc i j (w.tdiv 40) f u v s t m0 m1 w0 w1 a0 a1 c0 c1 i0 (by omega) hj0 (by omega) (by omega) (by omega) f0 f1 u0 u1 v0 v1 g0 (by omega) g3 (by omega) (by omega) (by omega) (by omega) kI kC hu hq hf hv hne hs ht l0 l1 l2 l3 l4 (fun l' h' x k hx hk => close l' h' x k (Or.inl hx) hk)
            · exact mb5 c hM hD hy m w mi mc i j (w.tdiv 40) f u v s t m0 m1 w0 w1 a0 a1 c0 c1 i0 (by omega) hj0 (by omega) (by omega) (by omega) f0 f1 u0 u1 v0 v1 g0 (by omega) g3 (by omega) (by omega) (by omega) (by omega) kI kC hu hq hf hv hne hs ht l0 l1 l2 l3 l4 (fun l' h' x k hx hk => close l' h' x k (Or.inr hx) hk)
end MB
