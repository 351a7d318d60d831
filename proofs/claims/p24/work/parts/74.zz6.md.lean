/-! mend: the rows that it writes have room -/
theorem md_put {fI fI' fC fS fB : Int → Option Int} {m w mi mc i j : Int} (m0 : 0 ≤ m) (m1 : m ≤ 99) (a1 : mi ≤ 28) (e : ∀ k, k < 3000 → fI' k = fI k) (T : mb_T fI fC fS fB m w mi mc i j) : mb_T fI' fC fS fB m w mi mc i j := by
  intro i' j' h1 h2 h3 h4 h5
  obtain ⟨s, hs, a, b, c, d⟩ := T i' j' h1 h2 h3 h4 h5
  refine ⟨s, hs, a, b, c, fun p q u f v hu hf hv => ?_⟩
  rw [e _ (by omega)] at hu
  exact d p q u f v hu hf hv
section MD
variable {cst : am_K} {strs : List Nat} {D : Nat} {M : am_M} {h0 : am_H} {m w mi mc : Int}
def md_Φ (cst : am_K) (h0 : am_H) (r : am_Q) : Prop := ∃ x : Int32, r.1 = some (.int x) ∧ -48 ≤ x.toInt ∧ x.toInt ≤ 28 ∧ r.2.2.1 = 0 ∧ r.2.2.2 = 0 ∧ ly_hy m_tt ly_TH r.2.1 ∧ ly_fr cst [33024, 33280, 37376] h0 r.2.1 ∧ h0.length ≤ r.2.1.length
def md_I (cst : am_K) (h0 : am_H) (m w mi mc : Int) (h : am_H) : Prop := ly_hy m_tt ly_TH h ∧ ly_fr cst [33024, 33280, 37376] h0 h ∧ h0.length ≤ h.length ∧ ly_hv cst h 33280 m = some mi ∧ ly_hv cst h 24576 w = some mc ∧ mb_P cst h m w mi mc 0 (-1)
theorem md_I_arc {h h' : am_H} (I : md_I cst h0 m w mi mc h) (hy' : ly_hy m_tt ly_TH h') (fr : ly_fr cst [] h h') (len : h.length ≤ h'.length) : md_I cst h0 m w mi mc h' := by
  obtain ⟨a, b, c, d, e, f⟩ := I
  refine ⟨hy', ly_fr_tr b (fun r i v _ e => fr r i v rfl e), Nat.le_trans c len, fr _ _ _ rfl d, fr _ _ _ rfl e, ?_⟩
  unfold mb_P at f ⊢
  rw [hp_samej th_IW rfl a hy' fr, hp_same th_CF rfl a hy' fr, hp_samej th_SW rfl a hy' fr, hp_same th_BO rfl a hy' fr]
  exact f
theorem md_I_put {h h' : am_H} {k s : Int} (m0 : 0 ≤ m) (m1 : m ≤ 99) (a1 : mi ≤ 28) (hk : 3000 ≤ k) (I : md_I cst h0 m w mi mc h) (hy' : ly_hy m_tt ly_TH h') (hl : h'.length = h.length) (p : hp_put cst 33024 k s h h') : md_I cst h0 m w mi mc h' := by
  obtain ⟨a, b, c, d, e, f⟩ := I
  have o : ∀ r, r ≠ 33024 → ly_hv cst h' r = ly_hv cst h r := fun r hr => funext fun k => p.2 r k (Or.inl hr)
  refine ⟨hy', ly_fr_tr b (hp_put_fr (by rfl) p), by omega, by rw [o _ (by decide)]; exact d, by rw [o _ (by decide)]; exact e, ?_⟩
  unfold mb_P at f ⊢
  rw [o 37376 (by decide), o 24320 (by decide), o 27136 (by decide)]
  exact md_put m0 m1 a1 (fun k' hk' => p.2 33024 k' (Or.inr (by omega))) f
theorem md_end (c : hp_C cst strs D) (hM : m_P[345]? = some M) (hD : (2 : Int) ≤ (D : Int) + 1) (m0 : 0 ≤ m) (m1 : m ≤ 99) {n p : Int} (n0 : 0 ≤ n) (n1 : n ≤ 28) (p0 : -28 ≤ p) (p1 : p ≤ 28) : ∀ (N : Nat) (h : am_H) (l : am_L) (k : Int), (n - k).toNat < N → 0 ≤ k → k ≤ n → ly_hy m_tt ly_TH h → ly_fr cst [33024, 33280, 37376] h0 h → h0.length ≤ h.length → hp_a l 0 94 → hp_i l 1 m → hp_i l 3 n → hp_i l 6 p → hp_i l 7 k → hp_F cst strs (md_Φ cst h0) D M 343 l [] h := by
  intro N
  induction N with
  | zero => intro h l k hN; omega
  | succ N ih =>
    intro h l k hN k0 k1 hy fr len l0 l1 l3 l6 l7
    by_cases hk : k = n
    · subst hk
      refine mdc c hM hD hy m k p m0 m1 n0 n1 p0 p1 l0 l1 l3 l6 l7 (fun h' x hx q1 q2 q3 => ⟨x, rfl, by omega, by omega, rfl, rfl, q1, ly_fr_tr fr (fun r i v hr e => q2 r i v ?_ e), Nat.le_trans len q3⟩)
      simp only [ly_has, List.any_cons, List.any_nil, Bool.or_false, Bool.or_eq_false_iff] at hr ⊢
      exact hr.2.1
    · refine mdb c hM hD hy m n p k m0 m1 n0 n1 p0 p1 k0 (by omega) (by omega) l0 l1 l3 l6 l7 (fun l' h' q1 q2 q3 s0 s1 s3 s6 s7 => ih h' l' (k + 1) (by omega) (by omega) (by omega) q1 (ly_fr_tr fr (fun r i v hr e => q2 r i v ?_ e)) (Nat.le_trans len q3) s0 s1 s3 s6 s7)
      simp only [ly_has, List.any_cons, List.any_nil, Bool.or_false, Bool.or_eq_false_iff] at hr ⊢
      exact hr.1
theorem md_loop (c : hp_C cst strs D) (hM : m_P[345]? = some M) (hD : (2 : Int) ≤ (D : Int) + 1) (m0 : 0 ≤ m) (m1 : m ≤ 99) (w0 : 0 ≤ w) (w1 : w ≤ 1199) (a0 : 0 ≤ mi) (a1 : mi ≤ 28) (c0 : 0 ≤ mc) (c1 : mc ≤ 8) : ∀ (N : Nat) (h : am_H) (l : am_L) (n i j s : Int), ((mi - i) + (mc - j)).toNat < N → 0 ≤ n → 0 ≤ i → i ≤ mi → 0 ≤ j → j ≤ mc → md_I cst h0 m w mi mc h → ly_hv cst h 37376 (9 * i + j) = some s → n + (mi - i) + (mc - j) - s ≤ 28 → hp_a l 0 94 → hp_i l 1 m → hp_i l 2 w → hp_i l 3 n → hp_i l 4 i → hp_i l 5 j → hp_F cst strs (md_Φ cst h0) D M 118 l [] h := by
  intro N
  induction N with
  | zero => intro h l n i j s hN; omega
  | succ N ih =>
    intro h l n i j s hN n0 i0 i1 j0 j1 I hs hn l0 l1 l2 l3 l4 l5
    obtain ⟨hy, fr, len, kI, kC, T⟩ := id I
    obtain ⟨s', hs', g0, g1, g2, g⟩ := T i j i0 j0 i1 j1 (by omega)
    rw [hs] at hs'
    cases hs'
    have eq : w.tdiv 40 = w / 40 := Int.tdiv_eq_ediv_of_nonneg w0
    have hq : ly_hv cst h 62040 w = some (w.tdiv 40) := hp_pure 40 w (by decide)
    obtain ⟨f, hf, f0, f1⟩ := hp_row (cst := cst) (i := w) hy th_CF (by omega) (by omega)
    -- a store, and on
    have put : ∀ (pc : Nat), hp_isJ 345 pc = true → ∀ (h' : am_H) (l' : am_L) (x : Int64) (k : Int32), md_I cst h0 m w mi mc h' → k.toInt = n + 3000 → n ≤ 27 → (∀ h2, md_I cst h0 m w mi mc h2 → (∀ k', ly_hv cst h2 37376 k' = ly_hv cst h' 37376 k') → hp_F cst strs (md_Φ cst h0) D M (pc + 1) l' [] h2) → hp_F cst strs (md_Φ cst h0) D M pc l' [.long x, .int k, .ref 145] h' := by
      intro pc hI h' l' x k I' hk hn27 go
      refine hp_stj (c := 129) hM hI I'.1 th_IW rfl (by omega) (by omega) (fun h2 q1 q2 q3 => ?_)
      exact go h2 (md_I_put m0 m1 a1 (by omega) I' q1 q2 q3) (fun k' => q3.2 37376 k' (Or.inl (by decide)))
    have bsame : ∀ h', ly_hy m_tt ly_TH h' → ly_fr cst [] h h' → ly_hv cst h' 37376 = ly_hv cst h 37376 := fun h' q1 q2 => hp_same th_BO rfl hy q1 q2
    -- behind each store
    have fin1 : ∀ (h' : am_H) (l' : am_L) (s1 : Int), n ≤ 27 → i < mi → j < mc → s = s1 + 1 → md_I cst h0 m w mi mc h' → ly_hv cst h' 37376 (9 * i + j + 10) = some s1 → hp_a l' 0 94 → hp_i l' 1 m → hp_i l' 2 w → hp_i l' 3 n → hp_i l' 4 i → hp_i l' 5 j → hp_F cst strs (md_Φ cst h0) D M 226 l' [] h' := by
      intro h' l' s1 hn27 hi hj es I' hb p0 p1 p2 p3 p4 p5
      refine md8 c hM hD I'.1 m w mi mc n i j m0 m1 w0 w1 a0 a1 c0 c1 n0 hn27 i0 (by omega) j0 (by omega) p0 p1 p2 p3 p4 p5 (fun l2 h2 q1 q2 q3 s0 s1' s2 s3 s4 s5 => ?_)
      refine ih h2 l2 (n + 1) (i + 1) (j + 1) s1 (by omega) (by omega) (by omega) (by omega) (by omega) (by omega) (md_I_arc I' q1 q2 q3) ?_ (by omega) s0 s1' s2 s3 s4 s5
      rw [hp_same th_BO rfl I'.1 q1 q2, show 9 * (i + 1) + (j + 1) = 9 * i + j + 10 by omega]
      exact hb
    have fin2 : ∀ (h' : am_H) (l' : am_L), n ≤ 27 → j < mc → md_I cst h0 m w mi mc h' → ly_hv cst h' 37376 (9 * i + j + 1) = some s → hp_a l' 0 94 → hp_i l' 1 m → hp_i l' 2 w → hp_i l' 3 n → hp_i l' 4 i → hp_i l' 5 j → hp_F cst strs (md_Φ cst h0) D M 293 l' [] h' := by
      intro h' l' hn27 hj I' hb p0 p1 p2 p3 p4 p5
      refine md9 c hM hD I'.1 m w mi mc n i j m0 m1 w0 w1 a0 a1 c0 c1 n0 hn27 i0 (by omega) j0 (by omega) p0 p1 p2 p3 p4 p5 (fun l2 h2 q1 q2 q3 s0 s1' s2 s3 s4 s5 => ?_)
      refine ih h2 l2 (n + 1) i (j + 1) s (by omega) (by omega) (by omega) (by omega) (by omega) (by omega) (md_I_arc I' q1 q2 q3) ?_ (by omega) s0 s1' s2 s3 s4 s5
      rw [hp_same th_BO rfl I'.1 q1 q2, show 9 * i + (j + 1) = 9 * i + j + 1 by omega]
      exact hb
    have fin3 : ∀ (h' : am_H) (l' : am_L), n ≤ 27 → i < mi → md_I cst h0 m w mi mc h' → ly_hv cst h' 37376 (9 * i + j + 9) = some s → hp_a l' 0 94 → hp_i l' 1 m → hp_i l' 2 w → hp_i l' 3 n → hp_i l' 4 i → hp_i l' 5 j → hp_F cst strs (md_Φ cst h0) D M 321 l' [] h' := by
      intro h' l' hn27 hi I' hb p0 p1 p2 p3 p4 p5
      refine mda c hM hD I'.1 m w mi mc n i j m0 m1 w0 w1 a0 a1 c0 c1 n0 hn27 i0 (by omega) j0 (by omega) p0 p1 p2 p3 p4 p5 (fun l2 h2 q1 q2 q3 s0 s1' s2 s3 s4 s5 => ?_)
      refine ih h2 l2 (n + 1) (i + 1) j s (by omega) (by omega) (by omega) (by omega) (by omega) (by omega) (md_I_arc I' q1 q2 q3) ?_ (by omega) s0 s1' s2 s3 s4 s5
      rw [hp_same th_BO rfl I'.1 q1 q2, show 9 * (i + 1) + j = 9 * i + j + 9 by omega]
      exact hb
    by_cases hi : i = mi
    · subst hi
      by_cases hj : j = mc
      · subst hj
        refine md7 c hM hD hy m w i j n m0 m1 w0 w1 a0 a1 c0 c1 n0 (by omega) kI kC l0 l1 l2 l3 l4 l5 (fun l' h' q1 q2 q3 p0 p1 p3 p6 p7 => ?_)
        exact md_end c hM hD m0 m1 n0 (by omega) (by omega) (by omega) (n.toNat + 1) h' l' 0 (by omega) (by omega) n0 q1 (ly_fr_tr fr (fun r i v _ e => q2 r i v rfl e)) (Nat.le_trans len q3) p0 p1 p3 p6 p7
      · obtain ⟨v, hv, v0, v1⟩ := hp_rowj (cst := cst) (i := 330 * w.tdiv 40 + f + j) hy th_SW (by omega) (by omega)
        obtain ⟨t, ht, t0, t1, t2, -⟩ := T i (j + 1) i0 (by omega) i1 (by omega) (by omega)
        refine md4 c hM hD hy m w i mc n j (w.tdiv 40) f v m0 m1 w0 w1 a0 a1 c0 c1 n0 (by omega) j0 (by omega) (by omega) (by omega) f0 f1 v0 v1 (by omega) kI kC hq hf hv l0 l1 l2 l3 l4 l5 (fun l' h' x k hx hk q1 q2 q3 p0 p1 p2 p3 p4 p5 => ?_)
        refine put 292 (by decide +kernel) h' l' x k (md_I_arc I q1 q2 q3) hk (by omega) (fun h2 I2 e2 => fin2 h2 l' (by omega) (by omega) I2 ?_ p0 p1 p2 p3 p4 p5)
        rw [e2, bsame h' q1 q2, show 9 * i + j + 1 = 9 * i + (j + 1) by omega, ht]
        congr 1
        omega
    · obtain ⟨u, hu, u0, u1⟩ := hp_rowj (cst := cst) (i := 30 * m + i) hy th_IW (by omega) (by omega)
      by_cases hj : j = mc
      · subst hj
        obtain ⟨t, ht, t0, t1, t2, -⟩ := T (i + 1) j (by omega) (by omega) (by omega) (by omega) (by omega)
        refine md6 c hM hD hy m w mi j n i u m0 m1 w0 w1 a0 a1 c0 c1 n0 (by omega) i0 (by omega) u0 u1 (by omega) kI kC hu l0 l1 l2 l3 l4 l5 (fun l' h' x k hx hk q1 q2 q3 p0 p1 p2 p3 p4 p5 => ?_)
        refine put 320 (by decide +kernel) h' l' x k (md_I_arc I q1 q2 q3) hk (by omega) (fun h2 I2 e2 => fin3 h2 l' (by omega) (by omega) I2 ?_ p0 p1 p2 p3 p4 p5)
        rw [e2, bsame h' q1 q2, show 9 * i + j + 9 = 9 * (i + 1) + j by omega, ht]
        congr 1
        omega
      · obtain ⟨v, hv, v0, v1⟩ := hp_rowj (cst := cst) (i := 330 * w.tdiv 40 + f + j) hy th_SW (by omega) (by omega)
        by_cases huv : u = v
        · obtain ⟨s1, hs1, es⟩ := (g (by omega) (by omega) u f v hu hf hv).1 huv
          subst huv
          refine md2 c hM hD hy m w mi mc n i j (w.tdiv 40) f u m0 m1 w0 w1 a0 a1 c0 c1 n0 (by omega) i0 (by omega) j0 (by omega) (by omega) (by omega) f0 f1 u0 u1 (by omega) (by omega) kI kC hq hf hu hv l0 l1 l2 l3 l4 l5 (fun l' h' x k hx hk q1 q2 q3 p0 p1 p2 p3 p4 p5 => ?_)
          refine put 225 (by decide +kernel) h' l' x k (md_I_arc I q1 q2 q3) hk (by omega) (fun h2 I2 e2 => fin1 h2 l' s1 (by omega) (by omega) (by omega) es I2 ?_ p0 p1 p2 p3 p4 p5)
          rw [e2, bsame h' q1 q2]
          exact hs1
        · obtain ⟨s1, t, hs1, ht, est⟩ := (g (by omega) (by omega) u f v hu hf hv).2 huv
          have hne : ly_hv cst h 61000 (u - v) = some 1 := hp_ne (by omega)
          by_cases hst : s = t
          · subst hst
            refine md3 c hM hD hy m w mi mc n i j (w.tdiv 40) f u v s m0 m1 w0 w1 a0 a1 c0 c1 n0 (by omega) i0 (by omega) j0 (by omega) (by omega) (by omega) f0 f1 u0 u1 v0 v1 g0 (by omega) (by omega) (by omega) kI kC hq hf hu hv hne hs ht l0 l1 l2 l3 l4 l5 (fun l' h' x k hx hk q1 q2 q3 p0 p1 p2 p3 p4 p5 => ?_)
            refine put 292 (by decide +kernel) h' l' x k (md_I_arc I q1 q2 q3) hk (by omega) (fun h2 I2 e2 => fin2 h2 l' (by omega) (by omega) I2 ?_ p0 p1 p2 p3 p4 p5)
            rw [e2, bsame h' q1 q2]
            exact ht
          · obtain ⟨t', ht', b0, b1, b2, -⟩ := T i (j + 1) i0 (by omega) i1 (by omega) (by omega)
            rw [show 9 * i + (j + 1) = 9 * i + j + 1 by omega, ht] at ht'
            cases ht'
            have e1 : s = s1 := est.resolve_right hst
            subst e1
            have hne2 : ly_hv cst h 61000 (t - s) = some 1 := hp_ne (by omega)
            refine md5 c hM hD hy m w mi mc n i j (w.tdiv 40) f u v s t m0 m1 w0 w1 a0 a1 c0 c1 n0 (by omega) i0 (by omega) j0 (by omega) (by omega) (by omega) f0 f1 u0 u1 v0 v1 g0 (by omega) b0 (by omega) (by omega) (by omega) kI kC hq hf hu hv hne hs ht hne2 l0 l1 l2 l3 l4 l5 (fun l' h' x k hx hk q1 q2 q3 p0 p1 p2 p3 p4 p5 => ?_)
            refine put 320 (by decide +kernel) h' l' x k (md_I_arc I q1 q2 q3) hk (by omega) (fun h2 I2 e2 => fin3 h2 l' (by omega) (by omega) I2 ?_ p0 p1 p2 p3 p4 p5)
            rw [e2, bsame h' q1 q2]
            exact hs1
end MD
