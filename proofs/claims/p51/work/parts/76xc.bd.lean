/-! PRINTED (once) : bonds of class and reference, even place by place: what is kept, what pass, seen and bond leave (behind 76xb) -/
/-- rows of the class in the one heap, of the reference in the other -/
def bd_R (cst : am_K) (h1 h2 : am_H) : Prop := ly_hv cst h1 12544 = ly_hv cst h2 39424 ∧ ly_hv cst h1 12800 = ly_hv cst h2 39680 ∧ ly_hv cst h1 13056 = ly_hv cst h2 39936 ∧ ly_hv cst h1 13312 = ly_hv cst h2 40192 ∧ ly_hv cst h1 13568 = ly_hv cst h2 40448 ∧ ly_hv cst h1 13824 = ly_hv cst h2 40704
theorem bd_Rmv {cst : am_K} {mc mm : List Nat} {h1 r1 h2 r2 : am_H} (I : bd_R cst h1 h2) (u1 : ly_hy m_tt ly_TH h1) (u2 : ly_hy m_tt ly_TH r1) (w1 : ly_hy m_tt ly_TH h2) (w2 : ly_hy m_tt ly_TH r2) (fc : ly_fr cst mc h1 r1) (fm : ly_fr cst mm h2 r2) (hc : [12544, 12800, 13056, 13312, 13568, 13824].all (fun q => !ly_has q mc) = true) (hm : [39424, 39680, 39936, 40192, 40448, 40704].all (fun q => !ly_has q mm) = true) : bd_R cst r1 r2 := by
  simp only [List.all_cons, List.all_nil, Bool.and_true, Bool.and_eq_true, Bool.not_eq_true'] at hc hm
  obtain ⟨c1, c2, c3, c4, c5, c6⟩ := hc
  obtain ⟨m1, m2, m3, m4, m5, m6⟩ := hm
  unfold bd_R at I ⊢
  rw [hp_same (show ly_ths ly_TH 49 = some (.inl (.int, 80, -2147483648, 2147483647)) from rfl) c1 u1 u2 fc, hp_same (show ly_ths ly_TH 50 = some (.inl (.int, 80, -2147483648, 2147483647)) from rfl) c2 u1 u2 fc, hp_same (show ly_ths ly_TH 51 = some (.inl (.int, 80, -2147483648, 2147483647)) from rfl) c3 u1 u2 fc, hp_same (show ly_ths ly_TH 52 = some (.inl (.int, 80, -2147483648, 2147483647)) from rfl) c4 u1 u2 fc, hp_same (show ly_ths ly_TH 53 = some (.inl (.int, 80, -2147483648, 2147483647)) from rfl) c5 u1 u2 fc, hp_same (show ly_ths ly_TH 54 = some (.inl (.int, 80, -2147483648, 2147483647)) from rfl) c6 u1 u2 fc, hp_same (show ly_ths ly_TH 154 = some (.inl (.int, 80, -2147483648, 2147483647)) from rfl) m1 w1 w2 fm, hp_same (show ly_ths ly_TH 155 = some (.inl (.int, 80, -2147483648, 2147483647)) from rfl) m2 w1 w2 fm, hp_same (show ly_ths ly_TH 156 = some (.inl (.int, 80, -2147483648, 2147483647)) from rfl) m3 w1 w2 fm, hp_same (show ly_ths ly_TH 157 = some (.inl (.int, 80, -2147483648, 2147483647)) from rfl) m4 w1 w2 fm, hp_same (show ly_ths ly_TH 158 = some (.inl (.int, 80, -2147483648, 2147483647)) from rfl) m5 w1 w2 fm, hp_same (show ly_ths ly_TH 159 = some (.inl (.int, 80, -2147483648, 2147483647)) from rfl) m6 w1 w2 fm]
  exact I
/-- a bond that runs ends today or later; behind the last one all states are 0 -/
def bd_T (cst : am_K) (h : am_H) : Prop := ∃ g n, ly_hv cst h 10 0 = some g ∧ ly_hv cst h 11014 0 = some n ∧ (∀ k e, 0 ≤ k → k < n → ly_hv cst h 13824 k = some 0 → ly_hv cst h 13312 k = some e → g ≤ e) ∧ (∀ k v, n ≤ k → ly_hv cst h 13824 k = some v → v = 0)
theorem bd_Tmv {cst : am_K} {ms : List Nat} {h h' : am_H} (I : bd_T cst h) (u : ly_hy m_tt ly_TH h) (u' : ly_hy m_tt ly_TH h') (f : ly_fr cst ms h h') (q : [10, 11014, 13312, 13824].all (fun q => !ly_has q ms) = true) : bd_T cst h' := by
  simp only [List.all_cons, List.all_nil, Bool.and_true, Bool.and_eq_true, Bool.not_eq_true'] at q
  obtain ⟨q1, q2, q3, q4⟩ := q
  obtain ⟨g, n, k1, k2, k3, k4⟩ := I
  refine ⟨g, n, f _ _ _ q1 k1, f _ _ _ q2 k2, ?_, ?_⟩
  · rw [hp_same (show ly_ths ly_TH 52 = some (.inl (.int, 80, -2147483648, 2147483647)) from rfl) q3 u u' f, hp_same (show ly_ths ly_TH 54 = some (.inl (.int, 80, -2147483648, 2147483647)) from rfl) q4 u u' f]
    exact k3
  · rw [hp_same (show ly_ths ly_TH 54 = some (.inl (.int, 80, -2147483648, 2147483647)) from rfl) q4 u u' f]
    exact k4
theorem bd_Tof {cst : am_K} {h : am_H} {g n : Int} (I : bd_T cst h) (kg : ly_hv cst h 10 0 = some g) (kn : ly_hv cst h 11014 0 = some n) : (∀ k e, 0 ≤ k → k < n → ly_hv cst h 13824 k = some 0 → ly_hv cst h 13312 k = some e → g ≤ e) ∧ (∀ k v, n ≤ k → ly_hv cst h 13824 k = some v → v = 0) := by
  obtain ⟨g', n', k1, k2, k3⟩ := I
  rw [kg] at k1
  rw [kn] at k2
  cases k1
  cases k2
  exact k3
/-- no telling is known later than today -/
def bd_N (cst : am_K) (h : am_H) : Prop := ∃ g, ly_hv cst h 19977 0 = some g ∧ ∀ k a, ly_hv cst h 22528 k = some a → a ≤ g
theorem bd_Nmv {cst : am_K} {ms : List Nat} {h h' : am_H} (I : bd_N cst h) (u : ly_hy m_tt ly_TH h) (u' : ly_hy m_tt ly_TH h') (f : ly_fr cst ms h h') (q : [19977, 22528].all (fun q => !ly_has q ms) = true) : bd_N cst h' := by
  simp only [List.all_cons, List.all_nil, Bool.and_true, Bool.and_eq_true, Bool.not_eq_true'] at q
  obtain ⟨q1, q2⟩ := q
  obtain ⟨g, k1, k2⟩ := I
  refine ⟨g, f _ _ _ q1 k1, ?_⟩
  rw [hp_same (show ly_ths ly_TH 88 = some (.inl (.int, 300, -2147483648, 2147483647)) from rfl) q2 u u' f]
  exact k2
theorem bd_Nof {cst : am_K} {h : am_H} {g : Int} (I : bd_N cst h) (kg : ly_hv cst h 19977 0 = some g) : ∀ k a, ly_hv cst h 22528 k = some a → a ≤ g := by
  obtain ⟨g', k1, k2⟩ := I
  rw [kg] at k1
  cases k1
  exact k2
theorem bd_Nst {cst : am_K} {h2 r2 : am_H} {ok : Prop} {v a b o d e g : Int} (N : ∀ k a, ly_hv cst h2 22528 k = some a → a ≤ g) (M : te_M cst h2 r2 ok v a b o d e g) : ∀ k a, ly_hv cst r2 22528 k = some a → a ≤ g := by
  by_cases q : ok ∧ v ≠ 300
  · obtain ⟨m1, y1, y2, y3, y4, y5, y6⟩ := M.2 q.1 q.2
    intro k x hx
    rw [y6] at hx
    by_cases z : k = v
    · subst z
      rw [hp_upd_at] at hx
      cases hx
      exact Int.le_refl _
    · rw [hp_upd_ne _ z] at hx
      exact N k x hx
  · obtain ⟨m1, y1, y2, y3, y4, y5, y6⟩ := M.1 (te_no q)
    rw [y6]
    exact N
/-- what is known of the dead by the end of a bond, and by a later day -/
theorem bo_dd {K O N F : Int → Option Int} {t w e g g' : Int} (hN : ∀ k a, N k = some a → a ≤ g) (h1 : g ≤ e) (h2 : g ≤ g') : dd K O N F t w e e ↔ dd K O N F t w e g' := by
  constructor
  · rintro ⟨k, k0, k1, m1, m2, ⟨a, ha, -⟩, m4⟩
    exact ⟨k, k0, k1, m1, m2, ⟨a, ha, by have := hN k a ha; omega⟩, m4⟩
  · rintro ⟨k, k0, k1, m1, m2, ⟨a, ha, -⟩, m4⟩
    exact ⟨k, k0, k1, m1, m2, ⟨a, ha, by have := hN k a ha; omega⟩, m4⟩
theorem bo_eq {cst : am_K} {h1 h2 : am_H} {g g' n t : Int} (R : bd_R cst h1 h2) (T : tr_H cst h1 h2) (hT : ∀ k e, 0 ≤ k → k < n → ly_hv cst h1 13824 k = some 0 → ly_hv cst h1 13312 k = some e → g ≤ e) (hN : ∀ k a, ly_hv cst h2 22528 k = some a → a ≤ g) (hg : g ≤ g') (k v : Int) (k0 : 0 ≤ k) (k1 : k < n) :
    bo_V (ly_hv cst h1 13824) (ly_hv cst h1 13312) g' (bo_D (ly_hv cst h1 12544) (ly_hv cst h1 13312) (ly_hv cst h1 2304) (ly_hv cst h1 2560) (ly_hv cst h1 3328) (ly_hv cst h1 3072) t (fun e => e)) k v ↔ bo_V (ly_hv cst h2 40704) (ly_hv cst h2 40192) g' (bo_D (ly_hv cst h2 39424) (ly_hv cst h2 40192) (ly_hv cst h2 21248) (ly_hv cst h2 21504) (ly_hv cst h2 22528) (ly_hv cst h2 22272) t (fun _ => g')) k v := by
  obtain ⟨r1, r2, r3, r4, r5, r6⟩ := R
  have D : ly_hv cst h1 13824 k = some 0 → (bo_D (ly_hv cst h1 12544) (ly_hv cst h1 13312) (ly_hv cst h1 2304) (ly_hv cst h1 2560) (ly_hv cst h1 3328) (ly_hv cst h1 3072) t (fun e => e) k ↔ bo_D (ly_hv cst h2 39424) (ly_hv cst h2 40192) (ly_hv cst h2 21248) (ly_hv cst h2 21504) (ly_hv cst h2 22528) (ly_hv cst h2 22272) t (fun _ => g') k) := by
    intro hz
    constructor
    · rintro ⟨w, e, a1, a2, a3⟩
      exact ⟨w, e, by rw [← r1]; exact a1, by rw [← r4]; exact a2, (bo_dd hN (hT k e k0 k1 hz a2) hg).mp ((tr_dd T.1 t w e e).mp a3)⟩
    · rintro ⟨w, e, a1, a2, a3⟩
      rw [← r1] at a1
      rw [← r4] at a2
      exact ⟨w, e, a1, a2, (tr_dd T.1 t w e e).mpr ((bo_dd hN (hT k e k0 k1 hz a2) hg).mpr a3)⟩
  constructor
  · rintro ⟨a1, a2, a3⟩
    refine ⟨by rw [← r6]; exact a1, by rw [← r4]; exact a2, ?_⟩
    rcases a3 with ⟨d, e⟩ | ⟨d, e⟩
    · exact Or.inl ⟨(D a1).mp d, e⟩
    · exact Or.inr ⟨fun z => d ((D a1).mpr z), e⟩
  · rintro ⟨a1, a2, a3⟩
    rw [← r6] at a1
    rw [← r4] at a2
    refine ⟨a1, a2, ?_⟩
    rcases a3 with ⟨d, e⟩ | ⟨d, e⟩
    · exact Or.inl ⟨(D a1).mpr d, e⟩
    · exact Or.inr ⟨fun z => d ((D a1).mp z), e⟩
/-- pass: states even again, and what runs ends today or later -/
theorem bo_pass {cst : am_K} {h1 h2 q1 q2 : am_H} {x v n t : Int} (R : bd_R cst h1 h2) (T : tr_H cst h1 h2) (hT : ∀ k e, 0 ≤ k → k < n → ly_hv cst h1 13824 k = some 0 → ly_hv cst h1 13312 k = some e → v ≤ e) (hZ : ∀ k z, n ≤ k → ly_hv cst h1 13824 k = some z → z = 0) (hN : ∀ k a, ly_hv cst h2 22528 k = some a → a ≤ v) (v0 : 0 ≤ v) (v1 : v ≤ 399)
    (C : (¬ bo_ok x v → ly_hv cst q1 10 0 = some v ∧ ly_hv cst q1 13824 = ly_hv cst h1 13824) ∧ (bo_ok x v → ly_hv cst q1 10 0 = some (v + x) ∧ bu (bo_V (ly_hv cst h1 13824) (ly_hv cst h1 13312) (v + x) (bo_D (ly_hv cst h1 12544) (ly_hv cst h1 13312) (ly_hv cst h1 2304) (ly_hv cst h1 2560) (ly_hv cst h1 3328) (ly_hv cst h1 3072) t (fun e => e))) (ly_hv cst h1 13824) n (ly_hv cst q1 13824)))
    (M : (¬ bo_ok x v → ly_hv cst q2 19977 0 = some v ∧ ly_hv cst q2 40704 = ly_hv cst h2 40704) ∧ (bo_ok x v → ly_hv cst q2 19977 0 = some (v + x) ∧ bu (bo_V (ly_hv cst h2 40704) (ly_hv cst h2 40192) (v + x) (bo_D (ly_hv cst h2 39424) (ly_hv cst h2 40192) (ly_hv cst h2 21248) (ly_hv cst h2 21504) (ly_hv cst h2 22528) (ly_hv cst h2 22272) t (fun _ => v + x))) (ly_hv cst h2 40704) n (ly_hv cst q2 40704))) :
    ∃ w, 0 ≤ w ∧ w ≤ 399 ∧ v ≤ w ∧ ly_hv cst q1 10 0 = some w ∧ ly_hv cst q2 19977 0 = some w ∧ ly_hv cst q1 13824 = ly_hv cst q2 40704 ∧ (∀ k e, 0 ≤ k → k < n → ly_hv cst q1 13824 k = some 0 → ly_hv cst h1 13312 k = some e → w ≤ e) ∧ (∀ k z, n ≤ k → ly_hv cst q1 13824 k = some z → z = 0) := by
  have r6 := R.2.2.2.2.2
  by_cases ok : bo_ok x v
  · obtain ⟨c1, c2⟩ := C.2 ok
    obtain ⟨m1, m2⟩ := M.2 ok
    obtain ⟨o1, o2, o3⟩ := id ok
    refine ⟨v + x, by omega, by omega, by omega, c1, m1, ?_, fun k e k0 k1 kz ke => ?_, fun k z kn kz => ?_⟩
    · have m2' : bu (bo_V (ly_hv cst h2 40704) (ly_hv cst h2 40192) (v + x) (bo_D (ly_hv cst h2 39424) (ly_hv cst h2 40192) (ly_hv cst h2 21248) (ly_hv cst h2 21504) (ly_hv cst h2 22528) (ly_hv cst h2 22272) t (fun _ => v + x))) (ly_hv cst h1 13824) n (ly_hv cst q2 40704) := by
        intro k
        refine ⟨(m2 k).1, fun z => ?_⟩
        rw [(m2 k).2 z, r6]
      exact bu_uni (fun k z k0 k1 => bo_eq R T hT hN (by omega) k z k0 k1) c2 m2'
    · by_cases z0 : ly_hv cst h1 13824 k = some 0
      · by_cases le : v + x ≤ e
        · exact le
        · exfalso
          by_cases d : bo_D (ly_hv cst h1 12544) (ly_hv cst h1 13312) (ly_hv cst h1 2304) (ly_hv cst h1 2560) (ly_hv cst h1 3328) (ly_hv cst h1 3072) t (fun e => e) k
          · have := (c2 k).1 ⟨k0, k1⟩ 3 ⟨z0, ⟨e, ke, by omega⟩, Or.inl ⟨d, rfl⟩⟩
            rw [kz] at this
            cases this
          · have := (c2 k).1 ⟨k0, k1⟩ 2 ⟨z0, ⟨e, ke, by omega⟩, Or.inr ⟨d, rfl⟩⟩
            rw [kz] at this
            cases this
      · exfalso
        have := (c2 k).2 (Or.inr (fun z hz => z0 hz.1))
        rw [kz] at this
        exact z0 this.symm
    · rw [(c2 k).2 (Or.inl (by omega))] at kz
      exact hZ k z kn kz
  · obtain ⟨c1, c2⟩ := C.1 ok
    obtain ⟨m1, m2⟩ := M.1 ok
    refine ⟨v, v0, v1, Int.le_refl _, c1, m1, by rw [c2, m2]; exact r6, ?_, ?_⟩
    · rw [c2]
      exact hT
    · rw [c2]
      exact hZ
/-- seen: states even again -/
theorem bs_seen {cst : am_K} {h1 h2 q1 q2 : am_H} {p s u g n : Int} (R : bd_R cst h1 h2) (hT : ∀ k e, 0 ≤ k → k < n → ly_hv cst h1 13824 k = some 0 → ly_hv cst h1 13312 k = some e → g ≤ e) (hZ : ∀ k z, n ≤ k → ly_hv cst h1 13824 k = some z → z = 0)
    (C : (¬ bs_ok p s u → ly_hv cst q1 13824 = ly_hv cst h1 13824) ∧ (bs_ok p s u → bu (bs_V (ly_hv cst h1 13824) (ly_hv cst h1 12544) (ly_hv cst h1 12800) (ly_hv cst h1 13056) (ly_hv cst h1 13312) p s g) (ly_hv cst h1 13824) n (ly_hv cst q1 13824)))
    (M : (¬ bs_ok p s u → ly_hv cst q2 40704 = ly_hv cst h2 40704) ∧ (bs_ok p s u → bu (bs_V (ly_hv cst h2 40704) (ly_hv cst h2 39424) (ly_hv cst h2 39680) (ly_hv cst h2 39936) (ly_hv cst h2 40192) p s g) (ly_hv cst h2 40704) n (ly_hv cst q2 40704))) :
    ly_hv cst q1 13824 = ly_hv cst q2 40704 ∧ (∀ k e, 0 ≤ k → k < n → ly_hv cst q1 13824 k = some 0 → ly_hv cst h1 13312 k = some e → g ≤ e) ∧ (∀ k z, n ≤ k → ly_hv cst q1 13824 k = some z → z = 0) := by
  obtain ⟨r1, r2, r3, r4, r5, r6⟩ := R
  by_cases ok : bs_ok p s u
  · have c2 := C.2 ok
    have m2 := M.2 ok
    rw [← r1, ← r2, ← r3, ← r4, ← r6] at m2
    refine ⟨bu_uni (fun k z _ _ => Iff.rfl) c2 m2, fun k e k0 k1 kz ke => ?_, fun k z kn kz => ?_⟩
    · by_cases ex : ∃ z, bs_V (ly_hv cst h1 13824) (ly_hv cst h1 12544) (ly_hv cst h1 12800) (ly_hv cst h1 13056) (ly_hv cst h1 13312) p s g k z
      · obtain ⟨z, hz⟩ := ex
        have := (c2 k).1 ⟨k0, k1⟩ z hz
        rw [kz] at this
        cases this
        exact absurd hz.1 (by decide)
      · rw [(c2 k).2 (Or.inr (fun z hz => ex ⟨z, hz⟩))] at kz
        exact hT k e k0 k1 kz ke
    · rw [(c2 k).2 (Or.inl (by omega))] at kz
      exact hZ k z kn kz
  · have c2 := C.1 ok
    have m2 := M.1 ok
    refine ⟨by rw [c2, m2]; exact r6, ?_, ?_⟩
    · rw [c2]
      exact hT
    · rw [c2]
      exact hZ
/-- bond: all rows even again -/
theorem bb_bond {cst : am_K} {h1 h2 q1 q2 : am_H} {p s f t w u g n : Int} (hy1 : ly_hy m_tt ly_TH h1) (R : bd_R cst h1 h2) (hT : ∀ k e, 0 ≤ k → k < n → ly_hv cst h1 13824 k = some 0 → ly_hv cst h1 13312 k = some e → g ≤ e) (hZ : ∀ k z, n ≤ k → ly_hv cst h1 13824 k = some z → z = 0) (n0 : 0 ≤ n) (n1 : n ≤ 80)
    (C : bb_C cst h1 q1 (bb_ok p s f t w u g) n p s f t w) (M : bb_M cst h2 q2 (bb_ok p s f t w u g) n p s f t w) :
    ∃ m, 0 ≤ m ∧ m ≤ 80 ∧ ly_hv cst q1 11014 0 = some m ∧ ly_hv cst q2 20073 0 = some m ∧ bd_R cst q1 q2 ∧ (∀ k e, 0 ≤ k → k < m → ly_hv cst q1 13824 k = some 0 → ly_hv cst q1 13312 k = some e → g ≤ e) ∧ (∀ k z, m ≤ k → ly_hv cst q1 13824 k = some z → z = 0) := by
  obtain ⟨r1, r2, r3, r4, r5, r6⟩ := R
  obtain ⟨Mz, Mn, My⟩ := M
  by_cases q : bb_ok p s f t w u g ∧ n ≠ 80
  · obtain ⟨c1, x1, x2, x3, x4, x5, x6⟩ := C.2 q.1 q.2
    obtain ⟨m1, y1, y2, y3, y4, y5⟩ := My q.1 q.2
    have qn := q.2
    obtain ⟨z, kz, -, -⟩ := hp_row (cst := cst) (i := n) hy1 (show ly_ths ly_TH 54 = some (.inl (.int, 80, -2147483648, 2147483647)) from rfl) n0 (by omega)
    have kz' : ly_hv cst h1 13824 n = some z := kz
    have z0 := hZ n z (Int.le_refl _) kz'
    subst z0
    have eZ : hp_upd (ly_hv cst h1 13824) n 0 = ly_hv cst h1 13824 := by
      funext k
      by_cases e : k = n
      · subst e
        rw [hp_upd_at, kz']
      · rw [hp_upd_ne _ e]
    rw [eZ] at x6
    refine ⟨n + 1, by omega, by omega, c1, m1, ⟨by rw [x1, y1, r1], by rw [x2, y2, r2], by rw [x3, y3, r3], by rw [x4, y4, r4], by rw [x5, y5, r5], by rw [x6, Mz, r6]⟩, fun k e k0 k1 a1 a2 => ?_, fun k v kn kv => ?_⟩
    · rw [x6] at a1
      rw [x4] at a2
      by_cases e' : k = n
      · subst e'
        rw [hp_upd_at] at a2
        cases a2
        exact q.1.2.2.2.2.2.2.2.2.2.1
      · rw [hp_upd_ne _ e'] at a2
        exact hT k e k0 (by omega) a1 a2
    · rw [x6] at kv
      exact hZ k v (by omega) kv
  · have nq : ¬ bb_ok p s f t w u g ∨ n = 80 := by
      by_cases o : bb_ok p s f t w u g
      · by_cases e : n = 80
        · exact Or.inr e
        · exact absurd ⟨o, e⟩ q
      · exact Or.inl o
    obtain ⟨c1, x1, x2, x3, x4, x5, x6⟩ := C.1 nq
    obtain ⟨m1, y1, y2, y3, y4, y5⟩ := Mn nq
    refine ⟨n, n0, n1, c1, m1, ⟨by rw [x1, y1, r1], by rw [x2, y2, r2], by rw [x3, y3, r3], by rw [x4, y4, r4], by rw [x5, y5, r5], by rw [x6, Mz, r6]⟩, ?_, ?_⟩
    · rw [x6, x4]
      exact hT
    · rw [x6]
      exact hZ
