/-! the reference's acts: counts, what can be told, what a read tells -/
section LY3J
variable {cst : am_K} {ν : ly_N} {Z : ly_Z} {h h' : am_H}
theorem om_steps_ok {i w : ly_e} {zi zv : Int} (g : ly_gZ cst ν Z h) (hi : ly_ev ν i = some zi) (hv : ly_ev ν w = some zv) (e1 : ly_h0 cst h' 20012 zi = some zv) (e2 : ∀ r' i', r' ≠ 20012 ∨ i' ≠ zi → ly_h0 cst h' r' i' = ly_h0 cst h r' i') : ly_gK cst ν h' (om_steps Z i w) := by
  have e3 : ∀ r', r' ≠ 20012 → ly_h0 cst h' r' = ly_h0 cst h r' := fun r' hr => funext fun i => e2 _ _ (Or.inl hr)
  intro q hq
  unfold om_steps at hq
  cases hi0 : ly_eq i ly_i0 with
  | false => rw [hi0] at hq; cases hq
  | true =>
    rw [hi0] at hq
    simp only [cond_true] at hq
    rw [ly_eq_eq hi0, ly_ev_c] at hi
    cases hi
    have keep : ly_k1 Z 60020 ly_i0 = true → (∀ M, ly_h0 cst h 23296 30 = some M → M ≤ 0 ∨ ∀ u, ly_h0 cst h 20012 0 = some u → u ≤ zv) → q = (60020, ly_i0, ly_i1) → ∃ i v, ly_ev ν q.2.1 = some i ∧ ly_ev ν q.2.2 = some v ∧ ly_hv cst h' q.1 i = some v := by
      intro h1 h2 h3
      refine gh_qput h3 ?_
      obtain ⟨A, fA, A0, A30, all⟩ := gh_qget g h1
      rw [e3 19989 (by decide), e3 23296 (by decide), e3 23552 (by decide), e3 24064 (by decide), e3 24576 (by decide), e3 24832 (by decide), e3 25088 (by decide), e3 26880 (by decide)]
      refine ⟨A, fA, A0, A30, fun a k M a0 aA fM k0 kM k40 => ?_⟩
      refine gd_mv rfl rfl rfl rfl rfl (fun hc => ⟨hc, fun u hu => ⟨zv, e1, ?_⟩⟩) (fun s l _ _ s0 l0 sl hU j j0 jl => rfl) (all a k M a0 aA fM k0 kM k40)
      have ea : a = 30 := by omega
      subst ea
      rcases h2 M fM with h4 | h4
      · omega
      · exact h4 u hu
    have zero : (match ly_kc Z 23296 ly_i30 with
        | some c => sx_eq c 0
        | none => false) = true → ∀ M, ly_h0 cst h 23296 30 = some M → M ≤ 0 := by
      intro h5 M hM
      split at h5
      case h_2 => cases h5
      rename_i c hc
      have := gh_kc (by decide) g hc (ly_ev_c ν 30)
      rw [hM] at this
      cases this
      have := sx_eq_iff.mp h5
      omega
    split at hq
    · rename_i ue hu
      obtain ⟨zu, u1, u2⟩ := gh_kz (by decide) g hu
      rcases List.mem_append.mp hq with hq | hq
      · obtain ⟨h1, h2, h3⟩ := gh_qin hq
        refine keep h1 (fun M hM => ?_) h3
        rcases Bool.or_eq_true_iff.mp h2 with h5 | h5
        · right
          intro u hu'
          rw [u2] at hu'
          cases hu'
          have := gh_z g h5 (ly_sub_ok hv u1)
          omega
        · exact Or.inl (zero h5 M hM)
      · cases hb : (ly_eq w (ly_add ly_i1 ue) && ly_z Z (ly_sub (820, []) w)) with
        | false => rw [hb] at hq; cases hq
        | true =>
          rw [hb] at hq
          simp only [cond_true] at hq
          rw [Bool.and_eq_true] at hb
          have b820 := gh_z g hb.2 (ly_sub_ok (ly_ev_c ν 820) hv)
          rw [ly_eq_eq hb.1, ly_add_ok (ly_ev_c ν 1) u1] at hv
          cases hv
          split at hq
          case h_2 => cases hq
          rename_i t gg ht hg
          split at hq
          case h_2 => cases hq
          rename_i ge hge
          rw [List.mem_singleton.mp hq]
          obtain ⟨zt, t1, t2⟩ := gh_k0 (by decide) g ht (ly_add_ok (ly_ev_c ν 24600) u1)
          obtain ⟨zg, g1, g2⟩ := gh_k g hg (ly_ev_c ν 0)
          obtain ⟨ze, e1', hcase⟩ := om_dp_ok g t1 g1 hge
          refine ⟨0, ze, ly_ev_c ν 0, e1', ?_⟩
          show ly_hv cst h' 60060 0 = some ze
          rw [gh_hv (by decide) (by decide), gv_60] at g2 ⊢
          unfold gh_dg at g2 ⊢
          rw [e3 23296 (by decide), e3 24832 (by decide), e3 26880 (by decide), e1]
          rw [u2] at g2
          split at g2
          case h_2 => cases g2
          rename_i M u hM hu'
          cases hu'
          rw [hM]
          simp only
          split at g2
          case h_2 => cases g2
          rename_i b hb'
          by_cases hc : 0 ≤ b ∧ b ≤ zu ∧ zu ≤ 820
          · rw [if_pos hc] at g2
            rw [if_pos ⟨hc.1, by omega, by omega⟩, show (1 + zu - b).toNat = (zu - b).toNat + 1 by omega]
            refine dp_one g2 (s := zt) ?_ hcase
            rw [show 24600 + b + (((zu - b).toNat : Nat) : Int) = 24600 + zu by omega]
            exact t2
          · rw [if_neg hc] at g2
            cases g2
    · obtain ⟨h1, h2, h3⟩ := gh_qin hq
      exact keep h1 (fun M hM => Or.inl (zero h2 M hM)) h3
theorem om_good_ok {M : ly_e} {zM : Int} (g : ly_gZ cst ν Z h) (hM : ly_kget 23296 ly_i30 Z.2.2.2 = some M) (m1 : ly_ev ν M = some zM) (m2 : ly_h0 cst h 23296 30 = some zM) (hh : om_good Z M = true) : 0 ≤ zM ∧ zM ≤ 39 ∧ gh_gd (ly_h0 cst h 23552) (ly_h0 cst h 24064) (ly_h0 cst h 24576) (ly_h0 cst h 24832) (ly_h0 cst h 25088) (ly_h0 cst h 26880) (ly_h0 cst h 20012) (1200 + zM) := by
  unfold om_good at hh
  split at hh
  case h_2 => cases hh
  rename_i k n m hk hn hm
  simp only [Bool.and_eq_true] at hh
  obtain ⟨c7, c1, c0, b0, b39⟩ := hh
  have ix := ly_add_ok (ly_ev_c ν 1200) m1
  obtain ⟨zk, k1, k2⟩ := gh_k0 (by decide) g hk ix
  obtain ⟨zn, n1, n2⟩ := gh_k0 (by decide) g hn ix
  obtain ⟨zm, x1, x2⟩ := gh_k0 (by decide) g hm ix
  have b0 := gh_z g b0 m1
  have b39 := gh_z g b39 (ly_sub_ok (ly_ev_c ν 39) m1)
  refine ⟨b0, by omega, zk, zn, zm, k2, n2, x2, fun h7 => ?_, fun h1 => ?_, fun h0 => ?_⟩
  · rcases Bool.or_eq_true_iff.mp c7 with h5 | h5
    · have := gh_z g h5 (ly_sub_ok (ly_ev_c ν 12) n1)
      omega
    · rw [Bool.and_eq_true] at h5
      have e7 := ly_nek_ok g k1 h5.1
      have e10 := ly_nek_ok g k1 h5.2
      omega
  · rcases Bool.or_eq_true_iff.mp c1 with h5 | h5
    · have := gh_z g h5 (ly_sub_ok (ly_ev_c ν 8) x1)
      omega
    · exact absurd h1 (ly_nek_ok g k1 h5)
  · rcases Bool.or_eq_true_iff.mp c0 with h5 | h5
    · exact absurd h0 (ly_nek_ok g k1 h5)
    · obtain ⟨M', b, l, u, d, f1, f2, f3, f4, f5, f6, f7, f8, f9⟩ := gh_of (by decide) (by decide) (gv_61 _ _) (gh_k1 g h5 (ly_ev_c ν 0))
      rw [m2] at f1
      cases f1
      refine ⟨b, l, f2, f3, f5, f6, by omega, fun _ => ⟨u, f4, f7⟩, d, ?_⟩
      rw [show (1200 + zM) / 40 = 30 by omega]
      exact f9
theorem om_many_ok {i v : ly_e} {zi zv : Int} (g : ly_gZ cst ν Z h) (hi : ly_ev ν i = some zi) (hv : ly_ev ν v = some zv) (e1 : ly_h0 cst h' 23296 zi = some zv) (e2 : ∀ r' i', r' ≠ 23296 ∨ i' ≠ zi → ly_h0 cst h' r' i' = ly_h0 cst h r' i') : ly_gK cst ν h' (om_many Z i v) := by
  have e3 : ∀ r', r' ≠ 23296 → ly_h0 cst h' r' = ly_h0 cst h r' := fun r' hr => funext fun i => e2 _ _ (Or.inl hr)
  intro q hq
  unfold om_many at hq
  obtain ⟨h1, h2, h3⟩ := gh_qin hq
  refine gh_qput h3 ?_
  obtain ⟨A, fA, A0, A30, all⟩ := gh_qget g h1
  rw [e3 19989 (by decide), e3 23552 (by decide), e3 24064 (by decide), e3 24576 (by decide), e3 24832 (by decide), e3 25088 (by decide), e3 26880 (by decide), e3 20012 (by decide)]
  refine ⟨A, fA, A0, A30, fun a k M a0 aA fM k0 kM k40 => ?_⟩
  by_cases ea : a = zi
  · subst ea
    rw [e1] at fM
    cases fM
    rcases Bool.or_eq_true_iff.mp h2 with h5 | h5
    · rw [Bool.and_eq_true] at h5
      rw [ly_eq_eq h5.2, ly_ev_c] at hv
      cases hv
      omega
    · rcases Bool.or_eq_true_iff.mp h5 with h5 | h5
      · rw [Bool.and_eq_true] at h5
        obtain ⟨h6, h7⟩ := h5
        rw [ly_eq_eq h6, ly_ev_c] at hi
        cases hi
        split at h7
        case h_2 => cases h7
        rename_i Me hM
        rw [Bool.and_eq_true] at h7
        obtain ⟨zM, m1, m2⟩ := gh_k0 (by decide) g hM (ly_ev_c ν 30)
        rw [ly_eq_eq h7.1, ly_add_ok (ly_ev_c ν 1) m1] at hv
        cases hv
        obtain ⟨b0, b39, gd⟩ := om_good_ok g hM m1 m2 h7.2
        by_cases ek : k = zM
        · rw [ek]; exact gd
        · exact all 30 k zM (by decide) (Or.inr rfl) m2 k0 (by omega) k40
      · split at h5
        case h_2 => cases h5
        rename_i Ae hA
        rw [Bool.and_eq_true] at h5
        obtain ⟨zA, m1, m2⟩ := gh_kz (by decide) g hA
        rw [fA] at m2
        cases m2
        have b1 := gh_z g h5.2 (ly_sub_ok (ly_ev_c ν 29) m1)
        rw [ly_eq_eq h5.1, m1] at hi
        cases hi
        omega
  · rw [e2 _ _ (Or.inr ea)] at fM
    exact all a k M a0 aA fM k0 kM k40
theorem om_macts_ok {i v : ly_e} {zi zv : Int} (g : ly_gZ cst ν Z h) (hi : ly_ev ν i = some zi) (hv : ly_ev ν v = some zv) (e1 : ly_h0 cst h' 19989 zi = some zv) (e2 : ∀ r' i', r' ≠ 19989 ∨ i' ≠ zi → ly_h0 cst h' r' i' = ly_h0 cst h r' i') : ly_gK cst ν h' (om_macts Z i v) := by
  have e3 : ∀ r', r' ≠ 19989 → ly_h0 cst h' r' = ly_h0 cst h r' := fun r' hr => funext fun i => e2 _ _ (Or.inl hr)
  intro q hq
  unfold om_macts at hq
  split at hq
  case h_2 => cases hq
  rename_i Ae hA
  obtain ⟨h1, h2, h3⟩ := gh_qin hq
  refine gh_qput h3 ?_
  simp only [Bool.and_eq_true] at h2
  obtain ⟨c1, c2, c3, c4, c5, c6⟩ := h2
  rw [ly_eq_eq c1, ly_ev_c] at hi
  cases hi
  obtain ⟨zA, a1, a2⟩ := gh_kz (by decide) g hA
  rw [ly_eq_eq c2, ly_add_ok (ly_ev_c ν 1) a1] at hv
  cases hv
  have b29 := gh_z g c3 (ly_sub_ok (ly_ev_c ν 29) a1)
  obtain ⟨A, fA, A0, A30, all⟩ := gh_qget g h1
  rw [a2] at fA
  cases fA
  obtain ⟨A1, fA1, -, -, cp⟩ := gh_of (by decide) (by decide) (gv_70 _ _) (gh_k1 g c4 (ly_ev_c ν 40))
  rw [a2] at fA1
  cases fA1
  obtain ⟨A1, fA1, -, -, sp⟩ := gh_of (by decide) (by decide) (gv_71 _ _) (gh_k1 g c5 (ly_ev_c ν 820))
  rw [a2] at fA1
  cases fA1
  have hmany : ∀ M, ly_h0 cst h 23296 zA = some M → ly_h0 cst h 23296 30 = some M := by
    intro M hM
    split at c6
    case h_2 => cases c6
    rename_i n m hn hm
    obtain ⟨zn, n1, n2⟩ := gh_k0 (by decide) g hn a1
    obtain ⟨zm, m1, m2⟩ := gh_k0 (by decide) g hm (ly_ev_c ν 30)
    rw [n2] at hM
    cases hM
    rcases Bool.or_eq_true_iff.mp c6 with c6 | c6
    · rw [ly_eq_eq c6, m1] at n1
      cases n1
      exact m2
    · rw [Bool.and_eq_true] at c6
      have b1 := gh_z g c6.1 (ly_sub_ok n1 m1)
      have b2 := gh_z g c6.2 (ly_sub_ok m1 n1)
      rw [m2]
      congr 1
      omega
  rw [e3 23296 (by decide), e3 23552 (by decide), e3 24064 (by decide), e3 24576 (by decide), e3 24832 (by decide), e3 25088 (by decide), e3 26880 (by decide), e3 20012 (by decide)]
  refine ⟨1 + zA, e1, by omega, by omega, fun a k M a0 aA fM k0 kM k40 => ?_⟩
  by_cases ea : a = zA
  · subst ea
    have gd := all 30 k M (by decide) (Or.inr rfl) (hmany M fM) k0 kM k40
    obtain ⟨p1, p2, p3, p4, p5⟩ := cp k k0 k40 k40
    refine gd_mv (c := 40 * 30 + k) p1 p2 p3 p4 p5 (fun hc => by omega) (fun s l _ _ s0 l0 sl hU j j0 jl => ?_) gd
    rw [show (40 * a + k) / 40 = a by omega, show (40 * 30 + k) / 40 = 30 by omega]
    have := sp (s + j) (by omega) (by omega) (by omega)
    rw [show 820 * a + s + j = 820 * a + (s + j) by omega, show 820 * 30 + s + j = 24600 + (s + j) by omega]
    exact this
  · exact all a k M a0 (by omega) fM k0 kM k40
theorem ly_om_ok {r : Nat} {i v : ly_e} {zi zv : Int} (g : ly_gZ cst ν Z h) (hr : r < 60010) (hi : ly_ev ν i = some zi) (hv : ly_ev ν v = some zv) (e1 : ly_h0 cst h' r zi = some zv) (e2 : ∀ r' i', r' ≠ r ∨ i' ≠ zi → ly_h0 cst h' r' i' = ly_h0 cst h r' i') : ly_gK cst ν h' (ly_om Z r i v) := by
  unfold ly_om
  split
  · intro q hq; cases hq
  · rename_i hne
    have one : ∀ {b : Bool} {x y : ly_K}, (b = true → ly_gK cst ν h' x) → (b = false → ly_gK cst ν h' y) → ly_gK cst ν h' (bif b then x else y) := fun {b x y} h1 h2 => by
      cases b with
      | true => exact h1 rfl
      | false => exact h2 rfl
    refine one (fun _ q hq => by cases hq) (fun n0 => ?_)
    refine one (fun hb => by have := sx_beqn.mp hb; subst this; exact om_acts_ok g hi hv e1 e2) (fun n1 => ?_)
    refine one (fun hb => by have := sx_beqn.mp hb; subst this; exact om_clauses_ok g hi hv e1 e2) (fun n2 => ?_)
    refine one (fun hb => by have := sx_beqn.mp hb; subst this; exact om_firsts_ok g hi hv e1 e2) (fun n3 => ?_)
    refine one (fun hb => by have := sx_beqn.mp hb; subst this; exact om_owners_ok g hi hv e1 e2) (fun n4 => ?_)
    refine one (fun hb => by have := sx_beqn.mp hb; subst this; exact om_waits_ok g hi hv e1 e2) (fun n5 => ?_)
    refine one (fun hb => by have := sx_beqn.mp hb; subst this; exact om_waiting_ok (zv := 0) g hi e2) (fun n6 => ?_)
    refine one (fun hb => by have := sx_beqn.mp hb; subst this; exact om_macts_ok g hi hv e1 e2) (fun n7 => ?_)
    refine one (fun hb => by have := sx_beqn.mp hb; subst this; exact om_many_ok g hi hv e1 e2) (fun n8 => ?_)
    refine one (fun hb => by have := sx_beqn.mp hb; subst this; exact om_cstep_ok g hi hv e1 e2) (fun n9 => ?_)
    refine one (fun hb => by have := sx_beqn.mp hb; subst this; exact om_step_ok g hi e2) (fun n10 => ?_)
    refine one (fun hb => by have := sx_beqn.mp hb; subst this; exact om_steps_ok g hi hv e1 e2) (fun n11 => ?_)
    refine om_cl_ok g ?_ hi e2
    have hx : ∃ l, sx_get r ly_dl = some l := by
      unfold ly_dg at hne
      cases hg : sx_get r ly_dl with
      | none => rw [hg] at hne; exact absurd rfl hne
      | some l => exact ⟨l, rfl⟩
    obtain ⟨l, hl⟩ := hx
    have hm := sx_get_mem hl
    unfold ly_dl at hm
    simp only [List.mem_cons, Prod.mk.injEq, List.not_mem_nil, or_false] at hm
    have nb : ∀ {a b : Nat}, Nat.beq a b = false → a ≠ b := fun h => sx_beq_neg h
    simp only [Bool.or_eq_false_iff] at n0
    have qa := nb n0.1; have qb := nb n0.2.1; have qc := nb n0.2.2.1; have qd := nb n0.2.2.2.1; have qe := nb n0.2.2.2.2.1; have qf := nb n0.2.2.2.2.2.1; have qg := nb n0.2.2.2.2.2.2
    have q1 := nb n1; have q2 := nb n2; have q3 := nb n3; have q4 := nb n4; have q5 := nb n5; have q6 := nb n6
    have q7 := nb n7; have q8 := nb n8; have q9 := nb n9; have q10 := nb n10; have q11 := nb n11
    rcases hm with ⟨e, -⟩ | ⟨e, -⟩ | ⟨e, -⟩ | ⟨e, -⟩ | ⟨e, -⟩ | ⟨e, -⟩ | ⟨e, -⟩ | ⟨e, -⟩ | ⟨e, -⟩ | ⟨e, -⟩ | ⟨e, -⟩ | ⟨e, -⟩ | ⟨e, -⟩ | ⟨e, -⟩ | ⟨e, -⟩ | ⟨e, -⟩ | ⟨e, -⟩ | ⟨e, -⟩ | ⟨e, -⟩ | ⟨e, -⟩ | ⟨e, -⟩ | ⟨e, -⟩ <;> omega
end LY3J
