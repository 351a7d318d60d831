/-! the reference's acts -/
section LY3I
variable {cst : am_K} {ν : ly_N} {Z : ly_Z} {h h' : am_H}
theorem dp_sh {ft ft' : Int → Option Int} {b b' : Int} : ∀ (n : Nat), (∀ j : Int, 0 ≤ j → j < n → ft' (b' + j) = ft (b + j)) → gh_dp ft' b' n = gh_dp ft b n
  | 0, _ => rfl
  | n + 1, e => by
    have ih := dp_sh n (fun j h1 h2 => e j h1 (by omega))
    have e1 := e (n : Int) (Int.natCast_nonneg n) (by omega)
    show (match gh_dp ft' b' n, ft' (b' + n) with
      | some d, some s => if 0 ≤ s then (if d ≤ 63 then some (d + 1) else none) else if s = -3 then (if 1 ≤ d then some d else none) else (if 2 ≤ d then some (d - 1) else none)
      | _, _ => none) = _
    rw [ih, e1]
    rfl
theorem dp_some {ft : Int → Option Int} {b : Int} {n : Nat} {d : Int} (hd : gh_dp ft b (n + 1) = some d) : ∃ d0 s, gh_dp ft b n = some d0 ∧ ft (b + n) = some s ∧ ((0 ≤ s ∧ d0 ≤ 63 ∧ d = d0 + 1) ∨ (s = -3 ∧ 1 ≤ d0 ∧ d = d0) ∨ (s < 0 ∧ s ≠ -3 ∧ 2 ≤ d0 ∧ d = d0 - 1)) := by
  have hd : (match gh_dp ft b n, ft (b + n) with
      | some d, some s => if 0 ≤ s then (if d ≤ 63 then some (d + 1) else none) else if s = -3 then (if 1 ≤ d then some d else none) else (if 2 ≤ d then some (d - 1) else none)
      | _, _ => none) = some d := hd
  split at hd
  case h_2 => cases hd
  rename_i d0 s h1 h2
  refine ⟨d0, s, h1, h2, ?_⟩
  by_cases c1 : 0 ≤ s
  · rw [if_pos c1] at hd
    by_cases c2 : d0 ≤ 63
    · rw [if_pos c2] at hd
      cases hd
      exact Or.inl ⟨c1, c2, rfl⟩
    · rw [if_neg c2] at hd; cases hd
  · rw [if_neg c1] at hd
    by_cases c2 : s = -3
    · rw [if_pos c2] at hd
      by_cases c3 : 1 ≤ d0
      · rw [if_pos c3] at hd
        cases hd
        exact Or.inr (Or.inl ⟨c2, c3, rfl⟩)
      · rw [if_neg c3] at hd; cases hd
    · rw [if_neg c2] at hd
      by_cases c3 : 2 ≤ d0
      · rw [if_pos c3] at hd
        cases hd
        exact Or.inr (Or.inr ⟨by omega, c2, c3, rfl⟩)
      · rw [if_neg c3] at hd; cases hd
theorem dp_one {ft : Int → Option Int} {b : Int} {n : Nat} {d0 s d : Int} (h1 : gh_dp ft b n = some d0) (h2 : ft (b + n) = some s) (hc : (0 ≤ s ∧ d0 ≤ 63 ∧ d = d0 + 1) ∨ (s = -3 ∧ 1 ≤ d0 ∧ d = d0) ∨ (s < 0 ∧ s ≠ -3 ∧ 2 ≤ d0 ∧ d = d0 - 1)) : gh_dp ft b (n + 1) = some d := by
  show (match gh_dp ft b n, ft (b + n) with
      | some d, some s => if 0 ≤ s then (if d ≤ 63 then some (d + 1) else none) else if s = -3 then (if 1 ≤ d then some d else none) else (if 2 ≤ d then some (d - 1) else none)
      | _, _ => none) = some d
  rw [h1, h2]
  simp only
  rcases hc with ⟨c1, c2, rfl⟩ | ⟨c1, c2, rfl⟩ | ⟨c1, c2, c3, rfl⟩
  · rw [if_pos c1, if_pos c2]
  · rw [if_neg (by omega), if_pos c1, if_pos c2]
  · rw [if_neg (by omega), if_neg c2, if_pos c3]
theorem dp_le {ft : Int → Option Int} {b : Int} {m : Nat} : ∀ {n : Nat} {d : Int}, gh_dp ft b n = some d → m ≤ n → ∃ d', gh_dp ft b m = some d'
  | 0, d, h, hm => ⟨d, by rw [show m = 0 by omega]; exact h⟩
  | n + 1, d, h, hm => by
    by_cases e : m = n + 1
    · exact ⟨d, by rw [e]; exact h⟩
    · obtain ⟨d0, s, h1, -⟩ := dp_some h
      exact dp_le h1 (by omega)
theorem gd_mv {fk fn fc fs fl ft fu fk' fn' fc' fs' fl' ft' fu' : Int → Option Int} {c c' : Int} (ek : fk' c' = fk c) (en : fn' c' = fn c) (ec : fc' c' = fc c) (es : fs' c' = fs c) (el : fl' c' = fl c)
    (hU : 1200 ≤ c' → 1200 ≤ c ∧ ∀ u, fu 0 = some u → ∃ u', fu' 0 = some u' ∧ u ≤ u')
    (hT : ∀ s l, fs c = some s → fl c = some l → 0 ≤ s → 0 ≤ l → s + l ≤ 820 → (1200 ≤ c → ∃ u, fu 0 = some u ∧ s + l ≤ u) → ∀ j : Int, 0 ≤ j → j < l → ft' (820 * (c' / 40) + s + j) = ft (820 * (c / 40) + s + j))
    (g : gh_gd fk fn fc fs fl ft fu c) : gh_gd fk' fn' fc' fs' fl' ft' fu' c' := by
  obtain ⟨k, n, m, h1, h2, h3, h4, h5, h6⟩ := g
  refine ⟨k, n, m, by rw [ek]; exact h1, by rw [en]; exact h2, by rw [ec]; exact h3, h4, h5, fun k0 => ?_⟩
  obtain ⟨s, l, a1, a2, a3, a4, a5, a6, d, a7⟩ := h6 k0
  refine ⟨s, l, by rw [es]; exact a1, by rw [el]; exact a2, a3, a4, a5, fun hc => ?_, d, ?_⟩
  · obtain ⟨b1, b2⟩ := hU hc
    obtain ⟨u, u1, u2⟩ := a6 b1
    obtain ⟨u', v1, v2⟩ := b2 u u1
    exact ⟨u', v1, by omega⟩
  · rw [dp_sh l.toNat (fun j j0 jl => hT s l a1 a2 a3 a4 a5 a6 j j0 (by omega))]
    exact a7
theorem gh_qin {q : Nat × ly_e × ly_e} {b : Bool} (hq : q ∈ om_qa b Z) : ly_k1 Z 60020 ly_i0 = true ∧ b = true ∧ q = (60020, ly_i0, ly_i1) := by
  unfold om_qa at hq
  cases hk : ly_k1 Z 60020 ly_i0 with
  | false => rw [hk] at hq; cases hq
  | true =>
    cases b with
    | false => rw [hk] at hq; cases hq
    | true => rw [hk] at hq; exact ⟨rfl, rfl, List.mem_singleton.mp hq⟩
theorem gh_qput {q : Nat × ly_e × ly_e} (hq : q = (60020, ly_i0, ly_i1)) (hp : gh_qa (ly_h0 cst h' 19989) (ly_h0 cst h' 23296) (ly_h0 cst h' 23552) (ly_h0 cst h' 24064) (ly_h0 cst h' 24576) (ly_h0 cst h' 24832) (ly_h0 cst h' 25088) (ly_h0 cst h' 26880) (ly_h0 cst h' 20012)) : ∃ i v, ly_ev ν q.2.1 = some i ∧ ly_ev ν q.2.2 = some v ∧ ly_hv cst h' q.1 i = some v := by
  subst hq
  exact ⟨0, 1, ly_ev_c ν 0, ly_ev_c ν 1, gh_one (by decide) (by decide) (gv_20 _ _) hp⟩
theorem gh_qget (g : ly_gZ cst ν Z h) (hk : ly_k1 Z 60020 ly_i0 = true) : gh_qa (ly_h0 cst h 19989) (ly_h0 cst h 23296) (ly_h0 cst h 23552) (ly_h0 cst h 24064) (ly_h0 cst h 24576) (ly_h0 cst h 24832) (ly_h0 cst h 25088) (ly_h0 cst h 26880) (ly_h0 cst h 20012) :=
  gh_of (by decide) (by decide) (gv_20 _ _) (gh_k1 g hk (ly_ev_c ν 0))
theorem gh_kq {q : Nat × ly_e × ly_e} {r : Nat} {c : ly_e → Bool} (hq : q ∈ ly_kq Z r c) : q ∈ Z.2.2.2 ∧ q.1 = r ∧ c q.2.1 = true := by
  obtain ⟨h1, h2⟩ := List.mem_filter.mp hq
  rw [Bool.and_eq_true] at h2
  exact ⟨h1, sx_beqn.mp h2.1, h2.2⟩
/-- a cell of a clause that is being read, or copied -/
theorem om_cl_ok {r : Nat} {i : ly_e} {zi : Int} (g : ly_gZ cst ν Z h) (hr : r = 23552 ∨ r = 24064 ∨ r = 24576 ∨ r = 24832 ∨ r = 25088) (hi : ly_ev ν i = some zi) (e2 : ∀ r' i', r' ≠ r ∨ i' ≠ zi → ly_h0 cst h' r' i' = ly_h0 cst h r' i') : ly_gK cst ν h' (om_cl Z i) := by
  intro q hq
  unfold om_cl at hq
  have ea : ly_h0 cst h' 19989 = ly_h0 cst h 19989 := funext fun i => e2 _ _ (Or.inl (by omega))
  have em : ly_h0 cst h' 23296 = ly_h0 cst h 23296 := funext fun i => e2 _ _ (Or.inl (by omega))
  have et : ly_h0 cst h' 26880 = ly_h0 cst h 26880 := funext fun i => e2 _ _ (Or.inl (by omega))
  have eu : ly_h0 cst h' 20012 = ly_h0 cst h 20012 := funext fun i => e2 _ _ (Or.inl (by omega))
  rcases List.mem_append.mp hq with hq | hq
  · obtain ⟨h1, h2, h3⟩ := gh_qin hq
    refine gh_qput h3 ?_
    obtain ⟨A, fA, A0, A30, all⟩ := gh_qget g h1
    rw [ea, em, et, eu]
    refine ⟨A, fA, A0, A30, fun a k M a0 aA fM k0 kM k40 => ?_⟩
    have hne : 40 * a + k ≠ zi := by
      rcases Bool.or_eq_true_iff.mp h2 with h5 | h5
      · split at h5
        case h_2 => cases h5
        rename_i Me hM
        rw [Bool.and_eq_true] at h5
        obtain ⟨zM, m1, m2⟩ := gh_k0 (by decide) g hM (ly_ev_c ν 30)
        have b1 := gh_z g h5.1 (ly_sub_ok hi (ly_add_ok (ly_ev_c ν 1200) m1))
        have b2 := gh_z g h5.2 m1
        rcases aA with aA | aA
        · omega
        · subst aA
          rw [m2] at fM
          cases fM
          omega
      · split at h5
        case h_2 => cases h5
        rename_i Ae hA
        simp only [Bool.and_eq_true] at h5
        obtain ⟨zA, m1, m2⟩ := gh_kz (by decide) g hA
        rw [fA] at m2
        cases m2
        have b1 := gh_z g h5.1 (ly_sub_ok (ly_ev_c ν 29) m1)
        have b2 := gh_z g h5.2.1 (ly_sub_ok hi (ly_scl_ok m1))
        have b3 := gh_z g h5.2.2 (ly_sub_ok (ly_add_ok (ly_ev_c ν 39) (ly_scl_ok m1)) hi)
        omega
    have en : ∀ r', ly_h0 cst h' r' (40 * a + k) = ly_h0 cst h r' (40 * a + k) := fun r' => e2 _ _ (Or.inr hne)
    exact gd_mv (en _) (en _) (en _) (en _) (en _) (fun hc => ⟨hc, fun u hu => ⟨u, hu, Int.le_refl _⟩⟩) (fun s l _ _ _ _ _ _ j _ _ => rfl) (all a k M a0 aA fM k0 kM k40)
  · split at hq
    case h_2 => cases hq
    rename_i Ae hA
    obtain ⟨hm, hr70, hc⟩ := gh_kq hq
    rw [Bool.and_eq_true] at hc
    obtain ⟨ik, vk, k1, k2, k3⟩ := g.2.2.2 q hm
    refine ⟨ik, vk, k1, k2, ?_⟩
    rw [hr70] at k3 ⊢
    obtain ⟨zA, m1, m2⟩ := gh_kz (by decide) g hA
    have b2 := gh_z g hc.1 (ly_sub_ok hi (ly_add_ok (ly_scl_ok m1) k1))
    have b3 := gh_z g hc.2 (ly_sub_ok (ly_add_ok (ly_ev_c ν 39) (ly_scl_ok m1)) hi)
    rw [gh_hv (by decide) (by decide), gv_70] at k3 ⊢
    rw [← k3]
    refine gh_tv ⟨fun ⟨A, fA, A0, A29, all⟩ => ?_, fun ⟨A, fA, A0, A29, all⟩ => ?_⟩
    · rw [ea, m2] at fA
      cases fA
      refine ⟨zA, m2, A0, A29, fun j j0 jk j40 => ?_⟩
      have en : ∀ r', ly_h0 cst h' r' (40 * zA + j) = ly_h0 cst h r' (40 * zA + j) := fun r' => e2 _ _ (Or.inr (by omega))
      have en2 : ∀ r', ly_h0 cst h' r' (1200 + j) = ly_h0 cst h r' (1200 + j) := fun r' => e2 _ _ (Or.inr (by omega))
      have := all j j0 jk j40
      simp only [en, en2] at this
      exact this
    · rw [m2] at fA
      cases fA
      refine ⟨zA, by rw [ea]; exact m2, A0, A29, fun j j0 jk j40 => ?_⟩
      have en : ∀ r', ly_h0 cst h' r' (40 * zA + j) = ly_h0 cst h r' (40 * zA + j) := fun r' => e2 _ _ (Or.inr (by omega))
      have en2 : ∀ r', ly_h0 cst h' r' (1200 + j) = ly_h0 cst h r' (1200 + j) := fun r' => e2 _ _ (Or.inr (by omega))
      simp only [en, en2]
      exact all j j0 jk j40
theorem om_cstep_ok {i v : ly_e} {zi zv : Int} (g : ly_gZ cst ν Z h) (hi : ly_ev ν i = some zi) (hv : ly_ev ν v = some zv) (e1 : ly_h0 cst h' 24832 zi = some zv) (e2 : ∀ r' i', r' ≠ 24832 ∨ i' ≠ zi → ly_h0 cst h' r' i' = ly_h0 cst h r' i') : ly_gK cst ν h' (om_cstep Z i v) := by
  intro q hq
  unfold om_cstep at hq
  rcases List.mem_append.mp hq with hq | hq
  · split at hq
    case h_2 => cases hq
    rename_i Me ue hM hu
    cases hb : (ly_eq i (ly_add (1200, []) Me) && (ly_eq v ue && (ly_z Z v && ly_z Z (ly_sub (820, []) v)))) with
    | false => rw [hb] at hq; cases hq
    | true =>
      rw [hb] at hq
      rw [List.mem_singleton.mp hq]
      simp only [Bool.and_eq_true] at hb
      obtain ⟨h1, h2, h3, h4⟩ := hb
      obtain ⟨zM, m1, m2⟩ := gh_k0 (by decide) g hM (ly_ev_c ν 30)
      obtain ⟨zu, u1, u2⟩ := gh_kz (by decide) g hu
      rw [ly_eq_eq h1, ly_add_ok (ly_ev_c ν 1200) m1] at hi
      cases hi
      rw [← ly_eq_eq h2, hv] at u1
      cases u1
      have b1 := gh_z g h3 hv
      have b2 := gh_z g h4 (ly_sub_ok (ly_ev_c ν 820) hv)
      refine ⟨0, 0, ly_ev_c ν 0, ly_ev_c ν 0, ?_⟩
      show ly_hv cst h' 60060 0 = some 0
      rw [gh_hv (by decide) (by decide), gv_60]
      unfold gh_dg
      rw [e2 23296 30 (Or.inl (by decide)), e2 20012 0 (Or.inl (by decide)), m2, u2]
      simp only
      rw [e1]
      simp only
      rw [if_pos ⟨b1, Int.le_refl _, by omega⟩, show (zv - zv).toNat = 0 by omega]
      rfl
  · exact om_cl_ok g (by decide) hi e2 q hq
theorem om_step_ok {i : ly_e} {zi : Int} (g : ly_gZ cst ν Z h) (hi : ly_ev ν i = some zi) (e2 : ∀ r' i', r' ≠ 26880 ∨ i' ≠ zi → ly_h0 cst h' r' i' = ly_h0 cst h r' i') : ly_gK cst ν h' (om_step Z i) := by
  intro q hq
  unfold om_step at hq
  have e3 : ∀ r', r' ≠ 26880 → ly_h0 cst h' r' = ly_h0 cst h r' := fun r' hr => funext fun i => e2 _ _ (Or.inl hr)
  rcases List.mem_append.mp hq with hq | hq
  · obtain ⟨h1, h2, h3⟩ := gh_qin hq
    refine gh_qput h3 ?_
    obtain ⟨A, fA, A0, A30, all⟩ := gh_qget g h1
    rw [e3 19989 (by decide), e3 23296 (by decide), e3 23552 (by decide), e3 24064 (by decide), e3 24576 (by decide), e3 24832 (by decide), e3 25088 (by decide), e3 20012 (by decide)]
    refine ⟨A, fA, A0, A30, fun a k M a0 aA fM k0 kM k40 => ?_⟩
    have ec : (40 * a + k) / 40 = a := by omega
    refine gd_mv rfl rfl rfl rfl rfl (fun hc => ⟨hc, fun u hu => ⟨u, hu, Int.le_refl _⟩⟩) (fun s l _ _ s0 l0 sl hU j j0 jl => ?_) (all a k M a0 aA fM k0 kM k40)
    rw [ec]
    refine e2 _ _ (Or.inr ?_)
    rcases Bool.or_eq_true_iff.mp h2 with h5 | h5
    · split at h5
      case h_2 => cases h5
      rename_i ue hu
      rw [Bool.and_eq_true] at h5
      obtain ⟨zu, u1, u2⟩ := gh_kz (by decide) g hu
      have b1 := gh_z g h5.1 (ly_sub_ok hi (ly_add_ok (ly_ev_c ν 24600) u1))
      have b2 := gh_z g h5.2 u1
      rcases aA with aA | aA
      · omega
      · subst aA
        obtain ⟨u, u3, u4⟩ := hU (by omega)
        rw [u2] at u3
        cases u3
        omega
    · split at h5
      case h_2 => cases h5
      rename_i Ae hA
      simp only [Bool.and_eq_true] at h5
      obtain ⟨zA, m1, m2⟩ := gh_kz (by decide) g hA
      rw [fA] at m2
      cases m2
      have b1 := gh_z g h5.1 (ly_sub_ok (ly_ev_c ν 29) m1)
      have b2 := gh_z g h5.2.1 (ly_sub_ok hi (ly_scl_ok m1))
      have b3 := gh_z g h5.2.2 (ly_sub_ok (ly_add_ok (ly_ev_c ν 819) (ly_scl_ok m1)) hi)
      omega
  rcases List.mem_append.mp hq with hq | hq
  · split at hq
    case h_2 => cases hq
    rename_i ue hu
    cases hb : ly_eq i (ly_add (24600, []) ue) with
    | false => rw [hb] at hq; cases hq
    | true =>
      rw [hb] at hq
      obtain ⟨hL, hk⟩ := gh_kp hq
      simp only [List.mem_cons, Prod.mk.injEq, List.not_mem_nil, or_false] at hL
      rw [hL.1, hL.2] at hk
      obtain ⟨zu, u1, u2⟩ := gh_kz (by decide) g hu
      rw [ly_eq_eq hb, ly_add_ok (ly_ev_c ν 24600) u1] at hi
      cases hi
      obtain ⟨z, z1, z2⟩ := gh_k g hk (ly_ev_c ν 0)
      refine ⟨0, z, by rw [hL.2]; exact ly_ev_c ν 0, z1, ?_⟩
      rw [hL.1]
      rw [gh_hv (by decide) (by decide), gv_60] at z2 ⊢
      rw [← z2]
      unfold gh_dg
      rw [e3 23296 (by decide), e3 20012 (by decide), e3 24832 (by decide)]
      split
      · rename_i M u hM hu'
        rw [u2] at hu'
        cases hu'
        split
        · rename_i b hb'
          by_cases hc : 0 ≤ b ∧ b ≤ zu ∧ zu ≤ 820
          · rw [if_pos hc, if_pos hc]
            exact dp_sh _ (fun j j0 jl => e2 _ _ (Or.inr (by omega)))
          · rw [if_neg hc, if_neg hc]
        · rfl
      · rfl
  · split at hq
    case h_2 => cases hq
    rename_i Ae hA
    obtain ⟨hm, hr70, hc⟩ := gh_kq hq
    rw [Bool.and_eq_true] at hc
    obtain ⟨ik, vk, k1, k2, k3⟩ := g.2.2.2 q hm
    refine ⟨ik, vk, k1, k2, ?_⟩
    rw [hr70] at k3 ⊢
    obtain ⟨zA, m1, m2⟩ := gh_kz (by decide) g hA
    have b2 := gh_z g hc.1 (ly_sub_ok hi (ly_add_ok (ly_scl_ok m1) k1))
    have b3 := gh_z g hc.2 (ly_sub_ok (ly_add_ok (ly_ev_c ν 819) (ly_scl_ok m1)) hi)
    rw [gh_hv (by decide) (by decide), gv_71] at k3 ⊢
    rw [← k3, e3 19989 (by decide)]
    refine gh_tv ⟨fun ⟨A, fA, A0, A29, all⟩ => ?_, fun ⟨A, fA, A0, A29, all⟩ => ?_⟩
    · rw [m2] at fA
      cases fA
      refine ⟨zA, m2, A0, A29, fun j j0 jk j40 => ?_⟩
      have := all j j0 jk j40
      rw [e2 _ (820 * zA + j) (Or.inr (by omega)), e2 _ (24600 + j) (Or.inr (by omega))] at this
      exact this
    · rw [m2] at fA
      cases fA
      refine ⟨zA, m2, A0, A29, fun j j0 jk j40 => ?_⟩
      rw [e2 _ (820 * zA + j) (Or.inr (by omega)), e2 _ (24600 + j) (Or.inr (by omega))]
      exact all j j0 jk j40
theorem om_dp_ok {t d e : ly_e} {zt zd : Int} (g : ly_gZ cst ν Z h) (ht : ly_ev ν t = some zt) (hd : ly_ev ν d = some zd) (hh : om_dp Z t d = some e) : ∃ ze, ly_ev ν e = some ze ∧ ((0 ≤ zt ∧ zd ≤ 63 ∧ ze = zd + 1) ∨ (zt = -3 ∧ 1 ≤ zd ∧ ze = zd) ∨ (zt < 0 ∧ zt ≠ -3 ∧ 2 ≤ zd ∧ ze = zd - 1)) := by
  unfold om_dp at hh
  cases h1 : ly_z Z t with
  | true =>
    rw [h1] at hh
    simp only [cond_true] at hh
    cases h2 : ly_z Z (ly_sub (63, []) d) with
    | false => rw [h2] at hh; cases hh
    | true =>
      rw [h2] at hh
      cases hh
      have b1 := gh_z g h1 ht
      have b2 := gh_z g h2 (ly_sub_ok (ly_ev_c ν 63) hd)
      exact ⟨1 + zd, ly_add_ok (ly_ev_c ν 1) hd, Or.inl ⟨b1, by omega, by omega⟩⟩
  | false =>
    rw [h1] at hh
    simp only [cond_false] at hh
    split at hh
    case h_2 => cases hh
    rename_i c hc
    have ec := ly_con_ok g.2.1 hc
    rw [ht] at ec
    cases ec
    cases h0 : sx_le 0 zt with
    | true => rw [h0] at hh; cases hh
    | false =>
      rw [h0] at hh
      simp only [cond_false] at hh
      have hn : zt < 0 := by have := sx_le_neg h0; omega
      cases h3 : sx_eq zt (-3) with
      | true =>
        rw [h3] at hh
        simp only [cond_true] at hh
        cases h4 : ly_z Z (ly_add (-1, []) d) with
        | false => rw [h4] at hh; cases hh
        | true =>
          rw [h4] at hh
          cases hh
          have b1 := gh_z g h4 (ly_add_ok (ly_ev_c ν (-1)) hd)
          exact ⟨zd, hd, Or.inr (Or.inl ⟨sx_eq_iff.mp h3, by omega, rfl⟩)⟩
      | false =>
        rw [h3] at hh
        simp only [cond_false] at hh
        cases h4 : ly_z Z (ly_add (-2, []) d) with
        | false => rw [h4] at hh; cases hh
        | true =>
          rw [h4] at hh
          cases hh
          have b1 := gh_z g h4 (ly_add_ok (ly_ev_c ν (-2)) hd)
          have h3' : zt ≠ -3 := fun e => by rw [sx_eq_iff.mpr e] at h3; cases h3
          exact ⟨-1 + zd, ly_add_ok (ly_ev_c ν (-1)) hd, Or.inr (Or.inr ⟨hn, h3', by omega, by omega⟩)⟩
end LY3I
