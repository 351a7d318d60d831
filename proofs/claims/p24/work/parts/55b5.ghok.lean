/-! ghosts: what can be told of them, what a read tells -/
section LY3K
variable {cst : am_K} {ν : ly_N} {Z : ly_Z} {h : am_H}
theorem ri_b_ok {b : Bool} {r : Nat} {x e : ly_e} {zx : Int} {Z' : ly_Z} (g : ly_gZ cst ν Z h) (hx : ly_ev ν x = some zx) (hs : ri_b b Z r x = some (Z', e)) (hp : b = true → ly_hv cst h r zx = some 1) : ∃ ν', ly_le ν ν' ∧ ly_gZ cst ν' Z' h ∧ ∃ z, ly_ev ν' e = some z := by
  unfold ri_b at hs
  cases b with
  | false => cases hs
  | true =>
    simp only [cond_true, ly_fe_eq] at hs
    obtain ⟨n, B, F, K⟩ := Z
    cases hs
    exact ⟨ν, ly_le_rf ν, ly_gZ_K g hx (ly_ev_c ν 1) (hp rfl), 1, ly_ev_c ν 1⟩
theorem ri_st_ok {x : ly_e} {zx : Int} (g : ly_gZ cst ν Z h) (hx : ly_ev ν x = some zx) (hs : ri_st Z x = true) : gh_st (ly_h0 cst h 3584) (ly_h0 cst h 4352) zx := by
  unfold ri_st at hs
  split at hs
  case h_2 => cases hs
  rename_i A hA
  obtain ⟨q, hq, hc⟩ := List.any_eq_true.mp hs
  simp only [Bool.and_eq_true, sx_beqn] at hc
  obtain ⟨c1, c2, c3, c4, c5⟩ := hc
  obtain ⟨zA, a1, a2⟩ := gh_kz (by decide) g hA
  obtain ⟨i, v, k1, k2, k3⟩ := g.2.2.2 q hq
  rw [c1, ly_hv0 (by decide)] at k3
  have b2 := gh_z g c2 (ly_add_ok (ly_ev_c ν (-1)) k1)
  have b3 := gh_z g c3 (ly_sub_ok a1 k1)
  have b4 := gh_z g c4 (ly_add_ok (ly_ev_c ν (-1)) (ly_sub_ok k2 hx))
  have b5 := gh_z g c5 hx
  exact ⟨b5, zA, i - 1, v, a2, by omega, by omega, by rw [show i - 1 + 1 = i by omega]; exact k3, by omega⟩
theorem ri_in_ok {κ : Int} {x : ly_e} {zx : Int} (g : ly_gZ cst ν Z h) (hx : ly_ev ν x = some zx) (hs : ri_in κ Z x = true) : gh_in (ly_h0 cst h 19989) (ly_h0 cst h 23296) (ly_h0 cst h 23552) κ zx := by
  unfold ri_in at hs
  split at hs
  case h_2 => cases hs
  rename_i A k hA hk
  rw [Bool.and_eq_true] at hs
  have ek := sx_eq_iff.mp hs.1
  subst ek
  obtain ⟨q, hq, hc⟩ := List.any_eq_true.mp hs.2
  simp only [Bool.and_eq_true, sx_beqn] at hc
  obtain ⟨c1, c2, c3, c4, c5, c6⟩ := hc
  obtain ⟨zA, a1, a2⟩ := gh_kz (by decide) g hA
  have k0 := gh_kc (by decide) g hk hx
  obtain ⟨i, v, k1, k2, k3⟩ := g.2.2.2 q hq
  rw [c1, ly_hv0 (by decide)] at k3
  have b2 := gh_z g c2 k1
  have b3 := gh_z g c3 (ly_sub_ok (ly_add_ok (ly_ev_c ν (-1)) a1) k1)
  have b4 := gh_z g c4 (ly_sub_ok hx (ly_scl_ok k1))
  have b5 := gh_z g c5 (ly_sub_ok (ly_add_ok (ly_ev_c ν (-1)) (ly_add_ok (ly_scl_ok k1) k2)) hx)
  have b6 := gh_z g c6 (ly_sub_ok (ly_ev_c ν 40) k2)
  have e : zx / 40 = i := by omega
  exact ⟨by omega, k0, zA, v, a2, by omega, by rw [e]; exact k3, by omega⟩
theorem ly_k1st_mem {r : Nat} {p : ly_e × ly_e} : ∀ {K : ly_K}, ly_k1st r K = some p → (r, p) ∈ K
  | [], h => by cases h
  | q :: K, h => by
    unfold ly_k1st at h
    cases hb : Nat.beq q.1 r with
    | true =>
      rw [hb] at h
      cases h
      rw [← sx_beqn.mp hb]
      exact List.mem_cons_self
    | false =>
      rw [hb] at h
      exact List.mem_cons_of_mem _ (ly_k1st_mem h)
theorem gv_30 (f : Nat → Int → Option Int) (i : Int) : ly_gv f 60030 i = ly_tv (gh_in (f 19989) (f 23296) (f 23552) 0 i) := gv_3x f 0 (by decide) i
/-- a clause in force is well made -/
theorem gh_good {κ c : Int} (Q : gh_qa (ly_h0 cst h 19989) (ly_h0 cst h 23296) (ly_h0 cst h 23552) (ly_h0 cst h 24064) (ly_h0 cst h 24576) (ly_h0 cst h 24832) (ly_h0 cst h 25088) (ly_h0 cst h 26880) (ly_h0 cst h 20012)) (I : gh_in (ly_h0 cst h 19989) (ly_h0 cst h 23296) (ly_h0 cst h 23552) κ c) : gh_gd (ly_h0 cst h 23552) (ly_h0 cst h 24064) (ly_h0 cst h 24576) (ly_h0 cst h 24832) (ly_h0 cst h 25088) (ly_h0 cst h 26880) (ly_h0 cst h 20012) c := by
  obtain ⟨A, fA, A0, A30, all⟩ := Q
  obtain ⟨c0, -, A', M, fA', cA, fM, cM⟩ := I
  rw [fA] at fA'
  cases fA'
  have := all (c / 40) (c - 40 * (c / 40)) M (by omega) (Or.inl cA) fM (by omega) cM (by omega)
  rw [show 40 * (c / 40) + (c - 40 * (c / 40)) = c by omega] at this
  exact this
theorem ly_hand_ok {c y d j L : ly_e} (g : ly_gZ cst ν Z h) (hh : ly_hand Z = some (c, y, d, j, L)) : ∃ zc zy zd zj s : Int, ∃ i : Nat, ly_ev ν c = some zc ∧ ly_ev ν y = some zy ∧ ly_ev ν d = some zd ∧ ly_ev ν j = some zj ∧ zy = 1024 * zc + i ∧ i ≤ 1022 ∧ 0 ≤ zc ∧ ly_h0 cst h 24832 zc = some s ∧ zj = 820 * (zc / 40) + s + i ∧ gh_dp (ly_h0 cst h 26880) (820 * (zc / 40) + s) i = some zd ∧ ∃ d1, gh_dp (ly_h0 cst h 26880) (820 * (zc / 40) + s) (i + 1) = some d1 := by
  unfold ly_hand at hh
  split at hh
  case h_2 => cases hh
  rename_i c0 u0 y0 d0 hc hy
  split at hh
  case h_2 => cases hh
  rename_i s L0 q hs hL hq
  cases hb : (ly_k1 Z 60030 c0 && (ly_k1 Z 60020 ly_i0 && (ly_z Z (ly_sub y0 (ly_scl 1024 c0)) && (ly_z Z (ly_sub (ly_add (-1, []) (ly_add (ly_scl 1024 c0) L0)) y0) && ly_z Z (ly_sub (ly_add (1022, []) (ly_scl 1024 c0)) y0))))) with
  | false => rw [hb] at hh; cases hh
  | true =>
    rw [hb] at hh
    cases hh
    simp only [Bool.and_eq_true] at hb
    obtain ⟨b1, b2, b3, b4, b5⟩ := hb
    obtain ⟨zc, vc, c1, -, -⟩ := g.2.2.2 _ (ly_k1st_mem hc)
    obtain ⟨zy, zd, y1, y2, y3⟩ := g.2.2.2 _ (ly_k1st_mem hy)
    simp only at c1 y1 y2 y3
    have I := gh_of (by decide) (by decide) (gv_30 _ _) (gh_k1 g b1 c1)
    have Q := gh_qget g b2
    have gd := gh_good Q I
    obtain ⟨c00, fk, -⟩ := I
    obtain ⟨k, n, m, g1, g2, g3, -, -, g6⟩ := gd
    rw [fk] at g1
    cases g1
    obtain ⟨zs, zl, f1, f2, f3, f4, f5, -, dd, f7⟩ := g6 rfl
    obtain ⟨zs', s1, s2⟩ := gh_k0 (by decide) g hs c1
    rw [f1] at s2
    cases s2
    obtain ⟨zl', l1, l2⟩ := gh_k0 (by decide) g hL c1
    rw [f2] at l2
    cases l2
    obtain ⟨zq, q1, q2⟩ := gh_k g hq c1
    have eq : zq = zc / 40 := by
      unfold ly_hv at q2
      rw [if_neg (by decide), if_neg (by decide), if_neg (by decide), if_neg (by decide), if_pos (by decide)] at q2
      cases q2
      exact Int.tdiv_eq_ediv_of_nonneg c00
    subst eq
    have z3 := gh_z g b3 (ly_sub_ok y1 (ly_scl_ok c1))
    have z4 := gh_z g b4 (ly_sub_ok (ly_add_ok (ly_ev_c ν (-1)) (ly_add_ok (ly_scl_ok c1) l1)) y1)
    have z5 := gh_z g b5 (ly_sub_ok (ly_add_ok (ly_ev_c ν 1022) (ly_scl_ok c1)) y1)
    rw [gh_hv (by decide) (by decide), gv_50] at y3
    unfold gh_sd at y3
    rw [show zy / 1024 = zc by omega, f1] at y3
    simp only at y3
    refine ⟨zc, zy, zd, _, zs, (zy - 1024 * zc).toNat, c1, y1, y2, ly_add_ok (ly_scl_ok q1) (ly_add_ok s1 (ly_sub_ok y1 (ly_scl_ok c1))), by omega, by omega, c00, f1, by omega, ?_, ?_⟩
    · rw [← y3, show (zy % 1024).toNat = (zy - 1024 * zc).toNat by omega]
    · exact dp_le f7 (by omega)
theorem ri_dp_ok {x e : ly_e} {zx : Int} (g : ly_gZ cst ν Z h) (hx : ly_ev ν x = some zx) (hs : ri_dp Z x = some e) : ∃ ze, ly_ev ν e = some ze ∧ gh_sd (ly_h0 cst h 24832) (ly_h0 cst h 26880) zx = some ze := by
  unfold ri_dp at hs
  cases hb : ri_d0 Z x with
  | true =>
    rw [hb] at hs
    cases hs
    unfold ri_d0 at hb
    split at hb
    case h_2 => cases hb
    rename_i c u0 hc
    simp only [Bool.and_eq_true] at hb
    obtain ⟨b1, b2, b3⟩ := hb
    obtain ⟨zc, vc, c1, -, -⟩ := g.2.2.2 _ (ly_k1st_mem hc)
    simp only at c1
    have I := gh_of (by decide) (by decide) (gv_30 _ _) (gh_k1 g b1 c1)
    have gd := gh_good (gh_qget g b2) I
    obtain ⟨c00, fk, -⟩ := I
    obtain ⟨k, n, m, g1, g2, g3, -, -, g6⟩ := gd
    rw [fk] at g1
    cases g1
    obtain ⟨zs, zl, f1, -⟩ := g6 rfl
    rw [ly_eq_eq b3, ly_scl_ok c1] at hx
    cases hx
    refine ⟨0, ly_ev_c ν 0, ?_⟩
    unfold gh_sd
    rw [show 1024 * zc / 1024 = zc by omega, f1]
    simp only
    rw [show (1024 * zc % 1024).toNat = 0 by omega]
    rfl
  | false =>
    rw [hb] at hs
    simp only [cond_false] at hs
    split at hs
    case h_2 => cases hs
    rename_i c y d j L hh
    obtain ⟨zc, zy, zd, zj, s, i, h1, h2, h3, h4, h5, h6, h7, h8, h9, h10, d1, h11⟩ := ly_hand_ok g hh
    cases hb2 : ly_eq x (ly_add ly_i1 y) with
    | false => rw [hb2] at hs; cases hs
    | true =>
      rw [hb2] at hs
      simp only [cond_true] at hs
      split at hs
      case h_2 => cases hs
      rename_i t ht
      obtain ⟨zt, t1, t2⟩ := gh_k0 (by decide) g ht h4
      obtain ⟨ze, e1, hcase⟩ := om_dp_ok g t1 h3 hs
      rw [ly_eq_eq hb2, ly_add_ok (ly_ev_c ν 1) h2] at hx
      cases hx
      refine ⟨ze, e1, ?_⟩
      unfold gh_sd
      rw [show (1 + zy) / 1024 = zc by omega, h8]
      simp only
      rw [show ((1 + zy) % 1024).toNat = i + 1 by omega]
      exact dp_one h10 (by rw [← h9]; exact t2) hcase
theorem ri_dn_ok (g : ly_gZ cst ν Z h) (hs : ri_dn Z = true) : gh_dn (ly_h0 cst h 23296) (ly_h0 cst h 24832) (ly_h0 cst h 25088) (ly_h0 cst h 26880) (ly_h0 cst h 20012) := by
  unfold ri_dn at hs
  split at hs
  case h_2 => cases hs
  rename_i M u gg hM hu hg
  split at hs
  case h_2 => cases hs
  rename_i b l hb hl
  obtain ⟨zM, m1, m2⟩ := gh_k0 (by decide) g hM (ly_ev_c ν 30)
  obtain ⟨zu, u1, u2⟩ := gh_kz (by decide) g hu
  obtain ⟨zb, b1, b2⟩ := gh_k0 (by decide) g hb (ly_add_ok (ly_ev_c ν 1200) m1)
  obtain ⟨zl, l1, l2⟩ := gh_k0 (by decide) g hl (ly_add_ok (ly_ev_c ν 1200) m1)
  rw [ly_eq_eq hs, ly_sub_ok u1 b1] at l1
  cases l1
  obtain ⟨z, z1, z2⟩ := gh_k g hg (ly_ev_c ν 0)
  rw [gh_hv (by decide) (by decide), gv_60] at z2
  unfold gh_dg at z2
  rw [m2, u2] at z2
  simp only at z2
  rw [b2] at z2
  simp only at z2
  by_cases hc : 0 ≤ zb ∧ zb ≤ zu ∧ zu ≤ 820
  · rw [if_pos hc] at z2
    exact ⟨zM, zb, zu - zb, zu, z, m2, b2, l2, u2, hc.1, by omega, by omega, hc.2.2, z2⟩
  · rw [if_neg hc] at z2
    cases z2
theorem ly_same_ok {r : Nat} {i j : ly_e} {zi zj : Int} (hr : r < 60010) (g : ly_gZ cst ν Z h) (hi : ly_ev ν i = some zi) (hj : ly_ev ν j = some zj) (hs : ly_same Z r i j = true) : ly_h0 cst h r zi = ly_h0 cst h r zj := by
  unfold ly_same at hs
  split at hs
  case h_2 => cases hs
  rename_i v w hv hw
  obtain ⟨z1, a1, a2⟩ := gh_k0 hr g hv hi
  obtain ⟨z2, b1, b2⟩ := gh_k0 hr g hw hj
  rw [ly_eq_eq hs, b1] at a1
  cases a1
  rw [a2, b2]
theorem ri_cp_ok {x : ly_e} {zx : Int} (g : ly_gZ cst ν Z h) (hx : ly_ev ν x = some zx) (hs : ri_cp Z x = true) : gh_cp (ly_h0 cst h 19989) (ly_h0 cst h 23552) (ly_h0 cst h 24064) (ly_h0 cst h 24576) (ly_h0 cst h 24832) (ly_h0 cst h 25088) zx := by
  unfold ri_cp at hs
  split at hs
  case h_2 => cases hs
  rename_i A hA
  obtain ⟨zA, a1, a2⟩ := gh_kz (by decide) g hA
  rcases Bool.or_eq_true_iff.mp hs with h1 | h1
  · simp only [Bool.and_eq_true] at h1
    have b1 := gh_z g h1.2.1 a1
    have b2 := gh_z g h1.2.2 (ly_sub_ok (ly_ev_c ν 29) a1)
    rw [ly_eq_eq h1.1, ly_ev_c] at hx
    cases hx
    exact ⟨zA, a2, b1, by omega, fun j j0 jk => by omega⟩
  · split at h1
    case h_2 => cases h1
    rename_i y u0 hy
    simp only [Bool.and_eq_true] at h1
    obtain ⟨c1, c2, c3, c4, c5, c6, c7⟩ := h1
    obtain ⟨zy, vy, y1, -, -⟩ := g.2.2.2 _ (ly_k1st_mem hy)
    simp only at y1
    obtain ⟨A', fA, A0, A29, all⟩ := gh_of (by decide) (by decide) (gv_70 _ _) (gh_k1 g c1 y1)
    rw [a2] at fA
    cases fA
    rw [ly_eq_eq c2, ly_add_ok (ly_ev_c ν 1) y1] at hx
    cases hx
    have i1 := ly_add_ok (ly_scl_ok (c := 40) a1) y1
    have i2 := ly_add_ok (ly_ev_c ν 1200) y1
    refine ⟨zA, a2, A0, A29, fun j j0 jk j40 => ?_⟩
    by_cases ej : j = zy
    · rw [ej]
      exact ⟨ly_same_ok (by decide) g i1 i2 c3, ly_same_ok (by decide) g i1 i2 c4, ly_same_ok (by decide) g i1 i2 c5, ly_same_ok (by decide) g i1 i2 c6, ly_same_ok (by decide) g i1 i2 c7⟩
    · exact all j j0 (by omega) j40
theorem ri_sp_ok {x : ly_e} {zx : Int} (g : ly_gZ cst ν Z h) (hx : ly_ev ν x = some zx) (hs : ri_sp Z x = true) : gh_sp (ly_h0 cst h 19989) (ly_h0 cst h 26880) zx := by
  unfold ri_sp at hs
  split at hs
  case h_2 => cases hs
  rename_i A hA
  obtain ⟨zA, a1, a2⟩ := gh_kz (by decide) g hA
  rcases Bool.or_eq_true_iff.mp hs with h1 | h1
  · simp only [Bool.and_eq_true] at h1
    have b1 := gh_z g h1.2.1 a1
    have b2 := gh_z g h1.2.2 (ly_sub_ok (ly_ev_c ν 29) a1)
    rw [ly_eq_eq h1.1, ly_ev_c] at hx
    cases hx
    exact ⟨zA, a2, b1, by omega, fun j j0 jk => by omega⟩
  · split at h1
    case h_2 => cases h1
    rename_i y u0 hy
    simp only [Bool.and_eq_true] at h1
    obtain ⟨c1, c2, c3⟩ := h1
    obtain ⟨zy, vy, y1, -, -⟩ := g.2.2.2 _ (ly_k1st_mem hy)
    simp only at y1
    obtain ⟨A', fA, A0, A29, all⟩ := gh_of (by decide) (by decide) (gv_71 _ _) (gh_k1 g c1 y1)
    rw [a2] at fA
    cases fA
    rw [ly_eq_eq c2, ly_add_ok (ly_ev_c ν 1) y1] at hx
    cases hx
    refine ⟨zA, a2, A0, A29, fun j j0 jk j40 => ?_⟩
    by_cases ej : j = zy
    · rw [ej]
      exact ly_same_ok (by decide) g (ly_add_ok (ly_scl_ok (c := 820) a1) y1) (ly_add_ok (ly_ev_c ν 24600) y1) c3
    · exact all j j0 (by omega) j40
theorem ly_k1e_ok {r : Nat} {x : ly_e} {zx : Int} (g : ly_gZ cst ν Z h) (hx : ly_ev ν x = some zx) (hs : ly_k1e Z r x = true) : ly_hv cst h r zx = some 1 := by
  unfold ly_k1e at hs
  split at hs
  case h_2 => cases hs
  rename_i a ha
  have e := ly_con_ok g.2.1 ha
  rw [hx] at e
  cases e
  obtain ⟨q, hq, hc⟩ := List.any_eq_true.mp hs
  simp only [Bool.and_eq_true, sx_beqn] at hc
  obtain ⟨c1, c2, c3⟩ := hc
  obtain ⟨i, v, k1, k2, k3⟩ := g.2.2.2 q hq
  split at c2
  case h_2 => cases c2
  rename_i b hb
  split at c3
  case h_2 => cases c3
  rename_i b' hb'
  have e1 := ly_con_ok g.2.1 hb
  rw [k1] at e1
  cases e1
  have e2 := ly_con_ok g.2.1 hb'
  rw [k2] at e2
  cases e2
  rw [c1, ← sx_eq_iff.mp c2, sx_eq_iff.mp c3] at k3
  exact k3
theorem ly_ri_ok {r : Nat} {x e : ly_e} {zx : Int} {Z' : ly_Z} (g : ly_gZ cst ν Z h) (h1 : 60010 ≤ r) (h2 : r < 61000) (hs : ly_ri Z r x = some (Z', e)) (hx : ly_ev ν x = some zx) : ∃ ν', ly_le ν ν' ∧ ly_gZ cst ν' Z' h ∧ ∃ z, ly_ev ν' e = some z := by
  unfold ly_ri at hs
  have one : ∀ {b : Bool} {x y : Option (ly_Z × ly_e)}, (bif b then x else y) = some (Z', e) → (b = true ∧ x = some (Z', e)) ∨ (b = false ∧ y = some (Z', e)) := fun {b x y} hh => by
    cases b with
    | true => exact Or.inl ⟨rfl, hh⟩
    | false => exact Or.inr ⟨rfl, hh⟩
  rcases one hs with ⟨hb, hs⟩ | ⟨-, hs⟩
  · rw [sx_beqn.mp hb] at hs
    exact ri_b_ok g hx hs (fun hb => gh_one (by decide) (by decide) (gv_12 _ _) (ri_st_ok g hx hb))
  rcases one hs with ⟨hb, hs⟩ | ⟨-, hs⟩
  · rw [sx_beqn.mp hb] at hs
    exact ri_b_ok g hx hs (fun hb => gh_one (by decide) (by decide) (gv_81 _ _) (ri_cl_ok g hx hb))
  rcases one hs with ⟨hb, hs⟩ | ⟨-, hs⟩
  · rw [sx_beqn.mp hb] at hs
    split at hs
    case h_2 => cases hs
    rename_i d hd
    simp only [ly_fe_eq] at hs
    obtain ⟨ze, e1, e2⟩ := ri_dp_ok g hx hd
    obtain ⟨n, B, F, K⟩ := Z
    cases hs
    refine ⟨ν, ly_le_rf ν, ly_gZ_K g hx e1 ?_, ze, e1⟩
    show ly_hv cst h 60050 zx = some ze
    rw [gh_hv (by decide) (by decide), gv_50]
    exact e2
  rcases one hs with ⟨hb, hs⟩ | ⟨-, hs⟩
  · rw [sx_beqn.mp hb] at hs
    exact ri_b_ok g hx hs (fun hb => gh_one (by decide) (by decide) (gv_61 _ _) (ri_dn_ok g ((Bool.and_eq_true_iff.mp hb).2)))
  rcases one hs with ⟨hb, hs⟩ | ⟨-, hs⟩
  · rw [sx_beqn.mp hb] at hs
    refine ri_b_ok g hx hs (fun hb => ?_)
    rcases Bool.or_eq_true_iff.mp hb with hb | hb
    · exact ly_k1e_ok g hx hb
    · exact gh_one (by decide) (by decide) (gv_70 _ _) (ri_cp_ok g hx hb)
  rcases one hs with ⟨hb, hs⟩ | ⟨-, hs⟩
  · rw [sx_beqn.mp hb] at hs
    refine ri_b_ok g hx hs (fun hb => ?_)
    rcases Bool.or_eq_true_iff.mp hb with hb | hb
    · exact ly_k1e_ok g hx hb
    · exact gh_one (by decide) (by decide) (gv_71 _ _) (ri_sp_ok g hx hb)
  rcases one hs with ⟨hb, hs⟩ | ⟨-, hs⟩
  · rw [Bool.and_eq_true, sx_ble, sx_ble] at hb
    obtain ⟨k, rfl⟩ : ∃ k, r = 60030 + k := ⟨r - 60030, by omega⟩
    refine ri_b_ok g hx hs (fun hb' => gh_one (by omega) (by omega) (gv_3x _ k (by omega) _) ?_)
    rw [show 60030 + k - 60030 = k by omega] at hb'
    exact ri_in_ok g hx hb'
  · cases hs
theorem rr_as {e : ly_e} {z : Int} (g : ly_gZ cst ν Z h) (he : ly_ev ν e = some z) (hz : 0 ≤ z) : ∃ Z1 ∈ (ly_as Z e).toList, ly_gZ cst ν Z1 h := ly_as_in g he hz
theorem rr_two_ok {a b : ly_e} {x y : Int} (g : ly_gZ cst ν Z h) (ha : ly_ev ν a = some x) (hb : ly_ev ν b = some y) (x0 : 0 ≤ x) (y0 : 0 ≤ y) : ∃ Z1 ∈ rr_two Z a b, ly_gZ cst ν Z1 h := by
  obtain ⟨Z1, e1, g1⟩ := ly_as_ok g ha x0
  unfold rr_two
  rw [e1]
  exact ly_as_in g1 hb y0
theorem ly_who_mem {x n : ly_e} : ∀ {K : ly_K}, ly_who x K = some n → (62032, n, x) ∈ K
  | [], h => by cases h
  | q :: K, h => by
    unfold ly_who at h
    cases hb : (Nat.beq q.1 62032 && ly_eq q.2.2 x) with
    | true =>
      rw [hb] at h
      cases h
      rw [Bool.and_eq_true] at hb
      rw [← sx_beqn.mp hb.1, ← ly_eq_eq hb.2]
      exact List.mem_cons_self
    | false =>
      rw [hb] at h
      exact List.mem_cons_of_mem _ (ly_who_mem h)
theorem ly_bit_ok {n b : ly_e} {zn : Int} {c : Nat} (g : ly_gZ cst ν Z h) (hn : ly_ev ν n = some zn) (hn0 : 0 ≤ zn) (hc : c ≤ 1000) (hb : ly_bit Z n c = some b) : ly_ev ν b = some (zn / (c : Int) % 2) := by
  unfold ly_bit at hb
  split at hb
  case h_2 => cases hb
  rename_i q hq
  obtain ⟨zq, q1, q2⟩ := gh_k g hq hn
  obtain ⟨zb, b1, b2⟩ := gh_k g hb q1
  have e1 : ly_hv cst h (62000 + c) zn = some (zn / (c : Int)) := by
    unfold ly_hv
    rw [if_neg (by omega), if_neg (by omega), if_neg (by omega), if_neg (by omega), if_pos (by omega), show 62000 + c - 62000 = c by omega, Int.tdiv_eq_ediv_of_nonneg hn0]
  have e2 : ly_hv cst h 63001 zq = some (zq % 2) := by
    unfold ly_hv
    rw [if_neg (by decide), if_neg (by decide), if_neg (by decide), if_neg (by decide), if_neg (by decide)]
    rfl
  rw [e1] at q2
  cases q2
  rw [e2] at b2
  cases b2
  exact b1
theorem rr_bits_ok {x : ly_e} (g : ly_gZ cst ν Z h) : ∃ Z1 ∈ rr_bits x Z, ly_gZ cst ν Z1 h := by
  have nop : ∃ Z1 ∈ [Z], ly_gZ cst ν Z1 h := ⟨Z, List.mem_singleton.mpr rfl, g⟩
  unfold rr_bits
  split
  case h_2 => exact nop
  rename_i n hw
  obtain ⟨zn, zx, n1, -, -⟩ := g.2.2.2 _ (ly_who_mem hw)
  simp only at n1
  split
  case h_2 => exact nop
  rename_i a b c d e f ha hb hc hd he hf
  cases hz : (ly_z Z (ly_add (-1, []) n) && ly_z Z (ly_sub (63, []) n)) with
  | false => exact nop
  | true =>
    rw [Bool.and_eq_true] at hz
    have b1 := gh_z g hz.1 (ly_add_ok (ly_ev_c ν (-1)) n1)
    have b2 := gh_z g hz.2 (ly_sub_ok (ly_ev_c ν 63) n1)
    have ea := ly_bit_ok g n1 (by omega) (by decide) ha
    have eb := ly_bit_ok g n1 (by omega) (by decide) hb
    have ec := ly_bit_ok g n1 (by omega) (by decide) hc
    have ed := ly_bit_ok g n1 (by omega) (by decide) hd
    have ee := ly_bit_ok g n1 (by omega) (by decide) he
    have ef := ly_bit_ok g n1 (by omega) (by decide) hf
    refine rr_as g (ly_add_ok (ly_ev_c ν (-1)) (ly_add_ok ea (ly_add_ok eb (ly_add_ok ec (ly_add_ok ed (ly_add_ok ee ef)))))) ?_
    have key : ∀ k : Fin 64, 1 ≤ k.val → (0 : Int) ≤ -1 + ((k.val : Int) / 1 % 2 + ((k.val : Int) / 2 % 2 + ((k.val : Int) / 4 % 2 + ((k.val : Int) / 8 % 2 + ((k.val : Int) / 16 % 2 + (k.val : Int) / 32 % 2))))) := by decide +kernel
    have := key ⟨zn.toNat, by omega⟩ (by show 1 ≤ zn.toNat; omega)
    simp only [show ((zn.toNat : Nat) : Int) = zn by omega] at this
    exact this
theorem ly_rr_ok {r : Nat} {i : ly_e} {zi : Int} (g : ly_gZ cst ν Z h) (hi : ly_ev ν i = some zi) : ∃ Z1 ∈ ly_rr r i Z, ly_gZ cst ν Z1 h := by
  have nop : ∃ Z1 ∈ [Z], ly_gZ cst ν Z1 h := ⟨Z, List.mem_singleton.mpr rfl, g⟩
  have le : ∀ (b : Bool) (r : Nat) (c : Int), r < 60010 → (b = true → ly_k1 Z 60020 ly_i0 = true → ∀ z, ly_h0 cst h r zi = some z → z ≤ c) → ∃ Z1 ∈ rr_le b r c i Z, ly_gZ cst ν Z1 h := by
    intro b r c hr hh
    unfold rr_le
    split
    · rename_i v hv
      cases hb : (b && ly_k1 Z 60020 ly_i0) with
      | false => exact nop
      | true =>
        rw [Bool.and_eq_true] at hb
        obtain ⟨z, z1, z2⟩ := gh_k0 hr g hv hi
        have := hh hb.1 hb.2 z z2
        exact rr_as g (ly_sub_ok (ly_ev_c ν c) z1) (by omega)
    · exact nop
  unfold ly_rr
  cases h1 : Nat.beq r 5376 with
  | true =>
    simp only [cond_true]
    unfold rr_owners
    split
    · rename_i v hv
      split
      case h_2 => exact nop
      rename_i ae ha
      cases hb : (ly_k1 Z 60010 ly_i0 && ly_k1 Z 60012 i) with
      | false => exact nop
      | true =>
        rw [Bool.and_eq_true] at hb
        obtain ⟨z, z1, z2⟩ := gh_k0 (by decide) g hv hi
        obtain ⟨A, C, F, fA, fC, A0, fF, FC, C1, all, mono, low⟩ := gh_of (by decide) (by decide) (gv_10 _ _) (gh_k1 g hb.1 (ly_ev_c ν 0))
        obtain ⟨c0, A', a, n, fA', a0, aA, fn, cn⟩ := gh_of (by decide) (by decide) (gv_12 _ _) (gh_k1 g hb.2 hi)
        rw [fA] at fA'
        cases fA'
        have m := mono a n a0 aA fn
        obtain ⟨v', v1, v2⟩ := low zi c0 (by omega)
        rw [z2] at v1
        cases v1
        obtain ⟨za, a1, a2⟩ := gh_kz (by decide) g ha
        rw [fA] at a2
        cases a2
        exact rr_as g (ly_sub_ok (ly_add_ok (ly_ev_c ν (-1)) a1) z1) (by omega)
    · exact nop
  | false =>
    simp only [cond_false]
    cases h2 : Nat.beq r 6151 with
    | true =>
      simp only [cond_true]
      cases hi0 : ly_eq i ly_i0 with
      | false => exact nop
      | true =>
        simp only [cond_true]
        unfold rr_waits
        split
        · rename_i n b hn hb
          cases hk : ly_k1 Z 60080 ly_i0 with
          | false => exact nop
          | true =>
            simp only [cond_true]
            obtain ⟨N, n1, n2⟩ := gh_kz (by decide) g hn
            obtain ⟨zb, b1, b2⟩ := gh_k g hb (ly_ev_c ν 0)
            rw [gh_hv (by decide) (by decide), gv_82] at b2
            unfold gh_br at b2
            rw [n2] at b2
            cases b2
            have W := gh_of (by decide) (by decide) (gv_80 _ _) (gh_k1 g hk (ly_ev_c ν 0))
            have N0 : 0 ≤ N := by
              obtain ⟨M, hM, M0, -, -⟩ := W
              rw [n2] at hM
              cases hM
              exact M0
            obtain ⟨w1, w2, w3⟩ := wf_bnd W n2 N.toNat (by omega)
            obtain ⟨Z1, e1, g1⟩ := ly_as_ok g (ly_sub_ok n1 b1) (by omega)
            rw [e1]
            simp only
            have cap : ∀ j : Int, 0 ≤ j → ly_k1 Z1 60081 (j, []) = true → N ≤ 4 * gh_ct (ly_h0 cst h 6400) N.toNat + j := fun j j0 hj => by
              obtain ⟨M, hM, hh⟩ := gh_of (by decide) (by decide) (gv_81 _ _) (gh_k1 g1 hj (ly_ev_c ν j))
              rw [n2] at hM
              cases hM
              have := w3 j j0 (by
                rcases hh with hh | ⟨v, hv, hh⟩
                · exact Or.inl (by omega)
                · exact Or.inr ⟨v, by rw [show ((N.toNat : Nat) : Int) - 1 = N - 1 by omega]; exact hv, hh⟩)
              omega
            have fin : ∀ j : Int, N ≤ 4 * gh_ct (ly_h0 cst h 6400) N.toNat + j → ∃ Z2 ∈ (ly_as Z1 (ly_sub (ly_add (j, []) (ly_scl 4 b)) n)).toList, ly_gZ cst ν Z2 h := fun j hj => rr_as g1 (ly_sub_ok (ly_add_ok (ly_ev_c ν j) (ly_scl_ok b1)) n1) (by omega)
            cases q0 : ly_k1 Z1 60081 ly_i0 with
            | true => exact fin 0 (cap 0 (by decide) q0)
            | false =>
              cases q1 : ly_k1 Z1 60081 ly_i1 with
              | true => exact fin 1 (cap 1 (by decide) q1)
              | false =>
                cases q2 : ly_k1 Z1 60081 (2, []) with
                | true => exact fin 2 (cap 2 (by decide) q2)
                | false => exact fin 3 (by omega)
        · exact nop
    | false =>
      simp only [cond_false]
      cases h3 : Nat.beq r 24064 with
      | true =>
        simp only [cond_true]
        refine le _ _ _ (by decide) (fun hb hk z hz => ?_)
        have key : ∃ κ : Int, (κ = 7 ∨ κ = 10) ∧ gh_in (ly_h0 cst h 19989) (ly_h0 cst h 23296) (ly_h0 cst h 23552) κ zi := by
          rcases Bool.or_eq_true_iff.mp hb with hb | hb
          · exact ⟨7, Or.inl rfl, gh_of (by decide) (by decide) (gv_3x _ 7 (by decide) _) (gh_k1 g hb hi)⟩
          · exact ⟨10, Or.inr rfl, gh_of (by decide) (by decide) (gv_3x _ 10 (by decide) _) (gh_k1 g hb hi)⟩
        obtain ⟨κ, hκ, I⟩ := key
        obtain ⟨k, n, m, f1, f2, f3, f4, -⟩ := gh_good (gh_qget g hk) I
        rw [I.2.1] at f1
        cases f1
        rw [hz] at f2
        cases f2
        exact f4 hκ
      | false =>
        simp only [cond_false]
        cases h4 : Nat.beq r 24576 with
        | true =>
          simp only [cond_true]
          refine le _ _ _ (by decide) (fun hb hk z hz => ?_)
          have I := gh_of (by decide) (by decide) (gv_3x _ 1 (by decide) _) (gh_k1 g hb hi)
          obtain ⟨k, n, m, f1, f2, f3, -, f5, -⟩ := gh_good (gh_qget g hk) I
          rw [I.2.1] at f1
          cases f1
          rw [hz] at f3
          cases f3
          exact f5 rfl
        | false =>
          simp only [cond_false]
          cases h5 : Nat.beq r 26880 with
          | false =>
            simp only [cond_false]
            cases h6 : Nat.beq r 63001 with
            | false => exact nop
            | true => exact rr_bits_ok g
          | true =>
            simp only [cond_true]
            unfold rr_step
            split
            case h_2 => exact nop
            rename_i c y d j L hh
            cases hb : ly_eq i j with
            | false => exact nop
            | true =>
              simp only [cond_true]
              split
              case h_2 => exact nop
              rename_i t ht
              obtain ⟨zc, zy, zd, zj, s, n, q1, q2, q3, q4, q5, q6, q7, q8, q9, q10, d1, q11⟩ := ly_hand_ok g hh
              rw [ly_eq_eq hb, q4] at hi
              cases hi
              obtain ⟨zt, t1, t2⟩ := gh_k0 (by decide) g ht (by rw [ly_eq_eq hb]; exact q4)
              obtain ⟨d0, s', a1, a2, hcase⟩ := dp_some q11
              rw [q10] at a1
              cases a1
              rw [← q9, t2] at a2
              cases a2
              have two : ∀ {a b : ly_e} {x y : Int}, ly_ev ν a = some x → ly_ev ν b = some y → 0 ≤ x → 0 ≤ y → ∃ Z1 ∈ rr_two Z a b, ly_gZ cst ν Z1 h := fun ha hb x0 y0 => rr_two_ok g ha hb x0 y0
              rcases hcase with ⟨k1, k2, -⟩ | ⟨k1, k2, -⟩ | ⟨k1, k2, k3, -⟩
              · obtain ⟨Z1, m1, g1⟩ := two t1 (ly_sub_ok (ly_ev_c ν 63) q3) k1 (by omega)
                exact ⟨Z1, List.mem_append_left _ m1, g1⟩
              · obtain ⟨Z0, e0, g0⟩ := ly_as_ok g (ly_add_ok (ly_ev_c ν 3) t1) (by omega)
                obtain ⟨Z1, m1, g1⟩ := rr_two_ok g0 (ly_sub_ok (ly_ev_c ν (-3)) t1) (ly_add_ok (ly_ev_c ν (-1)) q3) (by omega) (by omega)
                refine ⟨Z1, List.mem_append_right _ (List.mem_append_right _ (List.mem_append_right _ ?_)), g1⟩
                rw [e0]
                exact m1
              · by_cases k4 : zt ≤ -4
                · obtain ⟨Z1, m1, g1⟩ := two (ly_sub_ok (ly_ev_c ν (-4)) t1) (ly_add_ok (ly_ev_c ν (-2)) q3) (by omega) (by omega)
                  exact ⟨Z1, List.mem_append_right _ (List.mem_append_left _ m1), g1⟩
                · obtain ⟨Z0, e0, g0⟩ := ly_as_ok g (ly_add_ok (ly_ev_c ν 2) t1) (by omega)
                  obtain ⟨Z1, m1, g1⟩ := rr_two_ok g0 (ly_sub_ok (ly_ev_c ν (-1)) t1) (ly_add_ok (ly_ev_c ν (-2)) q3) (by omega) (by omega)
                  refine ⟨Z1, List.mem_append_right _ (List.mem_append_right _ (List.mem_append_left _ ?_)), g1⟩
                  rw [e0]
                  exact m1
end LY3K
