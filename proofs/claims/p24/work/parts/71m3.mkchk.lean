/-! a method that makes a matter: a run to the making, the making, a run behind it -/
def mk_loc (L : ly_L) : Bool := (match sx_get 7 L with
  | some v => ly_isJ v
  | none => false) && [1, 2, 3, 4, 5, 6].all fun k => match sx_get k L with
  | some v => ly_isI v
  | none => false
def mk_kn (B : ly_B) (F : List ly_e) (t : ly_e) (K : ly_K) : Bool := K.any fun q => Nat.beq q.1 60002 && (decide (q.2.1 = (0, [])) && (ly_gs B F (ly_sub q.2.2 t) && ly_gs B F (ly_sub t q.2.2)))
def mk_ei (k : Nat) (L : ly_L) : ly_e := match sx_get k L with
  | some (.inl e) => e
  | _ => (0, [])
def mk_ej (L : ly_L) : ly_e := match sx_get 7 L with
  | some (.inr (.inl e)) => e
  | _ => (0, [])
noncomputable def mk_chk (K0 : sx_K) (Y : List (List (List ly_C))) (fuel : Nat) (p : ly_P) (eM : ly_e) (y : ly_C) : Bool := match y, p with
  | ((_, n, B, F, L, _, K), exs, mods, De, cc, cs), (qs, n1, B1, F1, L1, S1, K1) => ly_nn B (ly_add (-6, []) De) && ((List.range n).all (fun k => (sx_get k B).isSome) && (S1.isEmpty && (mk_loc L1 && (mk_kn B1 F1 (ly_add (177, []) (ly_scl 19 eM)) K1 && (ly_nn B1 eM && (ly_nn B1 (ly_sub (99, []) eM) && (ly_has 60002 mods && (ly_run0 sx_T K0 m_tt m_cl ly_TH Y mods De n [(31, (qs, n1, B1, F1, L1, S1, K1), (0, []))] exs none 133 cc cs 0 0 fuel (0, (sxm133, 0, L, []), [], (n, B, F, K), 0, 0) &&
      ly_run sx_T K0 m_tt m_cl ly_TH Y mods De n [] exs none 133 cc cs 0 0 fuel (0, (sxm133, 49, L1, [.inr (.inr (.inr (0, eM)))]), [], (n1, B1, F1, (60002, (0, []), ly_add (196, []) (ly_scl 19 eM)) :: (45322, eM, (1, [])) :: (45319, eM, (0, [])) :: (45313, eM, mk_ei 1 L1) :: (45315, eM, mk_ei 3 L1) :: (45317, eM, mk_ei 5 L1) :: (45312, eM, mk_ej L1) :: (45571, eM, (0, [])) :: (46339, eM, (0, [])) :: K1.filter fun q => !(Nat.beq q.1 60002)), 19, 261)))))))))
section MK4
variable {cst : am_K} {strs : List Nat} {K0 : sx_K} {Y : List (List (List ly_C))}
theorem mk_isI {ν : ly_N} {len k : Nat} {L : ly_L} {l' : am_L} (h : (match sx_get k L with
  | some v => ly_isI v
  | none => false) = true) (g : ly_gL ν len L l') : ∃ x : Int32, am_ld k l' = some (.int x) := by
  split at h
  · rename_i v hv
    obtain ⟨w, hw, gw⟩ := g _ (sx_get_mem hv)
    obtain ⟨x, rfl⟩ := ly_g_isI gw h
    exact ⟨x, hw⟩
  · cases h
theorem mk_ei_ok {ν : ly_N} {len k : Nat} {L : ly_L} {l' : am_L} {x : Int32} (h : (match sx_get k L with
  | some v => ly_isI v
  | none => false) = true) (g : ly_gL ν len L l') (hx : am_ld k l' = some (.int x)) : ly_ev ν (mk_ei k L) = some x.toInt := by
  unfold mk_ei
  split at h
  · rename_i v hv
    rw [hv]
    obtain ⟨w, hw, gw⟩ := g _ (sx_get_mem hv)
    have ew : am_ld k l' = some w := hw
    rw [hx] at ew
    cases ew
    match v, h, gw with
    | .inl e, _, gw =>
      obtain ⟨y, ey, hy⟩ := gw
      cases ey
      exact hy
  · cases h
theorem mk_ej_ok {ν : ly_N} {len : Nat} {L : ly_L} {l' : am_L} {x : Int64} (h : (match sx_get 7 L with
  | some v => ly_isJ v
  | none => false) = true) (g : ly_gL ν len L l') (hx : am_ld 7 l' = some (.long x)) : ly_ev ν (mk_ej L) = some x.toInt := by
  unfold mk_ej
  split at h
  · rename_i v hv
    rw [hv]
    obtain ⟨w, hw, gw⟩ := g _ (sx_get_mem hv)
    have ew : am_ld 7 l' = some w := hw
    rw [hx] at ew
    cases ew
    match v, h, gw with
    | .inr (.inl e), _, gw =>
      obtain ⟨y, ey, hy⟩ := gw
      cases ey
      exact hy
  · cases h
theorem mk_isJ {ν : ly_N} {len k : Nat} {L : ly_L} {l' : am_L} (h : (match sx_get k L with
  | some v => ly_isJ v
  | none => false) = true) (g : ly_gL ν len L l') : ∃ x : Int64, am_ld k l' = some (.long x) := by
  split at h
  · rename_i v hv
    obtain ⟨w, hw, gw⟩ := g _ (sx_get_mem hv)
    obtain ⟨x, rfl⟩ := ly_g_isJ gw h
    exact ⟨x, hw⟩
  · cases h
theorem mk_loc_ok {ν : ly_N} {len : Nat} {L : ly_L} {l' : am_L} (h : mk_loc L = true) (g : ly_gL ν len L l') : (∃ x : Int64, am_ld 7 l' = some (.long x)) ∧ ∀ k, 1 ≤ k → k ≤ 6 → ∃ x : Int32, am_ld k l' = some (.int x) := by
  unfold mk_loc at h
  rw [Bool.and_eq_true] at h
  refine ⟨mk_isJ h.1 g, fun k h1 h2 => mk_isI (List.all_eq_true.mp h.2 k ?_) g⟩
  simp only [List.mem_cons, List.not_mem_nil, or_false]
  omega
theorem mk_kn_ok {ν : ly_N} {h : am_H} {B : ly_B} {F : List ly_e} {K : ly_K} {eM : ly_e} {z : Int} (hk : mk_kn B F (ly_add (177, []) (ly_scl 19 eM)) K = true) (gB : ly_gB ν B) (gF : ly_gF ν F) (g : ly_gK cst ν h K) (hz : ly_ev ν eM = some z) : (h.length : Int) = 177 + 19 * z := by
  obtain ⟨q, hq, hb⟩ := List.any_eq_true.mp hk
  simp only [Bool.and_eq_true, sx_beqn, decide_eq_true_eq] at hb
  obtain ⟨b1, b2, b3, b4⟩ := hb
  obtain ⟨i, v, e1, e2, e3⟩ := g q hq
  rw [b2, ly_ev_c] at e1
  cases e1
  have ht := ly_add_ok (ly_ev_c ν 177) (ly_scl_ok (c := 19) hz)
  have k1 := ly_gs_ok gB gF b3 (ly_sub_ok e2 ht)
  have k2 := ly_gs_ok gB gF b4 (ly_sub_ok ht e2)
  rw [b1, ly_hv0 (by decide)] at e3
  unfold ly_h0 at e3
  rw [if_neg (by decide), if_neg (by decide), if_pos rfl, if_pos rfl] at e3
  have := Option.some.inj e3
  omega
theorem mk_chk_ok {fuel : Nat} {p : ly_P} {eM : ly_e} {y : ly_C} (gC : ly_gC K0 cst) (hstr : ∀ a, 8 ≤ a → a < 12 → a ∈ strs) (hc : mk_chk K0 Y fuel p eM y = true) (D : Nat) (hY : ∀ d, d < D → ly_Yok cst m_cl m_tt m_P strs ly_TH Y d) : ly_Cok cst m_cl m_tt m_P strs ly_TH 133 y D := by
  obtain ⟨⟨qs0, n, B, F, L, St, K⟩, exs, mods, De, cc, cs⟩ := y
  obtain ⟨qs, n1, B1, F1, L1, S1, K1⟩ := p
  unfold mk_chk at hc
  simp only [Bool.and_eq_true] at hc
  obtain ⟨c1, c2, c3, c4, c5, c6, c7, c8, c9, c10⟩ := hc
  intro ν av h zd M hM hsl hy gZ gL hzd hle
  simp only at gL hzd
  obtain ⟨M', hM', hmok, hml, -⟩ := sx_tok_m 133 sxm133 rfl rfl
  rw [hM] at hM'
  cases hM'
  have hPL : m_PL[133]? = some M := hmok.1
  obtain ⟨z1, hz1, z1p⟩ := ly_nn_ok gZ.2.1 c1
  rw [ly_add_ok (ly_ev_c ν (-6)) hzd] at hz1
  cases hz1
  obtain ⟨D, rfl⟩ : ∃ D', D = D' + 1 := ⟨D - 1, by omega⟩
  have hd0 : ∀ k, k < n → ∃ z, ν k = some z := fun k hk => by
    have := List.all_eq_true.mp c2 k (List.mem_range.mpr hk)
    obtain ⟨p, hp⟩ := Option.isSome_iff_exists.mp this
    obtain ⟨z, hz, -⟩ := ly_gB_get gZ.2.1 hp
    exact ⟨z, hz⟩
  have hDe : ∀ ν', (∀ k, k < n → ν' k = ν k) → ly_ev ν' De = some zd := fun ν' hp => ly_ev_le (fun k z hz => by
    have hlt : k < n := Nat.lt_of_not_le (fun hk => by
      have := gZ.1 k hk
      rw [hz] at this
      cases this)
    rw [hp k hlt]
    exact hz) hzd
  have hY' : ∀ d, d ≤ D → ly_Yok cst m_cl m_tt m_P strs ly_TH Y d := fun d hd => hY d (by omega)
  have hzD : zd ≤ (D : Int) + 1 := by omega
  have hD5 : 5 ≤ D := by omega
  have := ly_run0_ok (z0 := 0) hPL hd0 gC sx_tok_m hstr hY' hDe hzD (fun p' hp' ν2 l2 st2 h2 ca2 sa2 z2 a1 a2 a3 a4 a5 a6 a7 a8 a9 a10 a11 a12 => by
    rw [List.mem_singleton] at hp'
    subst hp'
    simp only at a6 a7
    have eS := List.isEmpty_iff.mp c3
    subst eS
    have est := ly_gS_nil a7
    subst est
    obtain ⟨zM, ezM, zM0⟩ := ly_nn_ok a2.2.1 c6
    obtain ⟨zN, ezN, zN0⟩ := ly_nn_ok a2.2.1 c7
    rw [ly_sub_ok (ly_ev_c ν2 99) ezM] at ezN
    cases ezN
    have hlen := mk_kn_ok c5 a2.2.1 a2.2.2.1 a2.2.2.2 ezM
    obtain ⟨m, rfl⟩ : ∃ m : Nat, zM = (m : Int) := ⟨zM.toNat, by omega⟩
    have hlen : h2.length = 177 + 19 * m := by omega
    obtain ⟨⟨x, l7⟩, hloc⟩ := mk_loc_ok c4 a6
    obtain ⟨i1, l1⟩ := hloc 1 (by decide) (by decide)
    obtain ⟨i2, l2'⟩ := hloc 2 (by decide) (by decide)
    obtain ⟨i3, l3⟩ := hloc 3 (by decide) (by decide)
    obtain ⟨i4, l4⟩ := hloc 4 (by decide) (by decide)
    obtain ⟨i5, l5⟩ := hloc 5 (by decide) (by decide)
    obtain ⟨i6, l6⟩ := hloc 6 (by decide) (by decide)
    obtain ⟨r0, hr0, e0, hy0, len0, old0, co0, sl0, one0, one1, one2, one3, one4, one5, one6, one7⟩ := mk_init (cst := cst) (strs := strs) hstr (gC.2.1.elim fun L hL => ⟨L, hL.1⟩) gC.2.2.1 gC.2.2.2 (n := m) (by omega) a3 hlen x i1 i2 i3 i4 i5 i6
    refine sx_Fin_pre (f1 := (M, 49, l2, [.ref (16 + h2.length)])) (h1 := r0.2.1) (dc := 1 + r0.2.2.1) (ds := 21 + r0.2.2.2) (fun n r hgo => ⟨n + 10, ?_⟩) ?_
    · have := mk_go hmok hD5 l7 l1 l2' l3 l4 l5 l6 hr0 e0 rfl hgo
      simp only [Nat.add_assoc]
      exact this
    · have fr0 : ∀ r i v, r ≠ 60002 → ly_hv cst h2 r i = some v → ly_hv cst r0.2.1 r i = some v := fun r i v hr hv => mk_fr (by omega) old0 hr hv
      refine ly_run_ok (mu := none) (z0 := 0) (D := D) hPL hd0 gC sx_tok_m hstr hY' hDe hzD (fun p hp => by cases hp) fuel _ ν2 (M, 49, l2, [.ref (16 + h2.length)]) [] r0.2.1 _ _ c10 ⟨a1, ⟨a2.1, a2.2.1, a2.2.2.1, ?_⟩, hy0, ?_, by omega, ⟨hmok, rfl, ly_gL_le (ly_le_rf ν2) (by omega) a6, ⟨⟨by decide, m, ezM, ?_, by omega⟩, trivial⟩⟩, trivial, rfl, Nat.zero_le _, ?_, ?_⟩ (fun e0 he0 => by cases he0)
      · intro q hq
        rcases List.mem_cons.mp hq with e | hq
        · subst e
          refine ⟨0, _, ly_ev_c ν2 0, ly_add_ok (ly_ev_c ν2 196) (ly_scl_ok ezM), ?_⟩
          show ly_hv cst r0.2.1 60002 0 = some (196 + 19 * (m : Int))
          rw [ly_hv0 (by decide)]
          unfold ly_h0
          rw [if_neg (by decide), if_neg (by decide), if_pos rfl, if_pos rfl, len0]
          congr 1
          omega
        rcases List.mem_cons.mp hq with e | hq
        · subst e
          exact ⟨(m : Int), 1, ezM, ly_ev_c ν2 1, one0⟩
        rcases List.mem_cons.mp hq with e | hq
        · subst e
          exact ⟨(m : Int), 0, ezM, ly_ev_c ν2 0, one1⟩
        rcases List.mem_cons.mp hq with e | hq
        · subst e
          exact ⟨(m : Int), i1.toInt, ezM, mk_ei_ok (by
            have t := c4
            unfold mk_loc at t
            rw [Bool.and_eq_true] at t
            exact List.all_eq_true.mp t.2 1 (by decide)) a6 l1, one2⟩
        rcases List.mem_cons.mp hq with e | hq
        · subst e
          exact ⟨(m : Int), i3.toInt, ezM, mk_ei_ok (by
            have t := c4
            unfold mk_loc at t
            rw [Bool.and_eq_true] at t
            exact List.all_eq_true.mp t.2 3 (by decide)) a6 l3, one3⟩
        rcases List.mem_cons.mp hq with e | hq
        · subst e
          exact ⟨(m : Int), i5.toInt, ezM, mk_ei_ok (by
            have t := c4
            unfold mk_loc at t
            rw [Bool.and_eq_true] at t
            exact List.all_eq_true.mp t.2 5 (by decide)) a6 l5, one4⟩
        rcases List.mem_cons.mp hq with e | hq
        · subst e
          exact ⟨(m : Int), x.toInt, ezM, mk_ej_ok (by
            have t := c4
            unfold mk_loc at t
            rw [Bool.and_eq_true] at t
            exact t.1) a6 l7, one5⟩
        rcases List.mem_cons.mp hq with e | hq
        · subst e
          exact ⟨(m : Int), 0, ezM, ly_ev_c ν2 0, one6⟩
        rcases List.mem_cons.mp hq with e | hq
        · subst e
          exact ⟨(m : Int), 0, ezM, ly_ev_c ν2 0, one7⟩
        · rw [List.mem_filter] at hq
          obtain ⟨i, v, e1, e2, e3⟩ := a2.2.2.2 q hq.1
          refine ⟨i, v, e1, e2, fr0 _ _ _ (fun e => ?_) e3⟩
          have := hq.2
          rw [sx_beqn.mpr e] at this
          cases this
      · refine ly_fr_tr a4 fun r i v hr hv => fr0 r i v (fun e => ?_) hv
        rw [e, c8] at hr
        cases hr
      · show Value.ref _ = Value.ref _
        rw [hlen]
        congr 1
      · show ca2 + (1 + r0.2.2.1) ≤ 19
        omega
      · show sa2 + (21 + r0.2.2.2) ≤ 261
        omega) (ca := 0) (sa := 0) (f' := (M, 0, lv_args 0 av, [])) (fs' := []) c9 ⟨fun _ _ => rfl, gZ, hy, ly_fr_rf h, Nat.le_refl _, ⟨hmok, rfl, gL, trivial⟩, trivial, rfl, Nat.zero_le _, Nat.le_refl _, Nat.le_refl _⟩ (fun e0 he0 => by cases he0)
  obtain ⟨n2, r, hgo, hpost⟩ := this
  refine ⟨r, Or.inr ⟨M, n2, hM, hsl, hgo⟩, ?_⟩
  obtain ⟨p1, p2, p3⟩ := hpost
  simp only [Nat.zero_add] at p1 p2
  exact ⟨p1, p2, p3⟩
end MK4
