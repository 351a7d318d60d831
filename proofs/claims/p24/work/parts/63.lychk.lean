/-! runs of the linear machine, and contracts that are kept -/
section LY12
variable {cst : am_K} {cl : List vw_C} {tt : List (List FieldType)} {P PL : List am_M} {strs : List Nat} {TH : List (List ly_T)} {K0 : sx_K} {T : List (List sx_M)} {Y : List (List (List ly_C))} {mods : List Nat} {De : ly_e} {n0 : Nat} {pts : List (Nat × ly_P × ly_e)} {exs : List ly_P} {mu : Option ly_e} {mi cc cs pcc pcs : Nat}
variable {ν0 : ly_N} {h0 : am_H} {D : Nat} {zD z0 : Int}
theorem ly_id_dfd {ν : ly_N} (hd0 : ∀ k, k < n0 → ∃ z, ν0 k = some z) (hp : ∀ k, k < n0 → ν k = ν0 k) : ly_dfd ν (ly_id n0) := fun t ht => by
  obtain ⟨k, hk⟩ := List.mem_iff_getElem?.mp ht
  rw [ly_id_get] at hk
  by_cases hlt : k < n0
  · rw [if_pos hlt] at hk
    cases hk
    obtain ⟨z, hz⟩ := hd0 k hlt
    exact ⟨z, ly_ev_sym (by rw [hp k hlt]; exact hz)⟩
  · rw [if_neg hlt] at hk
    cases hk
theorem ly_id_th {ν : ly_N} {θ θx : List ly_e} (e : θ = ly_id n0 ++ θx) {k : Nat} (hd0 : ∀ k, k < n0 → ∃ z, ν0 k = some z) (hp : ∀ k, k < n0 → ν k = ν0 k) (hk : k < n0) : ly_th ν θ k = ν0 k := by
  have hg : θ[k]? = some (ly_sym k) := by
    have h1 := ly_id_get n0 k
    rw [if_pos hk] at h1
    rw [e, List.getElem?_append_left (List.getElem?_eq_some_iff.mp h1).1]
    exact h1
  obtain ⟨z, hz⟩ := hd0 k hk
  simp only [ly_th, hg]
  rw [hz]
  exact ly_ev_sym (by rw [hp k hk]; exact hz)
theorem ly_stepr_ok {I : Instr} {X : am_X} {pc k c s ca sa : Nat} {m : sx_M} {M : am_M} {l : ly_L} {st : List ly_V} {fs : List ly_Fr} {Z : ly_Z} {gs : List ly_G} {ν : ly_N} {l' : am_L} {st' : List Value} {fs' : List sx_Cf} {h' : am_H}
    (hd0 : ∀ k, k < n0 → ∃ z, ν0 k = some z) (hfind : am_find pc M.2.2.2.2 = some (I, X)) (inv : ly_Inv cst tt PL TH mods n0 ν0 h0 D (k, (m, pc, l, st), fs, Z, c, s) ν (M, pc, l', st') fs' h' ca sa)
    (hs : ly_stepr TH n0 exs cc cs I k m st fs Z c s = some gs) :
    sx_Fin cst cl tt P strs (ly_Post cst tt TH n0 ν0 h0 exs mods cc cs) fs' (D - k) (M, pc, l', st') h' ca sa ∨ ly_next cst cl tt P PL strs TH mods n0 ν0 h0 D (ly_Post cst tt TH n0 ν0 h0 exs mods cc cs) ν gs (sx_Fin cst cl tt P strs (ly_Post cst tt TH n0 ν0 h0 exs mods cc cs) fs' (D - k) (M, pc, l', st') h' ca sa) := by
  obtain ⟨ipre, iZ, ihy, ifr, ilen, iF, iFs, ik, ikD, ica, isa⟩ := inv
  simp only at iZ ik ikD ica isa iFs
  obtain ⟨hm, -, gL, gS⟩ := iF
  simp only at gL gS hm
  unfold ly_stepr at hs
  split at hs
  case h_2 => cases hs
  rename_i v hv
  obtain ⟨v', er, gv⟩ := ly_r_ok iZ.2.1 gS hv
  rw [← hm.2.1] at er
  have hgo : am_Go cst cl tt P strs (am_Run cst cl tt P strs sx_bi (D - k)) M 1 pc l' st' h' (v', h', 0, 0) := ⟨I, X, hfind, Or.inr (Or.inr (Or.inl ⟨v', er, rfl⟩))⟩
  match fs, fs', iFs, hs, ik with
  | [], [], _, hs, ik =>
    simp only at hs
    cases hc : (Nat.ble c cc && (Nat.ble s cs && exs.any fun p => (ly_mt TH Z [] v.toList (ly_id n0) p).isSome)) with
    | false => rw [hc] at hs; cases hs
    | true =>
      simp only [Bool.and_eq_true, sx_ble] at hc
      obtain ⟨c1, c2, c3⟩ := hc
      obtain ⟨p, hp, hmt⟩ := List.any_eq_true.mp c3
      obtain ⟨q, hq⟩ := Option.isSome_iff_exists.mp hmt
      obtain ⟨Z', θ⟩ := q
      obtain ⟨ν1, hl1, -, dfd1, ⟨θx, eθ⟩, -, gZt, -, gSt⟩ := ly_mt_ok (l' := []) ihy iZ (fun q hq => by cases hq) gv (ly_id_dfd hd0 ipre) hq
      refine Or.inl ⟨1, _, hgo, ?_, ?_, ihy, ifr, ilen, p, hp, ly_th ν1 θ, fun k hk => ly_id_th eθ hd0 (ly_pre_le hd0 ipre hl1) hk, gZt, gSt⟩
      · show ca + 0 ≤ cc; omega
      · show sa + 0 ≤ cs; omega
  | g :: fs, g' :: fs', iFs, hs, ik =>
    cases hs
    obtain ⟨⟨gm, gpc, gl, gst⟩, gfs⟩ := iFs
    simp only [List.length_cons] at ik
    have ed : D - (k - 1) = D - k + 1 := by omega
    refine Or.inr ⟨_, List.mem_singleton.mpr rfl, ν, (g'.1, g'.2.1, g'.2.2.1, v'.toList ++ g'.2.2.2), fs', h', ca, sa, ly_le_rf ν, ⟨ipre, iZ, ihy, ifr, ilen, ⟨gm, gpc, gl, ly_gS_app gv gst⟩, gfs, by show k - 1 = fs.length; omega, by show k - 1 ≤ D; omega, ica, isa⟩, fun hF => ⟨1, _, hgo, ?_⟩⟩
    simp only at hF
    rw [ed] at hF
    exact hF
theorem ly_step0_ok {g : ly_G} {gs : List ly_G} {ν : ly_N} {f' : sx_Cf} {fs' : List sx_Cf} {h' : am_H} {ca sa : Nat}
    (hd0 : ∀ k, k < n0 → ∃ z, ν0 k = some z) (gC : ly_gC K0 cst) (hT : sx_tok cl P PL T) (hstr : ∀ a, 8 ≤ a → a < 12 → a ∈ strs) (hY : ∀ d, d ≤ D → ly_Yok cst cl tt P strs TH Y d) (hDe : ∀ ν, (∀ k, k < n0 → ν k = ν0 k) → ly_ev ν De = some zD) (hzD : zD ≤ (D : Int) + 1)
    (inv : ly_Inv cst tt PL TH mods n0 ν0 h0 D g ν f' fs' h' ca sa) (hs : ly_step0 T K0 tt cl TH Y mods De n0 exs cc cs g = some gs) :
    sx_Fin cst cl tt P strs (ly_Post cst tt TH n0 ν0 h0 exs mods cc cs) fs' (D - g.1) f' h' ca sa ∨ ly_next cst cl tt P PL strs TH mods n0 ν0 h0 D (ly_Post cst tt TH n0 ν0 h0 exs mods cc cs) ν gs (sx_Fin cst cl tt P strs (ly_Post cst tt TH n0 ν0 h0 exs mods cc cs) fs' (D - g.1) f' h' ca sa) := by
  obtain ⟨k, ⟨m, pc, l, st⟩, fs, Z, c, s⟩ := g
  obtain ⟨M, pc', l', st'⟩ := f'
  have hpc : pc = pc' := inv.2.2.2.2.2.1.2.1
  subst hpc
  have hm : sx_mok PL m M := inv.2.2.2.2.2.1.1
  unfold ly_step0 at hs
  simp only [sx_N_eq] at hs
  split at hs
  case h_1 => cases hs
  rename_i q hq
  have hfind : am_find pc M.2.2.2.2 = some (q.1, q.2) := hm.2.2 _ _ hq
  unfold ly_stepi at hs
  split at hs
  · rename_i f hf
    split at hs
    case h_2 => cases hs
    rename_i ss hss
    cases hs
    obtain ⟨ipre, iZ, ihy, ifr, ilen, iF, iFs, ik, ikD, ica, isa⟩ := inv
    obtain ⟨q1, hq1, ν1, F, e, hl1, gZ1, epc, gL1, gS1, hy1, fr1, hlen1⟩ := ly_s_ok (cst := cst) (ν := ν) (l' := l') (st' := st') (h' := h') hf hss gC iZ iF.2.2.1 iF.2.2.2 ihy
    refine Or.inr ⟨_, List.mem_map.mpr ⟨q1, hq1, rfl⟩, ν1, (M, F.1, F.2.1, F.2.2.1), fs', F.2.2.2, ca, sa, hl1, ⟨ly_pre_le hd0 ipre hl1, gZ1, hy1, ly_fr_tr ifr fr1, by rw [hlen1]; exact ilen, ⟨hm, epc, by rw [hlen1]; exact gL1, by rw [hlen1]; exact gS1⟩, ly_gFrs_le hl1 (by rw [hlen1]; exact Nat.le_refl _) iFs, ik, ikD, ica, isa⟩, fun hF => ?_⟩
    exact sx_Fin_step rfl (fun n r hgo => ⟨q.1, q.2, hfind, Or.inl ⟨F, e, hgo⟩⟩) hF
  · cases hc : sx_isc q.1 with
    | true =>
      rw [hc] at hs
      exact Or.inr (ly_stepc_ok hd0 hT hstr hY hDe hzD hfind inv hs)
    | false =>
      rw [hc] at hs
      exact ly_stepr_ok hd0 hfind inv hs
/-- a run all of whose ends are good -/
theorem ly_run_ok {M0 : am_M} (hM0 : PL[mi]? = some M0)
    (hd0 : ∀ k, k < n0 → ∃ z, ν0 k = some z) (gC : ly_gC K0 cst) (hT : sx_tok cl P PL T) (hstr : ∀ a, 8 ≤ a → a < 12 → a ∈ strs) (hY : ∀ d, d ≤ D → ly_Yok cst cl tt P strs TH Y d) (hDe : ∀ ν, (∀ k, k < n0 → ν k = ν0 k) → ly_ev ν De = some zD) (hzD : zD ≤ (D : Int) + 1)
    (hpt : ∀ p ∈ pts, ∀ (ν : ly_N) (l' : am_L) (st' : List Value) (h' : am_H) (ca sa : Nat) (z : Int), (∀ k, k < n0 → ν k = ν0 k) → ly_gZ cst ν (ly_PZ p.2.1) h' → ly_hy tt TH h' → ly_fr cst mods h0 h' → h0.length ≤ h'.length → ly_gL ν h'.length p.2.1.2.2.2.2.1 l' → ly_gS ν h'.length p.2.1.2.2.2.2.2.1 st' → ly_ev ν p.2.2 = some z → 0 ≤ z → (mu.isSome = true → z < z0) → ca ≤ pcc → sa ≤ pcs → sx_Fin cst cl tt P strs (ly_Post cst tt TH n0 ν0 h0 exs mods cc cs) [] D (M0, p.1, l', st') h' ca sa) :
    ∀ (n : Nat) (g : ly_G) (ν : ly_N) (f' : sx_Cf) (fs' : List sx_Cf) (h' : am_H) (ca sa : Nat), ly_run T K0 tt cl TH Y mods De n0 pts exs mu mi cc cs pcc pcs n g = true → ly_Inv cst tt PL TH mods n0 ν0 h0 D g ν f' fs' h' ca sa → (∀ e0, mu = some e0 → ly_ev ν e0 = some z0) → sx_Fin cst cl tt P strs (ly_Post cst tt TH n0 ν0 h0 exs mods cc cs) fs' (D - g.1) f' h' ca sa := by
  intro n
  induction n with
  | zero => intro g ν f' fs' h' ca sa hr; cases hr
  | succ n ih =>
    intro g ν f' fs' h' ca sa hr inv hmu
    unfold ly_run at hr
    split at hr
    case h_2 => cases hr
    rename_i gs hgs
    obtain ⟨k, ⟨m, pc, l, st⟩, fs, Z, c, s⟩ := g
    unfold ly_step at hgs
    simp only at hgs
    cases hst : (fs.isEmpty && pts.any (fun p => Nat.beq p.1 pc)) with
    | true =>
      rw [hst] at hgs
      simp only [cond_true] at hgs
      rw [Bool.and_eq_true] at hst
      have efs := List.isEmpty_iff.mp hst.1
      subst efs
      cases hc : (Nat.beq m.1 mi && (Nat.ble c pcc && (Nat.ble s pcs && pts.any fun p => Nat.beq p.1 pc && ly_at TH n0 mu Z l st p.2))) with
      | false => rw [hc] at hgs; cases hgs
      | true =>
        simp only [Bool.and_eq_true, sx_beqn, sx_ble] at hc
        obtain ⟨c0, c1, c2, c3⟩ := hc
        obtain ⟨p, hp, hat⟩ := List.any_eq_true.mp c3
        rw [Bool.and_eq_true, sx_beqn] at hat
        obtain ⟨epc, hat⟩ := hat
        obtain ⟨ipre, iZ, ihy, ifr, ilen, iF, iFs, ik, ikD, ica, isa⟩ := inv
        simp only at iZ ik ica isa iFs
        obtain ⟨M, pc', l', st'⟩ := f'
        obtain ⟨hm, hpc, gL, gS⟩ := iF
        simp only at hpc gL gS hm
        subst hpc
        have eM : M = M0 := by
          have := hm.1
          rw [c0, hM0] at this
          cases this
          rfl
        subst eM
        match fs', iFs with
        | [], _ =>
          unfold ly_at at hat
          split at hat
          case h_2 => cases hat
          rename_i Z' θ hmt
          obtain ⟨ν1, hl1, gZ1, dfd1, ⟨θx, eθ⟩, -, gZt, gLt, gSt⟩ := ly_mt_ok ihy iZ gL gS (ly_id_dfd hd0 ipre) hmt
          split at hat
          case h_2 => cases hat
          rename_i e he
          obtain ⟨z, hz, hz'⟩ := ly_sb_ok dfd1 he
          cases hge : ly_gs Z'.2.1 Z'.2.2.1 e with
          | false => rw [hge] at hat; cases hat
          | true =>
            rw [hge] at hat
            simp only [cond_true] at hat
            have zp := ly_gs_ok gZ1.2.1 gZ1.2.2.1 hge hz
            have ek : D - k = D := by rw [ik]; rfl
            rw [ek, ← epc]
            refine hpt p hp (ly_th ν1 θ) l' st' h' ca sa z (fun k hk => ly_id_th eθ hd0 (ly_pre_le hd0 ipre hl1) hk) gZt ihy ifr ilen gLt gSt hz' zp (fun hsome => ?_) (by omega) (by omega)
            obtain ⟨e0, he0⟩ := Option.isSome_iff_exists.mp hsome
            rw [he0] at hat
            simp only at hat
            have := ly_gs_ok gZ1.2.1 gZ1.2.2.1 hat (ly_sub_ok (ly_add_ok (ly_ev_c ν1 (-1)) (ly_ev_le hl1 (hmu e0 he0))) hz)
            omega
    | false =>
      rw [hst] at hgs
      simp only [cond_false] at hgs
      rcases ly_step0_ok hd0 gC hT hstr hY hDe hzD inv hgs with h1 | ⟨g1, hg1, ν1, f1, fs1, h1, ca1, sa1, hl1, inv1, kk⟩
      · exact h1
      · exact kk (ih g1 ν1 f1 fs1 h1 ca1 sa1 (List.all_eq_true.mp hr g1 hg1) inv1 (fun e0 he0 => ly_ev_le hl1 (hmu e0 he0)))
theorem ly_run0_ok {M0 : am_M} (hM0 : PL[mi]? = some M0)
    (hd0 : ∀ k, k < n0 → ∃ z, ν0 k = some z) (gC : ly_gC K0 cst) (hT : sx_tok cl P PL T) (hstr : ∀ a, 8 ≤ a → a < 12 → a ∈ strs) (hY : ∀ d, d ≤ D → ly_Yok cst cl tt P strs TH Y d) (hDe : ∀ ν, (∀ k, k < n0 → ν k = ν0 k) → ly_ev ν De = some zD) (hzD : zD ≤ (D : Int) + 1)
    (hpt : ∀ p ∈ pts, ∀ (ν : ly_N) (l' : am_L) (st' : List Value) (h' : am_H) (ca sa : Nat) (z : Int), (∀ k, k < n0 → ν k = ν0 k) → ly_gZ cst ν (ly_PZ p.2.1) h' → ly_hy tt TH h' → ly_fr cst mods h0 h' → h0.length ≤ h'.length → ly_gL ν h'.length p.2.1.2.2.2.2.1 l' → ly_gS ν h'.length p.2.1.2.2.2.2.2.1 st' → ly_ev ν p.2.2 = some z → 0 ≤ z → (mu.isSome = true → z < z0) → ca ≤ pcc → sa ≤ pcs → sx_Fin cst cl tt P strs (ly_Post cst tt TH n0 ν0 h0 exs mods cc cs) [] D (M0, p.1, l', st') h' ca sa)
    {n : Nat} {g : ly_G} {ν : ly_N} {f' : sx_Cf} {fs' : List sx_Cf} {h' : am_H} {ca sa : Nat} (hr : ly_run0 T K0 tt cl TH Y mods De n0 pts exs mu mi cc cs pcc pcs n g = true) (inv : ly_Inv cst tt PL TH mods n0 ν0 h0 D g ν f' fs' h' ca sa) (hmu : ∀ e0, mu = some e0 → ly_ev ν e0 = some z0) :
    sx_Fin cst cl tt P strs (ly_Post cst tt TH n0 ν0 h0 exs mods cc cs) fs' (D - g.1) f' h' ca sa := by
  unfold ly_run0 at hr
  split at hr
  case h_2 => cases hr
  rename_i gs hgs
  rcases ly_step0_ok hd0 gC hT hstr hY hDe hzD inv hgs with h1 | ⟨g1, hg1, ν1, f1, fs1, h1, ca1, sa1, hl1, inv1, kk⟩
  · exact h1
  · exact kk (ly_run_ok hM0 hd0 gC hT hstr hY hDe hzD hpt n g1 ν1 f1 fs1 h1 ca1 sa1 (List.all_eq_true.mp hr g1 hg1) inv1 (fun e0 he0 => ly_ev_le hl1 (hmu e0 he0)))
/-- a method that is checked keeps its contract, if the others do at lesser depths -/
theorem ly_chk_ok {fuel : Nat} {y : ly_C} (gC : ly_gC K0 cst) (hT : sx_tok cl P PL T) (hstr : ∀ a, 8 ≤ a → a < 12 → a ∈ strs) (hc : ly_chk T K0 tt cl TH Y mi fuel pts y = true) (D : Nat) (hY : ∀ d, d < D → ly_Yok cst cl tt P strs TH Y d) : ly_Cok cst cl tt P strs TH mi y D := by
  obtain ⟨⟨qs, n, B, F, L, St, K⟩, exs, mods, De, cc, cs⟩ := y
  unfold ly_chk at hc
  split at hc
  case h_2 => cases hc
  rename_i m pe n' B' F' L' pst K' exs' mods' De' cc' cs' hm heq
  cases heq
  simp only [Bool.and_eq_true, sx_beqn] at hc
  obtain ⟨c0, c1, c2, c3, c4⟩ := hc
  intro ν av h zd M hM hsl hy gZ gL hzd hle
  simp only at gL hzd
  obtain ⟨M', hM', hmok, hml, -⟩ := hT mi m hm c0
  rw [hM] at hM'
  cases hM'
  have hPL : PL[mi]? = some M := by rw [← c0]; exact hmok.1
  obtain ⟨z1, hz1, z1p⟩ := ly_nn_ok gZ.2.1 c1
  rw [ly_add_ok (ly_ev_c ν (-1)) hzd] at hz1
  cases hz1
  obtain ⟨D, rfl⟩ : ∃ D', D = D' + 1 := ⟨D - 1, by omega⟩
  have hd0 : ∀ k, k < n → ∃ z, ν k = some z := fun k hk => by
    have := List.all_eq_true.mp c2 k (List.mem_range.mpr hk)
    obtain ⟨p, hp⟩ := Option.isSome_iff_exists.mp this
    obtain ⟨z, hz, -⟩ := ly_gB_get gZ.2.1 hp
    exact ⟨z, hz⟩
  have hDe : ∀ ν', (∀ k, k < n → ν' k = ν k) → ly_ev ν' De = some zd := fun ν' hp => ly_ev_le (fun k z hz => by
    have hlt : k < n := Nat.lt_of_not_le (fun hk => by
      have := gZ.1 k hk
      rw [hz] at this
      cases this)
    rw [hp k hlt]
    exact hz) hzd
  have hY' : ∀ d, d ≤ D → ly_Yok cst cl tt P strs TH Y d := fun d hd => hY d (by omega)
  have hzD : zd ≤ (D : Int) + 1 := by omega
  have pt : ∀ (N : Nat) (p : Nat × ly_P × ly_e), p ∈ pts → ∀ (ν1 : ly_N) (l' : am_L) (st' : List Value) (h' : am_H) (ca sa : Nat) (z : Int), (∀ k, k < n → ν1 k = ν k) → ly_gZ cst ν1 (ly_PZ p.2.1) h' → ly_hy tt TH h' → ly_fr cst mods h h' → h.length ≤ h'.length → ly_gL ν1 h'.length p.2.1.2.2.2.2.1 l' → ly_gS ν1 h'.length p.2.1.2.2.2.2.2.1 st' → ly_ev ν1 p.2.2 = some z → 0 ≤ z → z.toNat < N → ca ≤ 0 → sa ≤ 0 → sx_Fin cst cl tt P strs (ly_Post cst tt TH n ν h exs mods cc cs) [] D (M, p.1, l', st') h' ca sa := by
    intro N
    induction N with
    | zero => intro p _ ν1 l' st' h' ca sa z _ _ _ _ _ _ _ _ _ hz; omega
    | succ N ih =>
      intro p hp ν1 l' st' h' ca sa z ppre pZ phy pfr plen pL pS pz pz0 hzN hca hsa
      have hr := List.all_eq_true.mp c4 p hp
      obtain ⟨pc, ⟨qs1, n1, B1, F1, L1, S1, K1⟩, e⟩ := p
      simp only at hr pL pS pz
      have := ly_run0_ok (z0 := z) hPL hd0 gC hT hstr hY' hDe hzD (fun p' hp' ν2 l2 st2 h2 ca2 sa2 z2 a1 a2 a3 a4 a5 a6 a7 a8 a9 a10 a11 a12 => ih p' hp' ν2 l2 st2 h2 ca2 sa2 z2 a1 a2 a3 a4 a5 a6 a7 a8 a9 (by have := a10 rfl; omega) a11 a12) (ca := ca) (sa := sa) (f' := (M, pc, l', st')) (fs' := []) hr ⟨ppre, pZ, phy, pfr, plen, ⟨hmok, rfl, pL, pS⟩, trivial, rfl, Nat.zero_le _, hca, hsa⟩ (fun e0 he0 => by cases he0; exact pz)
      exact this
  have := ly_run0_ok (z0 := 0) hPL hd0 gC hT hstr hY' hDe hzD (fun p' hp' ν2 l2 st2 h2 ca2 sa2 z2 a1 a2 a3 a4 a5 a6 a7 a8 a9 a10 a11 a12 => pt (z2.toNat + 1) p' hp' ν2 l2 st2 h2 ca2 sa2 z2 a1 a2 a3 a4 a5 a6 a7 a8 a9 (by omega) a11 a12) (ca := 0) (sa := 0) (f' := (M, 0, lv_args 0 av, [])) (fs' := []) c3 ⟨fun _ _ => rfl, gZ, hy, ly_fr_rf h, Nat.le_refl _, ⟨hmok, rfl, gL, trivial⟩, trivial, rfl, Nat.zero_le _, Nat.le_refl _, Nat.le_refl _⟩ (fun e0 he0 => by cases he0)
  obtain ⟨n2, r, hgo, hpost⟩ := this
  refine ⟨r, Or.inr ⟨M, n2, hM, hsl, hgo⟩, ?_⟩
  obtain ⟨p1, p2, p3⟩ := hpost
  simp only [Nat.zero_add] at p1 p2
  exact ⟨p1, p2, p3⟩
/-- all contracts are kept, if each is checked or kept in another way -/
theorem ly_all (gC : ly_gC K0 cst) (hT : sx_tok cl P PL T) (hstr : ∀ a, 8 ≤ a → a < 12 → a ∈ strs)
    (hall : ∀ mi ys y, sx_ch 16 mi Y = some ys → y ∈ ys → (∃ fuel pts, ly_chk T K0 tt cl TH Y mi fuel pts y = true) ∨ ∀ D, (∀ d, d < D → ly_Yok cst cl tt P strs TH Y d) → ly_Cok cst cl tt P strs TH mi y D) :
    ∀ D, ly_Yok cst cl tt P strs TH Y D := by
  intro D
  induction D using Nat.strongRecOn with
  | ind D ih =>
    intro mi ys y h1 h2
    rcases hall mi ys y h1 h2 with ⟨fuel, pts, hc⟩ | hk
    · exact ly_chk_ok gC hT hstr hc D ih
    · exact hk D ih
end LY12
