/-! arcs in which some methods are run through in spite of their contracts -/
def hq_rmr (ms : List Nat) : Nat → List (List ly_C) → List (List ly_C)
  | _, [] => []
  | i, ys :: r => (bif ms.any (fun q => Nat.beq q i) then [] else ys) :: hq_rmr ms (i + 1) r
def hq_rm (ms : List Nat) : Nat → List (List (List ly_C)) → List (List (List ly_C))
  | _, [] => []
  | i, r :: Y => hq_rmr ms i r :: hq_rm ms (i + 16) Y
theorem hq_rmr_at {ms : List Nat} : ∀ {r : List (List ly_C)} {i j : Nat} {ys : List ly_C} {y : ly_C}, (hq_rmr ms i r)[j]? = some ys → y ∈ ys → ∃ ys', r[j]? = some ys' ∧ y ∈ ys'
  | [], _, _, _, _, h, _ => by simp [hq_rmr] at h
  | y0 :: r, i, 0, ys, y, h, hy => by
    simp only [hq_rmr, List.getElem?_cons_zero, Option.some.injEq] at h
    refine ⟨y0, rfl, ?_⟩
    cases hb : ms.any (fun q => Nat.beq q i) with
    | true => rw [hb] at h; subst h; cases hy
    | false => rw [hb] at h; subst h; exact hy
  | y0 :: r, i, j + 1, ys, y, h, hy => by
    simp only [hq_rmr, List.getElem?_cons_succ] at h ⊢
    exact hq_rmr_at h hy
theorem hq_rm_at {ms : List Nat} : ∀ {Y : List (List (List ly_C))} {i a : Nat} {r : List (List ly_C)}, (hq_rm ms i Y)[a]? = some r → ∃ r' k, Y[a]? = some r' ∧ r = hq_rmr ms k r'
  | [], _, _, _, h => by simp [hq_rm] at h
  | r0 :: Y, i, 0, r, h => by
    simp only [hq_rm, List.getElem?_cons_zero, Option.some.injEq] at h
    exact ⟨r0, i, rfl, h.symm⟩
  | r0 :: Y, i, a + 1, r, h => by
    simp only [hq_rm, List.getElem?_cons_succ] at h ⊢
    exact hq_rm_at h
theorem hq_rm_ok {cst : am_K} {strs : List Nat} {ms : List Nat} {Y : List (List (List ly_C))} {d i : Nat} (hY : ly_Yok cst m_cl m_tt m_P strs ly_TH Y d) : ly_Yok cst m_cl m_tt m_P strs ly_TH (hq_rm ms i Y) d := by
  intro mi ys y h hy
  unfold sx_ch at h
  split at h
  case h_2 => cases h
  rename_i r hr
  obtain ⟨r', k, h1, rfl⟩ := hq_rm_at hr
  obtain ⟨ys', h2, h3⟩ := hq_rmr_at h hy
  exact hY mi ys' y (by unfold sx_ch; rw [h1]; exact h2) h3
noncomputable def hq_chk (ms : List Nat) (mi pc n : Nat) (B : ly_B) (F : List ly_e) (L : ly_L) (St : List ly_V) (K : ly_K) (mods : List Nat) (De : Int) (pts : List (Nat × ly_P)) (exs : List ly_P) : Bool :=
  match sx_ch 16 mi sx_T with
  | some m => Nat.beq m.1 mi && ((List.range n).all (fun k => (sx_get k B).isSome) && (pts.all (fun p => hp_cov n p.2) && (exs.all (hp_cov n) &&
      ly_run0 sx_T sx_KK m_tt m_cl ly_TH (hq_rm ms 0 ly_Y) mods (De, []) n (pts.map fun p => (p.1, p.2, (0, []))) exs none mi 0 0 0 0 6000 (0, (m, pc, L, St), [], (n, B, F, K), 0, 0))))
  | none => false
theorem hq_arc {cst : am_K} {strs : List Nat} {Φ : am_Q → Prop} {D : Nat} {M : am_M} {ms : List Nat} {mi pc n : Nat} {B : ly_B} {F : List ly_e} {L : ly_L} {St : List ly_V} {K : ly_K} {mods : List Nat} {De : Int} {pts : List (Nat × ly_P)} {exs : List ly_P} {h : am_H} {l : am_L} {st : List Value} (c : hp_C cst strs D) (hM : m_P[mi]? = some M) (hr : hq_chk ms mi pc n B F L St K mods De pts exs = true) (hDe : De ≤ (D : Int) + 1) (xs : List Int) (hn : xs.length = n) (hy : ly_hy m_tt ly_TH h) (gB : ly_gB (hp_nu xs) B) (gF : ly_gF (hp_nu xs) F) (gK : ly_gK cst (hp_nu xs) h K) (gL : ly_gL (hp_nu xs) h.length L l) (gS : ly_gS (hp_nu xs) h.length St st)
    (hpt : ∀ p ∈ pts, ∀ (ys : List Int) (l' : am_L) (st' : List Value) (h' : am_H), ys.length = p.2.2.1 - n → ly_hy m_tt ly_TH h' → ly_fr cst mods h h' → h.length ≤ h'.length → ly_gZ cst (hp_nu (xs ++ ys)) (ly_PZ p.2) h' → ly_gL (hp_nu (xs ++ ys)) h'.length p.2.2.2.2.2.1 l' → ly_gS (hp_nu (xs ++ ys)) h'.length p.2.2.2.2.2.2.1 st' → hp_F cst strs Φ D M p.1 l' st' h')
    (hex : ∀ p ∈ exs, ∀ (ys : List Int) (v : Option Value) (h' : am_H), ys.length = p.2.1 - n → ly_hy m_tt ly_TH h' → ly_fr cst mods h h' → h.length ≤ h'.length → ly_gZ cst (hp_nu (xs ++ ys)) (ly_PZ p) h' → ly_gS (hp_nu (xs ++ ys)) h'.length p.2.2.2.2.2.1 v.toList → Φ (v, h', 0, 0)) :
    hp_F cst strs Φ D M pc l st h := by
  unfold hq_chk at hr
  split at hr
  case h_2 => cases hr
  rename_i m hm
  simp only [Bool.and_eq_true, sx_beqn] at hr
  obtain ⟨c0, c1, c2, c3, c4⟩ := hr
  obtain ⟨gC, hstr, hY⟩ := c
  obtain ⟨M', hM', hmok, hml, -⟩ := sx_tok_m mi m hm c0
  rw [hM] at hM'
  cases hM'
  have hPL : m_PL[mi]? = some M := by rw [← c0]; exact hmok.1
  have hd0 : ∀ k, k < n → ∃ z, hp_nu xs k = some z := fun k hk => ⟨xs[k]'(by omega), List.getElem?_eq_getElem (by omega)⟩
  have hnone : ∀ k, n ≤ k → hp_nu xs k = none := fun k hk => List.getElem?_eq_none (by omega)
  refine ly_run0_ph (z0 := 0) (zD := De) hPL ?_ hd0 gC sx_tok_m hstr (fun d hd => hq_rm_ok (hY d hd)) (fun ν _ => ly_ev_c ν De) hDe ?_ c4 ⟨fun _ _ => rfl, ⟨hnone, gB, gF, gK⟩, hy, ly_fr_rf h, Nat.le_refl _, ⟨hmok, rfl, gL, gS⟩, trivial, rfl, Nat.zero_le _, Nat.le_refl _, Nat.le_refl _⟩ (fun e0 he0 => by cases he0)
  · rintro ⟨v, h', a, b⟩ ⟨p1, p2, p3, p4, p5, p, hp, ν', q1, q2, q3⟩
    obtain ⟨ys, hys, rfl⟩ := hp_ext hn (List.all_eq_true.mp c3 p hp) q1 q2
    have ea : a = 0 := Nat.le_zero.mp p1
    have eb : b = 0 := Nat.le_zero.mp p2
    subst ea
    subst eb
    exact hex p hp ys v h' hys p3 p4 p5 q2 q3
  · intro p hp ν l' st' h' ca sa z a1 a2 a3 a4 a5 a6 a7 a8 a9 a10 a11 a12
    obtain ⟨p0, hp0, rfl⟩ := List.mem_map.mp hp
    obtain ⟨ys, hys, rfl⟩ := hp_ext hn (List.all_eq_true.mp c2 p0 hp0) a1 a2
    have ea : ca = 0 := Nat.le_zero.mp a11
    have eb : sa = 0 := Nat.le_zero.mp a12
    subst ea
    subst eb
    exact hpt p0 hp0 ys l' st' h' hys a3 a4 a5 a2 a6 a7
/-- a long in a local -/
def hp_j (l : am_L) (k : Nat) (z : Int) : Prop := ∃ x : Int64, am_ld k l = some (.long x) ∧ x.toInt = z
theorem hp_Lj {ν : ly_N} {len : Nat} {L : ly_L} {l : am_L} {k : Nat} {e : ly_e} {z y : Int} (hk : hp_j l k y) (e1 : ly_ev ν e = some z) (h1 : z = y) (t : ly_gL ν len L l) : ly_gL ν len ((k, .inr (.inl e)) :: L) l := fun q hq => (List.mem_cons.mp hq).elim (fun e' => by
  subst e'
  subst h1
  obtain ⟨x, hx, e2⟩ := hk
  exact ⟨.long x, hx, x, rfl, by rw [e2]; exact e1⟩) (t q)
theorem hp_gLj {ν : ly_N} {len : Nat} {L : ly_L} {l : am_L} {k : Nat} {e : ly_e} {z y : Int} (g : ly_gL ν len L l) (hq : (k, .inr (.inl e)) ∈ L) (e1 : ly_ev ν e = some z) (h1 : z = y) : hp_j l k y := by
  obtain ⟨w, hw, x, ew, ex⟩ := g _ hq
  subst ew
  rw [e1] at ex
  cases ex
  exact ⟨x, hw, h1⟩
