/-! arcs of a method in plain words: from a place of it to others, or to its end; stores and calls by hand -/
def hp_nu (xs : List Int) : ly_N := fun k => xs[k]?
def hp_cov (n : Nat) (p : ly_P) : Bool := Nat.ble n p.2.1 && (List.range p.2.1).all fun k => (sx_get k p.2.2.1).isSome
noncomputable def hp_chk (mi pc n : Nat) (B : ly_B) (F : List ly_e) (L : ly_L) (St : List ly_V) (K : ly_K) (mods : List Nat) (De : Int) (pts : List (Nat × ly_P)) (exs : List ly_P) : Bool :=
  match sx_ch 16 mi sx_T with
  | some m => Nat.beq m.1 mi && ((List.range n).all (fun k => (sx_get k B).isSome) && (pts.all (fun p => hp_cov n p.2) && (exs.all (hp_cov n) &&
      ly_run0 sx_T sx_KK m_tt m_cl ly_TH ly_Y mods (De, []) n (pts.map fun p => (p.1, p.2, (0, []))) exs none mi 0 0 0 0 6000 (0, (m, pc, L, St), [], (n, B, F, K), 0, 0))))
  | none => false
def hp_C (cst : am_K) (strs : List Nat) (D : Nat) : Prop := ly_gC sx_KK cst ∧ (∀ a, 8 ≤ a → a < 12 → a ∈ strs) ∧ ∀ d, d ≤ D → ly_Yok cst m_cl m_tt m_P strs ly_TH ly_Y d
abbrev hp_F (cst : am_K) (strs : List Nat) (Φ : am_Q → Prop) (D : Nat) (M : am_M) (pc : Nat) (l : am_L) (st : List Value) (h : am_H) : Prop := sx_Fin cst m_cl m_tt m_P strs Φ [] D (M, pc, l, st) h 0 0
section HP0
variable {cst : am_K} {strs : List Nat} {Φ : am_Q → Prop} {D : Nat} {M : am_M} {mi pc n : Nat} {B : ly_B} {F : List ly_e} {L : ly_L} {St : List ly_V} {K : ly_K} {mods : List Nat} {De : Int} {pts : List (Nat × ly_P)} {exs : List ly_P} {h : am_H} {l : am_L} {st : List Value} {xs : List Int}
theorem hp_ext {ν : ly_N} {p : ly_P} (hn : xs.length = n) (hc : hp_cov n p = true) (hp : ∀ k, k < n → ν k = hp_nu xs k) (g : ly_gZ cst ν (ly_PZ p) h) : ∃ ys : List Int, ys.length = p.2.1 - n ∧ ν = hp_nu (xs ++ ys) := by
  unfold hp_cov at hc
  rw [Bool.and_eq_true, sx_ble] at hc
  refine ⟨(List.range (p.2.1 - n)).map fun j => (ν (n + j)).getD 0, by rw [List.length_map, List.length_range], ?_⟩
  funext k
  by_cases h1 : k < n
  · rw [hp k h1]
    show xs[k]? = (xs ++ _)[k]?
    rw [List.getElem?_append_left (by omega)]
  · show ν k = (xs ++ _)[k]?
    rw [List.getElem?_append_right (by omega), hn]
    by_cases h2 : k < p.2.1
    · have := List.all_eq_true.mp hc.2 k (List.mem_range.mpr h2)
      obtain ⟨b, hb⟩ := Option.isSome_iff_exists.mp this
      obtain ⟨z, hz, -⟩ := ly_gB_get g.2.1 hb
      rw [List.getElem?_map, List.getElem?_range (by omega), Option.map_some]
      rw [show n + (k - n) = k by omega, hz]
      rfl
    · have e := g.1 k (show p.2.1 ≤ k by omega)
      rw [e, List.getElem?_eq_none]
      rw [List.length_map, List.length_range]
      omega
theorem hp_arc (c : hp_C cst strs D) (hM : m_P[mi]? = some M) (hr : hp_chk mi pc n B F L St K mods De pts exs = true) (hDe : De ≤ (D : Int) + 1) (xs : List Int) (hn : xs.length = n) (hy : ly_hy m_tt ly_TH h) (gB : ly_gB (hp_nu xs) B) (gF : ly_gF (hp_nu xs) F) (gK : ly_gK cst (hp_nu xs) h K) (gL : ly_gL (hp_nu xs) h.length L l) (gS : ly_gS (hp_nu xs) h.length St st)
    (hpt : ∀ p ∈ pts, ∀ (ys : List Int) (l' : am_L) (st' : List Value) (h' : am_H), ys.length = p.2.2.1 - n → ly_hy m_tt ly_TH h' → ly_fr cst mods h h' → h.length ≤ h'.length → ly_gZ cst (hp_nu (xs ++ ys)) (ly_PZ p.2) h' → ly_gL (hp_nu (xs ++ ys)) h'.length p.2.2.2.2.2.1 l' → ly_gS (hp_nu (xs ++ ys)) h'.length p.2.2.2.2.2.2.1 st' → hp_F cst strs Φ D M p.1 l' st' h')
    (hex : ∀ p ∈ exs, ∀ (ys : List Int) (v : Option Value) (h' : am_H), ys.length = p.2.1 - n → ly_hy m_tt ly_TH h' → ly_fr cst mods h h' → h.length ≤ h'.length → ly_gZ cst (hp_nu (xs ++ ys)) (ly_PZ p) h' → ly_gS (hp_nu (xs ++ ys)) h'.length p.2.2.2.2.2.1 v.toList → Φ (v, h', 0, 0)) :
    hp_F cst strs Φ D M pc l st h := by
  unfold hp_chk at hr
  split at hr
  case h_2 => cases hr
  rename_i m hm
  simp only [Bool.and_eq_true, sx_beqn] at hr
  obtain ⟨c0, c1, c2, c3, c4⟩ := hr
  obtain ⟨gC, hstr, hY⟩ := c
  obtain ⟨M', hM', hmok, hml, -⟩ := sx_tok_m mi m hm c0
  rw [hM] at hM'
  cases hM'
  have hPL : m_PL[mi]? = some M := by rw [← c0]; exact hmok.1
  have hd0 : ∀ k, k < n → ∃ z, hp_nu xs k = some z := fun k hk => ⟨xs[k]'(by omega), List.getElem?_eq_getElem (by omega)⟩
  have hnone : ∀ k, n ≤ k → hp_nu xs k = none := fun k hk => List.getElem?_eq_none (by omega)
  refine ly_run0_ph (z0 := 0) (zD := De) hPL ?_ hd0 gC sx_tok_m hstr hY (fun ν _ => ly_ev_c ν De) hDe ?_ c4 ⟨fun _ _ => rfl, ⟨hnone, gB, gF, gK⟩, hy, ly_fr_rf h, Nat.le_refl _, ⟨hmok, rfl, gL, gS⟩, trivial, rfl, Nat.zero_le _, Nat.le_refl _, Nat.le_refl _⟩ (fun e0 he0 => by cases he0)
  · rintro ⟨v, h', a, b⟩ ⟨p1, p2, p3, p4, p5, p, hp, ν', q1, q2, q3⟩
    obtain ⟨ys, hys, rfl⟩ := hp_ext hn (List.all_eq_true.mp c3 p hp) q1 q2
    have ea : a = 0 := Nat.le_zero.mp p1
    have eb : b = 0 := Nat.le_zero.mp p2
    subst ea
    subst eb
    exact hex p hp ys v h' hys p3 p4 p5 q2 q3
  · intro p hp ν l' st' h' ca sa z a1 a2 a3 a4 a5 a6 a7 a8 a9 a10 a11 a12
    obtain ⟨p0, hp0, rfl⟩ := List.mem_map.mp hp
    obtain ⟨ys, hys, rfl⟩ := hp_ext hn (List.all_eq_true.mp c2 p0 hp0) a1 a2
    have ea : ca = 0 := Nat.le_zero.mp a11
    have eb : sa = 0 := Nat.le_zero.mp a12
    subst ea
    subst eb
    exact hpt p0 hp0 ys l' st' h' hys a3 a4 a5 a2 a6 a7
end HP0
/-! plain words -/
def hp_i (l : am_L) (k : Nat) (z : Int) : Prop := ∃ x : Int32, am_ld k l = some (.int x) ∧ x.toInt = z
def hp_a (l : am_L) (k a : Nat) : Prop := am_ld k l = some (.ref a)
section HP1
variable {cst : am_K} {ν : ly_N} {B : ly_B} {F : List ly_e} {K : ly_K} {L : ly_L} {St : List ly_V} {st : List Value} {len : Nat} {h : am_H} {l : am_L}
theorem hp_Bn : ly_gB ν [] := fun q hq => by cases hq
theorem hp_Bc {k : Nat} {lo hi z : Int} (e : ν k = some z) (h1 : lo ≤ z) (h2 : z ≤ hi) (t : ly_gB ν B) : ly_gB ν ((k, lo, hi) :: B) := fun q hq => (List.mem_cons.mp hq).elim (fun e' => by subst e'; exact ⟨z, e, h1, h2⟩) (t q)
theorem hp_Fn : ly_gF ν [] := fun q hq => by cases hq
theorem hp_Fc {f : ly_e} {z : Int} (e : ly_ev ν f = some z) (h1 : 0 ≤ z) (t : ly_gF ν F) : ly_gF ν (f :: F) := fun q hq => (List.mem_cons.mp hq).elim (fun e' => by subst e'; exact ⟨z, e, h1⟩) (t q)
theorem hp_Kn : ly_gK cst ν h [] := fun q hq => by cases hq
theorem hp_Kc {r : Nat} {i v : ly_e} {zi zv yi yv : Int} (hk : ly_hv cst h r yi = some yv) (e1 : ly_ev ν i = some zi) (e2 : ly_ev ν v = some zv) (h1 : zi = yi) (h2 : zv = yv) (t : ly_gK cst ν h K) : ly_gK cst ν h ((r, i, v) :: K) := fun q hq => (List.mem_cons.mp hq).elim (fun e' => by subst e'; subst h1; subst h2; exact ⟨zi, zv, e1, e2, hk⟩) (t q)
theorem hp_Ln : ly_gL ν len [] l := fun q hq => by cases hq
theorem hp_Li {k : Nat} {e : ly_e} {z y : Int} (hk : hp_i l k y) (e1 : ly_ev ν e = some z) (h1 : z = y) (t : ly_gL ν len L l) : ly_gL ν len ((k, .inl e) :: L) l := fun q hq => (List.mem_cons.mp hq).elim (fun e' => by
  subst e'
  subst h1
  obtain ⟨x, hx, e2⟩ := hk
  exact ⟨.int x, hx, x, rfl, by rw [e2]; exact e1⟩) (t q)
theorem hp_La {k a : Nat} (hk : hp_a l k a) (t : ly_gL ν len L l) : ly_gL ν len ((k, .inr (.inr (.inl (some a)))) :: L) l := fun q hq => (List.mem_cons.mp hq).elim (fun e' => by
  subst e'
  exact ⟨.ref a, hk, Or.inl rfl⟩) (t q)
theorem hp_Si {e : ly_e} {z : Int} {x : Int32} (e1 : ly_ev ν e = some z) (h1 : z = x.toInt) (t : ly_gS ν len St st) : ly_gS ν len (.inl e :: St) (.int x :: st) := ⟨⟨x, rfl, by rw [← h1]; exact e1⟩, t⟩
theorem hp_Sj {e : ly_e} {z : Int} {x : Int64} (e1 : ly_ev ν e = some z) (h1 : z = x.toInt) (t : ly_gS ν len St st) : ly_gS ν len (.inr (.inl e) :: St) (.long x :: st) := ⟨⟨x, rfl, by rw [← h1]; exact e1⟩, t⟩
theorem hp_Sa {a : Nat} (t : ly_gS ν len St st) : ly_gS ν len (.inr (.inr (.inl (some a))) :: St) (.ref a :: st) := ⟨Or.inl rfl, t⟩
theorem hp_gB {k : Nat} {lo hi z : Int} (g : ly_gB ν B) (hq : (k, lo, hi) ∈ B) (e : ν k = some z) : lo ≤ z ∧ z ≤ hi := by
  obtain ⟨y, hy, h1⟩ := g _ hq
  rw [e] at hy
  cases hy
  exact h1
theorem hp_gF {f : ly_e} {z : Int} (g : ly_gF ν F) (hq : f ∈ F) (e : ly_ev ν f = some z) : 0 ≤ z := by
  obtain ⟨y, hy, h1⟩ := g _ hq
  rw [e] at hy
  cases hy
  exact h1
theorem hp_gK {r : Nat} {i v : ly_e} {zi zv yi yv : Int} (g : ly_gK cst ν h K) (hq : (r, i, v) ∈ K) (e1 : ly_ev ν i = some zi) (e2 : ly_ev ν v = some zv) (h1 : zi = yi) (h2 : zv = yv) : ly_hv cst h r yi = some yv := by
  obtain ⟨a, b, ha, hb, h3⟩ := g _ hq
  rw [e1] at ha
  rw [e2] at hb
  cases ha
  cases hb
  subst h1
  subst h2
  exact h3
theorem hp_gLi {k : Nat} {e : ly_e} {z y : Int} (g : ly_gL ν len L l) (hq : (k, .inl e) ∈ L) (e1 : ly_ev ν e = some z) (h1 : z = y) : hp_i l k y := by
  obtain ⟨w, hw, x, ew, ex⟩ := g _ hq
  subst ew
  rw [e1] at ex
  cases ex
  exact ⟨x, hw, h1⟩
theorem hp_gLa {k a : Nat} (g : ly_gL ν len L l) (hq : (k, .inr (.inr (.inl (some a)))) ∈ L) (h7 : a ≠ 7) : hp_a l k a := by
  obtain ⟨w, hw, ew | ⟨e7, -⟩⟩ := g _ hq
  · subst ew
    exact hw
  · exact absurd e7 h7
theorem hp_gSn (g : ly_gS ν len [] st) : st = [] := ly_gS_nil g
theorem hp_gSi {e : ly_e} {z : Int} (g : ly_gS ν len (.inl e :: St) st) (e1 : ly_ev ν e = some z) : ∃ (x : Int32) (t : List Value), st = .int x :: t ∧ x.toInt = z ∧ ly_gS ν len St t := by
  obtain ⟨w, t, rfl, gv, gt⟩ := ly_gS_cons g
  obtain ⟨x, rfl, ex⟩ := gv
  rw [e1] at ex
  cases ex
  exact ⟨x, t, rfl, rfl, gt⟩
theorem hp_gSj {e : ly_e} {z : Int} (g : ly_gS ν len (.inr (.inl e) :: St) st) (e1 : ly_ev ν e = some z) : ∃ (x : Int64) (t : List Value), st = .long x :: t ∧ x.toInt = z ∧ ly_gS ν len St t := by
  obtain ⟨w, t, rfl, gv, gt⟩ := ly_gS_cons g
  obtain ⟨x, rfl, ex⟩ := gv
  rw [e1] at ex
  cases ex
  exact ⟨x, t, rfl, rfl, gt⟩
theorem hp_gSa {a : Nat} (g : ly_gS ν len (.inr (.inr (.inl (some a))) :: St) st) (h7 : a ≠ 7) : ∃ t : List Value, st = .ref a :: t ∧ ly_gS ν len St t := by
  obtain ⟨w, t, rfl, gv, gt⟩ := ly_gS_cons g
  rcases gv with rfl | ⟨e7, -⟩
  · exact ⟨t, rfl, gt⟩
  · exact absurd e7 h7
/-- cells of rows of ints, of longs -/
theorem hp_row {c n : Nat} {lo hi i : Int} (hy : ly_hy m_tt ly_TH h) (ht : ly_ths ly_TH c = some (.inl (.int, n, lo, hi))) (h0 : 0 ≤ i) (h1 : i < (n : Int)) : ∃ v, ly_hv cst h (256 * c) i = some v ∧ lo ≤ v ∧ v ≤ hi := by
  have hc := ly_ths_lt ht
  obtain ⟨x, hx, cc, rfl, f, rfl, hf⟩ := hy.2.1 _ _ ht
  have := hf i.toNat (by omega)
  refine ⟨_, ?_, this⟩
  rw [ly_hv0 (by omega)]
  have := ly_h0_of1 (cst := cst) (h := h) (k := 0) (i := i) hc (by omega)
  rw [Nat.add_zero] at this
  rw [this, hx]
  simp only [ly_hs]
  rw [if_pos ⟨trivial, h0, by omega⟩]
theorem hp_rowj {c n : Nat} {lo hi i : Int} (hy : ly_hy m_tt ly_TH h) (ht : ly_ths ly_TH c = some (.inl (.long, n, lo, hi))) (h0 : 0 ≤ i) (h1 : i < (n : Int)) : ∃ v, ly_hv cst h (256 * c) i = some v ∧ ly_mn ≤ v ∧ v ≤ ly_mx := by
  have hc := ly_ths_lt ht
  obtain ⟨x, hx, cc, rfl, f, rfl⟩ := hy.2.1 _ _ ht
  have := (f i.toNat).le_toInt
  have := (f i.toNat).toInt_le
  refine ⟨(f i.toNat).toInt, ?_, by assumption, by assumption⟩
  rw [ly_hv0 (by omega)]
  have := ly_h0_of1 (cst := cst) (h := h) (k := 0) (i := i) hc (by omega)
  rw [Nat.add_zero] at this
  rw [this, hx]
  simp only [ly_hs]
  rw [if_pos ⟨trivial, h0, by omega⟩]
end HP1
noncomputable def hp_isI (mi pc : Nat) : Bool := match sx_ch 16 mi sx_T with
  | some m => Nat.beq m.1 mi && (match sx_find pc m.2.2.2.2 with
    | some (.iastore, _) => true
    | _ => false)
  | none => false
noncomputable def hp_isJ (mi pc : Nat) : Bool := match sx_ch 16 mi sx_T with
  | some m => Nat.beq m.1 mi && (match sx_find pc m.2.2.2.2 with
    | some (.lastore, _) => true
    | _ => false)
  | none => false
noncomputable def hp_isV (mi pc tg na ci : Nat) : Bool := match sx_ch 16 mi sx_T with
  | some m => Nat.beq m.1 mi && (match sx_find pc m.2.2.2.2 with
    | some (.invokevirtual _, X) => Nat.beq X.1 tg && (Nat.beq X.2.1 na && (sx_eq X.2.2 0 && (match sx_ch 16 tg sx_T with
      | some m' => Nat.beq m'.1 tg && (Nat.beq m'.2.1 ci && Nat.blt ci 98)
      | none => false)))
    | _ => false)
  | none => false
section HP2
variable {cst : am_K} {strs : List Nat} {Φ : am_Q → Prop} {D : Nat} {M : am_M} {mi pc : Nat} {h : am_H} {l : am_L} {st : List Value}
/-- what a store leaves -/
def hp_put (cst : am_K) (r : Nat) (i v : Int) (h h' : am_H) : Prop := ly_hv cst h' r i = some v ∧ ∀ r' i', (r' ≠ r ∨ i' ≠ i) → ly_hv cst h' r' i' = ly_hv cst h r' i'
theorem hp_put_of {c n : Nat} {i : Int} {v : Int} {x x' : am_E} (hg : ly_dg (256 * c) = []) (hc : c < 177) (hx : h[c]? = some x) (e1 : ly_hs (some x') 0 i = some v) (e2 : ∀ k i', (k ≠ 0 ∨ i' ≠ i) → ly_hs (some x') k i' = ly_hs (some x) k i') : hp_put cst (256 * c) i v h (h.set c x') := by
  have hl := (List.getElem?_eq_some_iff.mp hx).1
  constructor
  · rw [ly_hv0 (by omega)]
    have := ly_h0_of1 (cst := cst) (h := h.set c x') (k := 0) (i := i) hc (by omega)
    rw [Nat.add_zero] at this
    rw [this, List.getElem?_set_self hl]
    exact e1
  · intro r' i' hne
    by_cases er : r' = 256 * c
    · subst er
      rw [ly_hv0 (by omega), ly_hv0 (by omega)]
      refine ly_h0_set1 hc hx (fun _ => ?_)
      rw [show 256 * c % 256 = 0 by omega]
      exact e2 0 i' (Or.inr (hne.resolve_left (fun q => q rfl)))
    · refine ly_hv_but (r := 256 * c) (by omega) (fun r2 hr2 i2 => ly_h0_set1 hc hx (fun er2 => e2 _ _ (Or.inl (by omega)))) er ?_ i'
      rw [hg]
      rfl
theorem hp_st {c n : Nat} {lo hi : Int} {x i : Int32} (hM : m_P[mi]? = some M) (hI : hp_isI mi pc = true) (hy : ly_hy m_tt ly_TH h) (ht : ly_ths ly_TH c = some (.inl (.int, n, lo, hi))) (hg : ly_dg (256 * c) = []) (h0 : 0 ≤ i.toInt) (h1 : i.toInt < (n : Int)) (v0 : lo ≤ x.toInt) (v1 : x.toInt ≤ hi)
    (k : ∀ h', ly_hy m_tt ly_TH h' → h'.length = h.length → hp_put cst (256 * c) i.toInt x.toInt h h' → hp_F cst strs Φ D M (pc + 1) l st h') : hp_F cst strs Φ D M pc l (.int x :: .int i :: .ref (16 + c) :: st) h := by
  have hc := ly_ths_lt ht
  obtain ⟨xc, hx, cc, rfl, f, rfl, hf⟩ := hy.2.1 _ _ ht
  unfold hp_isI at hI
  split at hI
  case h_2 => cases hI
  rename_i m hm
  rw [Bool.and_eq_true, sx_beqn] at hI
  obtain ⟨c0, hI⟩ := hI
  split at hI
  case h_2 => cases hI
  rename_i X hX
  obtain ⟨M', hM', hmok, -⟩ := sx_tok_m mi m hm c0
  rw [hM] at hM'
  cases hM'
  have hfind := hmok.2.2 _ _ hX
  have en : i.toNatClampNeg = i.toInt.toNat := rfl
  have hlt : ¬ (i < 0 ∨ n ≤ i.toNatClampNeg) := by
    rintro (q | q)
    · have := Int32.lt_iff_toInt_lt.mp q
      have z : (0 : Int32).toInt = 0 := rfl
      omega
    · omega
  have hs : am_s cst m_cl m_tt .iastore X pc l (.int x :: .int i :: .ref (16 + c) :: st) h = some (pc + 1, l, st, h.set c (.inl (.int, n, .inl (upd f i.toNatClampNeg x)))) := by
    have e16 : 16 + c - 16 = c := by omega
    have g16 : ¬ 16 + c < 16 := by omega
    simp only [am_s, if_neg g16, e16, hx, if_neg hlt]
  have up : ∀ j, upd f i.toNatClampNeg x j = if j = i.toNatClampNeg then x else f j := fun j => rfl
  refine sx_Fin_step rfl (fun n r hgo => ⟨_, X, hfind, Or.inl ⟨_, hs, hgo⟩⟩) (k _ (ly_hy_set1 hy hc fun t ht' => ?_) (by rw [List.length_set]) (hp_put_of (n := n) hg hc hx ?_ ?_))
  · rw [ht] at ht'
    cases ht'
    refine ⟨_, rfl, _, rfl, fun j hj => ?_⟩
    rw [up]
    by_cases ej : j = i.toNatClampNeg
    · rw [if_pos ej]; exact ⟨v0, v1⟩
    · rw [if_neg ej]; exact hf j hj
  · simp only [ly_hs]
    rw [if_pos ⟨trivial, h0, by omega⟩, up, if_pos (by omega)]
  · intro k i' hne
    simp only [ly_hs]
    by_cases hk : k = 0 ∧ 0 ≤ i' ∧ i'.toNat < n
    · rw [if_pos hk, if_pos hk, up, if_neg]
      have := hne.resolve_left (fun q => q hk.1)
      omega
    · rw [if_neg hk, if_neg hk]
theorem hp_stj {c n : Nat} {lo hi : Int} {x : Int64} {i : Int32} (hM : m_P[mi]? = some M) (hI : hp_isJ mi pc = true) (hy : ly_hy m_tt ly_TH h) (ht : ly_ths ly_TH c = some (.inl (.long, n, lo, hi))) (hg : ly_dg (256 * c) = []) (h0 : 0 ≤ i.toInt) (h1 : i.toInt < (n : Int))
    (k : ∀ h', ly_hy m_tt ly_TH h' → h'.length = h.length → hp_put cst (256 * c) i.toInt x.toInt h h' → hp_F cst strs Φ D M (pc + 1) l st h') : hp_F cst strs Φ D M pc l (.long x :: .int i :: .ref (16 + c) :: st) h := by
  have hc := ly_ths_lt ht
  obtain ⟨xc, hx, cc, rfl, f, rfl⟩ := hy.2.1 _ _ ht
  unfold hp_isJ at hI
  split at hI
  case h_2 => cases hI
  rename_i m hm
  rw [Bool.and_eq_true, sx_beqn] at hI
  obtain ⟨c0, hI⟩ := hI
  split at hI
  case h_2 => cases hI
  rename_i X hX
  obtain ⟨M', hM', hmok, -⟩ := sx_tok_m mi m hm c0
  rw [hM] at hM'
  cases hM'
  have hfind := hmok.2.2 _ _ hX
  have en : i.toNatClampNeg = i.toInt.toNat := rfl
  have hlt : ¬ (i < 0 ∨ n ≤ i.toNatClampNeg) := by
    rintro (q | q)
    · have := Int32.lt_iff_toInt_lt.mp q
      have z : (0 : Int32).toInt = 0 := rfl
      omega
    · omega
  have hs : am_s cst m_cl m_tt .lastore X pc l (.long x :: .int i :: .ref (16 + c) :: st) h = some (pc + 1, l, st, h.set c (.inl (.long, n, .inr (.inl (vp_updL f i.toNatClampNeg x))))) := by
    have e16 : 16 + c - 16 = c := by omega
    have g16 : ¬ 16 + c < 16 := by omega
    simp only [am_s, if_neg g16, e16, hx, if_neg hlt]
  have up : ∀ j, vp_updL f i.toNatClampNeg x j = if j = i.toNatClampNeg then x else f j := fun j => rfl
  refine sx_Fin_step rfl (fun n r hgo => ⟨_, X, hfind, Or.inl ⟨_, hs, hgo⟩⟩) (k _ (ly_hy_set1 hy hc fun t ht' => ?_) (by rw [List.length_set]) (hp_put_of (n := n) hg hc hx ?_ ?_))
  · rw [ht] at ht'
    cases ht'
    exact ⟨_, rfl, _, rfl⟩
  · simp only [ly_hs]
    rw [if_pos ⟨trivial, h0, by omega⟩, up, if_pos (by omega)]
  · intro k i' hne
    simp only [ly_hs]
    by_cases hk : k = 0 ∧ 0 ≤ i' ∧ i'.toNat < n
    · rw [if_pos hk, if_pos hk, up, if_neg]
      have := hne.resolve_left (fun q => q hk.1)
      omega
    · rw [if_neg hk, if_neg hk]
theorem hp_put_fr {r : Nat} {i v : Int} {h' : am_H} {mods : List Nat} (hm : ly_has r mods = true) (p : hp_put cst r i v h h') : ly_fr cst mods h h' := fun r' i' v' hr' e => by
  rw [p.2 r' i' (Or.inl (fun q => by subst q; rw [hm] at hr'; cases hr'))]
  exact e
/-- a call of a method whose run is known -/
theorem hp_call {tg na c ci : Nat} {fs : List (List ly_F)} {av st0 : List Value} {r : am_Q} (hM : m_P[mi]? = some M) (hI : hp_isV mi pc tg na ci = true) (hy : ly_hy m_tt ly_TH h) (ht : ly_ths ly_TH c = some (.inr (ci, fs))) (hst : st0.length = na) (hav : st0.reverse = .ref (16 + c) :: av) (hcat : (st.map fun v => v.category).sum ≤ 8)
    (hrun : am_Run cst m_cl m_tt m_P strs sx_bi D tg (.ref (16 + c) :: av) h r) (hc0 : r.2.2.1 = 0) (hs0 : r.2.2.2 = 0) (k : hp_F cst strs Φ D M (pc + 3) l (r.1.toList ++ st) r.2.1) : hp_F cst strs Φ D M pc l (st0 ++ st) h := by
  unfold hp_isV at hI
  split at hI
  case h_2 => cases hI
  rename_i m hm
  rw [Bool.and_eq_true, sx_beqn] at hI
  obtain ⟨c0, hI⟩ := hI
  split at hI
  case h_2 => cases hI
  rename_i ix X hX
  simp only [Bool.and_eq_true, sx_beqn, sx_eq_iff] at hI
  obtain ⟨x1, x2, x3, hI⟩ := hI
  split at hI
  case h_2 => cases hI
  rename_i m' hm'
  simp only [Bool.and_eq_true, sx_beqn, sx_blt] at hI
  obtain ⟨t0, t1, t2⟩ := hI
  obtain ⟨M', hM', hmok, -⟩ := sx_tok_m mi m hm c0
  rw [hM] at hM'
  cases hM'
  obtain ⟨T', hT', -, -, h98, -⟩ := sx_tok_m tg m' hm' t0
  have hfind := hmok.2.2 _ _ hX
  have etake : (st0 ++ st).take X.2.1 = st0 := by rw [x2, ← hst]; exact List.take_left' rfl
  have edrop : (st0 ++ st).drop X.2.1 = st := by rw [x2, ← hst]; exact List.drop_left' rfl
  obtain ⟨xc, hx, vs, rfl, -⟩ := hy.2.1 _ _ ht
  obtain ⟨rr, hrr, hrr1⟩ := h98 (by omega)
  have hcc : am_c m_cl m_P strs (.invokevirtual ix) X (st0 ++ st) h := by
    refine ⟨by rw [List.length_append]; omega, by rw [edrop]; exact hcat, x3, .ref (16 + c), av, T', by rw [etake]; exact hav, by rw [x1]; exact hT', 16 + c, rfl, Or.inl ⟨Nat.not_lt.mpr (Nat.le_add_right 16 c), ci, vs, rr, ?_, ?_, hrr1⟩⟩
    · rw [show 16 + c - 16 = c by omega]; exact hx
    · rw [← t1]; exact hrr
  refine sx_Fin_pre (dc := r.2.2.1) (ds := r.2.2.2) (f1 := (M, pc + 3, l, r.1.toList ++ st)) (h1 := r.2.1) (fun n2 q hgo2 => ⟨n2 + 1, _, X, hfind, Or.inr (Or.inr (Or.inr (Or.inl ⟨r, q, hcc, ?_, ?_, rfl⟩)))⟩) ?_
  · rw [etake, hav, x1]; exact hrun
  · rw [edrop]; exact hgo2
  · rw [hc0, hs0]; exact k
end HP2
def hp_kept (mi : Nat) (y : ly_C) : Prop := ∀ (cst : am_K) (strs : List Nat), ly_gC sx_KK cst → (∀ a, 8 ≤ a → a < 12 → a ∈ strs) → ∀ D, (∀ d, d < D → ly_Yok cst m_cl m_tt m_P strs ly_TH ly_Y d) → ly_Cok cst m_cl m_tt m_P strs ly_TH mi y D
theorem hp_y0 {ys : List Int} (h : ys.length = 0) : ys = [] := List.eq_nil_of_length_eq_zero h
theorem hp_y1 {ys : List Int} (h : ys.length = 1) : ∃ a, ys = [a] := match ys, h with
  | [a], _ => ⟨a, rfl⟩
theorem hp_y2 {ys : List Int} (h : ys.length = 2) : ∃ a b, ys = [a, b] := match ys, h with
  | [a, b], _ => ⟨a, b, rfl⟩
theorem hp_y3 {ys : List Int} (h : ys.length = 3) : ∃ a b c, ys = [a, b, c] := match ys, h with
  | [a, b, c], _ => ⟨a, b, c, rfl⟩
theorem hp_pure {cst : am_K} {h : am_H} (c : Nat) (i : Int) (hc : c ≤ 1000) : ly_hv cst h (62000 + c) i = some (i.tdiv (c : Int)) := by
  unfold ly_hv
  rw [if_neg (by omega), if_neg (by omega), if_neg (by omega), if_neg (by omega), if_pos (by omega), show 62000 + c - 62000 = c by omega]
theorem hp_ne {cst : am_K} {h : am_H} {i : Int} (hi : i ≠ 0) : ly_hv cst h 61000 i = some 1 := by
  unfold ly_hv
  rw [if_neg (by omega), if_neg (by omega), if_pos rfl, if_neg hi]
