/-! a run of the interval machine, all of whose ends are good, is a run of the abstract machine for every script of its box -/
abbrev sx_Cf : Type := am_M × Nat × am_L × List Value
def sx_bi : Nat → List Value → am_H → am_Q → Prop := fun _ _ _ _ => False
def sx_Fin (cst : am_K) (cl : List vw_C) (tt : List (List FieldType)) (P : List am_M) (strs : List Nat) (Φ : am_Q → Prop) : List sx_Cf → Nat → sx_Cf → am_H → Nat → Nat → Prop
  | [], d, f, h, c, s => ∃ n r, am_Go cst cl tt P strs (am_Run cst cl tt P strs sx_bi d) f.1 n f.2.1 f.2.2.1 f.2.2.2 h r ∧ Φ (r.1, r.2.1, c + r.2.2.1, s + r.2.2.2)
  | g :: fs, d, f, h, c, s => ∃ n r, am_Go cst cl tt P strs (am_Run cst cl tt P strs sx_bi d) f.1 n f.2.1 f.2.2.1 f.2.2.2 h r ∧ sx_Fin cst cl tt P strs Φ fs (d + 1) (g.1, g.2.1, g.2.2.1, r.1.toList ++ g.2.2.2) r.2.1 (c + r.2.2.1) (s + r.2.2.2)
section SX5
variable {cst : am_K} {cl : List vw_C} {tt : List (List FieldType)} {P PL : List am_M} {strs : List Nat} {Φ : am_Q → Prop} {K : sx_K} {ρ : Nat → Int32} {h0 : am_H} {B : sx_B}
theorem sx_Fin_pre {fs : List sx_Cf} {d : Nat} {f f1 : sx_Cf} {h h1 : am_H} {c s dc ds : Nat}
    (k : ∀ n r, am_Go cst cl tt P strs (am_Run cst cl tt P strs sx_bi d) f1.1 n f1.2.1 f1.2.2.1 f1.2.2.2 h1 r → ∃ n', am_Go cst cl tt P strs (am_Run cst cl tt P strs sx_bi d) f.1 n' f.2.1 f.2.2.1 f.2.2.2 h (r.1, r.2.1, dc + r.2.2.1, ds + r.2.2.2))
    (hF : sx_Fin cst cl tt P strs Φ fs d f1 h1 (c + dc) (s + ds)) : sx_Fin cst cl tt P strs Φ fs d f h c s := by
  cases fs with
  | nil =>
    obtain ⟨n, r, hgo, hφ⟩ := hF
    obtain ⟨n', hn⟩ := k n r hgo
    refine ⟨n', _, hn, ?_⟩
    rw [← Nat.add_assoc, ← Nat.add_assoc]
    exact hφ
  | cons g fs =>
    obtain ⟨n, r, hgo, hφ⟩ := hF
    obtain ⟨n', hn⟩ := k n r hgo
    refine ⟨n', _, hn, ?_⟩
    rw [← Nat.add_assoc, ← Nat.add_assoc]
    exact hφ
/-- a method's words are the abstract machine's -/
def sx_mok (PL : List am_M) (m : sx_M) (M : am_M) : Prop := PL[m.1]? = some M ∧ M.2.2.2.1 = m.2.2.2.1 ∧ ∀ pc q, sx_find pc m.2.2.2.2 = some q → am_find pc M.2.2.2.2 = some q
def sx_gF (ρ : Nat → Int32) (PL : List am_M) (f : sx_F) (f' : sx_Cf) : Prop := sx_mok PL f.1 f'.1 ∧ f.2.1 = f'.2.1 ∧ sx_gL ρ f.2.2.1 f'.2.2.1 ∧ sx_gS ρ f.2.2.2 f'.2.2.2
def sx_gFs (ρ : Nat → Int32) (PL : List am_M) : List sx_F → List sx_Cf → Prop
  | [], [] => True
  | f :: fs, g :: gs => sx_gF ρ PL f g ∧ sx_gFs ρ PL fs gs
  | _, _ => False
def sx_gO (ρ : Nat → Int32) : Option sx_V → Option Value → Prop
  | none, none => True
  | some v, some w => sx_g ρ v w
  | _, _ => False
def sx_tok (cl : List vw_C) (P PL : List am_M) (T : List (List sx_M)) : Prop :=
  ∀ mi m, sx_ch 16 mi T = some m → m.1 = mi → ∃ M, P[mi]? = some M ∧ sx_mok PL m M ∧ m.2.2.1 = M.2.2.1 ∧ (m.2.1 < 98 → ∃ r : vw_C, cl[m.2.1]? = some r ∧ r.1 = M.1.cls) ∧ (m.2.1 = 99 → M.1.cls = "java/lang/String")
theorem sx_new_ok {I : Instr} {X : am_X} {pc pc1 k : Nat} {l' : am_L} {st st1 : List sx_V} {st' : List Value} {H H1 : sx_H} {h' : am_H} (gB : sx_gB ρ B) (gS : sx_gS ρ st st') (gH : sx_gH tt ρ h0 H h') (h : sx_new cl tt I X pc B st H = some (pc1, st1, H1, k)) :
    ∃ F, am_a cl tt I X pc l' st' h' = some (F, k) ∧ F.1 = pc1 ∧ F.2.1 = l' ∧ sx_gS ρ st1 F.2.2.1 ∧ sx_gH tt ρ h0 H1 F.2.2.2 := by
  unfold sx_new at h
  cases hbl : Nat.blt H.2.2 999999999 with
  | false => rw [hbl] at h; cases h
  | true =>
    rw [hbl] at h
    simp only [cond_true] at h
    have hlt := sx_blt.mp hbl
    have hl : H.2.2 = h'.length := by
      have := gH.1
      rw [if_neg (by omega)] at this
      exact this.symm
    have idx : ∀ {v : sx_V} {w : Value} {n : Nat}, sx_g ρ v w → sx_in B v 60000001 = some n → ∃ i : Int32, w = .int i ∧ ¬ (i < 0 ∨ 60000000 < i.toNatClampNeg) ∧ i.toNatClampNeg = n := by
      intro v w n g hi
      obtain ⟨i, e, h1, h2, h3⟩ := sx_in_ok gB g hi
      exact ⟨i, e, fun hq => h1 (hq.imp id fun q => by omega), h2⟩
    have row : ∀ {ty : FieldType} {n : Nat} {d : sx_V} {c}, (match ty with
      | .long => ∃ f, c = .inr (.inl f) ∧ ∀ j, j < n → sx_g ρ (sx_elt d [] j) (.long (f j))
      | .object _ => ∃ f, c = .inr (.inr (.inr (.inr f))) ∧ ∀ j, j < n → sx_g ρ (sx_elt d [] j) (va_rf (f j))
      | _ => ∃ f, c = .inl f ∧ ∀ j, j < n → sx_g ρ (sx_elt d [] j) (.int (f j))) → sx_gH tt ρ h0 (sx_hpush (.inl (ty, n, d, [])) H) (h' ++ [.inl (ty, n, c)]) := by
      intro ty n d c hc
      exact sx_gH_push gH hlt ⟨c, rfl, hc⟩
    have z32 : (0 : Int32).toInt = 0 := rfl
    cases I with
    | new i =>
      simp only at h
      split at h
      case h_2 => cases h
      rename_i r hr
      cases hb : Nat.beq (tt.getD X.1 []).length r.2.2 with
      | false => rw [hb] at h; cases h
      | true =>
        rw [hb] at h
        cases h
        have e := sx_beqn.mp hb
        refine ⟨(pc + 3, l', .ref (16 + h'.length) :: st', h' ++ [.inr (X.1, (tt.getD X.1 []).map defaultValue)]), ?_, rfl, rfl, ⟨Or.inl (by rw [hl]), gS⟩, sx_gH_push gH hlt ⟨_, rfl, by rw [List.length_map], fun j v hv => ?_⟩⟩
        · simp only [am_a, hr, if_pos e]
        · simp only [sx_fld, sx_get] at hv
          split at hv
          case h_2 => cases hv
          rename_i t ht
          refine ⟨defaultValue t, by rw [List.getElem?_map, ht]; rfl, ?_⟩
          unfold sx_zero at hv
          split at hv <;> cases hv
          · exact ⟨0, rfl, rfl⟩
          · exact ⟨0, rfl, rfl⟩
          · exact ⟨0, rfl, fun c hc => sx_jm_of (by cases hc; rfl)⟩
          · rfl
          · rfl
    | newarray t =>
      simp only at h
      split at h
      case h_2 => cases h
      rename_i v st0
      obtain ⟨w, t0, rfl, gv, gS1⟩ := sx_gS_cons gS
      split at h
      case h_2 => cases h
      rename_i n hn
      obtain ⟨i, rfl, hi, e⟩ := idx gv hn
      subst e
      split at h <;> cases h
      · exact ⟨(pc + 2, l', .ref (16 + h'.length) :: t0, h' ++ [.inl (.int, i.toNatClampNeg, .inl (fun _ => 0))]), by simp only [am_a, if_neg hi], rfl, rfl, ⟨Or.inl (by rw [hl]), gS1⟩, row (ty := .int) (d := sx_c 0) ⟨fun _ => 0, rfl, fun j _ => ⟨0, rfl, rfl⟩⟩⟩
      · exact ⟨(pc + 2, l', .ref (16 + h'.length) :: t0, h' ++ [.inl (.long, i.toNatClampNeg, .inr (.inl (fun _ => 0)))]), by simp only [am_a, if_neg hi], rfl, rfl, ⟨Or.inl (by rw [hl]), gS1⟩, row (ty := .long) (d := sx_j (some 0)) ⟨fun _ => 0, rfl, fun j _ => ⟨0, rfl, fun c hc => sx_jm_of (by cases hc; rfl)⟩⟩⟩
      · exact ⟨(pc + 2, l', .ref (16 + h'.length) :: t0, h' ++ [.inl (.byte, i.toNatClampNeg, .inl (fun _ => 0))]), by simp only [am_a, if_neg hi], rfl, rfl, ⟨Or.inl (by rw [hl]), gS1⟩, row (ty := .byte) (d := sx_c 0) ⟨fun _ => 0, rfl, fun j _ => ⟨0, rfl, rfl⟩⟩⟩
      · exact ⟨(pc + 2, l', .ref (16 + h'.length) :: t0, h' ++ [.inl (.boolean, i.toNatClampNeg, .inl (fun _ => 0))]), by simp only [am_a, if_neg hi], rfl, rfl, ⟨Or.inl (by rw [hl]), gS1⟩, row (ty := .boolean) (d := sx_c 0) ⟨fun _ => 0, rfl, fun j _ => ⟨0, rfl, rfl⟩⟩⟩
    | anewarray i0 =>
      simp only at h
      split at h
      case h_2 => cases h
      rename_i v st0
      obtain ⟨w, t0, rfl, gv, gS1⟩ := sx_gS_cons gS
      split at h
      case h_2 => cases h
      rename_i n r hn hr
      obtain ⟨i, rfl, hi, e⟩ := idx gv hn
      subst e
      cases h
      exact ⟨(pc + 3, l', .ref (16 + h'.length) :: t0, h' ++ [.inl (.object r.1, i.toNatClampNeg, .inr (.inr (.inr (.inr (fun _ => none)))))]), by simp only [am_a, if_neg hi, hr], rfl, rfl, ⟨Or.inl (by rw [hl]), gS1⟩, row (ty := .object r.1) (d := sx_n) ⟨fun _ => none, rfl, fun j _ => rfl⟩⟩
    | _ => cases h
theorem sx_r_ok {ret : Option FieldType} {I : Instr} {st : List sx_V} {st' : List Value} {v : Option sx_V} (gB : sx_gB ρ B) (gS : sx_gS ρ st st') (h : sx_r ret I B st = some v) : ∃ v', am_r ret I st' = some v' ∧ sx_gO ρ v v' := by
  unfold sx_r at h
  split at h
  · rename_i v
    obtain ⟨w, t, rfl, gv, gt⟩ := sx_gS_cons gS
    cases sx_gS_nil gt
    cases hc : sx_isI v with
    | false => rw [hc] at h; cases h
    | true =>
      rw [hc] at h
      cases h
      obtain ⟨n, rfl⟩ := sx_g_isI gv hc
      exact ⟨_, rfl, gv⟩
  · rename_i v
    obtain ⟨w, t, rfl, gv, gt⟩ := sx_gS_cons gS
    cases sx_gS_nil gt
    split at h
    case h_2 => cases h
    rename_i p hp
    cases hc : (sx_le 0 p.1 && sx_le p.2 1) with
    | false => rw [hc] at h; cases h
    | true =>
      rw [hc] at h
      cases h
      rw [Bool.and_eq_true, sx_le_iff, sx_le_iff] at hc
      obtain ⟨n, rfl, h1, h2⟩ := sx_g_int gB gv hp
      have e : n = 0 ∨ n = 1 := by
        have : n.toInt = 0 ∨ n.toInt = 1 := by omega
        rcases this with e | e
        · exact Or.inl (Int32.toInt_inj.mp e)
        · exact Or.inr (Int32.toInt_inj.mp e)
      exact ⟨some (.int n), by simp only [am_r, if_pos e], gv⟩
  · rename_i v
    obtain ⟨w, t, rfl, gv, gt⟩ := sx_gS_cons gS
    cases sx_gS_nil gt
    split at h
    case h_2 => cases h
    rename_i c hc
    obtain ⟨n, rfl, hn⟩ := sx_g_con gB gv hc
    cases hd : decide ((Int32.ofInt c).toInt8.toInt32 = Int32.ofInt c) with
    | false => rw [hd] at h; cases h
    | true =>
      rw [hd] at h
      cases h
      have e := of_decide_eq_true hd
      rw [← sx_of hn] at e
      exact ⟨some (.int n), by simp only [am_r, if_pos e], gv⟩
  · rename_i v
    obtain ⟨w, t, rfl, gv, gt⟩ := sx_gS_cons gS
    cases sx_gS_nil gt
    split at h
    case h_2 => cases h
    rename_i c hc
    obtain ⟨n, rfl, hn⟩ := sx_g_con gB gv hc
    cases hd : decide ((Int32.ofInt c).toUInt32.toUInt16.toUInt32.toInt32 = Int32.ofInt c) with
    | false => rw [hd] at h; cases h
    | true =>
      rw [hd] at h
      cases h
      have e := of_decide_eq_true hd
      rw [← sx_of hn] at e
      exact ⟨some (.int n), by simp only [am_r, if_pos e], gv⟩
  · rename_i v
    obtain ⟨w, t, rfl, gv, gt⟩ := sx_gS_cons gS
    cases sx_gS_nil gt
    cases hc : sx_isJ v with
    | false => rw [hc] at h; cases h
    | true =>
      rw [hc] at h
      cases h
      obtain ⟨n, rfl⟩ := sx_g_isJ gv hc
      exact ⟨some (.long n), by simp only [am_r, if_true], gv⟩
  · rename_i v
    obtain ⟨w, t, rfl, gv, gt⟩ := sx_gS_cons gS
    cases sx_gS_nil gt
    cases hc : sx_isA v with
    | false => rw [hc] at h; cases h
    | true =>
      rw [hc] at h
      cases h
      rcases sx_g_isA gv hc with ⟨a, rfl⟩ | rfl
      · exact ⟨_, rfl, gv⟩
      · exact ⟨_, rfl, gv⟩
  · rename_i v
    obtain ⟨w, t, rfl, gv, gt⟩ := sx_gS_cons gS
    cases sx_gS_nil gt
    cases hc : sx_isA v with
    | false => rw [hc] at h; cases h
    | true =>
      rw [hc] at h
      cases h
      rcases sx_g_isA gv hc with ⟨a, rfl⟩ | rfl
      · exact ⟨_, rfl, gv⟩
      · exact ⟨_, rfl, gv⟩
  · cases sx_gS_nil gS
    cases h
    exact ⟨none, by simp only [am_r, if_true], trivial⟩
  · cases h
theorem sx_isref_ok {v : sx_V} {w : Value} (h : sx_isref v = true) (g : sx_g ρ v w) : ∃ a, w = .ref a := by
  match v, h, g with
  | .inr (.inr (.inr (some a))), h, g =>
    have : a ≠ 7 := fun e => by subst e; cases h
    exact ⟨a, sx_refv g this⟩
theorem sx_obj_ok {I : Instr} {X : am_X} {st st1 : List sx_V} {st' : List Value} (gS : sx_gS ρ st st') (h : sx_obj I X st = some st1) : ∃ st1', am_obj I X st' = some st1' ∧ sx_gS ρ st1 st1' := by
  unfold sx_obj at h
  split at h
  case h_2 => cases h
  rename_i i v st0
  obtain ⟨w, t, rfl, gv, gt⟩ := sx_gS_cons gS
  cases hc : (sx_eq X.2.2 1 && sx_isref v && Nat.ble (sx_cats st0) 8) with
  | false => rw [hc] at h; cases h
  | true =>
    rw [hc] at h
    cases h
    simp only [Bool.and_eq_true, sx_eq_iff, sx_ble] at hc
    obtain ⟨a, rfl⟩ := sx_isref_ok hc.1.2 gv
    have hs : (t.map fun v => v.category).sum ≤ 8 := by rw [sx_gS_cats gt]; exact hc.2
    exact ⟨t, by simp only [am_obj, if_pos hc.1.1, if_pos hs], gt⟩
theorem sx_cell_ok {H : sx_H} {h' : am_H} {v : sx_V} {w : Value} {i : Nat} {e : sx_E} (gH : sx_gH tt ρ h0 H h') (g : sx_g ρ v w) (h : sx_cell H v = some (i, e)) : ∃ a x, w = .ref a ∧ ¬ a < 16 ∧ i = a - 16 ∧ sx_hget H i = some e ∧ h'[i]? = some x ∧ sx_gE tt ρ e x := by
  match v, h, g with
  | .inr (.inr (.inr (some a))), h, g =>
    simp only [sx_cell] at h
    cases ha : Nat.blt a 16 with
    | true => rw [ha] at h; cases h
    | false =>
      have ha' := sx_blt_neg ha
      rw [ha] at h
      simp only [cond_false] at h
      split at h
      case h_2 => cases h
      rename_i e' he
      cases h
      obtain ⟨x, hx, gx⟩ := gH.2.2.1 _ _ he
      exact ⟨a, x, sx_refv g (by omega), ha', rfl, he, hx, gx⟩
theorem sx_copy_ok {I : Instr} {X : am_X} {st st1 : List sx_V} {st' : List Value} {H H1 : sx_H} {h' : am_H} (gB : sx_gB ρ B) (gS : sx_gS ρ st st') (gH : sx_gH tt ρ h0 H h') (h : sx_copy I X B st H = some (st1, H1)) :
    ∃ st1' h1', am_copy I X st' h' = some (st1', h1') ∧ sx_gS ρ st1 st1' ∧ sx_gH tt ρ h0 H1 h1' := by
  unfold sx_copy at h
  split at h
  case h_2 => cases h
  rename_i i n dp b sp a st0
  obtain ⟨n', t1, rfl, gn, gS1⟩ := sx_gS_cons gS
  obtain ⟨dp', t2, rfl, gdp, gS2⟩ := sx_gS_cons gS1
  obtain ⟨b', t3, rfl, gb, gS3⟩ := sx_gS_cons gS2
  obtain ⟨sp', t4, rfl, gsp, gS4⟩ := sx_gS_cons gS3
  obtain ⟨a', t5, rfl, ga, gS5⟩ := sx_gS_cons gS4
  cases hc : (sx_eq X.2.2 2 && Nat.ble (sx_cats st0) 8) with
  | false => rw [hc] at h; cases h
  | true =>
    rw [hc] at h
    simp only [cond_true] at h
    rw [Bool.and_eq_true, sx_eq_iff, sx_ble] at hc
    split at h
    case h_2 => cases h
    rename_i n dp sp i1 x j y hn hdp hsp ha hb
    cases hd : (sx_tI x.1 && sx_tI y.1 && Nat.beq n x.2.1 && Nat.beq n y.2.1 && Nat.beq dp 0 && Nat.beq sp 0) with
    | false => rw [hd] at h; cases h
    | true =>
      rw [hd] at h
      cases h
      simp only [Bool.and_eq_true, sx_beqn] at hd
      obtain ⟨⟨⟨⟨⟨d1, d2⟩, d3⟩, d4⟩, d5⟩, d6⟩ := hd
      obtain ⟨nn, rfl, en⟩ := sx_g_con gB gn hn
      obtain ⟨nd, rfl, ed⟩ := sx_g_con gB gdp hdp
      obtain ⟨ns, rfl, es⟩ := sx_g_con gB gsp hsp
      obtain ⟨aa, xa, rfl, la, ea, hea, hxa, gxa⟩ := sx_cell_ok gH ga ha
      obtain ⟨ab, xb, rfl, lb, eb, heb, hxb, gxb⟩ := sx_cell_ok gH gb hb
      obtain ⟨tx, nx, dx, ox⟩ := x
      obtain ⟨ty, ny, dy, oy⟩ := y
      obtain ⟨cx, rfl, hcx⟩ := gxa
      obtain ⟨cy, rfl, hcy⟩ := gxb
      cases tx <;> simp only [sx_tI, Bool.false_eq_true] at d1
      cases ty <;> simp only [sx_tI, Bool.false_eq_true] at d2
      obtain ⟨f, rfl, hf⟩ := hcx
      obtain ⟨g, rfl, hg⟩ := hcy
      simp only at d3 d4
      subst d5
      subst d6
      subst ea
      subst eb
      have q1 : nn.toNatClampNeg = n := by
        show nn.toInt.toNat = n
        rw [en]; rfl
      have q2 : nd.toNatClampNeg = 0 := by
        show nd.toInt.toNat = 0
        rw [ed]; rfl
      have q3 : ns.toNatClampNeg = 0 := by
        show ns.toInt.toNat = 0
        rw [es]; rfl
      have z : (0 : Int32).toInt = 0 := rfl
      have neg : ∀ {q : Int32} {m : Nat}, q.toInt = Int.ofNat m → ¬ q < 0 := by
        intro q m e hq
        have := Int32.lt_iff_toInt_lt.mp hq
        rw [e] at this
        have : (Int.ofNat m) = (m : Int) := rfl
        omega
      have hs : (t5.map fun v => v.category).sum ≤ 8 := by rw [sx_gS_cats gS5]; exact hc.2
      have hneg : ¬ (aa < 16 ∨ ab < 16 ∨ nn < 0 ∨ nd < 0 ∨ ns < 0 ∨ ¬ (t5.map fun v => v.category).sum ≤ 8) := by
        rintro (h | h | h | h | h | h)
        · exact la h
        · exact lb h
        · exact neg en h
        · exact neg ed h
        · exact neg es h
        · exact h hs
      have hr : ns.toNatClampNeg + nn.toNatClampNeg ≤ nx ∧ nd.toNatClampNeg + nn.toNatClampNeg ≤ ny := by
        rw [q1, q2, q3]
        omega
      refine ⟨t5, h'.set (ab - 16) (.inl (.int, ny, .inl (va_cpy f g ns.toNatClampNeg nd.toNatClampNeg nn.toNatClampNeg))), by simp only [am_copy, if_pos hc.1, if_neg hneg, hxa, hxb, if_pos hr], gS5, sx_gH_set gH heb ?_⟩
      have enx : ny = nx := by omega
      refine ⟨_, by rw [enx], _, rfl, fun j hj => ?_⟩
      rw [q1, q2, q3]
      have : va_cpy f g 0 0 n j = f j := by
        unfold va_cpy
        rw [if_pos (by omega)]
        congr 1
        omega
      rw [this]
      exact hf j hj
end SX5
