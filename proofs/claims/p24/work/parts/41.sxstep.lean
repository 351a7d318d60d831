section SX7
variable {cst : am_K} {cl : List vw_C} {tt : List (List FieldType)} {P PL : List am_M} {strs : List Nat} {Φ : am_Q → Prop} {K : sx_K} {ρ : Nat → Int32} {h0 : am_H}
variable {T : List (List sx_M)} {sp sm d0 : Nat} {stop : sx_G → Bool} {Y : List sx_Y} {fin : Option sx_V → sx_H → Nat → Nat → Bool}
/-- one of the points behind a step, and what it gives of the run from here -/
def sx_next (cst : am_K) (cl : List vw_C) (tt : List (List FieldType)) (P PL : List am_M) (strs : List Nat) (Φ : am_Q → Prop) (ρ : Nat → Int32) (h0 : am_H) (gs : List sx_G) (goal : Prop) : Prop :=
  ∃ g1 ∈ gs, ∃ (f1 : sx_Cf) (fs1 : List sx_Cf) (h1 : am_H), sx_gB ρ g1.2.2.2.2.1 ∧ sx_gF ρ PL g1.2.1 f1 ∧ sx_gFs ρ PL g1.2.2.1 fs1 ∧ sx_gH tt ρ h0 g1.2.2.2.1 h1 ∧ (sx_Fin cst cl tt P strs Φ fs1 g1.1 f1 h1 g1.2.2.2.2.2.1 g1.2.2.2.2.2.2 → goal)
theorem sx_steps_ok {I : Instr} {X : am_X} {f : sx_Hd} {pc d c s : Nat} {m : sx_M} {M : am_M} {l : sx_L} {st : List sx_V} {fs : List sx_F} {h : sx_H} {B : sx_B} {gs : List sx_G} {l' : am_L} {st' : List Value} {fs' : List sx_Cf} {h' : am_H}
    (hK : sx_gK ρ K cst) (hm : sx_mok PL m M) (hfind : am_find pc M.2.2.2.2 = some (I, X)) (gB : sx_gB ρ B) (gL : sx_gL ρ l l') (gS : sx_gS ρ st st') (gFs : sx_gFs ρ PL fs fs') (gH : sx_gH tt ρ h0 h h') (hI : sx_s I = some f)
    (hs : sx_steps K tt f X pc d m l st fs h B c s = some gs) : sx_next cst cl tt P PL strs Φ ρ h0 gs (sx_Fin cst cl tt P strs Φ fs' d (M, pc, l', st') h' c s) := by
  unfold sx_steps at hs
  split at hs
  case h_2 => cases hs
  rename_i ss hss
  cases hs
  obtain ⟨q, hq, F, e, gB1, epc, gL1, gS1, gH1⟩ := sx_s_ok (cl := cl) hI hss hK gB gL gS gH
  refine ⟨_, List.mem_map.mpr ⟨q, hq, rfl⟩, (M, F.1, F.2.1, F.2.2.1), fs', F.2.2.2, gB1, ⟨hm, epc, gL1, gS1⟩, gFs, gH1, fun hF => ?_⟩
  exact sx_Fin_step rfl (fun n r hgo => ⟨I, X, hfind, Or.inl ⟨F, e, hgo⟩⟩) hF
theorem sx_stepn_ok {I : Instr} {X : am_X} {pc d c s : Nat} {m : sx_M} {M : am_M} {l : sx_L} {st : List sx_V} {fs : List sx_F} {h : sx_H} {B : sx_B} {gs : List sx_G} {l' : am_L} {st' : List Value} {fs' : List sx_Cf} {h' : am_H}
    (hm : sx_mok PL m M) (hfind : am_find pc M.2.2.2.2 = some (I, X)) (gB : sx_gB ρ B) (gL : sx_gL ρ l l') (gS : sx_gS ρ st st') (gFs : sx_gFs ρ PL fs fs') (gH : sx_gH tt ρ h0 h h')
    (hs : sx_stepn tt cl I X pc d m l st fs h B c s = some gs) : sx_next cst cl tt P PL strs Φ ρ h0 gs (sx_Fin cst cl tt P strs Φ fs' d (M, pc, l', st') h' c s) := by
  unfold sx_stepn at hs
  split at hs
  case h_2 => cases hs
  rename_i pc1 st1 h1 k hk
  cases hs
  obtain ⟨F, e, epc, el, gS1, gH1⟩ := sx_new_ok (l' := l') gB gS gH hk
  refine ⟨_, List.mem_singleton.mpr rfl, (M, F.1, F.2.1, F.2.2.1), fs', F.2.2.2, gB, ⟨hm, epc.symm, by rw [el]; exact gL, gS1⟩, gFs, gH1, fun hF => ?_⟩
  exact sx_Fin_pre (dc := 1) (ds := k) (f1 := (M, F.1, F.2.1, F.2.2.1)) (fun n r hgo => ⟨n + 1, I, X, hfind, Or.inr (Or.inl ⟨F, k, r, e, hgo, rfl⟩)⟩) hF
theorem sx_stepr_ok {I : Instr} {X : am_X} {pc d c s : Nat} {m : sx_M} {M : am_M} {st : List sx_V} {fs : List sx_F} {h : sx_H} {B : sx_B} {gs : List sx_G} {l' : am_L} {st' : List Value} {fs' : List sx_Cf} {h' : am_H}
    (hfin : ∀ v H c s v' h', fin v H c s = true → sx_gO ρ v v' → sx_gH tt ρ h0 H h' → Φ (v', h', c, s))
    (hm : sx_mok PL m M) (hfind : am_find pc M.2.2.2.2 = some (I, X)) (gB : sx_gB ρ B) (gS : sx_gS ρ st st') (gFs : sx_gFs ρ PL fs fs') (gH : sx_gH tt ρ h0 h h')
    (hs : sx_stepr fin I d m st fs h B c s = some gs) : sx_Fin cst cl tt P strs Φ fs' d (M, pc, l', st') h' c s ∨ sx_next cst cl tt P PL strs Φ ρ h0 gs (sx_Fin cst cl tt P strs Φ fs' d (M, pc, l', st') h' c s) := by
  unfold sx_stepr at hs
  split at hs
  case h_2 => cases hs
  rename_i v hv
  obtain ⟨v', er, gv⟩ := sx_r_ok gB gS hv
  rw [← hm.2.1] at er
  have hgo : am_Go cst cl tt P strs (am_Run cst cl tt P strs sx_bi d) M 1 pc l' st' h' (v', h', 0, 0) := ⟨I, X, hfind, Or.inr (Or.inr (Or.inl ⟨v', er, rfl⟩))⟩
  match fs, fs', gFs, hs with
  | [], [], _, hs =>
    simp only at hs
    cases hc : fin v h c s with
    | false => rw [hc] at hs; cases hs
    | true => exact Or.inl ⟨1, _, hgo, hfin v h c s v' h' hc gv gH⟩
  | g :: fs, g' :: fs', gFs, hs =>
    cases hs
    obtain ⟨⟨gm, gpc, gl, gst⟩, gfs⟩ := gFs
    refine Or.inr ⟨_, List.mem_singleton.mpr rfl, (g'.1, g'.2.1, g'.2.2.1, v'.toList ++ g'.2.2.2), fs', h', gB, ⟨gm, gpc, gl, ?_⟩, gfs, gH, fun hF => ⟨1, _, hgo, hF⟩⟩
    refine sx_gS_app ?_ gst
    match v, v', gv with
    | none, none, _ => exact trivial
    | some v, some v', gv => exact ⟨gv, trivial⟩
theorem sx_stepc_ok {I : Instr} {X : am_X} {pc d c s : Nat} {m : sx_M} {M : am_M} {l : sx_L} {st : List sx_V} {fs : List sx_F} {h : sx_H} {B : sx_B} {gs : List sx_G} {l' : am_L} {st' : List Value} {fs' : List sx_Cf} {h' : am_H}
    (hT : sx_tok cl P PL T) (hstr : ∀ a, 8 ≤ a → a < 12 → a ∈ strs) (hY : ∀ y ∈ Y, sx_Yok cst cl tt P strs ρ d0 y)
    (hm : sx_mok PL m M) (hfind : am_find pc M.2.2.2.2 = some (I, X)) (gB : sx_gB ρ B) (gL : sx_gL ρ l l') (gS : sx_gS ρ st st') (gFs : sx_gFs ρ PL fs fs') (gH : sx_gH tt ρ h0 h h')
    (hs : sx_stepc T tt Y d0 I X pc d m l st fs h B c s = some gs) : sx_next cst cl tt P PL strs Φ ρ h0 gs (sx_Fin cst cl tt P strs Φ fs' d (M, pc, l', st') h' c s) := by
  unfold sx_stepc at hs
  cases hx0 : sx_eq X.2.2 0 with
  | true =>
    have ex0 := sx_eq_iff.mp hx0
    rw [hx0] at hs
    simp only [cond_true] at hs
    split at hs
    · rename_i y hy
      split at hs
      case h_2 => cases hs
      rename_i m' hm'
      cases hc : (Nat.beq m'.1 X.1 && (Nat.ble d0 d && (Nat.ble X.2.1 st.length && (sx_rcvs I h m' (st.take X.2.1).reverse && (Nat.ble (sx_cats (st.drop X.2.1)) 8 && sx_yok tt B h y (st.take X.2.1).reverse))))) with
      | false => rw [hc] at hs; cases hs
      | true =>
        rw [hc] at hs
        cases hs
        simp only [Bool.and_eq_true, sx_beqn, sx_ble] at hc
        obtain ⟨c0, c1, c2, c3, c4, c5⟩ := hc
        obtain ⟨M', hM', hmok, -, h98, h99⟩ := hT _ _ hm' c0
        have hcc := sx_rcvs_ok hstr gS gH hM' h98 h99 ex0 c2 c4 c3
        have g1 := sx_gS_rev (sx_gS_take X.2.1 gS)
        have ey : y.1 = X.1 := sx_beqn.mp (by simpa using List.find?_some hy)
        have hyY := hY y (List.mem_of_find?_eq_some hy)
        unfold sx_yok at c5
        split at c5
        case h_2 => cases c5
        rename_i v As hAs
        simp only [Bool.and_eq_true] at c5
        obtain ⟨e1, e0, e2, e3⟩ := c5
        rw [hAs] at g1
        obtain ⟨w, ws, ews, gv, gws⟩ := sx_gS_cons g1
        rw [sx_same_eq e1] at gv
        obtain ⟨r, hrun, r1, r2, r3, r4, r5⟩ := hyY h' ws (sx_pre_ok gH e3) (sx_ivs_ok gB e2 gws)
        have ew : w = .ref y.2.1 := sx_refv gv (fun e7 => by rw [e7] at e0; cases e0)
        subst ew
        have hrun' : am_Run cst cl tt P strs sx_bi d X.1 (st'.take X.2.1).reverse h' r := by
          rw [ews, ← ey]
          exact sx_Run_le c1 hrun
        refine ⟨_, List.mem_singleton.mpr rfl, (M, pc + 3, l', st'.drop X.2.1), fs', r.2.1, gB, ⟨hm, rfl, gL, sx_gS_drop _ gS⟩, gFs, ?_, fun hF => ?_⟩
        · obtain ⟨g1, g2, g3, g4⟩ := gH
          refine ⟨?_, by rw [r3]; exact g2, fun i e he => ?_, fun i hi hn => ?_⟩
          · show r.2.1.length = (if 1000000000 ≤ (sx_hsets y.2.2.2.2 h).2.2 then h0.length else (sx_hsets y.2.2.2.2 h).2.2)
            rw [r3, sx_hsets_len, g1]
          · rw [sx_hget_sets] at he
            cases hg : sx_get i y.2.2.2.2 with
            | some e' =>
              rw [hg] at he
              cases he
              exact r5 i _ hg
            | none =>
              rw [hg] at he
              rw [r4 i hg]
              exact g3 i e he
          · obtain ⟨n1, n2⟩ := sx_get_sets i h y.2.2.2.2 hn
            rw [r4 i n1]
            exact g4 i hi n2
        · refine sx_Fin_step rfl (fun n q hgo => ?_) hF
          obtain ⟨ra, rb, rc, rd⟩ := r
          simp only at r1 r2
          subst r1
          cases r2
          refine ⟨I, X, hfind, Or.inr (Or.inr (Or.inr (Or.inl ⟨(none, rb, 0, 0), q, hcc, hrun', hgo, ?_⟩)))⟩
          simp only [Nat.zero_add]
    · split at hs
      case h_2 => cases hs
      rename_i d m' hm'
      cases hc : (Nat.beq m'.1 X.1 && (Nat.ble X.2.1 st.length && (sx_rcvs I h m' (st.take X.2.1).reverse && (Nat.ble (sx_cats (st.drop X.2.1)) 8 && Nat.ble (sx_cats (st.take X.2.1).reverse) m'.2.2.1)))) with
      | false => rw [hc] at hs; cases hs
      | true =>
        rw [hc] at hs
        cases hs
        simp only [Bool.and_eq_true, sx_beqn, sx_ble] at hc
        obtain ⟨c0, c2, c3, c4, c5⟩ := hc
        obtain ⟨M', hM', hmok, hml, h98, h99⟩ := hT _ _ hm' c0
        have hcc := sx_rcvs_ok hstr gS gH hM' h98 h99 ex0 c2 c4 c3
        have g1 := sx_gS_rev (sx_gS_take X.2.1 gS)
        refine ⟨_, List.mem_singleton.mpr rfl, (M', 0, lv_args 0 (st'.take X.2.1).reverse, []), (M, pc + 3, l', st'.drop X.2.1) :: fs', h', gB, ⟨hmok, rfl, sx_gL_args 0 g1, trivial⟩, ⟨⟨hm, rfl, gL, sx_gS_drop _ gS⟩, gFs⟩, gH, fun hF => ?_⟩
        obtain ⟨n, r, hgo, hF⟩ := hF
        refine sx_Fin_pre (dc := r.2.2.1) (ds := r.2.2.2) (f1 := (M, pc + 3, l', r.1.toList ++ st'.drop X.2.1)) (fun n2 q hgo2 => ⟨n2 + 1, I, X, hfind, Or.inr (Or.inr (Or.inr (Or.inl ⟨r, q, hcc, ?_, hgo2, rfl⟩)))⟩) hF
        exact Or.inr ⟨M', n, hM', by rw [sx_cats_sl g1, ← hml]; exact c5, hgo⟩
  | false =>
    rw [hx0] at hs
    simp only [cond_false] at hs
    cases hx1 : sx_eq X.2.2 1 with
    | true =>
      rw [hx1] at hs
      simp only [cond_true] at hs
      split at hs
      case h_2 => cases hs
      rename_i st1 hst
      cases hs
      obtain ⟨st1', e, g1⟩ := sx_obj_ok gS hst
      exact ⟨_, List.mem_singleton.mpr rfl, (M, pc + 3, l', st1'), fs', h', gB, ⟨hm, rfl, gL, g1⟩, gFs, gH, fun hF => sx_Fin_step rfl (fun n r hgo => ⟨I, X, hfind, Or.inr (Or.inr (Or.inr (Or.inr (Or.inl ⟨st1', e, hgo⟩))))⟩) hF⟩
    | false =>
      rw [hx1] at hs
      simp only [cond_false] at hs
      split at hs
      case h_2 => cases hs
      rename_i st1 h1 hst
      cases hs
      obtain ⟨st1', h1', e, g1, gH1⟩ := sx_copy_ok gB gS gH hst
      exact ⟨_, List.mem_singleton.mpr rfl, (M, pc + 3, l', st1'), fs', h1', gB, ⟨hm, rfl, gL, g1⟩, gFs, gH1, fun hF => sx_Fin_step rfl (fun n r hgo => ⟨I, X, hfind, Or.inr (Or.inr (Or.inr (Or.inr (Or.inr ⟨st1', h1', e, hgo⟩))))⟩) hF⟩
/-- a run all of whose ends are good -/
theorem sx_run_ok (hK : sx_gK ρ K cst) (hT : sx_tok cl P PL T) (hstr : ∀ a, 8 ≤ a → a < 12 → a ∈ strs) (hY : ∀ y ∈ Y, sx_Yok cst cl tt P strs ρ d0 y)
    (hstop : ∀ (g : sx_G) (f' : sx_Cf) (fs' : List sx_Cf) (h' : am_H), stop g = true → g.2.1.2.1 = sp → g.2.1.1.1 = sm → sx_gB ρ g.2.2.2.2.1 → sx_gF ρ PL g.2.1 f' → sx_gFs ρ PL g.2.2.1 fs' → sx_gH tt ρ h0 g.2.2.2.1 h' → sx_Fin cst cl tt P strs Φ fs' g.1 f' h' g.2.2.2.2.2.1 g.2.2.2.2.2.2)
    (hfin : ∀ v H c s v' h', fin v H c s = true → sx_gO ρ v v' → sx_gH tt ρ h0 H h' → Φ (v', h', c, s)) :
    ∀ (n : Nat) (g : sx_G) (f' : sx_Cf) (fs' : List sx_Cf) (h' : am_H), sx_run T K tt cl sp sm stop Y d0 fin n g = true → sx_gB ρ g.2.2.2.2.1 → sx_gF ρ PL g.2.1 f' → sx_gFs ρ PL g.2.2.1 fs' → sx_gH tt ρ h0 g.2.2.2.1 h' → sx_Fin cst cl tt P strs Φ fs' g.1 f' h' g.2.2.2.2.2.1 g.2.2.2.2.2.2 := by
  intro n
  induction n with
  | zero => intro g f' fs' h' hr; cases hr
  | succ n ih =>
    intro g f' fs' h' hr gB gF gFs gH
    unfold sx_run at hr
    split at hr
    case h_2 => cases hr
    rename_i gs hgs
    have fini : sx_Fin cst cl tt P strs Φ fs' g.1 f' h' g.2.2.2.2.2.1 g.2.2.2.2.2.2 ∨ sx_next cst cl tt P PL strs Φ ρ h0 gs (sx_Fin cst cl tt P strs Φ fs' g.1 f' h' g.2.2.2.2.2.1 g.2.2.2.2.2.2) := by
      obtain ⟨d, ⟨m, pc, l, st⟩, fs, h, B, c, s⟩ := g
      obtain ⟨M, pc', l', st'⟩ := f'
      obtain ⟨hm, epc, gL, gS⟩ := gF
      simp only at epc gL gS
      subst epc
      simp only [sx_step, sx_N_eq] at hgs
      cases hst : (Nat.beq pc sp && Nat.beq m.1 sm) with
      | true =>
        rw [hst] at hgs
        rw [Bool.and_eq_true, sx_beqn, sx_beqn] at hst
        obtain ⟨rfl, hsm⟩ := hst
        cases hstp : stop (d, (m, pc, l, st), fs, h, B, c, s) with
        | false => simp only [hstp] at hgs; cases hgs
        | true => exact Or.inl (hstop (d, (m, pc, l, st), fs, h, B, c, s) _ _ _ hstp rfl hsm gB ⟨hm, rfl, gL, gS⟩ gFs gH)
      | false =>
        rw [hst] at hgs
        simp only [cond_false] at hgs
        split at hgs
        case h_1 => cases hgs
        rename_i q hq
        have hfind := hm.2.2 _ _ hq
        unfold sx_stepi at hgs
        split at hgs
        · rename_i f hf
          exact Or.inr (sx_steps_ok hK hm hfind gB gL gS gFs gH hf hgs)
        · cases hc : sx_isc q.1 with
          | true =>
            rw [hc] at hgs
            exact Or.inr (sx_stepc_ok hT hstr hY hm hfind gB gL gS gFs gH hgs)
          | false =>
            rw [hc] at hgs
            cases hrr : sx_isr q.1 with
            | true =>
              rw [hrr] at hgs
              exact sx_stepr_ok hfin hm hfind gB gS gFs gH hgs
            | false =>
              rw [hrr] at hgs
              exact Or.inr (sx_stepn_ok hm hfind gB gL gS gFs gH hgs)
    rcases fini with h1 | ⟨g1, hg1, f1, fs1, h1, b1, b2, b3, b4, k⟩
    · exact h1
    · exact k (ih g1 f1 fs1 h1 (List.all_eq_true.mp hr g1 hg1) b1 b2 b3 b4)
end SX7
