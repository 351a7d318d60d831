/-! methods whose effect is known, by a run of their own -/
def sx_As (y : sx_Y) : List sx_V := sx_a y.2.1 :: y.2.2.1.map fun q => sx_i q.1 q.2 none
def sx_HY (y : sx_Y) : sx_H := ([], List.replicate 40 y.2.2.2.1, 1000000000)
def sx_finY (tt : List (List FieldType)) (y : sx_Y) (v : Option sx_V) (H : sx_H) (c s : Nat) : Bool :=
  v.isNone && (Nat.beq c 0 && (Nat.beq s 0 && (H.1.all (fun q => (sx_get q.1 y.2.2.2.2).isSome) && (sx_pre tt H y.2.2.2.2 && Nat.ble 1000000000 H.2.2))))
section SX8
variable {cst : am_K} {cl : List vw_C} {tt : List (List FieldType)} {P PL : List am_M} {strs : List Nat} {K : sx_K} {ρ : Nat → Int32}
variable {T : List (List sx_M)} {d0 : Nat} {Y : List sx_Y}
theorem sx_gI_gS : ∀ {ws : List Value} {qs : List (Int × Int)}, sx_gI ws qs → sx_gS ρ (qs.map fun q => sx_i q.1 q.2 none) ws
  | [], [], _ => trivial
  | w :: ws, q :: qs, h => by
    obtain ⟨⟨n, e, h1, h2⟩, h⟩ := h
    exact ⟨⟨n, e, h1, h2, fun _ _ h => by cases h⟩, sx_gI_gS h⟩
theorem sx_Yok_run {y : sx_Y} {m : sx_M} {n d : Nat} (hK : sx_gK ρ K cst) (hT : sx_tok cl P PL T) (hstr : ∀ a, 8 ≤ a → a < 12 → a ∈ strs) (hY : ∀ y ∈ Y, sx_Yok cst cl tt P strs ρ d0 y)
    (hm : sx_ch 16 y.1 T = some m) (em : m.1 = y.1) (hml : sx_cats (sx_As y) ≤ m.2.2.1)
    (hrun : sx_run T K tt cl 100000 0 (fun _ => false) Y d0 (sx_finY tt y) n (d, (m, 0, sx_args 0 (sx_As y), []), [], sx_HY y, [], 0, 0) = true) : sx_Yok cst cl tt P strs ρ (d + 1) y := by
  intro h' ws hpre hws
  obtain ⟨M, hM, hmok, hl, -, -⟩ := hT _ _ hm em
  have gS : sx_gS ρ (sx_As y) (.ref y.2.1 :: ws) := ⟨Or.inl rfl, sx_gI_gS hws⟩
  have gH : sx_gH tt ρ h' (sx_HY y) h' := by
    refine ⟨rfl, Nat.le_refl _, fun i e he => ?_, fun i _ _ => rfl⟩
    simp only [sx_HY, sx_hget, sx_get] at he
    split at he
    · rename_i r hr
      have : r = y.2.2.2.1 := by
        have := List.mem_of_getElem? hr
        exact List.eq_of_mem_replicate this
      rw [this] at he
      exact hpre (i, e) (sx_get_mem he)
    · cases he
  have key := sx_run_ok (P := P) (Φ := fun r => r.1 = none ∧ r.2.2 = (0, 0) ∧ r.2.1.length = h'.length ∧ (∀ i, sx_get i y.2.2.2.2 = none → r.2.1[i]? = h'[i]?) ∧ ∀ i e, sx_get i y.2.2.2.2 = some e → ∃ x, r.2.1[i]? = some x ∧ sx_gE tt ρ e x)
    (h0 := h') hK hT hstr hY (fun _ _ _ _ h => by cases h) (fun v H c s v' h1 hf gv gH1 => ?_) n _ (M, 0, lv_args 0 (.ref y.2.1 :: ws), []) [] h' hrun (fun _ _ h => by cases h) ⟨hmok, rfl, sx_gL_args 0 gS, trivial⟩ trivial gH
  · obtain ⟨n', r, hgo, r1, r2, r3, r4, r5⟩ := key
    refine ⟨r, Or.inr ⟨M, n', hM, by rw [sx_cats_sl gS, ← hl]; exact hml, hgo⟩, r1, ?_, r3, r4, r5⟩
    have := r2
    simp only [Nat.zero_add] at this
    exact this
  · simp only [sx_finY, Bool.and_eq_true, sx_beqn, sx_ble] at hf
    obtain ⟨f1, f2, f3, f4, f5, f6⟩ := hf
    obtain ⟨g1, g2, g3, g4⟩ := gH1
    have hlen : h1.length = h'.length := by rw [g1, if_pos f6]
    refine ⟨?_, by rw [f2, f3], hlen, fun i hi => ?_, fun i e he => ?_⟩
    · match v, v', f1, gv with
      | none, none, _, _ => rfl
    · by_cases hil : i < h'.length
      · refine g4 i hil ?_
        cases hg : sx_get i H.1 with
        | none => rfl
        | some e =>
          have := List.all_eq_true.mp f4 _ (sx_get_mem hg)
          simp only [hi] at this
          cases this
      · rw [List.getElem?_eq_none (by show h1.length ≤ i; omega), List.getElem?_eq_none (by show h'.length ≤ i; omega)]
    · exact sx_pre_ok ⟨g1, g2, g3, g4⟩ f5 (i, e) (sx_get_mem he)
theorem sx_Yok_le {y : sx_Y} {d d' : Nat} (h : d ≤ d') (hy : sx_Yok cst cl tt P strs ρ d y) : sx_Yok cst cl tt P strs ρ d' y := by
  intro h' ws h1 h2
  obtain ⟨r, hr, k⟩ := hy h' ws h1 h2
  exact ⟨r, sx_Run_le h hr, k⟩
end SX8
def sx_rT : sx_E := .inl (.int, 36, sx_top, [])
def sx_oC : sx_E := .inr (9, [(0, sx_a 78), (1, sx_a 79)], [[]])
def sx_oM : sx_E := .inr (12, [(11, sx_a 96), (119, sx_a 181)], [[]])
def sx_y1 : sx_Y := (30, 77, [(0, 5), (0, 5), (0, 5)], [(61, sx_oC), (63, sx_rT)], [(63, sx_rT)])
def sx_y2 : sx_Y := (29, 77, [], [(61, sx_oC), (62, sx_rT), (63, sx_rT)], [(63, sx_rT)])
def sx_y3 : sx_Y := (404, 94, [], [(78, sx_oM), (80, .inl (.int, 36, sx_c (.negSucc 0), [])), (165, sx_rT)], [(165, .inl (.int, 36, sx_c (.ofNat 100000), [(0, sx_c 0), (7, sx_c 0), (14, sx_c 0), (21, sx_c 0), (28, sx_c 0), (35, sx_c 0)]))])
set_option maxRecDepth 1000000 in
theorem sx_y1r : sx_run sx_T sx_KK m_tt m_cl 100000 0 (fun _ => false) [] 0 (sx_finY m_tt sx_y1) 1000 (0, (sxm30, 0, sx_args 0 (sx_As sx_y1), []), [], sx_HY sx_y1, [], 0, 0) = true := by decide +kernel
set_option maxRecDepth 1000000 in
theorem sx_y2r : sx_run sx_T sx_KK m_tt m_cl 100000 0 (fun _ => false) [sx_y1] 1 (sx_finY m_tt sx_y2) 20000 (1, (sxm29, 0, sx_args 0 (sx_As sx_y2), []), [], sx_HY sx_y2, [], 0, 0) = true := by decide +kernel
set_option maxRecDepth 1000000 in
theorem sx_y3r : sx_run sx_T sx_KK m_tt m_cl 100000 0 (fun _ => false) [] 0 (sx_finY m_tt sx_y3) 20000 (1, (sxm404, 0, sx_args 0 (sx_As sx_y3), []), [], sx_HY sx_y3, [], 0, 0) = true := by decide +kernel
theorem sx_m_strs : ∀ a, 8 ≤ a → a < 12 → a ∈ m_strs := by
  intro a h1 h2
  have : a = 8 ∨ a = 9 ∨ a = 10 ∨ a = 11 := by omega
  rcases this with rfl | rfl | rfl | rfl <;> decide
theorem sx_Ys {cst : am_K} {ρ : Nat → Int32} (hK : sx_gK ρ sx_KK cst) : ∀ y ∈ [sx_y2, sx_y3], sx_Yok cst m_cl m_tt m_P m_strs ρ 2 y := by
  have h1 : sx_Yok cst m_cl m_tt m_P m_strs ρ 1 sx_y1 := sx_Yok_run (d := 0) hK sx_tok_m sx_m_strs (Y := []) (fun _ h => by cases h) rfl rfl (by decide) sx_y1r
  have h2 : sx_Yok cst m_cl m_tt m_P m_strs ρ 2 sx_y2 := sx_Yok_run (d := 1) hK sx_tok_m sx_m_strs (Y := [sx_y1]) (fun y h => by cases List.mem_singleton.mp h; exact h1) rfl rfl (by decide) sx_y2r
  have h3 : sx_Yok cst m_cl m_tt m_P m_strs ρ 2 sx_y3 := sx_Yok_run (d := 1) hK sx_tok_m sx_m_strs (Y := []) (fun _ h => by cases h) rfl rfl (by decide) sx_y3r
  intro y hy
  rcases List.mem_cons.mp hy with rfl | hy
  · exact h2
  · cases List.mem_singleton.mp hy
    exact h3
