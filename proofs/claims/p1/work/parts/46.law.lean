/-! the law over every script: the constructors, the switch, the roads -/
def sx_subH (h : sx_H) : Bool := Nat.beq h.2.2 177 && (List.range 192).all fun i => match sx_hget sx_H0 i with
  | none => true
  | some e => match sx_hget h i with
    | some x => sx_subE m_tt x e
    | none => false
def sx_stop1 (g : sx_G) : Bool := match g with
  | (d, (_, _, l, st), fs, h, B, c, s) => Nat.beq d 50 && (fs.isEmpty && ((match st with
    | [v] => sx_isI v
    | _ => false) && (sx_sameL l sx_l0 && (sx_subB B sx_B7 && (Nat.beq c 177 && (Nat.beq s 288833 && sx_subH h))))))
set_option maxRecDepth 1000000 in
theorem sxcon : sx_run sx_T sx_KK m_tt m_cl 33 419 sx_stop1 [] 0 sx_fin1 30000 (50, (sxmL, 0, [(0, sx_a 4)], []), [], ([], [], 0), sx_B0, 0, 0) = true := by decide +kernel
theorem sx_subH_ok {ρ : Nat → Int32} {H : sx_H} {h' : am_H} (h : sx_subH H = true) (g : sx_gH m_tt ρ [] H h') : sx_gH m_tt ρ [] sx_H0 h' := by
  simp only [sx_subH, Bool.and_eq_true, sx_beqn] at h
  obtain ⟨h1, h2⟩ := h
  obtain ⟨g1, g2, g3, g4⟩ := g
  refine ⟨?_, g2, fun i e he => ?_, fun i hi => absurd hi (Nat.not_lt_zero i)⟩
  · rw [g1, h1]
    rfl
  · have hi : i < 192 := by
      simp only [sx_H0, sx_hget, sx_get] at he
      split at he
      · rename_i r hr
        have := (List.getElem?_eq_some_iff.mp hr).1
        simp only [List.length_cons, List.length_nil] at this
        omega
      · cases he
    have := List.all_eq_true.mp h2 i (List.mem_range.mpr hi)
    simp only [he] at this
    split at this
    · rename_i x hx
      obtain ⟨y, hy, gy⟩ := g3 i x hx
      exact ⟨y, hy, sx_subE_ok this gy⟩
    · cases this
def sx_Phi (r : am_Q) : Prop := r.1 = some (.int 1) ∧ r.2.2.1 ≤ 600000 ∧ r.2.2.2 ≤ 7302249
theorem sx_fin1_ok {ρ : Nat → Int32} {h0 : am_H} (v : Option sx_V) (H : sx_H) (c s : Nat) (v' : Option Value) (h' : am_H) (hf : sx_fin1 v H c s = true) (gv : sx_gO ρ v v') (_ : sx_gH m_tt ρ h0 H h') : sx_Phi (v', h', c, s) := by
  unfold sx_fin1 at hf
  split at hf
  · rename_i z
    simp only [Bool.and_eq_true, sx_eq_iff, sx_ble] at hf
    obtain ⟨rfl, h1, h2⟩ := hf
    match v', gv with
    | some w, gv =>
      obtain ⟨n, rfl, hn⟩ := gv
      have : n = 1 := Int32.toInt_inj.mp hn
      subst this
      exact ⟨rfl, h1, h2⟩
  · cases hf
theorem sx_cut_ok {ρ : Nat → Int32} {k : Nat} : ∀ {ps : List Int} {B : sx_B}, sx_gB ρ B → ∃ B' ∈ sx_cut k ps B, sx_gB ρ B'
  | [], B, g => ⟨B, List.mem_singleton.mpr rfl, g⟩
  | p :: ps, B, g => by
    unfold sx_cut
    rcases Int.lt_trichotomy (ρ k).toInt p with h | h | h
    · obtain ⟨B', m, g'⟩ := sx_ref_ok (c := .lt) (k := k) (cc := 0) (b := p) (q := (p, p)) g (Int.le_refl _) (Int.le_refl _) (by show _ < _; omega)
      exact ⟨B', List.mem_append_left _ m, g'⟩
    · obtain ⟨B', m, g'⟩ := sx_ref_ok (c := .eq) (k := k) (cc := 0) (b := p) (q := (p, p)) g (Int.le_refl _) (Int.le_refl _) (by show _ = _; omega)
      exact ⟨B', List.mem_append_right _ (List.mem_append_left _ m), g'⟩
    · obtain ⟨B', m, g'⟩ := sx_ref_ok (c := .gt) (k := k) (cc := 0) (b := p) (q := (p, p)) g (Int.le_refl _) (Int.le_refl _) (by show _ < _; omega)
      obtain ⟨B'', m', g''⟩ := sx_cut_ok (ps := ps) g'
      exact ⟨B'', List.mem_append_right _ (List.mem_append_right _ (List.mem_flatMap.mpr ⟨B', m, m'⟩)), g''⟩
theorem sx_cuts_ok {ρ : Nat → Int32} : ∀ {cs : List (Nat × List Int)} {B : sx_B}, sx_gB ρ B → ∃ B' ∈ sx_cuts cs B, sx_gB ρ B'
  | [], B, g => ⟨B, List.mem_singleton.mpr rfl, g⟩
  | q :: cs, B, g => by
    obtain ⟨B', m, g'⟩ := sx_cut_ok (k := q.1) (ps := q.2) g
    obtain ⟨B'', m', g''⟩ := sx_cuts_ok (cs := cs) g'
    exact ⟨B'', List.mem_flatMap.mpr ⟨B', m, m'⟩, g''⟩
set_option maxRecDepth 1000000 in
theorem sx_P419 : m_P.length = 419 := by decide +kernel
theorem sx_L419 : m_PL[419]? = some mtL := by
  unfold m_PL
  rw [List.getElem?_append_right (by rw [sx_P419]; exact Nat.le_refl _), sx_P419]
  rfl
theorem sx_mokL : sx_mok m_PL sxmL mtL := ⟨sx_L419, sxoL.1, sxoL.2.1⟩
section SX9
variable {cst : am_K} {ρ : Nat → Int32}
def sx_Good (cst : am_K) (ρ : Nat → Int32) (pc : Nat) : Prop := ∀ l' h', sx_gL ρ sx_l0 l' → sx_gH m_tt ρ [] sx_H0 h' → sx_Fin cst m_cl m_tt m_P m_strs sx_Phi [] 50 (mtL, pc, l', []) h' 177 288833
theorem sx_case {B : sx_B} {cs : List (Nat × List Int)} {n pc : Nat} (h : (sx_cuts cs B).all (sx_go n pc) = true) (hK : sx_gK ρ sx_KK cst) (gB : sx_gB ρ B) : sx_Good cst ρ pc := by
  intro l' h' gL gH
  obtain ⟨B', hB', gB'⟩ := sx_cuts_ok (cs := cs) gB
  have hr := List.all_eq_true.mp h B' hB'
  unfold sx_go at hr
  exact sx_run_ok (P := m_P) (h0 := []) hK sx_tok_m sx_m_strs (sx_Ys hK) (fun _ _ _ _ h => by cases h) sx_fin1_ok n _ (mtL, pc, l', []) [] h' hr gB' ⟨sx_mokL, rfl, gL, trivial⟩ trivial gH
/-- every script of the point's box goes well from there -/
def sx_GoodG (cst : am_K) (ρ : Nat → Int32) (t : sx_G) : Prop := ∀ f' fs' h', sx_gB ρ t.2.2.2.2.1 → sx_gF ρ m_PL t.2.1 f' → sx_gFs ρ m_PL t.2.2.1 fs' → sx_gH m_tt ρ [] t.2.2.2.1 h' → sx_Fin cst m_cl m_tt m_P m_strs sx_Phi fs' t.1 f' h' t.2.2.2.2.2.1 t.2.2.2.2.2.2
theorem sx_last {t : sx_G} {n : Nat} (h : sx_run sx_T sx_KK m_tt m_cl 100000 0 (fun _ => false) [sx_y2, sx_y3] 2 sx_fin1 n t = true) (hK : sx_gK ρ sx_KK cst) : sx_GoodG cst ρ t := by
  intro f' fs' h' gB gF gFs gH
  exact sx_run_ok (P := m_P) (h0 := []) hK sx_tok_m sx_m_strs (sx_Ys hK) (fun _ _ _ _ h => by cases h) sx_fin1_ok n t f' fs' h' h gB gF gFs gH
theorem sx_chain {t t2 : sx_G} {n sp sm : Nat} (h : sx_run sx_T sx_KK m_tt m_cl sp sm (sx_stopG t2) [sx_y2, sx_y3] 2 sx_fin1 n t = true) (hm : sx_mkn t2.2.1.1) (hms : ∀ f ∈ t2.2.2.1, sx_mkn f.1) (h2 : sx_GoodG cst ρ t2) (hK : sx_gK ρ sx_KK cst) : sx_GoodG cst ρ t := by
  intro f' fs' h' gB gF gFs gH
  refine sx_run_ok (P := m_P) (h0 := []) hK sx_tok_m sx_m_strs (sx_Ys hK) (fun g f1 fs1 h1 hst _ _ b1 b2 b3 b4 => ?_) sx_fin1_ok n t f' fs' h' h gB gF gFs gH
  simp only [sx_stopG, Bool.and_eq_true, sx_beqn] at hst
  obtain ⟨e1, e2, e3, e4, e5, e6, e7⟩ := hst
  rw [e1, e5, e6]
  exact h2 f1 fs1 h1 (sx_subB_ok e4 b1) (sx_sameF_ok e2 hm b2) (sx_sameFs_ok e3 hms b3) (sx_subHT_ok e7 b4)
theorem sx_mknL : sx_mkn sxmL := by
  intro M h
  have h : m_PL[419]? = some M := h
  rw [sx_L419] at h
  cases h
  exact sx_mokL
theorem sx_mkn297 : sx_mkn sxm297 := by
  intro M h
  have h : m_PL[297]? = some M := h
  obtain ⟨M', hM', hmok, -⟩ := sx_tok_m 297 sxm297 rfl rfl
  rw [sx_PL hM'] at h
  cases h
  exact hmok
theorem sx_act (hK : sx_gK ρ sx_KK cst) (gB : sx_gB ρ sx_B7) : sx_Good cst ρ 753 := by
  have g2 : sx_GoodG cst ρ sx_t2 := sx_last sxc11c hK
  have g1 : sx_GoodG cst ρ sx_t1 := sx_chain sxc11b sx_mkn297 (fun f hf => by cases List.mem_singleton.mp hf; exact sx_mknL) g2 hK
  have g0 : sx_GoodG cst ρ (50, (sxmL, 753, sx_l0, []), [], sx_H0, sx_B7, 177, 288833) := sx_chain sxc11a sx_mkn297 (fun f hf => by cases List.mem_singleton.mp hf; exact sx_mknL) g1 hK
  intro l' h' gL gH
  exact g0 (mtL, 753, l', []) [] h' gB ⟨sx_mokL, rfl, gL, trivial⟩ trivial gH
theorem sx_parts_ok {k : Nat} : ∀ {ps : List Int} {B : sx_B}, sx_gB ρ B → ∃ B' ∈ sx_parts k ps B, sx_gB ρ B'
  | [], B, g => ⟨B, List.mem_singleton.mpr rfl, g⟩
  | p :: ps, B, g => by
    unfold sx_parts
    by_cases h : (ρ k).toInt ≤ p
    · obtain ⟨B', m, g'⟩ := sx_ref_ok (c := .le) (k := k) (cc := 0) (b := p) (q := (p, p)) g (Int.le_refl _) (Int.le_refl _) (by show _ ≤ _; omega)
      exact ⟨B', List.mem_append_left _ m, g'⟩
    · obtain ⟨B', m, g'⟩ := sx_ref_ok (c := .gt) (k := k) (cc := 0) (b := p) (q := (p, p)) g (Int.le_refl _) (Int.le_refl _) (by show _ < _; omega)
      obtain ⟨B'', m', g''⟩ := sx_parts_ok (ps := ps) g'
      exact ⟨B'', List.mem_append_right _ (List.mem_flatMap.mpr ⟨B', m, m'⟩), g''⟩
theorem sx_case58 (h : ∀ b ∈ [sx_b58_0_0, sx_b58_0_1, sx_b58_0_2, sx_b58_0_3, sx_b58_0_4, sx_b58_0_5, sx_b58_0_6, sx_b58_0_7, sx_b58_0_8, sx_b58_0_9, sx_b58_1_0, sx_b58_1_1, sx_b58_1_2, sx_b58_1_3, sx_b58_1_4, sx_b58_1_5, sx_b58_1_6, sx_b58_1_7, sx_b58_1_8, sx_b58_1_9, sx_b58_2_0, sx_b58_2_1, sx_b58_2_2, sx_b58_2_3, sx_b58_2_4, sx_b58_2_5, sx_b58_2_6, sx_b58_2_7, sx_b58_2_8, sx_b58_2_9, sx_b58_3_0, sx_b58_3_1, sx_b58_3_2, sx_b58_3_3, sx_b58_3_4, sx_b58_3_5, sx_b58_3_6, sx_b58_3_7, sx_b58_3_8, sx_b58_3_9, sx_b58_4_0, sx_b58_4_1, sx_b58_4_2, sx_b58_4_3, sx_b58_4_4, sx_b58_4_5, sx_b58_4_6, sx_b58_4_7, sx_b58_4_8, sx_b58_4_9, sx_b58_5_0, sx_b58_5_1, sx_b58_5_2, sx_b58_5_3, sx_b58_5_4, sx_b58_5_5, sx_b58_5_6, sx_b58_5_7, sx_b58_5_8, sx_b58_5_9, sx_b58_6_0, sx_b58_6_1, sx_b58_6_2, sx_b58_6_3, sx_b58_6_4, sx_b58_6_5, sx_b58_6_6, sx_b58_6_7, sx_b58_6_8, sx_b58_6_9, sx_b58_7_0, sx_b58_7_1, sx_b58_7_2, sx_b58_7_3, sx_b58_7_4, sx_b58_7_5, sx_b58_7_6, sx_b58_7_7, sx_b58_7_8, sx_b58_7_9], ∃ cs n, (sx_cuts cs b).all (sx_go n 2212) = true) (hK : sx_gK ρ sx_KK cst) (gB : sx_gB ρ sx_B7) : sx_Good cst ρ 2212 := by
  obtain ⟨b, hb, gb⟩ := sx_cut_ok (k := 1) (ps := [0, 1, 2, 3, 4, 5]) gB
  obtain ⟨b', hb', gb'⟩ := sx_parts_ok (k := 3) (ps := [0, 8, 16, 24, 32, 40, 48, 56, 63]) gb
  have hm : b' ∈ (sx_cut 1 [0, 1, 2, 3, 4, 5] sx_B7).flatMap (sx_parts 3 [0, 8, 16, 24, 32, 40, 48, 56, 63]) := List.mem_flatMap.mpr ⟨b, hb, hb'⟩
  rw [sxc58_b] at hm
  obtain ⟨cs, n, hc⟩ := h b' hm
  exact sx_case hc hK gb'
def sx_tg : List Nat := [320, 383, 406, 449, 472, 505, 548, 581, 624, 667, 710, 753, 786, 809, 842, 885, 928, 971, 1004, 1027, 1080, 1155, 1178, 1201, 1224, 1247, 1280, 1313, 1346, 1379, 1402, 1435, 1468, 1491, 1514, 1547, 1570, 1593, 1616, 1639, 1678, 1721, 1744, 1777, 1800, 1823, 1856, 1889, 1952, 1985, 2018, 2051, 2064, 2087, 2110, 2133, 2156, 2179, 2212, 2265, 2298, 2331, 2354, 2367, 2400, 2443, 2486, 2509, 2532]
theorem sx_goods (hK : sx_gK ρ sx_KK cst) (gB : sx_gB ρ sx_B7) : ∀ t ∈ sx_tg, sx_Good cst ρ t := by
  intro t ht
  simp only [sx_tg, List.mem_cons, List.not_mem_nil, or_false] at ht
  rcases ht with rfl | rfl | rfl | rfl | rfl | rfl | rfl | rfl | rfl | rfl | rfl | rfl | rfl | rfl | rfl | rfl | rfl | rfl | rfl | rfl | rfl | rfl | rfl | rfl | rfl | rfl | rfl | rfl | rfl | rfl | rfl | rfl | rfl | rfl | rfl | rfl | rfl | rfl | rfl | rfl | rfl | rfl | rfl | rfl | rfl | rfl | rfl | rfl | rfl | rfl | rfl | rfl | rfl | rfl | rfl | rfl | rfl | rfl | rfl | rfl | rfl | rfl | rfl | rfl | rfl | rfl | rfl | rfl | rfl
  · exact sx_case sxc0 hK gB
  · exact sx_case sxc1 hK gB
  · exact sx_case sxc2 hK gB
  · exact sx_case sxc3 hK gB
  · exact sx_case sxc4 hK gB
  · exact sx_case sxc5 hK gB
  · exact sx_case sxc6 hK gB
  · exact sx_case sxc7 hK gB
  · exact sx_case sxc8 hK gB
  · exact sx_case sxc9 hK gB
  · exact sx_case sxc10 hK gB
  · exact sx_act hK gB
  · exact sx_case sxc12 hK gB
  · exact sx_case sxc13 hK gB
  · exact sx_case sxc14 hK gB
  · exact sx_case sxc15 hK gB
  · exact sx_case sxc16 hK gB
  · exact sx_case sxc17 hK gB
  · exact sx_case sxc18 hK gB
  · exact sx_case sxc19 hK gB
  · exact sx_case sxc20 hK gB
  · exact sx_case sxc21 hK gB
  · exact sx_case sxc22 hK gB
  · exact sx_case sxc23 hK gB
  · exact sx_case sxc24 hK gB
  · exact sx_case sxc25 hK gB
  · exact sx_case sxc26 hK gB
  · exact sx_case sxc27 hK gB
  · exact sx_case sxc28 hK gB
  · exact sx_case sxc29 hK gB
  · exact sx_case sxc30 hK gB
  · exact sx_case sxc31 hK gB
  · exact sx_case sxc32 hK gB
  · exact sx_case sxc33 hK gB
  · exact sx_case sxc34 hK gB
  · exact sx_case sxc35 hK gB
  · exact sx_case sxc36 hK gB
  · exact sx_case sxc37 hK gB
  · exact sx_case sxc38 hK gB
  · exact sx_case sxc39 hK gB
  · exact sx_case sxc40 hK gB
  · exact sx_case sxc41 hK gB
  · exact sx_case sxc42 hK gB
  · exact sx_case sxc43 hK gB
  · exact sx_case sxc44 hK gB
  · exact sx_case sxc45 hK gB
  · exact sx_case sxc46 hK gB
  · exact sx_case sxc47 hK gB
  · exact sx_case sxc48 hK gB
  · exact sx_case sxc49 hK gB
  · exact sx_case sxc50 hK gB
  · exact sx_case sxc51 hK gB
  · exact sx_case sxc52 hK gB
  · exact sx_case sxc53 hK gB
  · exact sx_case sxc54 hK gB
  · exact sx_case sxc55 hK gB
  · exact sx_case sxc56 hK gB
  · exact sx_case sxc57 hK gB
  · refine sx_case58 (fun b hb => ?_) hK gB
    simp only [List.mem_cons, List.not_mem_nil, or_false] at hb
    rcases hb with rfl | rfl | rfl | rfl | rfl | rfl | rfl | rfl | rfl | rfl | rfl | rfl | rfl | rfl | rfl | rfl | rfl | rfl | rfl | rfl | rfl | rfl | rfl | rfl | rfl | rfl | rfl | rfl | rfl | rfl | rfl | rfl | rfl | rfl | rfl | rfl | rfl | rfl | rfl | rfl | rfl | rfl | rfl | rfl | rfl | rfl | rfl | rfl | rfl | rfl | rfl | rfl | rfl | rfl | rfl | rfl | rfl | rfl | rfl | rfl | rfl | rfl | rfl | rfl | rfl | rfl | rfl | rfl | rfl | rfl | rfl | rfl | rfl | rfl | rfl | rfl | rfl | rfl | rfl | rfl
    · exact ⟨_, _, sxc58_0_0⟩
    · exact ⟨_, _, sxc58_0_1⟩
    · exact ⟨_, _, sxc58_0_2⟩
    · exact ⟨_, _, sxc58_0_3⟩
    · exact ⟨_, _, sxc58_0_4⟩
    · exact ⟨_, _, sxc58_0_5⟩
    · exact ⟨_, _, sxc58_0_6⟩
    · exact ⟨_, _, sxc58_0_7⟩
    · exact ⟨_, _, sxc58_0_8⟩
    · exact ⟨_, _, sxc58_0_9⟩
    · exact ⟨_, _, sxc58_1_0⟩
    · exact ⟨_, _, sxc58_1_1⟩
    · exact ⟨_, _, sxc58_1_2⟩
    · exact ⟨_, _, sxc58_1_3⟩
    · exact ⟨_, _, sxc58_1_4⟩
    · exact ⟨_, _, sxc58_1_5⟩
    · exact ⟨_, _, sxc58_1_6⟩
    · exact ⟨_, _, sxc58_1_7⟩
    · exact ⟨_, _, sxc58_1_8⟩
    · exact ⟨_, _, sxc58_1_9⟩
    · exact ⟨_, _, sxc58_2_0⟩
    · exact ⟨_, _, sxc58_2_1⟩
    · exact ⟨_, _, sxc58_2_2⟩
    · exact ⟨_, _, sxc58_2_3⟩
    · exact ⟨_, _, sxc58_2_4⟩
    · exact ⟨_, _, sxc58_2_5⟩
    · exact ⟨_, _, sxc58_2_6⟩
    · exact ⟨_, _, sxc58_2_7⟩
    · exact ⟨_, _, sxc58_2_8⟩
    · exact ⟨_, _, sxc58_2_9⟩
    · exact ⟨_, _, sxc58_3_0⟩
    · exact ⟨_, _, sxc58_3_1⟩
    · exact ⟨_, _, sxc58_3_2⟩
    · exact ⟨_, _, sxc58_3_3⟩
    · exact ⟨_, _, sxc58_3_4⟩
    · exact ⟨_, _, sxc58_3_5⟩
    · exact ⟨_, _, sxc58_3_6⟩
    · exact ⟨_, _, sxc58_3_7⟩
    · exact ⟨_, _, sxc58_3_8⟩
    · exact ⟨_, _, sxc58_3_9⟩
    · exact ⟨_, _, sxc58_4_0⟩
    · exact ⟨_, _, sxc58_4_1⟩
    · exact ⟨_, _, sxc58_4_2⟩
    · exact ⟨_, _, sxc58_4_3⟩
    · exact ⟨_, _, sxc58_4_4⟩
    · exact ⟨_, _, sxc58_4_5⟩
    · exact ⟨_, _, sxc58_4_6⟩
    · exact ⟨_, _, sxc58_4_7⟩
    · exact ⟨_, _, sxc58_4_8⟩
    · exact ⟨_, _, sxc58_4_9⟩
    · exact ⟨_, _, sxc58_5_0⟩
    · exact ⟨_, _, sxc58_5_1⟩
    · exact ⟨_, _, sxc58_5_2⟩
    · exact ⟨_, _, sxc58_5_3⟩
    · exact ⟨_, _, sxc58_5_4⟩
    · exact ⟨_, _, sxc58_5_5⟩
    · exact ⟨_, _, sxc58_5_6⟩
    · exact ⟨_, _, sxc58_5_7⟩
    · exact ⟨_, _, sxc58_5_8⟩
    · exact ⟨_, _, sxc58_5_9⟩
    · exact ⟨_, _, sxc58_6_0⟩
    · exact ⟨_, _, sxc58_6_1⟩
    · exact ⟨_, _, sxc58_6_2⟩
    · exact ⟨_, _, sxc58_6_3⟩
    · exact ⟨_, _, sxc58_6_4⟩
    · exact ⟨_, _, sxc58_6_5⟩
    · exact ⟨_, _, sxc58_6_6⟩
    · exact ⟨_, _, sxc58_6_7⟩
    · exact ⟨_, _, sxc58_6_8⟩
    · exact ⟨_, _, sxc58_6_9⟩
    · exact ⟨_, _, sxc58_7_0⟩
    · exact ⟨_, _, sxc58_7_1⟩
    · exact ⟨_, _, sxc58_7_2⟩
    · exact ⟨_, _, sxc58_7_3⟩
    · exact ⟨_, _, sxc58_7_4⟩
    · exact ⟨_, _, sxc58_7_5⟩
    · exact ⟨_, _, sxc58_7_6⟩
    · exact ⟨_, _, sxc58_7_7⟩
    · exact ⟨_, _, sxc58_7_8⟩
    · exact ⟨_, _, sxc58_7_9⟩
  · exact sx_case sxc59 hK gB
  · exact sx_case sxc60 hK gB
  · exact sx_case sxc61 hK gB
  · exact sx_case sxc62 hK gB
  · exact sx_case sxc63 hK gB
  · exact sx_case sxc64 hK gB
  · exact sx_case sxc65 hK gB
  · exact sx_case sxc66 hK gB
  · exact sx_case sxc67 hK gB
  · exact sx_case sxc68 hK gB
def sx_swb (o : Option (Instr × am_X)) : Bool := match o with
  | some (.tableswitch d lo hi offs, _) => decide (am_j 33 d = some 2532) && (sx_eq lo 0 && (sx_eq hi 67 && (List.range 68).all fun i => match offs.toList[i]? with
    | some off => (match am_j 33 off with
      | some t => decide (t ∈ sx_tg)
      | none => false)
    | none => false))
  | _ => false
set_option maxRecDepth 1000000 in
theorem sx_swc : sx_swb (am_find 33 mtL.2.2.2.2) = true := by decide +kernel
theorem sx_sw : ∃ dflt offs X, am_find 33 mtL.2.2.2.2 = some (.tableswitch dflt 0 67 offs, X) ∧ am_j 33 dflt = some 2532 ∧ ∀ i, i < 68 → ∃ off t, offs[i]? = some off ∧ am_j 33 off = some t ∧ t ∈ sx_tg := by
  have h := sx_swc
  unfold sx_swb at h
  split at h
  · rename_i d lo hi offs X e
    simp only [Bool.and_eq_true, decide_eq_true_eq, sx_eq_iff] at h
    obtain ⟨h1, rfl, rfl, h4⟩ := h
    refine ⟨d, offs, X, e, h1, fun i hi => ?_⟩
    have := List.all_eq_true.mp h4 i (List.mem_range.mpr hi)
    split at this
    · rename_i off hoff
      split at this
      · rename_i t ht
        exact ⟨off, t, by rw [← Array.getElem?_toList]; exact hoff, ht, of_decide_eq_true this⟩
      · cases this
    · cases this
  · cases h
theorem sx_switch {l' : am_L} {x : Int32} {h' : am_H} (hg : ∀ t ∈ sx_tg, sx_Fin cst m_cl m_tt m_P m_strs sx_Phi [] 50 (mtL, t, l', []) h' 177 288833) : sx_Fin cst m_cl m_tt m_P m_strs sx_Phi [] 50 (mtL, 33, l', [.int x]) h' 177 288833 := by
  obtain ⟨dflt, offs, X, hf, hd, ho⟩ := sx_sw
  by_cases hx : x.toInt < 0 ∨ 67 < x.toInt
  · refine sx_Fin_step (f1 := (mtL, 2532, l', [])) rfl (fun n r hgo => ⟨_, X, hf, Or.inl ⟨(2532, l', [], h'), ?_, hgo⟩⟩) (hg 2532 (by decide))
    simp only [am_s, if_pos hx, hd]
  · obtain ⟨off, t, h1, h2, h3⟩ := ho (x.toInt - 0).toNat (by omega)
    refine sx_Fin_step (f1 := (mtL, t, l', [])) rfl (fun n r hgo => ⟨_, X, hf, Or.inl ⟨(t, l', [], h'), ?_, hgo⟩⟩) (hg t h3)
    simp only [am_s, if_neg hx, h1, h2]
/-- the law, over every script of at most seven ints -/
theorem sx_law (hK : sx_gK ρ sx_KK cst) : ∃ n r, am_Go cst m_cl m_tt m_P m_strs (am_Run cst m_cl m_tt m_P m_strs sx_bi 50) mtL n 0 (lv_args 0 [.ref 4]) [] [] r ∧ r.1 = some (.int 1) ∧ r.2.2.1 ≤ 600000 ∧ r.2.2.2 ≤ 7302249 := by
  have any : ∀ k, sx_min ≤ (ρ k).toInt ∧ (ρ k).toInt ≤ sx_max := by
    intro k
    obtain ⟨n, e, h1, h2, -⟩ := sx_g_top (ρ := ρ) (ρ k)
    cases e
    exact ⟨h1, h2⟩
  obtain ⟨-, ⟨S, s1, s2, s3, s4⟩, -, -⟩ := id hK
  have gB0 : sx_gB ρ sx_B0 := by
    intro k p hp
    match k, hp with
    | 0, hp => cases hp; exact any 0
    | 1, hp => cases hp; exact any 1
    | 2, hp => cases hp; exact any 2
    | 3, hp => cases hp; exact any 3
    | 4, hp => cases hp; exact any 4
    | 5, hp => cases hp; exact any 5
    | 6, hp => cases hp; exact any 6
    | 7, hp => cases hp; exact ⟨by show (0 : Int) ≤ _; omega, by show _ ≤ (7 : Int); omega⟩
    | n + 8, hp => cases hp
  have gH0 : sx_gH m_tt ρ [] ([], [], 0) [] := ⟨rfl, Nat.le_refl _, (fun i e he => by cases he), fun i hi => absurd hi (Nat.not_lt_zero i)⟩
  have key := sx_run_ok (P := m_P) (Φ := sx_Phi) (h0 := []) hK sx_tok_m sx_m_strs (Y := []) (fun _ h => by cases h) (fun g f' fs' h' hst hsp hsm gB gF gFs gH => ?_) sx_fin1_ok 30000 _ (mtL, 0, [(0, .ref 4)], []) [] [] sxcon gB0 ⟨sx_mokL, rfl, ⟨⟨rfl, Or.inl rfl⟩, trivial⟩, trivial⟩ trivial gH0
  · obtain ⟨n, r, hgo, h1, h2, h3⟩ := key
    simp only [Nat.zero_add] at h2 h3
    exact ⟨n, r, hgo, h1, h2, h3⟩
  · obtain ⟨M, pc', l', st'⟩ := f'
    obtain ⟨d, ⟨m, pc, l, st⟩, fs, h, B, c, s⟩ := g
    obtain ⟨hm, epc, gL, gS⟩ := gF
    simp only at epc gL gS hsp hsm
    subst hsp
    subst epc
    simp only [sx_stop1, Bool.and_eq_true, sx_beqn] at hst
    obtain ⟨e1, e2, e3, e4, e5, e6, e7, e8⟩ := hst
    subst e1
    subst e6
    subst e7
    have efs := List.isEmpty_iff.mp e2
    subst efs
    have efs' : fs' = [] := by
      match fs', gFs with
      | [], _ => rfl
    subst efs'
    have eM : M = mtL := by
      have := hm.1
      simp only at this
      rw [hsm, sx_L419] at this
      cases this
      rfl
    subst eM
    rw [sx_sameL_eq e4] at gL
    split at e3
    · obtain ⟨w, t, rfl, gv, gt⟩ := sx_gS_cons gS
      cases sx_gS_nil gt
      obtain ⟨x, rfl⟩ := sx_g_isI gv e3
      have gH' := sx_subH_ok e8 gH
      have gB' := sx_subB_ok e5 gB
      exact sx_switch (fun t ht => sx_goods hK gB' t ht l' h' gL gH')
    · cases e3
end SX9
