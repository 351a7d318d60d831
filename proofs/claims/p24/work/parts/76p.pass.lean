/-! PRINTED by wip/p2/hp_pass.py: the reference's pass, exactly -/
theorem pa0_k : hp_chk 387 0 2 [(0, (-2147483648), 0), (1, 0, 399)] [] [(0, .inr (.inr (.inl (some 94)))), (1, .inl (0, [(0, 1)]))] [] [(19977, (0, []), (0, [(1, 1)]))] [] 2 [] [([], 2, [(0, (-2147483648), 0), (1, 0, 399)], [], [], [.inl ((-2), [])], [(19977, (0, []), (0, [(1, 1)]))])] = true := by decide +kernel
theorem pa0 {cst : am_K} {strs : List Nat} {Φ : am_Q → Prop} {D : Nat} {M : am_M} {h : am_H} {l : am_L} (c : hp_C cst strs D) (hM : m_P[387]? = some M) (hD : (2 : Int) ≤ (D : Int) + 1) (hy : ly_hy m_tt ly_TH h) (x v : Int) (b0 : (-2147483648) ≤ x) (t0 : x ≤ 0) (b1 : 0 ≤ v) (t1 : v ≤ 399) (k0 : ly_hv cst h 19977 0 = some (v)) (l0 : hp_a l 0 94) (l1 : hp_i l 1 (x)) (r0 : ∀ (h' : am_H) (y0 : Int32), y0.toInt = (-2) → ly_hy m_tt ly_TH h' → ly_fr cst [] h h' → h.length ≤ h'.length → ly_hv cst h' 19977 0 = some (v) → Φ (some (.int y0), h', 0, 0)) : hp_F cst strs Φ D M 0 l [] h := by
  refine hp_arc c hM pa0_k hD [x, v] rfl hy (hp_Bc (z := x) rfl b0 t0 (hp_Bc (z := v) rfl b1 t1 hp_Bn)) hp_Fn (hp_Kc (zi := (0 + 0)) (zv := (0 + (1 * v + 0))) k0 rfl rfl (by omega) (by omega) hp_Kn) (hp_La l0 (hp_Li (z := (0 + (1 * x + 0))) l1 rfl (by omega) hp_Ln)) trivial ?_ ?_
  · intro p hp ys l' st' h' hys a1 a2 a3 gZ gL gS
    cases hp
  · intro p hp ys v h' hys a1 a2 a3 gZ gS
    rcases List.mem_cons.mp hp with rfl | hp
    · obtain rfl := hp_y0 hys
      cases v with
      | none => cases gS
      | some w =>
        obtain ⟨y0, t0, s0, q0, -⟩ := hp_gSi (z := ((-2) + 0)) gS rfl
        cases s0
        exact r0 h' y0 (by omega) a1 a2 a3 (hp_gK (zi := (0 + 0)) (zv := (0 + (1 * v + 0))) gZ.2.2.2 (List.mem_of_getElem? (i := 0) rfl) rfl rfl (by omega) (by omega))
    cases hp
theorem pa1_k : hp_chk 387 0 2 [(0, 101, 2147483647), (1, 0, 399)] [] [(0, .inr (.inr (.inl (some 94)))), (1, .inl (0, [(0, 1)]))] [] [(19977, (0, []), (0, [(1, 1)]))] [] 2 [] [([], 2, [(0, 101, 2147483647), (1, 0, 399)], [], [], [.inl ((-2), [])], [(19977, (0, []), (0, [(1, 1)]))])] = true := by decide +kernel
theorem pa1 {cst : am_K} {strs : List Nat} {Φ : am_Q → Prop} {D : Nat} {M : am_M} {h : am_H} {l : am_L} (c : hp_C cst strs D) (hM : m_P[387]? = some M) (hD : (2 : Int) ≤ (D : Int) + 1) (hy : ly_hy m_tt ly_TH h) (x v : Int) (b0 : 101 ≤ x) (t0 : x ≤ 2147483647) (b1 : 0 ≤ v) (t1 : v ≤ 399) (k0 : ly_hv cst h 19977 0 = some (v)) (l0 : hp_a l 0 94) (l1 : hp_i l 1 (x)) (r0 : ∀ (h' : am_H) (y0 : Int32), y0.toInt = (-2) → ly_hy m_tt ly_TH h' → ly_fr cst [] h h' → h.length ≤ h'.length → ly_hv cst h' 19977 0 = some (v) → Φ (some (.int y0), h', 0, 0)) : hp_F cst strs Φ D M 0 l [] h := by
  refine hp_arc c hM pa1_k hD [x, v] rfl hy (hp_Bc (z := x) rfl b0 t0 (hp_Bc (z := v) rfl b1 t1 hp_Bn)) hp_Fn (hp_Kc (zi := (0 + 0)) (zv := (0 + (1 * v + 0))) k0 rfl rfl (by omega) (by omega) hp_Kn) (hp_La l0 (hp_Li (z := (0 + (1 * x + 0))) l1 rfl (by omega) hp_Ln)) trivial ?_ ?_
  · intro p hp ys l' st' h' hys a1 a2 a3 gZ gL gS
    cases hp
  · intro p hp ys v h' hys a1 a2 a3 gZ gS
    rcases List.mem_cons.mp hp with rfl | hp
    · obtain rfl := hp_y0 hys
      cases v with
      | none => cases gS
      | some w =>
        obtain ⟨y0, t0, s0, q0, -⟩ := hp_gSi (z := ((-2) + 0)) gS rfl
        cases s0
        exact r0 h' y0 (by omega) a1 a2 a3 (hp_gK (zi := (0 + 0)) (zv := (0 + (1 * v + 0))) gZ.2.2.2 (List.mem_of_getElem? (i := 0) rfl) rfl rfl (by omega) (by omega))
    cases hp
theorem pa2_k : hp_chk 387 0 2 [(0, 1, 100), (1, 0, 399)] [((-400), [(0, 1), (1, 1)])] [(0, .inr (.inr (.inl (some 94)))), (1, .inl (0, [(0, 1)]))] [] [(19977, (0, []), (0, [(1, 1)]))] [] 2 [] [([], 2, [(0, 1, 100), (1, 0, 399)], [], [], [.inl ((-2), [])], [(19977, (0, []), (0, [(1, 1)]))])] = true := by decide +kernel
theorem pa2 {cst : am_K} {strs : List Nat} {Φ : am_Q → Prop} {D : Nat} {M : am_M} {h : am_H} {l : am_L} (c : hp_C cst strs D) (hM : m_P[387]? = some M) (hD : (2 : Int) ≤ (D : Int) + 1) (hy : ly_hy m_tt ly_TH h) (x v : Int) (b0 : 1 ≤ x) (t0 : x ≤ 100) (b1 : 0 ≤ v) (t1 : v ≤ 399) (f0 : 0 ≤ (v + x - 400)) (k0 : ly_hv cst h 19977 0 = some (v)) (l0 : hp_a l 0 94) (l1 : hp_i l 1 (x)) (r0 : ∀ (h' : am_H) (y0 : Int32), y0.toInt = (-2) → ly_hy m_tt ly_TH h' → ly_fr cst [] h h' → h.length ≤ h'.length → ly_hv cst h' 19977 0 = some (v) → Φ (some (.int y0), h', 0, 0)) : hp_F cst strs Φ D M 0 l [] h := by
  refine hp_arc c hM pa2_k hD [x, v] rfl hy (hp_Bc (z := x) rfl b0 t0 (hp_Bc (z := v) rfl b1 t1 hp_Bn)) (hp_Fc (z := ((-400) + (1 * x + (1 * v + 0)))) rfl (by omega) hp_Fn) (hp_Kc (zi := (0 + 0)) (zv := (0 + (1 * v + 0))) k0 rfl rfl (by omega) (by omega) hp_Kn) (hp_La l0 (hp_Li (z := (0 + (1 * x + 0))) l1 rfl (by omega) hp_Ln)) trivial ?_ ?_
  · intro p hp ys l' st' h' hys a1 a2 a3 gZ gL gS
    cases hp
  · intro p hp ys v h' hys a1 a2 a3 gZ gS
    rcases List.mem_cons.mp hp with rfl | hp
    · obtain rfl := hp_y0 hys
      cases v with
      | none => cases gS
      | some w =>
        obtain ⟨y0, t0, s0, q0, -⟩ := hp_gSi (z := ((-2) + 0)) gS rfl
        cases s0
        exact r0 h' y0 (by omega) a1 a2 a3 (hp_gK (zi := (0 + 0)) (zv := (0 + (1 * v + 0))) gZ.2.2.2 (List.mem_of_getElem? (i := 0) rfl) rfl rfl (by omega) (by omega))
    cases hp
theorem pa3_k : hp_chk 387 0 2 [(0, 1, 100), (1, 0, 399)] [(399, [(0, (-1)), (1, (-1))])] [(0, .inr (.inr (.inl (some 94)))), (1, .inl (0, [(0, 1)]))] [] [(19977, (0, []), (0, [(1, 1)]))] [19977] 2 [(37, ([], 2, [(0, 1, 100), (1, 0, 399)], [], [(0, .inr (.inr (.inl (some 94)))), (2, .inl (0, []))], [], [(19977, (0, []), (0, [(0, 1), (1, 1)]))]))] [] = true := by decide +kernel
theorem pa3 {cst : am_K} {strs : List Nat} {Φ : am_Q → Prop} {D : Nat} {M : am_M} {h : am_H} {l : am_L} (c : hp_C cst strs D) (hM : m_P[387]? = some M) (hD : (2 : Int) ≤ (D : Int) + 1) (hy : ly_hy m_tt ly_TH h) (x v : Int) (b0 : 1 ≤ x) (t0 : x ≤ 100) (b1 : 0 ≤ v) (t1 : v ≤ 399) (f0 : 0 ≤ (-v - x + 399)) (k0 : ly_hv cst h 19977 0 = some (v)) (l0 : hp_a l 0 94) (l1 : hp_i l 1 (x)) (e0 : ∀ (l' : am_L) (h' : am_H), ly_hy m_tt ly_TH h' → ly_fr cst [19977] h h' → h.length ≤ h'.length → ly_hv cst h' 19977 0 = some (v + x) → hp_a l' 0 94 → hp_i l' 2 0 → hp_F cst strs Φ D M 37 l' [] h') : hp_F cst strs Φ D M 0 l [] h := by
  refine hp_arc c hM pa3_k hD [x, v] rfl hy (hp_Bc (z := x) rfl b0 t0 (hp_Bc (z := v) rfl b1 t1 hp_Bn)) (hp_Fc (z := (399 + ((-1) * x + ((-1) * v + 0)))) rfl (by omega) hp_Fn) (hp_Kc (zi := (0 + 0)) (zv := (0 + (1 * v + 0))) k0 rfl rfl (by omega) (by omega) hp_Kn) (hp_La l0 (hp_Li (z := (0 + (1 * x + 0))) l1 rfl (by omega) hp_Ln)) trivial ?_ ?_
  · intro p hp ys l' st' h' hys a1 a2 a3 gZ gL gS
    rcases List.mem_cons.mp hp with rfl | hp
    · obtain rfl := hp_y0 hys
      cases hp_gSn gS
      exact e0 l' h' a1 a2 a3 (hp_gK (zi := (0 + 0)) (zv := (0 + (1 * x + (1 * v + 0)))) gZ.2.2.2 (List.mem_of_getElem? (i := 0) rfl) rfl rfl (by omega) (by omega)) (hp_gLa gL (List.mem_of_getElem? (i := 0) rfl) (by decide)) (hp_gLi (z := (0 + 0)) gL (List.mem_of_getElem? (i := 1) rfl) rfl (by omega))
    cases hp
  · intro p hp ys v h' hys a1 a2 a3 gZ gS
    cases hp
theorem pa4_k : hp_chk 387 37 3 [(0, 0, 399), (1, 0, 80), (2, 0, 80)] [((-1), [(1, (-1)), (2, 1)])] [(0, .inr (.inr (.inl (some 94)))), (2, .inl (0, [(1, 1)]))] [] [(19977, (0, []), (0, [(0, 1)])), (20073, (0, []), (0, [(2, 1)]))] [20053, 40704] 4 [(37, ([], 3, [(0, 0, 399), (1, 0, 80), (2, 0, 80)], [], [(0, .inr (.inr (.inl (some 94)))), (2, .inl (1, [(1, 1)]))], [], [(19977, (0, []), (0, [(0, 1)])), (20073, (0, []), (0, [(2, 1)]))]))] [] = true := by decide +kernel
theorem pa4 {cst : am_K} {strs : List Nat} {Φ : am_Q → Prop} {D : Nat} {M : am_M} {h : am_H} {l : am_L} (c : hp_C cst strs D) (hM : m_P[387]? = some M) (hD : (4 : Int) ≤ (D : Int) + 1) (hy : ly_hy m_tt ly_TH h) (c1 b m : Int) (b0 : 0 ≤ c1) (t0 : c1 ≤ 399) (b1 : 0 ≤ b) (t1 : b ≤ 80) (b2 : 0 ≤ m) (t2 : m ≤ 80) (f0 : 0 ≤ (m - b - 1)) (k0 : ly_hv cst h 19977 0 = some (c1)) (k1 : ly_hv cst h 20073 0 = some (m)) (l0 : hp_a l 0 94) (l2 : hp_i l 2 (b)) (e0 : ∀ (l' : am_L) (h' : am_H), ly_hy m_tt ly_TH h' → ly_fr cst [20053, 40704] h h' → h.length ≤ h'.length → ly_hv cst h' 19977 0 = some (c1) → ly_hv cst h' 20073 0 = some (m) → hp_a l' 0 94 → hp_i l' 2 (b + 1) → hp_F cst strs Φ D M 37 l' [] h') : hp_F cst strs Φ D M 37 l [] h := by
  refine hp_arc c hM pa4_k hD [c1, b, m] rfl hy (hp_Bc (z := c1) rfl b0 t0 (hp_Bc (z := b) rfl b1 t1 (hp_Bc (z := m) rfl b2 t2 hp_Bn))) (hp_Fc (z := ((-1) + ((-1) * b + (1 * m + 0)))) rfl (by omega) hp_Fn) (hp_Kc (zi := (0 + 0)) (zv := (0 + (1 * c1 + 0))) k0 rfl rfl (by omega) (by omega) (hp_Kc (zi := (0 + 0)) (zv := (0 + (1 * m + 0))) k1 rfl rfl (by omega) (by omega) hp_Kn)) (hp_La l0 (hp_Li (z := (0 + (1 * b + 0))) l2 rfl (by omega) hp_Ln)) trivial ?_ ?_
  · intro p hp ys l' st' h' hys a1 a2 a3 gZ gL gS
    rcases List.mem_cons.mp hp with rfl | hp
    · obtain rfl := hp_y0 hys
      cases hp_gSn gS
      exact e0 l' h' a1 a2 a3 (hp_gK (zi := (0 + 0)) (zv := (0 + (1 * c1 + 0))) gZ.2.2.2 (List.mem_of_getElem? (i := 0) rfl) rfl rfl (by omega) (by omega)) (hp_gK (zi := (0 + 0)) (zv := (0 + (1 * m + 0))) gZ.2.2.2 (List.mem_of_getElem? (i := 1) rfl) rfl rfl (by omega) (by omega)) (hp_gLa gL (List.mem_of_getElem? (i := 0) rfl) (by decide)) (hp_gLi (z := (1 + (1 * b + 0))) gL (List.mem_of_getElem? (i := 1) rfl) rfl (by omega))
    cases hp
  · intro p hp ys v h' hys a1 a2 a3 gZ gS
    cases hp
theorem pa5_k : hp_chk 387 37 2 [(0, 0, 399), (1, 0, 80)] [] [(0, .inr (.inr (.inl (some 94)))), (2, .inl (0, [(1, 1)]))] [] [(19977, (0, []), (0, [(0, 1)])), (20073, (0, []), (0, [(1, 1)]))] [] 2 [] [([], 2, [(0, 0, 399), (1, 0, 80)], [], [], [.inl (0, [(0, 1)])], [(19977, (0, []), (0, [(0, 1)]))])] = true := by decide +kernel
theorem pa5 {cst : am_K} {strs : List Nat} {Φ : am_Q → Prop} {D : Nat} {M : am_M} {h : am_H} {l : am_L} (c : hp_C cst strs D) (hM : m_P[387]? = some M) (hD : (2 : Int) ≤ (D : Int) + 1) (hy : ly_hy m_tt ly_TH h) (c1 m : Int) (b0 : 0 ≤ c1) (t0 : c1 ≤ 399) (b1 : 0 ≤ m) (t1 : m ≤ 80) (k0 : ly_hv cst h 19977 0 = some (c1)) (k1 : ly_hv cst h 20073 0 = some (m)) (l0 : hp_a l 0 94) (l2 : hp_i l 2 (m)) (r0 : ∀ (h' : am_H) (y0 : Int32), y0.toInt = (c1) → ly_hy m_tt ly_TH h' → ly_fr cst [] h h' → h.length ≤ h'.length → ly_hv cst h' 19977 0 = some (c1) → Φ (some (.int y0), h', 0, 0)) : hp_F cst strs Φ D M 37 l [] h := by
  refine hp_arc c hM pa5_k hD [c1, m] rfl hy (hp_Bc (z := c1) rfl b0 t0 (hp_Bc (z := m) rfl b1 t1 hp_Bn)) hp_Fn (hp_Kc (zi := (0 + 0)) (zv := (0 + (1 * c1 + 0))) k0 rfl rfl (by omega) (by omega) (hp_Kc (zi := (0 + 0)) (zv := (0 + (1 * m + 0))) k1 rfl rfl (by omega) (by omega) hp_Kn)) (hp_La l0 (hp_Li (z := (0 + (1 * m + 0))) l2 rfl (by omega) hp_Ln)) trivial ?_ ?_
  · intro p hp ys l' st' h' hys a1 a2 a3 gZ gL gS
    cases hp
  · intro p hp ys v h' hys a1 a2 a3 gZ gS
    rcases List.mem_cons.mp hp with rfl | hp
    · obtain rfl := hp_y0 hys
      cases v with
      | none => cases gS
      | some w =>
        obtain ⟨y0, t0, s0, q0, -⟩ := hp_gSi (z := (0 + (1 * c1 + 0))) gS rfl
        cases s0
        exact r0 h' y0 (by omega) a1 a2 a3 (hp_gK (zi := (0 + 0)) (zv := (0 + (1 * c1 + 0))) gZ.2.2.2 (List.mem_of_getElem? (i := 0) rfl) rfl rfl (by omega) (by omega))
    cases hp
abbrev ps_mods : List Nat := [19977, 20053, 40704]
def ps_Φ (cst : am_K) (h0 : am_H) (y c1 : Int) (r : am_Q) : Prop := (∃ x : Int32, r.1 = some (.int x) ∧ x.toInt = y) ∧ r.2.2.1 = 0 ∧ r.2.2.2 = 0 ∧ ly_hy m_tt ly_TH r.2.1 ∧ ly_fr cst ps_mods h0 r.2.1 ∧ ly_hv cst r.2.1 19977 0 = some c1
theorem ps_sub {ms : List Nat} (h : ms.all (fun q => ly_has q ps_mods) = true) {cst : am_K} {a b : am_H} (f : ly_fr cst ms a b) : ly_fr cst ps_mods a b := by
  intro r i v hr e
  refine f r i v ?_ e
  cases hh : ly_has r ms with
  | false => rfl
  | true =>
    unfold ly_has at hh
    obtain ⟨q, hq, hqe⟩ := List.any_eq_true.mp hh
    have := List.all_eq_true.mp h q hq
    rw [← sx_beqn.mp hqe, this] at hr
    cases hr
theorem ps_bonds {cst : am_K} {h : am_H} (hy : ly_hy m_tt ly_TH h) : ∃ m, ly_hv cst h 20073 0 = some m ∧ 0 ≤ m ∧ m ≤ 80 := by
  have ht : ∃ fs, ly_ths ly_TH 78 = some (.inr (12, fs)) ∧ sx_ch 8 105 fs = some (.inl (0, 80)) := ⟨_, rfl, rfl⟩
  obtain ⟨fs, ht, hf⟩ := ht
  obtain ⟨x, hx, vs, rfl, -, hvs⟩ := hy.2.1 _ _ ht
  obtain ⟨w, hw, n, rfl, n0, n1⟩ := hvs _ _ hf
  refine ⟨n.toInt, ?_, n0, n1⟩
  rw [ly_hv0 (by decide), show 20073 = 256 * 78 + 105 from rfl, ly_h0_of1 (by decide) (by decide), hx]
  simp only [ly_hs]
  rw [if_pos trivial, hw]
theorem ps_loop {cst : am_K} {strs : List Nat} {D : Nat} {M : am_M} {h0 : am_H} (c : hp_C cst strs D) (hM : m_P[387]? = some M) (hD : (4 : Int) ≤ (D : Int) + 1) {c1 m : Int} (c0 : 0 ≤ c1) (c2 : c1 ≤ 399) (m0 : 0 ≤ m) (m1 : m ≤ 80) : ∀ (N : Nat) (h : am_H) (l : am_L) (b : Int), (m - b).toNat < N → 0 ≤ b → b ≤ m → ly_hy m_tt ly_TH h → ly_fr cst ps_mods h0 h → ly_hv cst h 19977 0 = some c1 → ly_hv cst h 20073 0 = some m → hp_a l 0 94 → hp_i l 2 b → hp_F cst strs (ps_Φ cst h0 c1 c1) D M 37 l [] h := by
  intro N
  induction N with
  | zero => intro h l b hN; omega
  | succ N ih =>
    intro h l b hN b0 b1 hy fr kc km l0 l2
    by_cases hb : b = m
    · subst hb
      exact pa5 c hM (by omega) hy c1 b c0 c2 m0 m1 kc km l0 l2 (fun h' x hx u1 u2 u3 k1 => ⟨⟨x, rfl, hx⟩, rfl, rfl, u1, ly_fr_tr fr (ps_sub rfl u2), k1⟩)
    · exact pa4 c hM hD hy c1 b m c0 c2 b0 (by omega) m0 m1 (by omega) kc km l0 l2 (fun l' h' u1 u2 u3 k1 k2 v0 v2 => ih h' l' (b + 1) (by omega) (by omega) (by omega) u1 (ly_fr_tr fr (ps_sub rfl u2)) k1 k2 v0 v2)
theorem ps_run {cst : am_K} {strs : List Nat} {D : Nat} {h : am_H} (c : hp_C cst strs D) (hD : (4 : Int) ≤ (D : Int) + 1) (hy : ly_hy m_tt ly_TH h) {x : Int32} {v : Int} (v0 : 0 ≤ v) (v1 : v ≤ 399) (kc : ly_hv cst h 19977 0 = some v) :
    ∃ r, am_Run cst m_cl m_tt m_P strs sx_bi (D + 1) 387 [.ref 94, .int x] h r ∧ ps_Φ cst h (if 1 ≤ x.toInt ∧ x.toInt ≤ 100 ∧ v + x.toInt ≤ 399 then v + x.toInt else -2) (if 1 ≤ x.toInt ∧ x.toInt ≤ 100 ∧ v + x.toInt ≤ 399 then v + x.toInt else v) r := by
  obtain ⟨M, hM, hl⟩ := hp_M (mi := 387) (k := 2) (by decide +kernel)
  have x0 := x.le_toInt
  have x1 := x.toInt_le
  have go : hp_F cst strs (ps_Φ cst h (if 1 ≤ x.toInt ∧ x.toInt ≤ 100 ∧ v + x.toInt ≤ 399 then v + x.toInt else -2) (if 1 ≤ x.toInt ∧ x.toInt ≤ 100 ∧ v + x.toInt ≤ 399 then v + x.toInt else v)) D M 0 (lv_args 0 [.ref 94, .int x]) [] h := by
    by_cases q : 1 ≤ x.toInt ∧ x.toInt ≤ 100 ∧ v + x.toInt ≤ 399
    · rw [if_pos q, if_pos q]
      refine pa3 c hM (by omega) hy x.toInt v q.1 q.2.1 v0 v1 (by omega) kc rfl ⟨x, rfl, rfl⟩ (fun l' h' u1 u2 u3 k1 w0 w2 => ?_)
      obtain ⟨m, km, m0, m1⟩ := ps_bonds (cst := cst) u1
      exact ps_loop c hM hD (by omega) (by omega) m0 m1 ((m - 0).toNat + 1) h' l' 0 (Nat.lt_succ_self _) (by omega) m0 u1 (ps_sub rfl u2) k1 km w0 w2
    · rw [if_neg q, if_neg q]
      have fin : ∀ (h' : am_H) (z : Int32), z.toInt = -2 → ly_hy m_tt ly_TH h' → ly_fr cst [] h h' → h.length ≤ h'.length → ly_hv cst h' 19977 0 = some v → ps_Φ cst h (-2) v (some (.int z), h', 0, 0) := fun h' z hz u1 u2 u3 k1 => ⟨⟨z, rfl, hz⟩, rfl, rfl, u1, ps_sub rfl u2, k1⟩
      by_cases q1 : x.toInt ≤ 0
      · exact pa0 c hM (by omega) hy x.toInt v x0 q1 v0 v1 kc rfl ⟨x, rfl, rfl⟩ fin
      · by_cases q2 : 101 ≤ x.toInt
        · exact pa1 c hM (by omega) hy x.toInt v q2 x1 v0 v1 kc rfl ⟨x, rfl, rfl⟩ fin
        · exact pa2 c hM (by omega) hy x.toInt v (by omega) (by omega) v0 v1 (by omega) kc rfl ⟨x, rfl, rfl⟩ fin
  obtain ⟨n, r, hgo, hx, h1, h2, h3⟩ := go
  simp only [Nat.zero_add] at h1 h2
  exact ⟨r, Or.inr ⟨M, n, hM, hl, hgo⟩, hx, h1, h2, h3⟩
