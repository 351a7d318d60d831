/-! PRINTED by wip/p2/hp_rbody.py: readNumber, readStrike, readWords, isTold, readDeed of the reference, exactly -/
theorem ynA0_k : hq_chk [305] 317 0 5 [(0, 0, 39), (1, 0, 1), (2, (-1), 9999), (3, 0, 1200), (4, 0, 1)] [] [(0, .inr (.inr (.inl (some 94)))), (1, .inl (1200, [(0, 1)])), (2, .inl (0, [(1, 1)])), (3, .inl (0, [(2, 1)]))] [] [(19971, (0, []), (0, [(4, 1)])), (19973, (0, []), (0, [(3, 1)]))] [19990, 19991] 8 [] [([], 5, [(0, 0, 39), (1, 0, 1), (2, (-1), 9999), (3, 0, 1200), (4, 0, 1)], [], [], [.inl (0, [])], [(19990, (0, []), (1, [])), (19991, (0, []), (0, [(3, 1)]))])] = true := by decide +kernel
theorem ynA0 {cst : am_K} {strs : List Nat} {Φ : am_Q → Prop} {D : Nat} {M : am_M} {h : am_H} {l : am_L} (c : hp_C cst strs D) (hM : m_P[317]? = some M) (hD : (8 : Int) ≤ (D : Int) + 1) (hy : ly_hy m_tt ly_TH h) (k lo hi p q : Int) (b0 : 0 ≤ k) (t0 : k ≤ 39) (b1 : 0 ≤ lo) (t1 : lo ≤ 1) (b2 : (-1) ≤ hi) (t2 : hi ≤ 9999) (b3 : 0 ≤ p) (t3 : p ≤ 1200) (b4 : 0 ≤ q) (t4 : q ≤ 1) (k0 : ly_hv cst h 19971 0 = some (q)) (k1 : ly_hv cst h 19973 0 = some (p)) (l0 : hp_a l 0 94) (l1 : hp_i l 1 (k + 1200)) (l2 : hp_i l 2 (lo)) (l3 : hp_i l 3 (hi)) (r0 : ∀ (h' : am_H) (y0 : Int32), y0.toInt = 0 → ly_hy m_tt ly_TH h' → ly_fr cst [19990, 19991] h h' → h.length ≤ h'.length → ly_hv cst h' 19990 0 = some 1 → ly_hv cst h' 19991 0 = some (p) → Φ (some (.int y0), h', 0, 0)) : hp_F cst strs Φ D M 0 l [] h := by
  refine hq_arc c hM ynA0_k hD [k, lo, hi, p, q] rfl hy (hp_Bc (z := k) rfl b0 t0 (hp_Bc (z := lo) rfl b1 t1 (hp_Bc (z := hi) rfl b2 t2 (hp_Bc (z := p) rfl b3 t3 (hp_Bc (z := q) rfl b4 t4 hp_Bn))))) hp_Fn (hp_Kc (zi := (0 + 0)) (zv := (0 + (1 * q + 0))) k0 rfl rfl (by omega) (by omega) (hp_Kc (zi := (0 + 0)) (zv := (0 + (1 * p + 0))) k1 rfl rfl (by omega) (by omega) hp_Kn)) (hp_La l0 (hp_Li (z := (1200 + (1 * k + 0))) l1 rfl (by omega) (hp_Li (z := (0 + (1 * lo + 0))) l2 rfl (by omega) (hp_Li (z := (0 + (1 * hi + 0))) l3 rfl (by omega) hp_Ln)))) trivial ?_ ?_
  · intro p hp ys l' st' h' hys a1 a2 a3 gZ gL gS
    cases hp
  · intro p hp ys v h' hys a1 a2 a3 gZ gS
    rcases List.mem_cons.mp hp with rfl | hp
    · obtain rfl := hp_y0 hys
      cases v with
      | none => cases gS
      | some w =>
        obtain ⟨y0, t0, s0, q0, -⟩ := hp_gSi (z := (0 + 0)) gS rfl
        cases s0
        exact r0 h' y0 (by omega) a1 a2 a3 (hp_gK (zi := (0 + 0)) (zv := (1 + 0)) gZ.2.2.2 (List.mem_of_getElem? (i := 0) rfl) rfl rfl (by omega) (by omega)) (hp_gK (zi := (0 + 0)) (zv := (0 + (1 * p + 0))) gZ.2.2.2 (List.mem_of_getElem? (i := 1) rfl) rfl rfl (by omega) (by omega))
    cases hp
theorem ynA1_k : hq_chk [305] 317 0 5 [(0, 0, 39), (1, 0, 1), (2, (-1), 9999), (3, 0, 1200), (4, 3, 8)] [] [(0, .inr (.inr (.inl (some 94)))), (1, .inl (1200, [(0, 1)])), (2, .inl (0, [(1, 1)])), (3, .inl (0, [(2, 1)]))] [] [(19971, (0, []), (0, [(4, 1)])), (19973, (0, []), (0, [(3, 1)]))] [19990, 19991] 8 [] [([], 5, [(0, 0, 39), (1, 0, 1), (2, (-1), 9999), (3, 0, 1200), (4, 3, 8)], [], [], [.inl (0, [])], [(19990, (0, []), (1, [])), (19991, (0, []), (0, [(3, 1)]))])] = true := by decide +kernel
theorem ynA1 {cst : am_K} {strs : List Nat} {Φ : am_Q → Prop} {D : Nat} {M : am_M} {h : am_H} {l : am_L} (c : hp_C cst strs D) (hM : m_P[317]? = some M) (hD : (8 : Int) ≤ (D : Int) + 1) (hy : ly_hy m_tt ly_TH h) (k lo hi p q : Int) (b0 : 0 ≤ k) (t0 : k ≤ 39) (b1 : 0 ≤ lo) (t1 : lo ≤ 1) (b2 : (-1) ≤ hi) (t2 : hi ≤ 9999) (b3 : 0 ≤ p) (t3 : p ≤ 1200) (b4 : 3 ≤ q) (t4 : q ≤ 8) (k0 : ly_hv cst h 19971 0 = some (q)) (k1 : ly_hv cst h 19973 0 = some (p)) (l0 : hp_a l 0 94) (l1 : hp_i l 1 (k + 1200)) (l2 : hp_i l 2 (lo)) (l3 : hp_i l 3 (hi)) (r0 : ∀ (h' : am_H) (y0 : Int32), y0.toInt = 0 → ly_hy m_tt ly_TH h' → ly_fr cst [19990, 19991] h h' → h.length ≤ h'.length → ly_hv cst h' 19990 0 = some 1 → ly_hv cst h' 19991 0 = some (p) → Φ (some (.int y0), h', 0, 0)) : hp_F cst strs Φ D M 0 l [] h := by
  refine hq_arc c hM ynA1_k hD [k, lo, hi, p, q] rfl hy (hp_Bc (z := k) rfl b0 t0 (hp_Bc (z := lo) rfl b1 t1 (hp_Bc (z := hi) rfl b2 t2 (hp_Bc (z := p) rfl b3 t3 (hp_Bc (z := q) rfl b4 t4 hp_Bn))))) hp_Fn (hp_Kc (zi := (0 + 0)) (zv := (0 + (1 * q + 0))) k0 rfl rfl (by omega) (by omega) (hp_Kc (zi := (0 + 0)) (zv := (0 + (1 * p + 0))) k1 rfl rfl (by omega) (by omega) hp_Kn)) (hp_La l0 (hp_Li (z := (1200 + (1 * k + 0))) l1 rfl (by omega) (hp_Li (z := (0 + (1 * lo + 0))) l2 rfl (by omega) (hp_Li (z := (0 + (1 * hi + 0))) l3 rfl (by omega) hp_Ln)))) trivial ?_ ?_
  · intro p hp ys l' st' h' hys a1 a2 a3 gZ gL gS
    cases hp
  · intro p hp ys v h' hys a1 a2 a3 gZ gS
    rcases List.mem_cons.mp hp with rfl | hp
    · obtain rfl := hp_y0 hys
      cases v with
      | none => cases gS
      | some w =>
        obtain ⟨y0, t0, s0, q0, -⟩ := hp_gSi (z := (0 + 0)) gS rfl
        cases s0
        exact r0 h' y0 (by omega) a1 a2 a3 (hp_gK (zi := (0 + 0)) (zv := (1 + 0)) gZ.2.2.2 (List.mem_of_getElem? (i := 0) rfl) rfl rfl (by omega) (by omega)) (hp_gK (zi := (0 + 0)) (zv := (0 + (1 * p + 0))) gZ.2.2.2 (List.mem_of_getElem? (i := 1) rfl) rfl rfl (by omega) (by omega))
    cases hp
theorem ynB_k : hq_chk [305, 273] 317 0 5 [(0, 0, 39), (1, 0, 1), (2, (-1), 9999), (3, 0, 1200), (4, 0, 9999)] [((-1), [(1, 1), (4, (-1))])] [(0, .inr (.inr (.inl (some 94)))), (1, .inl (1200, [(0, 1)])), (2, .inl (0, [(1, 1)])), (3, .inl (0, [(2, 1)]))] [] [(19971, (0, []), (2, [])), (19973, (0, []), (0, [(3, 1)])), (19975, (0, []), (0, [(4, 1)]))] [19990, 19991] 8 [] [([], 5, [(0, 0, 39), (1, 0, 1), (2, (-1), 9999), (3, 0, 1200), (4, 0, 9999)], [], [], [.inl (0, [])], [(19990, (0, []), (2, [])), (19991, (0, []), (0, [(3, 1)]))])] = true := by decide +kernel
theorem ynB {cst : am_K} {strs : List Nat} {Φ : am_Q → Prop} {D : Nat} {M : am_M} {h : am_H} {l : am_L} (c : hp_C cst strs D) (hM : m_P[317]? = some M) (hD : (8 : Int) ≤ (D : Int) + 1) (hy : ly_hy m_tt ly_TH h) (k lo hi p x : Int) (b0 : 0 ≤ k) (t0 : k ≤ 39) (b1 : 0 ≤ lo) (t1 : lo ≤ 1) (b2 : (-1) ≤ hi) (t2 : hi ≤ 9999) (b3 : 0 ≤ p) (t3 : p ≤ 1200) (b4 : 0 ≤ x) (t4 : x ≤ 9999) (f0 : 0 ≤ (lo - x - 1)) (k0 : ly_hv cst h 19971 0 = some 2) (k1 : ly_hv cst h 19973 0 = some (p)) (k2 : ly_hv cst h 19975 0 = some (x)) (l0 : hp_a l 0 94) (l1 : hp_i l 1 (k + 1200)) (l2 : hp_i l 2 (lo)) (l3 : hp_i l 3 (hi)) (r0 : ∀ (h' : am_H) (y0 : Int32), y0.toInt = 0 → ly_hy m_tt ly_TH h' → ly_fr cst [19990, 19991] h h' → h.length ≤ h'.length → ly_hv cst h' 19990 0 = some 2 → ly_hv cst h' 19991 0 = some (p) → Φ (some (.int y0), h', 0, 0)) : hp_F cst strs Φ D M 0 l [] h := by
  refine hq_arc c hM ynB_k hD [k, lo, hi, p, x] rfl hy (hp_Bc (z := k) rfl b0 t0 (hp_Bc (z := lo) rfl b1 t1 (hp_Bc (z := hi) rfl b2 t2 (hp_Bc (z := p) rfl b3 t3 (hp_Bc (z := x) rfl b4 t4 hp_Bn))))) (hp_Fc (z := ((-1) + (1 * lo + ((-1) * x + 0)))) rfl (by omega) hp_Fn) (hp_Kc (zi := (0 + 0)) (zv := (2 + 0)) k0 rfl rfl (by omega) (by omega) (hp_Kc (zi := (0 + 0)) (zv := (0 + (1 * p + 0))) k1 rfl rfl (by omega) (by omega) (hp_Kc (zi := (0 + 0)) (zv := (0 + (1 * x + 0))) k2 rfl rfl (by omega) (by omega) hp_Kn))) (hp_La l0 (hp_Li (z := (1200 + (1 * k + 0))) l1 rfl (by omega) (hp_Li (z := (0 + (1 * lo + 0))) l2 rfl (by omega) (hp_Li (z := (0 + (1 * hi + 0))) l3 rfl (by omega) hp_Ln)))) trivial ?_ ?_
  · intro p hp ys l' st' h' hys a1 a2 a3 gZ gL gS
    cases hp
  · intro p hp ys v h' hys a1 a2 a3 gZ gS
    rcases List.mem_cons.mp hp with rfl | hp
    · obtain rfl := hp_y0 hys
      cases v with
      | none => cases gS
      | some w =>
        obtain ⟨y0, t0, s0, q0, -⟩ := hp_gSi (z := (0 + 0)) gS rfl
        cases s0
        exact r0 h' y0 (by omega) a1 a2 a3 (hp_gK (zi := (0 + 0)) (zv := (2 + 0)) gZ.2.2.2 (List.mem_of_getElem? (i := 0) rfl) rfl rfl (by omega) (by omega)) (hp_gK (zi := (0 + 0)) (zv := (0 + (1 * p + 0))) gZ.2.2.2 (List.mem_of_getElem? (i := 1) rfl) rfl rfl (by omega) (by omega))
    cases hp
theorem ynC_k : hq_chk [305, 273] 317 0 5 [(0, 0, 39), (1, 0, 1), (2, (-1), 9999), (3, 0, 1200), (4, 0, 9999)] [((-1), [(2, (-1)), (4, 1)])] [(0, .inr (.inr (.inl (some 94)))), (1, .inl (1200, [(0, 1)])), (2, .inl (0, [(1, 1)])), (3, .inl (0, [(2, 1)]))] [] [(19971, (0, []), (2, [])), (19973, (0, []), (0, [(3, 1)])), (19975, (0, []), (0, [(4, 1)]))] [19990, 19991] 8 [] [([], 5, [(0, 0, 39), (1, 0, 1), (2, (-1), 9999), (3, 0, 1200), (4, 0, 9999)], [], [], [.inl (0, [])], [(19990, (0, []), (2, [])), (19991, (0, []), (0, [(3, 1)]))])] = true := by decide +kernel
theorem ynC {cst : am_K} {strs : List Nat} {Φ : am_Q → Prop} {D : Nat} {M : am_M} {h : am_H} {l : am_L} (c : hp_C cst strs D) (hM : m_P[317]? = some M) (hD : (8 : Int) ≤ (D : Int) + 1) (hy : ly_hy m_tt ly_TH h) (k lo hi p x : Int) (b0 : 0 ≤ k) (t0 : k ≤ 39) (b1 : 0 ≤ lo) (t1 : lo ≤ 1) (b2 : (-1) ≤ hi) (t2 : hi ≤ 9999) (b3 : 0 ≤ p) (t3 : p ≤ 1200) (b4 : 0 ≤ x) (t4 : x ≤ 9999) (f0 : 0 ≤ (x - hi - 1)) (k0 : ly_hv cst h 19971 0 = some 2) (k1 : ly_hv cst h 19973 0 = some (p)) (k2 : ly_hv cst h 19975 0 = some (x)) (l0 : hp_a l 0 94) (l1 : hp_i l 1 (k + 1200)) (l2 : hp_i l 2 (lo)) (l3 : hp_i l 3 (hi)) (r0 : ∀ (h' : am_H) (y0 : Int32), y0.toInt = 0 → ly_hy m_tt ly_TH h' → ly_fr cst [19990, 19991] h h' → h.length ≤ h'.length → ly_hv cst h' 19990 0 = some 2 → ly_hv cst h' 19991 0 = some (p) → Φ (some (.int y0), h', 0, 0)) : hp_F cst strs Φ D M 0 l [] h := by
  refine hq_arc c hM ynC_k hD [k, lo, hi, p, x] rfl hy (hp_Bc (z := k) rfl b0 t0 (hp_Bc (z := lo) rfl b1 t1 (hp_Bc (z := hi) rfl b2 t2 (hp_Bc (z := p) rfl b3 t3 (hp_Bc (z := x) rfl b4 t4 hp_Bn))))) (hp_Fc (z := ((-1) + ((-1) * hi + (1 * x + 0)))) rfl (by omega) hp_Fn) (hp_Kc (zi := (0 + 0)) (zv := (2 + 0)) k0 rfl rfl (by omega) (by omega) (hp_Kc (zi := (0 + 0)) (zv := (0 + (1 * p + 0))) k1 rfl rfl (by omega) (by omega) (hp_Kc (zi := (0 + 0)) (zv := (0 + (1 * x + 0))) k2 rfl rfl (by omega) (by omega) hp_Kn))) (hp_La l0 (hp_Li (z := (1200 + (1 * k + 0))) l1 rfl (by omega) (hp_Li (z := (0 + (1 * lo + 0))) l2 rfl (by omega) (hp_Li (z := (0 + (1 * hi + 0))) l3 rfl (by omega) hp_Ln)))) trivial ?_ ?_
  · intro p hp ys l' st' h' hys a1 a2 a3 gZ gL gS
    cases hp
  · intro p hp ys v h' hys a1 a2 a3 gZ gS
    rcases List.mem_cons.mp hp with rfl | hp
    · obtain rfl := hp_y0 hys
      cases v with
      | none => cases gS
      | some w =>
        obtain ⟨y0, t0, s0, q0, -⟩ := hp_gSi (z := (0 + 0)) gS rfl
        cases s0
        exact r0 h' y0 (by omega) a1 a2 a3 (hp_gK (zi := (0 + 0)) (zv := (2 + 0)) gZ.2.2.2 (List.mem_of_getElem? (i := 0) rfl) rfl rfl (by omega) (by omega)) (hp_gK (zi := (0 + 0)) (zv := (0 + (1 * p + 0))) gZ.2.2.2 (List.mem_of_getElem? (i := 1) rfl) rfl rfl (by omega) (by omega))
    cases hp
theorem ynD_k : hq_chk [273] 317 0 4 [(0, 0, 39), (1, 0, 1), (2, (-1), 9999), (3, 0, 9999)] [(0, [(1, (-1)), (3, 1)]), (0, [(2, 1), (3, (-1))])] [(0, .inr (.inr (.inl (some 94)))), (1, .inl (1200, [(0, 1)])), (2, .inl (0, [(1, 1)])), (3, .inl (0, [(2, 1)]))] [] [(19971, (0, []), (2, [])), (19975, (0, []), (0, [(3, 1)]))] [] 8 [(41, ([], 4, [(0, 0, 39), (1, 0, 1), (2, (-1), 9999), (3, 0, 9999)], [], [(0, .inr (.inr (.inl (some 94)))), (1, .inl (1200, [(0, 1)])), (2, .inl (0, [(1, 1)])), (3, .inl (0, [(2, 1)]))], [.inl (0, [(3, 1)]), .inl (1200, [(0, 1)]), .inr (.inr (.inl (some 110)))], []))] [] = true := by decide +kernel
theorem ynD {cst : am_K} {strs : List Nat} {Φ : am_Q → Prop} {D : Nat} {M : am_M} {h : am_H} {l : am_L} (c : hp_C cst strs D) (hM : m_P[317]? = some M) (hD : (8 : Int) ≤ (D : Int) + 1) (hy : ly_hy m_tt ly_TH h) (k lo hi x : Int) (b0 : 0 ≤ k) (t0 : k ≤ 39) (b1 : 0 ≤ lo) (t1 : lo ≤ 1) (b2 : (-1) ≤ hi) (t2 : hi ≤ 9999) (b3 : 0 ≤ x) (t3 : x ≤ 9999) (f0 : 0 ≤ (x - lo)) (f1 : 0 ≤ (hi - x)) (k0 : ly_hv cst h 19971 0 = some 2) (k1 : ly_hv cst h 19975 0 = some (x)) (l0 : hp_a l 0 94) (l1 : hp_i l 1 (k + 1200)) (l2 : hp_i l 2 (lo)) (l3 : hp_i l 3 (hi)) (e0 : ∀ (l' : am_L) (h' : am_H) (y0 : Int32) (y1 : Int32), y0.toInt = (x) → y1.toInt = (k + 1200) → ly_hy m_tt ly_TH h' → ly_fr cst [] h h' → h.length ≤ h'.length → hp_a l' 0 94 → hp_i l' 1 (k + 1200) → hp_i l' 2 (lo) → hp_i l' 3 (hi) → hp_F cst strs Φ D M 41 l' [.int y0, .int y1, .ref 110] h') : hp_F cst strs Φ D M 0 l [] h := by
  refine hq_arc c hM ynD_k hD [k, lo, hi, x] rfl hy (hp_Bc (z := k) rfl b0 t0 (hp_Bc (z := lo) rfl b1 t1 (hp_Bc (z := hi) rfl b2 t2 (hp_Bc (z := x) rfl b3 t3 hp_Bn)))) (hp_Fc (z := (0 + ((-1) * lo + (1 * x + 0)))) rfl (by omega) (hp_Fc (z := (0 + (1 * hi + ((-1) * x + 0)))) rfl (by omega) hp_Fn)) (hp_Kc (zi := (0 + 0)) (zv := (2 + 0)) k0 rfl rfl (by omega) (by omega) (hp_Kc (zi := (0 + 0)) (zv := (0 + (1 * x + 0))) k1 rfl rfl (by omega) (by omega) hp_Kn)) (hp_La l0 (hp_Li (z := (1200 + (1 * k + 0))) l1 rfl (by omega) (hp_Li (z := (0 + (1 * lo + 0))) l2 rfl (by omega) (hp_Li (z := (0 + (1 * hi + 0))) l3 rfl (by omega) hp_Ln)))) trivial ?_ ?_
  · intro p hp ys l' st' h' hys a1 a2 a3 gZ gL gS
    rcases List.mem_cons.mp hp with rfl | hp
    · obtain rfl := hp_y0 hys
      obtain ⟨y0, t0, rfl, q0, g0⟩ := hp_gSi (z := (0 + (1 * x + 0))) gS rfl
      obtain ⟨y1, t1, rfl, q1, g1⟩ := hp_gSi (z := (1200 + (1 * k + 0))) g0 rfl
      obtain ⟨t2, rfl, g2⟩ := hp_gSa g1 (by decide)
      cases hp_gSn g2
      exact e0 l' h' y0 y1 (by omega) (by omega) a1 a2 a3 (hp_gLa gL (List.mem_of_getElem? (i := 0) rfl) (by decide)) (hp_gLi (z := (1200 + (1 * k + 0))) gL (List.mem_of_getElem? (i := 1) rfl) rfl (by omega)) (hp_gLi (z := (0 + (1 * lo + 0))) gL (List.mem_of_getElem? (i := 2) rfl) rfl (by omega)) (hp_gLi (z := (0 + (1 * hi + 0))) gL (List.mem_of_getElem? (i := 3) rfl) rfl (by omega))
    cases hp
  · intro p hp ys v h' hys a1 a2 a3 gZ gS
    cases hp
theorem ynE_k : hp_chk 317 42 3 [(0, 0, 39), (1, 0, 1), (2, (-1), 9999)] [] [(0, .inr (.inr (.inl (some 94)))), (1, .inl (1200, [(0, 1)])), (2, .inl (0, [(1, 1)])), (3, .inl (0, [(2, 1)]))] [] [] [] 8 [(43, ([], 3, [(0, 0, 39), (1, 0, 1), (2, (-1), 9999)], [], [(0, .inr (.inr (.inl (some 94)))), (1, .inl (1200, [(0, 1)])), (2, .inl (0, [(1, 1)])), (3, .inl (0, [(2, 1)]))], [.inr (.inr (.inl (some 94)))], []))] [] = true := by decide +kernel
theorem ynE {cst : am_K} {strs : List Nat} {Φ : am_Q → Prop} {D : Nat} {M : am_M} {h : am_H} {l : am_L} (c : hp_C cst strs D) (hM : m_P[317]? = some M) (hD : (8 : Int) ≤ (D : Int) + 1) (hy : ly_hy m_tt ly_TH h) (k lo hi : Int) (b0 : 0 ≤ k) (t0 : k ≤ 39) (b1 : 0 ≤ lo) (t1 : lo ≤ 1) (b2 : (-1) ≤ hi) (t2 : hi ≤ 9999) (l0 : hp_a l 0 94) (l1 : hp_i l 1 (k + 1200)) (l2 : hp_i l 2 (lo)) (l3 : hp_i l 3 (hi)) (e0 : ∀ (l' : am_L) (h' : am_H), ly_hy m_tt ly_TH h' → ly_fr cst [] h h' → h.length ≤ h'.length → hp_a l' 0 94 → hp_i l' 1 (k + 1200) → hp_i l' 2 (lo) → hp_i l' 3 (hi) → hp_F cst strs Φ D M 43 l' [.ref 94] h') : hp_F cst strs Φ D M 42 l [] h := by
  refine hp_arc c hM ynE_k hD [k, lo, hi] rfl hy (hp_Bc (z := k) rfl b0 t0 (hp_Bc (z := lo) rfl b1 t1 (hp_Bc (z := hi) rfl b2 t2 hp_Bn))) hp_Fn hp_Kn (hp_La l0 (hp_Li (z := (1200 + (1 * k + 0))) l1 rfl (by omega) (hp_Li (z := (0 + (1 * lo + 0))) l2 rfl (by omega) (hp_Li (z := (0 + (1 * hi + 0))) l3 rfl (by omega) hp_Ln)))) trivial ?_ ?_
  · intro p hp ys l' st' h' hys a1 a2 a3 gZ gL gS
    rcases List.mem_cons.mp hp with rfl | hp
    · obtain rfl := hp_y0 hys
      obtain ⟨t0, rfl, g0⟩ := hp_gSa gS (by decide)
      cases hp_gSn g0
      exact e0 l' h' a1 a2 a3 (hp_gLa gL (List.mem_of_getElem? (i := 0) rfl) (by decide)) (hp_gLi (z := (1200 + (1 * k + 0))) gL (List.mem_of_getElem? (i := 1) rfl) rfl (by omega)) (hp_gLi (z := (0 + (1 * lo + 0))) gL (List.mem_of_getElem? (i := 2) rfl) rfl (by omega)) (hp_gLi (z := (0 + (1 * hi + 0))) gL (List.mem_of_getElem? (i := 3) rfl) rfl (by omega))
    cases hp
  · intro p hp ys v h' hys a1 a2 a3 gZ gS
    cases hp
theorem ynF_k : hp_chk 317 46 0 [] [] [(0, .inr (.inr (.inl (some 94))))] [] [] [] 8 [] [([], 0, [], [], [], [.inl (1, [])], [])] = true := by decide +kernel
theorem ynF {cst : am_K} {strs : List Nat} {Φ : am_Q → Prop} {D : Nat} {M : am_M} {h : am_H} {l : am_L} (c : hp_C cst strs D) (hM : m_P[317]? = some M) (hD : (8 : Int) ≤ (D : Int) + 1) (hy : ly_hy m_tt ly_TH h) (l0 : hp_a l 0 94) (r0 : ∀ (h' : am_H) (y0 : Int32), y0.toInt = 1 → ly_hy m_tt ly_TH h' → ly_fr cst [] h h' → h.length ≤ h'.length → Φ (some (.int y0), h', 0, 0)) : hp_F cst strs Φ D M 46 l [] h := by
  refine hp_arc c hM ynF_k hD [] rfl hy hp_Bn hp_Fn hp_Kn (hp_La l0 hp_Ln) trivial ?_ ?_
  · intro p hp ys l' st' h' hys a1 a2 a3 gZ gL gS
    cases hp
  · intro p hp ys v h' hys a1 a2 a3 gZ gS
    rcases List.mem_cons.mp hp with rfl | hp
    · obtain rfl := hp_y0 hys
      cases v with
      | none => cases gS
      | some w =>
        obtain ⟨y0, t0, s0, q0, -⟩ := hp_gSi (z := (1 + 0)) gS rfl
        cases s0
        exact r0 h' y0 (by omega) a1 a2 a3
    cases hp
theorem ys0_k : hp_chk 318 0 2 [(0, 0, 39), (1, 0, 30)] [] [(0, .inr (.inr (.inl (some 94)))), (1, .inl (1200, [(0, 1)]))] [] [(19989, (0, []), (0, [(1, 1)]))] [] 8 [(9, ([], 2, [(0, 0, 39), (1, 0, 30)], [], [(0, .inr (.inr (.inl (some 94)))), (1, .inl (1200, [(0, 1)]))], [.inl ((-1), [(1, 1)]), .inl (0, []), .inl (1200, [(0, 1)]), .inr (.inr (.inl (some 94)))], []))] [] = true := by decide +kernel
theorem ys0 {cst : am_K} {strs : List Nat} {Φ : am_Q → Prop} {D : Nat} {M : am_M} {h : am_H} {l : am_L} (c : hp_C cst strs D) (hM : m_P[318]? = some M) (hD : (8 : Int) ≤ (D : Int) + 1) (hy : ly_hy m_tt ly_TH h) (k ac : Int) (b0 : 0 ≤ k) (t0 : k ≤ 39) (b1 : 0 ≤ ac) (t1 : ac ≤ 30) (k0 : ly_hv cst h 19989 0 = some (ac)) (l0 : hp_a l 0 94) (l1 : hp_i l 1 (k + 1200)) (e0 : ∀ (l' : am_L) (h' : am_H) (y0 : Int32) (y1 : Int32) (y2 : Int32), y0.toInt = (ac - 1) → y1.toInt = 0 → y2.toInt = (k + 1200) → ly_hy m_tt ly_TH h' → ly_fr cst [] h h' → h.length ≤ h'.length → hp_a l' 0 94 → hp_i l' 1 (k + 1200) → hp_F cst strs Φ D M 9 l' [.int y0, .int y1, .int y2, .ref 94] h') : hp_F cst strs Φ D M 0 l [] h := by
  refine hp_arc c hM ys0_k hD [k, ac] rfl hy (hp_Bc (z := k) rfl b0 t0 (hp_Bc (z := ac) rfl b1 t1 hp_Bn)) hp_Fn (hp_Kc (zi := (0 + 0)) (zv := (0 + (1 * ac + 0))) k0 rfl rfl (by omega) (by omega) hp_Kn) (hp_La l0 (hp_Li (z := (1200 + (1 * k + 0))) l1 rfl (by omega) hp_Ln)) trivial ?_ ?_
  · intro p hp ys l' st' h' hys a1 a2 a3 gZ gL gS
    rcases List.mem_cons.mp hp with rfl | hp
    · obtain rfl := hp_y0 hys
      obtain ⟨y0, t0, rfl, q0, g0⟩ := hp_gSi (z := ((-1) + (1 * ac + 0))) gS rfl
      obtain ⟨y1, t1, rfl, q1, g1⟩ := hp_gSi (z := (0 + 0)) g0 rfl
      obtain ⟨y2, t2, rfl, q2, g2⟩ := hp_gSi (z := (1200 + (1 * k + 0))) g1 rfl
      obtain ⟨t3, rfl, g3⟩ := hp_gSa g2 (by decide)
      cases hp_gSn g3
      exact e0 l' h' y0 y1 y2 (by omega) (by omega) (by omega) a1 a2 a3 (hp_gLa gL (List.mem_of_getElem? (i := 0) rfl) (by decide)) (hp_gLi (z := (1200 + (1 * k + 0))) gL (List.mem_of_getElem? (i := 1) rfl) rfl (by omega))
    cases hp
  · intro p hp ys v h' hys a1 a2 a3 gZ gS
    cases hp
theorem ysA_k : hp_chk 318 12 1 [(0, 0, 39)] [] [(0, .inr (.inr (.inl (some 94)))), (1, .inl (1200, [(0, 1)]))] [.inl (0, [])] [] [] 8 [] [([], 1, [(0, 0, 39)], [], [], [.inl (0, [])], [])] = true := by decide +kernel
theorem ysA {cst : am_K} {strs : List Nat} {Φ : am_Q → Prop} {D : Nat} {M : am_M} {h : am_H} {l : am_L} (c : hp_C cst strs D) (hM : m_P[318]? = some M) (hD : (8 : Int) ≤ (D : Int) + 1) (hy : ly_hy m_tt ly_TH h) (k : Int) (x0 : Int32) (hx0 : x0.toInt = 0) (b0 : 0 ≤ k) (t0 : k ≤ 39) (l0 : hp_a l 0 94) (l1 : hp_i l 1 (k + 1200)) (r0 : ∀ (h' : am_H) (y0 : Int32), y0.toInt = 0 → ly_hy m_tt ly_TH h' → ly_fr cst [] h h' → h.length ≤ h'.length → Φ (some (.int y0), h', 0, 0)) : hp_F cst strs Φ D M 12 l [.int x0] h := by
  refine hp_arc c hM ysA_k hD [k] rfl hy (hp_Bc (z := k) rfl b0 t0 hp_Bn) hp_Fn hp_Kn (hp_La l0 (hp_Li (z := (1200 + (1 * k + 0))) l1 rfl (by omega) hp_Ln)) (hp_Si (z := (0 + 0)) rfl (by omega) trivial) ?_ ?_
  · intro p hp ys l' st' h' hys a1 a2 a3 gZ gL gS
    cases hp
  · intro p hp ys v h' hys a1 a2 a3 gZ gS
    rcases List.mem_cons.mp hp with rfl | hp
    · obtain rfl := hp_y0 hys
      cases v with
      | none => cases gS
      | some w =>
        obtain ⟨y0, t0, s0, q0, -⟩ := hp_gSi (z := (0 + 0)) gS rfl
        cases s0
        exact r0 h' y0 (by omega) a1 a2 a3
    cases hp
theorem ysB0_k : hp_chk 318 12 2 [(0, 0, 39), (1, 0, 0)] [] [(0, .inr (.inr (.inl (some 94)))), (1, .inl (1200, [(0, 1)]))] [.inl (1, [])] [(19971, (0, []), (0, [(1, 1)]))] [] 8 [] [([], 2, [(0, 0, 39), (1, 0, 0)], [], [], [.inl (1, [])], [])] = true := by decide +kernel
theorem ysB0 {cst : am_K} {strs : List Nat} {Φ : am_Q → Prop} {D : Nat} {M : am_M} {h : am_H} {l : am_L} (c : hp_C cst strs D) (hM : m_P[318]? = some M) (hD : (8 : Int) ≤ (D : Int) + 1) (hy : ly_hy m_tt ly_TH h) (k q : Int) (x0 : Int32) (hx0 : x0.toInt = 1) (b0 : 0 ≤ k) (t0 : k ≤ 39) (b1 : 0 ≤ q) (t1 : q ≤ 0) (k0 : ly_hv cst h 19971 0 = some (q)) (l0 : hp_a l 0 94) (l1 : hp_i l 1 (k + 1200)) (r0 : ∀ (h' : am_H) (y0 : Int32), y0.toInt = 1 → ly_hy m_tt ly_TH h' → ly_fr cst [] h h' → h.length ≤ h'.length → Φ (some (.int y0), h', 0, 0)) : hp_F cst strs Φ D M 12 l [.int x0] h := by
  refine hp_arc c hM ysB0_k hD [k, q] rfl hy (hp_Bc (z := k) rfl b0 t0 (hp_Bc (z := q) rfl b1 t1 hp_Bn)) hp_Fn (hp_Kc (zi := (0 + 0)) (zv := (0 + (1 * q + 0))) k0 rfl rfl (by omega) (by omega) hp_Kn) (hp_La l0 (hp_Li (z := (1200 + (1 * k + 0))) l1 rfl (by omega) hp_Ln)) (hp_Si (z := (1 + 0)) rfl (by omega) trivial) ?_ ?_
  · intro p hp ys l' st' h' hys a1 a2 a3 gZ gL gS
    cases hp
  · intro p hp ys v h' hys a1 a2 a3 gZ gS
    rcases List.mem_cons.mp hp with rfl | hp
    · obtain rfl := hp_y0 hys
      cases v with
      | none => cases gS
      | some w =>
        obtain ⟨y0, t0, s0, q0, -⟩ := hp_gSi (z := (1 + 0)) gS rfl
        cases s0
        exact r0 h' y0 (by omega) a1 a2 a3
    cases hp
theorem ysB1_k : hp_chk 318 12 2 [(0, 0, 39), (1, 2, 8)] [] [(0, .inr (.inr (.inl (some 94)))), (1, .inl (1200, [(0, 1)]))] [.inl (1, [])] [(19971, (0, []), (0, [(1, 1)]))] [] 8 [] [([], 2, [(0, 0, 39), (1, 2, 8)], [], [], [.inl (1, [])], [])] = true := by decide +kernel
theorem ysB1 {cst : am_K} {strs : List Nat} {Φ : am_Q → Prop} {D : Nat} {M : am_M} {h : am_H} {l : am_L} (c : hp_C cst strs D) (hM : m_P[318]? = some M) (hD : (8 : Int) ≤ (D : Int) + 1) (hy : ly_hy m_tt ly_TH h) (k q : Int) (x0 : Int32) (hx0 : x0.toInt = 1) (b0 : 0 ≤ k) (t0 : k ≤ 39) (b1 : 2 ≤ q) (t1 : q ≤ 8) (k0 : ly_hv cst h 19971 0 = some (q)) (l0 : hp_a l 0 94) (l1 : hp_i l 1 (k + 1200)) (r0 : ∀ (h' : am_H) (y0 : Int32), y0.toInt = 1 → ly_hy m_tt ly_TH h' → ly_fr cst [] h h' → h.length ≤ h'.length → Φ (some (.int y0), h', 0, 0)) : hp_F cst strs Φ D M 12 l [.int x0] h := by
  refine hp_arc c hM ysB1_k hD [k, q] rfl hy (hp_Bc (z := k) rfl b0 t0 (hp_Bc (z := q) rfl b1 t1 hp_Bn)) hp_Fn (hp_Kc (zi := (0 + 0)) (zv := (0 + (1 * q + 0))) k0 rfl rfl (by omega) (by omega) hp_Kn) (hp_La l0 (hp_Li (z := (1200 + (1 * k + 0))) l1 rfl (by omega) hp_Ln)) (hp_Si (z := (1 + 0)) rfl (by omega) trivial) ?_ ?_
  · intro p hp ys l' st' h' hys a1 a2 a3 gZ gL gS
    cases hp
  · intro p hp ys v h' hys a1 a2 a3 gZ gS
    rcases List.mem_cons.mp hp with rfl | hp
    · obtain rfl := hp_y0 hys
      cases v with
      | none => cases gS
      | some w =>
        obtain ⟨y0, t0, s0, q0, -⟩ := hp_gSi (z := (1 + 0)) gS rfl
        cases s0
        exact r0 h' y0 (by omega) a1 a2 a3
    cases hp
theorem ysC_k : hp_chk 318 12 2 [(0, 0, 39), (1, 0, 1152921504606846976)] [] [(0, .inr (.inr (.inl (some 94)))), (1, .inl (1200, [(0, 1)]))] [.inl (1, [])] [(19971, (0, []), (1, [])), (19976, (0, []), (0, [(1, 1)]))] [] 8 [(34, ([], 2, [(0, 0, 39), (1, 0, 1152921504606846976)], [], [(0, .inr (.inr (.inl (some 94)))), (1, .inl (1200, [(0, 1)]))], [.inr (.inl (0, [(1, 1)])), .inl (1200, [(0, 1)]), .inr (.inr (.inl (some 109)))], []))] [] = true := by decide +kernel
theorem ysC {cst : am_K} {strs : List Nat} {Φ : am_Q → Prop} {D : Nat} {M : am_M} {h : am_H} {l : am_L} (c : hp_C cst strs D) (hM : m_P[318]? = some M) (hD : (8 : Int) ≤ (D : Int) + 1) (hy : ly_hy m_tt ly_TH h) (k v : Int) (x0 : Int32) (hx0 : x0.toInt = 1) (b0 : 0 ≤ k) (t0 : k ≤ 39) (b1 : 0 ≤ v) (t1 : v ≤ 1152921504606846976) (k0 : ly_hv cst h 19971 0 = some 1) (k1 : ly_hv cst h 19976 0 = some (v)) (l0 : hp_a l 0 94) (l1 : hp_i l 1 (k + 1200)) (e0 : ∀ (l' : am_L) (h' : am_H) (y0 : Int64) (y1 : Int32), y0.toInt = (v) → y1.toInt = (k + 1200) → ly_hy m_tt ly_TH h' → ly_fr cst [] h h' → h.length ≤ h'.length → hp_a l' 0 94 → hp_i l' 1 (k + 1200) → hp_F cst strs Φ D M 34 l' [.long y0, .int y1, .ref 109] h') : hp_F cst strs Φ D M 12 l [.int x0] h := by
  refine hp_arc c hM ysC_k hD [k, v] rfl hy (hp_Bc (z := k) rfl b0 t0 (hp_Bc (z := v) rfl b1 t1 hp_Bn)) hp_Fn (hp_Kc (zi := (0 + 0)) (zv := (1 + 0)) k0 rfl rfl (by omega) (by omega) (hp_Kc (zi := (0 + 0)) (zv := (0 + (1 * v + 0))) k1 rfl rfl (by omega) (by omega) hp_Kn)) (hp_La l0 (hp_Li (z := (1200 + (1 * k + 0))) l1 rfl (by omega) hp_Ln)) (hp_Si (z := (1 + 0)) rfl (by omega) trivial) ?_ ?_
  · intro p hp ys l' st' h' hys a1 a2 a3 gZ gL gS
    rcases List.mem_cons.mp hp with rfl | hp
    · obtain rfl := hp_y0 hys
      obtain ⟨y0, t0, rfl, q0, g0⟩ := hp_gSj (z := (0 + (1 * v + 0))) gS rfl
      obtain ⟨y1, t1, rfl, q1, g1⟩ := hp_gSi (z := (1200 + (1 * k + 0))) g0 rfl
      obtain ⟨t2, rfl, g2⟩ := hp_gSa g1 (by decide)
      cases hp_gSn g2
      exact e0 l' h' y0 y1 (by omega) (by omega) a1 a2 a3 (hp_gLa gL (List.mem_of_getElem? (i := 0) rfl) (by decide)) (hp_gLi (z := (1200 + (1 * k + 0))) gL (List.mem_of_getElem? (i := 1) rfl) rfl (by omega))
    cases hp
  · intro p hp ys v h' hys a1 a2 a3 gZ gS
    cases hp
theorem ysD_k : hp_chk 318 35 1 [(0, 0, 39)] [] [(0, .inr (.inr (.inl (some 94)))), (1, .inl (1200, [(0, 1)]))] [] [] [] 8 [(36, ([], 1, [(0, 0, 39)], [], [(0, .inr (.inr (.inl (some 94)))), (1, .inl (1200, [(0, 1)]))], [.inr (.inr (.inl (some 94)))], []))] [] = true := by decide +kernel
theorem ysD {cst : am_K} {strs : List Nat} {Φ : am_Q → Prop} {D : Nat} {M : am_M} {h : am_H} {l : am_L} (c : hp_C cst strs D) (hM : m_P[318]? = some M) (hD : (8 : Int) ≤ (D : Int) + 1) (hy : ly_hy m_tt ly_TH h) (k : Int) (b0 : 0 ≤ k) (t0 : k ≤ 39) (l0 : hp_a l 0 94) (l1 : hp_i l 1 (k + 1200)) (e0 : ∀ (l' : am_L) (h' : am_H), ly_hy m_tt ly_TH h' → ly_fr cst [] h h' → h.length ≤ h'.length → hp_a l' 0 94 → hp_i l' 1 (k + 1200) → hp_F cst strs Φ D M 36 l' [.ref 94] h') : hp_F cst strs Φ D M 35 l [] h := by
  refine hp_arc c hM ysD_k hD [k] rfl hy (hp_Bc (z := k) rfl b0 t0 hp_Bn) hp_Fn hp_Kn (hp_La l0 (hp_Li (z := (1200 + (1 * k + 0))) l1 rfl (by omega) hp_Ln)) trivial ?_ ?_
  · intro p hp ys l' st' h' hys a1 a2 a3 gZ gL gS
    rcases List.mem_cons.mp hp with rfl | hp
    · obtain rfl := hp_y0 hys
      obtain ⟨t0, rfl, g0⟩ := hp_gSa gS (by decide)
      cases hp_gSn g0
      exact e0 l' h' a1 a2 a3 (hp_gLa gL (List.mem_of_getElem? (i := 0) rfl) (by decide)) (hp_gLi (z := (1200 + (1 * k + 0))) gL (List.mem_of_getElem? (i := 1) rfl) rfl (by omega))
    cases hp
  · intro p hp ys v h' hys a1 a2 a3 gZ gS
    cases hp
theorem ysE_k : hp_chk 318 39 0 [] [] [(0, .inr (.inr (.inl (some 94))))] [] [] [] 8 [] [([], 0, [], [], [], [.inl (1, [])], [])] = true := by decide +kernel
theorem ysE {cst : am_K} {strs : List Nat} {Φ : am_Q → Prop} {D : Nat} {M : am_M} {h : am_H} {l : am_L} (c : hp_C cst strs D) (hM : m_P[318]? = some M) (hD : (8 : Int) ≤ (D : Int) + 1) (hy : ly_hy m_tt ly_TH h) (l0 : hp_a l 0 94) (r0 : ∀ (h' : am_H) (y0 : Int32), y0.toInt = 1 → ly_hy m_tt ly_TH h' → ly_fr cst [] h h' → h.length ≤ h'.length → Φ (some (.int y0), h', 0, 0)) : hp_F cst strs Φ D M 39 l [] h := by
  refine hp_arc c hM ysE_k hD [] rfl hy hp_Bn hp_Fn hp_Kn (hp_La l0 hp_Ln) trivial ?_ ?_
  · intro p hp ys l' st' h' hys a1 a2 a3 gZ gL gS
    cases hp
  · intro p hp ys v h' hys a1 a2 a3 gZ gS
    rcases List.mem_cons.mp hp with rfl | hp
    · obtain rfl := hp_y0 hys
      cases v with
      | none => cases gS
      | some w =>
        obtain ⟨y0, t0, s0, q0, -⟩ := hp_gSi (z := (1 + 0)) gS rfl
        cases s0
        exact r0 h' y0 (by omega) a1 a2 a3
    cases hp
theorem yw0_k : hp_chk 316 0 2 [(0, 0, 39), (1, 0, 320)] [] [(0, .inr (.inr (.inl (some 94)))), (1, .inl (1200, [(0, 1)]))] [] [(20013, (0, []), (0, [(1, 1)]))] [] 8 [(9, ([], 2, [(0, 0, 39), (1, 0, 320)], [], [(0, .inr (.inr (.inl (some 94)))), (1, .inl (1200, [(0, 1)]))], [.inl (0, [(1, 1)]), .inl (1200, [(0, 1)]), .inr (.inr (.inl (some 111)))], []))] [] = true := by decide +kernel
theorem yw0 {cst : am_K} {strs : List Nat} {Φ : am_Q → Prop} {D : Nat} {M : am_M} {h : am_H} {l : am_L} (c : hp_C cst strs D) (hM : m_P[316]? = some M) (hD : (8 : Int) ≤ (D : Int) + 1) (hy : ly_hy m_tt ly_TH h) (k s : Int) (b0 : 0 ≤ k) (t0 : k ≤ 39) (b1 : 0 ≤ s) (t1 : s ≤ 320) (k0 : ly_hv cst h 20013 0 = some (s)) (l0 : hp_a l 0 94) (l1 : hp_i l 1 (k + 1200)) (e0 : ∀ (l' : am_L) (h' : am_H) (y0 : Int32) (y1 : Int32), y0.toInt = (s) → y1.toInt = (k + 1200) → ly_hy m_tt ly_TH h' → ly_fr cst [] h h' → h.length ≤ h'.length → hp_a l' 0 94 → hp_i l' 1 (k + 1200) → hp_F cst strs Φ D M 9 l' [.int y0, .int y1, .ref 111] h') : hp_F cst strs Φ D M 0 l [] h := by
  refine hp_arc c hM yw0_k hD [k, s] rfl hy (hp_Bc (z := k) rfl b0 t0 (hp_Bc (z := s) rfl b1 t1 hp_Bn)) hp_Fn (hp_Kc (zi := (0 + 0)) (zv := (0 + (1 * s + 0))) k0 rfl rfl (by omega) (by omega) hp_Kn) (hp_La l0 (hp_Li (z := (1200 + (1 * k + 0))) l1 rfl (by omega) hp_Ln)) trivial ?_ ?_
  · intro p hp ys l' st' h' hys a1 a2 a3 gZ gL gS
    rcases List.mem_cons.mp hp with rfl | hp
    · obtain rfl := hp_y0 hys
      obtain ⟨y0, t0, rfl, q0, g0⟩ := hp_gSi (z := (0 + (1 * s + 0))) gS rfl
      obtain ⟨y1, t1, rfl, q1, g1⟩ := hp_gSi (z := (1200 + (1 * k + 0))) g0 rfl
      obtain ⟨t2, rfl, g2⟩ := hp_gSa g1 (by decide)
      cases hp_gSn g2
      exact e0 l' h' y0 y1 (by omega) (by omega) a1 a2 a3 (hp_gLa gL (List.mem_of_getElem? (i := 0) rfl) (by decide)) (hp_gLi (z := (1200 + (1 * k + 0))) gL (List.mem_of_getElem? (i := 1) rfl) rfl (by omega))
    cases hp
  · intro p hp ys v h' hys a1 a2 a3 gZ gS
    cases hp
theorem yw1_k : hp_chk 316 10 1 [(0, 0, 39)] [] [(0, .inr (.inr (.inl (some 94)))), (1, .inl (1200, [(0, 1)]))] [] [] [] 8 [(16, ([], 1, [(0, 0, 39)], [], [(0, .inr (.inr (.inl (some 94)))), (1, .inl (1200, [(0, 1)]))], [.inl (0, []), .inl (1200, [(0, 1)]), .inr (.inr (.inl (some 112)))], []))] [] = true := by decide +kernel
theorem yw1 {cst : am_K} {strs : List Nat} {Φ : am_Q → Prop} {D : Nat} {M : am_M} {h : am_H} {l : am_L} (c : hp_C cst strs D) (hM : m_P[316]? = some M) (hD : (8 : Int) ≤ (D : Int) + 1) (hy : ly_hy m_tt ly_TH h) (k : Int) (b0 : 0 ≤ k) (t0 : k ≤ 39) (l0 : hp_a l 0 94) (l1 : hp_i l 1 (k + 1200)) (e0 : ∀ (l' : am_L) (h' : am_H) (y0 : Int32) (y1 : Int32), y0.toInt = 0 → y1.toInt = (k + 1200) → ly_hy m_tt ly_TH h' → ly_fr cst [] h h' → h.length ≤ h'.length → hp_a l' 0 94 → hp_i l' 1 (k + 1200) → hp_F cst strs Φ D M 16 l' [.int y0, .int y1, .ref 112] h') : hp_F cst strs Φ D M 10 l [] h := by
  refine hp_arc c hM yw1_k hD [k] rfl hy (hp_Bc (z := k) rfl b0 t0 hp_Bn) hp_Fn hp_Kn (hp_La l0 (hp_Li (z := (1200 + (1 * k + 0))) l1 rfl (by omega) hp_Ln)) trivial ?_ ?_
  · intro p hp ys l' st' h' hys a1 a2 a3 gZ gL gS
    rcases List.mem_cons.mp hp with rfl | hp
    · obtain rfl := hp_y0 hys
      obtain ⟨y0, t0, rfl, q0, g0⟩ := hp_gSi (z := (0 + 0)) gS rfl
      obtain ⟨y1, t1, rfl, q1, g1⟩ := hp_gSi (z := (1200 + (1 * k + 0))) g0 rfl
      obtain ⟨t2, rfl, g2⟩ := hp_gSa g1 (by decide)
      cases hp_gSn g2
      exact e0 l' h' y0 y1 (by omega) (by omega) a1 a2 a3 (hp_gLa gL (List.mem_of_getElem? (i := 0) rfl) (by decide)) (hp_gLi (z := (1200 + (1 * k + 0))) gL (List.mem_of_getElem? (i := 1) rfl) rfl (by omega))
    cases hp
  · intro p hp ys v h' hys a1 a2 a3 gZ gS
    cases hp
theorem ywA0_k : hq_chk [305] 316 17 3 [(0, 0, 39), (1, 0, 1200), (2, 0, 0)] [] [(0, .inr (.inr (.inl (some 94)))), (1, .inl (1200, [(0, 1)]))] [] [(19971, (0, []), (0, [(2, 1)])), (19973, (0, []), (0, [(1, 1)]))] [19990, 19991] 8 [] [([], 3, [(0, 0, 39), (1, 0, 1200), (2, 0, 0)], [], [], [.inl (0, [])], [(19990, (0, []), (1, [])), (19991, (0, []), (0, [(1, 1)]))])] = true := by decide +kernel
theorem ywA0 {cst : am_K} {strs : List Nat} {Φ : am_Q → Prop} {D : Nat} {M : am_M} {h : am_H} {l : am_L} (c : hp_C cst strs D) (hM : m_P[316]? = some M) (hD : (8 : Int) ≤ (D : Int) + 1) (hy : ly_hy m_tt ly_TH h) (k p q : Int) (b0 : 0 ≤ k) (t0 : k ≤ 39) (b1 : 0 ≤ p) (t1 : p ≤ 1200) (b2 : 0 ≤ q) (t2 : q ≤ 0) (k0 : ly_hv cst h 19971 0 = some (q)) (k1 : ly_hv cst h 19973 0 = some (p)) (l0 : hp_a l 0 94) (l1 : hp_i l 1 (k + 1200)) (r0 : ∀ (h' : am_H) (y0 : Int32), y0.toInt = 0 → ly_hy m_tt ly_TH h' → ly_fr cst [19990, 19991] h h' → h.length ≤ h'.length → ly_hv cst h' 19990 0 = some 1 → ly_hv cst h' 19991 0 = some (p) → Φ (some (.int y0), h', 0, 0)) : hp_F cst strs Φ D M 17 l [] h := by
  refine hq_arc c hM ywA0_k hD [k, p, q] rfl hy (hp_Bc (z := k) rfl b0 t0 (hp_Bc (z := p) rfl b1 t1 (hp_Bc (z := q) rfl b2 t2 hp_Bn))) hp_Fn (hp_Kc (zi := (0 + 0)) (zv := (0 + (1 * q + 0))) k0 rfl rfl (by omega) (by omega) (hp_Kc (zi := (0 + 0)) (zv := (0 + (1 * p + 0))) k1 rfl rfl (by omega) (by omega) hp_Kn)) (hp_La l0 (hp_Li (z := (1200 + (1 * k + 0))) l1 rfl (by omega) hp_Ln)) trivial ?_ ?_
  · intro p hp ys l' st' h' hys a1 a2 a3 gZ gL gS
    cases hp
  · intro p hp ys v h' hys a1 a2 a3 gZ gS
    rcases List.mem_cons.mp hp with rfl | hp
    · obtain rfl := hp_y0 hys
      cases v with
      | none => cases gS
      | some w =>
        obtain ⟨y0, t0, s0, q0, -⟩ := hp_gSi (z := (0 + 0)) gS rfl
        cases s0
        exact r0 h' y0 (by omega) a1 a2 a3 (hp_gK (zi := (0 + 0)) (zv := (1 + 0)) gZ.2.2.2 (List.mem_of_getElem? (i := 0) rfl) rfl rfl (by omega) (by omega)) (hp_gK (zi := (0 + 0)) (zv := (0 + (1 * p + 0))) gZ.2.2.2 (List.mem_of_getElem? (i := 1) rfl) rfl rfl (by omega) (by omega))
    cases hp
theorem ywA1_k : hq_chk [305] 316 17 3 [(0, 0, 39), (1, 0, 1200), (2, 2, 8)] [] [(0, .inr (.inr (.inl (some 94)))), (1, .inl (1200, [(0, 1)]))] [] [(19971, (0, []), (0, [(2, 1)])), (19973, (0, []), (0, [(1, 1)]))] [19990, 19991] 8 [] [([], 3, [(0, 0, 39), (1, 0, 1200), (2, 2, 8)], [], [], [.inl (0, [])], [(19990, (0, []), (1, [])), (19991, (0, []), (0, [(1, 1)]))])] = true := by decide +kernel
theorem ywA1 {cst : am_K} {strs : List Nat} {Φ : am_Q → Prop} {D : Nat} {M : am_M} {h : am_H} {l : am_L} (c : hp_C cst strs D) (hM : m_P[316]? = some M) (hD : (8 : Int) ≤ (D : Int) + 1) (hy : ly_hy m_tt ly_TH h) (k p q : Int) (b0 : 0 ≤ k) (t0 : k ≤ 39) (b1 : 0 ≤ p) (t1 : p ≤ 1200) (b2 : 2 ≤ q) (t2 : q ≤ 8) (k0 : ly_hv cst h 19971 0 = some (q)) (k1 : ly_hv cst h 19973 0 = some (p)) (l0 : hp_a l 0 94) (l1 : hp_i l 1 (k + 1200)) (r0 : ∀ (h' : am_H) (y0 : Int32), y0.toInt = 0 → ly_hy m_tt ly_TH h' → ly_fr cst [19990, 19991] h h' → h.length ≤ h'.length → ly_hv cst h' 19990 0 = some 1 → ly_hv cst h' 19991 0 = some (p) → Φ (some (.int y0), h', 0, 0)) : hp_F cst strs Φ D M 17 l [] h := by
  refine hq_arc c hM ywA1_k hD [k, p, q] rfl hy (hp_Bc (z := k) rfl b0 t0 (hp_Bc (z := p) rfl b1 t1 (hp_Bc (z := q) rfl b2 t2 hp_Bn))) hp_Fn (hp_Kc (zi := (0 + 0)) (zv := (0 + (1 * q + 0))) k0 rfl rfl (by omega) (by omega) (hp_Kc (zi := (0 + 0)) (zv := (0 + (1 * p + 0))) k1 rfl rfl (by omega) (by omega) hp_Kn)) (hp_La l0 (hp_Li (z := (1200 + (1 * k + 0))) l1 rfl (by omega) hp_Ln)) trivial ?_ ?_
  · intro p hp ys l' st' h' hys a1 a2 a3 gZ gL gS
    cases hp
  · intro p hp ys v h' hys a1 a2 a3 gZ gS
    rcases List.mem_cons.mp hp with rfl | hp
    · obtain rfl := hp_y0 hys
      cases v with
      | none => cases gS
      | some w =>
        obtain ⟨y0, t0, s0, q0, -⟩ := hp_gSi (z := (0 + 0)) gS rfl
        cases s0
        exact r0 h' y0 (by omega) a1 a2 a3 (hp_gK (zi := (0 + 0)) (zv := (1 + 0)) gZ.2.2.2 (List.mem_of_getElem? (i := 0) rfl) rfl rfl (by omega) (by omega)) (hp_gK (zi := (0 + 0)) (zv := (0 + (1 * p + 0))) gZ.2.2.2 (List.mem_of_getElem? (i := 1) rfl) rfl rfl (by omega) (by omega))
    cases hp
theorem ywB_k : hp_chk 316 17 1 [(0, 0, 39)] [] [(0, .inr (.inr (.inl (some 94)))), (1, .inl (1200, [(0, 1)]))] [] [(19971, (0, []), (1, []))] [] 8 [(31, ([], 1, [(0, 0, 39)], [], [(0, .inr (.inr (.inl (some 94)))), (1, .inl (1200, [(0, 1)]))], [], []))] [] = true := by decide +kernel
theorem ywB {cst : am_K} {strs : List Nat} {Φ : am_Q → Prop} {D : Nat} {M : am_M} {h : am_H} {l : am_L} (c : hp_C cst strs D) (hM : m_P[316]? = some M) (hD : (8 : Int) ≤ (D : Int) + 1) (hy : ly_hy m_tt ly_TH h) (k : Int) (b0 : 0 ≤ k) (t0 : k ≤ 39) (k0 : ly_hv cst h 19971 0 = some 1) (l0 : hp_a l 0 94) (l1 : hp_i l 1 (k + 1200)) (e0 : ∀ (l' : am_L) (h' : am_H), ly_hy m_tt ly_TH h' → ly_fr cst [] h h' → h.length ≤ h'.length → hp_a l' 0 94 → hp_i l' 1 (k + 1200) → hp_F cst strs Φ D M 31 l' [] h') : hp_F cst strs Φ D M 17 l [] h := by
  refine hp_arc c hM ywB_k hD [k] rfl hy (hp_Bc (z := k) rfl b0 t0 hp_Bn) hp_Fn (hp_Kc (zi := (0 + 0)) (zv := (1 + 0)) k0 rfl rfl (by omega) (by omega) hp_Kn) (hp_La l0 (hp_Li (z := (1200 + (1 * k + 0))) l1 rfl (by omega) hp_Ln)) trivial ?_ ?_
  · intro p hp ys l' st' h' hys a1 a2 a3 gZ gL gS
    rcases List.mem_cons.mp hp with rfl | hp
    · obtain rfl := hp_y0 hys
      cases hp_gSn gS
      exact e0 l' h' a1 a2 a3 (hp_gLa gL (List.mem_of_getElem? (i := 0) rfl) (by decide)) (hp_gLi (z := (1200 + (1 * k + 0))) gL (List.mem_of_getElem? (i := 1) rfl) rfl (by omega))
    cases hp
  · intro p hp ys v h' hys a1 a2 a3 gZ gS
    cases hp
theorem ywC0_k : hp_chk 316 31 2 [(0, 0, 39), (1, 0, 0)] [] [(0, .inr (.inr (.inl (some 94)))), (1, .inl (1200, [(0, 1)]))] [] [(19971, (0, []), (0, [(1, 1)]))] [] 8 [] [([], 2, [(0, 0, 39), (1, 0, 0)], [], [], [.inl (1, [])], [])] = true := by decide +kernel
theorem ywC0 {cst : am_K} {strs : List Nat} {Φ : am_Q → Prop} {D : Nat} {M : am_M} {h : am_H} {l : am_L} (c : hp_C cst strs D) (hM : m_P[316]? = some M) (hD : (8 : Int) ≤ (D : Int) + 1) (hy : ly_hy m_tt ly_TH h) (k q : Int) (b0 : 0 ≤ k) (t0 : k ≤ 39) (b1 : 0 ≤ q) (t1 : q ≤ 0) (k0 : ly_hv cst h 19971 0 = some (q)) (l0 : hp_a l 0 94) (l1 : hp_i l 1 (k + 1200)) (r0 : ∀ (h' : am_H) (y0 : Int32), y0.toInt = 1 → ly_hy m_tt ly_TH h' → ly_fr cst [] h h' → h.length ≤ h'.length → Φ (some (.int y0), h', 0, 0)) : hp_F cst strs Φ D M 31 l [] h := by
  refine hp_arc c hM ywC0_k hD [k, q] rfl hy (hp_Bc (z := k) rfl b0 t0 (hp_Bc (z := q) rfl b1 t1 hp_Bn)) hp_Fn (hp_Kc (zi := (0 + 0)) (zv := (0 + (1 * q + 0))) k0 rfl rfl (by omega) (by omega) hp_Kn) (hp_La l0 (hp_Li (z := (1200 + (1 * k + 0))) l1 rfl (by omega) hp_Ln)) trivial ?_ ?_
  · intro p hp ys l' st' h' hys a1 a2 a3 gZ gL gS
    cases hp
  · intro p hp ys v h' hys a1 a2 a3 gZ gS
    rcases List.mem_cons.mp hp with rfl | hp
    · obtain rfl := hp_y0 hys
      cases v with
      | none => cases gS
      | some w =>
        obtain ⟨y0, t0, s0, q0, -⟩ := hp_gSi (z := (1 + 0)) gS rfl
        cases s0
        exact r0 h' y0 (by omega) a1 a2 a3
    cases hp
theorem ywC1_k : hp_chk 316 31 2 [(0, 0, 39), (1, 2, 8)] [] [(0, .inr (.inr (.inl (some 94)))), (1, .inl (1200, [(0, 1)]))] [] [(19971, (0, []), (0, [(1, 1)]))] [] 8 [] [([], 2, [(0, 0, 39), (1, 2, 8)], [], [], [.inl (1, [])], [])] = true := by decide +kernel
theorem ywC1 {cst : am_K} {strs : List Nat} {Φ : am_Q → Prop} {D : Nat} {M : am_M} {h : am_H} {l : am_L} (c : hp_C cst strs D) (hM : m_P[316]? = some M) (hD : (8 : Int) ≤ (D : Int) + 1) (hy : ly_hy m_tt ly_TH h) (k q : Int) (b0 : 0 ≤ k) (t0 : k ≤ 39) (b1 : 2 ≤ q) (t1 : q ≤ 8) (k0 : ly_hv cst h 19971 0 = some (q)) (l0 : hp_a l 0 94) (l1 : hp_i l 1 (k + 1200)) (r0 : ∀ (h' : am_H) (y0 : Int32), y0.toInt = 1 → ly_hy m_tt ly_TH h' → ly_fr cst [] h h' → h.length ≤ h'.length → Φ (some (.int y0), h', 0, 0)) : hp_F cst strs Φ D M 31 l [] h := by
  refine hp_arc c hM ywC1_k hD [k, q] rfl hy (hp_Bc (z := k) rfl b0 t0 (hp_Bc (z := q) rfl b1 t1 hp_Bn)) hp_Fn (hp_Kc (zi := (0 + 0)) (zv := (0 + (1 * q + 0))) k0 rfl rfl (by omega) (by omega) hp_Kn) (hp_La l0 (hp_Li (z := (1200 + (1 * k + 0))) l1 rfl (by omega) hp_Ln)) trivial ?_ ?_
  · intro p hp ys l' st' h' hys a1 a2 a3 gZ gL gS
    cases hp
  · intro p hp ys v h' hys a1 a2 a3 gZ gS
    rcases List.mem_cons.mp hp with rfl | hp
    · obtain rfl := hp_y0 hys
      cases v with
      | none => cases gS
      | some w =>
        obtain ⟨y0, t0, s0, q0, -⟩ := hp_gSi (z := (1 + 0)) gS rfl
        cases s0
        exact r0 h' y0 (by omega) a1 a2 a3
    cases hp
theorem ywD_k : hq_chk [305] 316 31 2 [(0, 0, 39), (1, 0, 1200)] [] [(0, .inr (.inr (.inl (some 94)))), (1, .inl (1200, [(0, 1)]))] [] [(19971, (0, []), (1, [])), (19973, (0, []), (0, [(1, 1)])), (24576, (1200, [(0, 1)]), (8, []))] [19990, 19991] 8 [] [([], 2, [(0, 0, 39), (1, 0, 1200)], [], [], [.inl (0, [])], [(19990, (0, []), (4, [])), (19991, (0, []), (0, [(1, 1)]))])] = true := by decide +kernel
theorem ywD {cst : am_K} {strs : List Nat} {Φ : am_Q → Prop} {D : Nat} {M : am_M} {h : am_H} {l : am_L} (c : hp_C cst strs D) (hM : m_P[316]? = some M) (hD : (8 : Int) ≤ (D : Int) + 1) (hy : ly_hy m_tt ly_TH h) (k p : Int) (b0 : 0 ≤ k) (t0 : k ≤ 39) (b1 : 0 ≤ p) (t1 : p ≤ 1200) (k0 : ly_hv cst h 19971 0 = some 1) (k1 : ly_hv cst h 19973 0 = some (p)) (k2 : ly_hv cst h 24576 (k + 1200) = some 8) (l0 : hp_a l 0 94) (l1 : hp_i l 1 (k + 1200)) (r0 : ∀ (h' : am_H) (y0 : Int32), y0.toInt = 0 → ly_hy m_tt ly_TH h' → ly_fr cst [19990, 19991] h h' → h.length ≤ h'.length → ly_hv cst h' 19990 0 = some 4 → ly_hv cst h' 19991 0 = some (p) → Φ (some (.int y0), h', 0, 0)) : hp_F cst strs Φ D M 31 l [] h := by
  refine hq_arc c hM ywD_k hD [k, p] rfl hy (hp_Bc (z := k) rfl b0 t0 (hp_Bc (z := p) rfl b1 t1 hp_Bn)) hp_Fn (hp_Kc (zi := (0 + 0)) (zv := (1 + 0)) k0 rfl rfl (by omega) (by omega) (hp_Kc (zi := (0 + 0)) (zv := (0 + (1 * p + 0))) k1 rfl rfl (by omega) (by omega) (hp_Kc (zi := (1200 + (1 * k + 0))) (zv := (8 + 0)) k2 rfl rfl (by omega) (by omega) hp_Kn))) (hp_La l0 (hp_Li (z := (1200 + (1 * k + 0))) l1 rfl (by omega) hp_Ln)) trivial ?_ ?_
  · intro p hp ys l' st' h' hys a1 a2 a3 gZ gL gS
    cases hp
  · intro p hp ys v h' hys a1 a2 a3 gZ gS
    rcases List.mem_cons.mp hp with rfl | hp
    · obtain rfl := hp_y0 hys
      cases v with
      | none => cases gS
      | some w =>
        obtain ⟨y0, t0, s0, q0, -⟩ := hp_gSi (z := (0 + 0)) gS rfl
        cases s0
        exact r0 h' y0 (by omega) a1 a2 a3 (hp_gK (zi := (0 + 0)) (zv := (4 + 0)) gZ.2.2.2 (List.mem_of_getElem? (i := 0) rfl) rfl rfl (by omega) (by omega)) (hp_gK (zi := (0 + 0)) (zv := (0 + (1 * p + 0))) gZ.2.2.2 (List.mem_of_getElem? (i := 1) rfl) rfl rfl (by omega) (by omega))
    cases hp
theorem ywE_k : hp_chk 316 31 4 [(0, 0, 39), (1, 0, 319), (2, 0, 7), (3, 0, 1152921504606846976)] [] [(0, .inr (.inr (.inl (some 94)))), (1, .inl (1200, [(0, 1)]))] [] [(19971, (0, []), (1, [])), (19976, (0, []), (0, [(3, 1)])), (20013, (0, []), (0, [(1, 1)])), (24576, (1200, [(0, 1)]), (0, [(2, 1)]))] [] 8 [(72, ([], 4, [(0, 0, 39), (1, 0, 319), (2, 0, 7), (3, 0, 1152921504606846976)], [], [(0, .inr (.inr (.inl (some 94)))), (1, .inl (1200, [(0, 1)]))], [.inr (.inl (0, [(3, 1)])), .inl (9900, [(1, 1)]), .inr (.inr (.inl (some 122)))], []))] [] = true := by decide +kernel
theorem ywE {cst : am_K} {strs : List Nat} {Φ : am_Q → Prop} {D : Nat} {M : am_M} {h : am_H} {l : am_L} (c : hp_C cst strs D) (hM : m_P[316]? = some M) (hD : (8 : Int) ≤ (D : Int) + 1) (hy : ly_hy m_tt ly_TH h) (k s q v : Int) (b0 : 0 ≤ k) (t0 : k ≤ 39) (b1 : 0 ≤ s) (t1 : s ≤ 319) (b2 : 0 ≤ q) (t2 : q ≤ 7) (b3 : 0 ≤ v) (t3 : v ≤ 1152921504606846976) (k0 : ly_hv cst h 19971 0 = some 1) (k1 : ly_hv cst h 19976 0 = some (v)) (k2 : ly_hv cst h 20013 0 = some (s)) (k3 : ly_hv cst h 24576 (k + 1200) = some (q)) (l0 : hp_a l 0 94) (l1 : hp_i l 1 (k + 1200)) (e0 : ∀ (l' : am_L) (h' : am_H) (y0 : Int64) (y1 : Int32), y0.toInt = (v) → y1.toInt = (s + 9900) → ly_hy m_tt ly_TH h' → ly_fr cst [] h h' → h.length ≤ h'.length → hp_a l' 0 94 → hp_i l' 1 (k + 1200) → hp_F cst strs Φ D M 72 l' [.long y0, .int y1, .ref 122] h') : hp_F cst strs Φ D M 31 l [] h := by
  refine hp_arc c hM ywE_k hD [k, s, q, v] rfl hy (hp_Bc (z := k) rfl b0 t0 (hp_Bc (z := s) rfl b1 t1 (hp_Bc (z := q) rfl b2 t2 (hp_Bc (z := v) rfl b3 t3 hp_Bn)))) hp_Fn (hp_Kc (zi := (0 + 0)) (zv := (1 + 0)) k0 rfl rfl (by omega) (by omega) (hp_Kc (zi := (0 + 0)) (zv := (0 + (1 * v + 0))) k1 rfl rfl (by omega) (by omega) (hp_Kc (zi := (0 + 0)) (zv := (0 + (1 * s + 0))) k2 rfl rfl (by omega) (by omega) (hp_Kc (zi := (1200 + (1 * k + 0))) (zv := (0 + (1 * q + 0))) k3 rfl rfl (by omega) (by omega) hp_Kn)))) (hp_La l0 (hp_Li (z := (1200 + (1 * k + 0))) l1 rfl (by omega) hp_Ln)) trivial ?_ ?_
  · intro p hp ys l' st' h' hys a1 a2 a3 gZ gL gS
    rcases List.mem_cons.mp hp with rfl | hp
    · obtain rfl := hp_y0 hys
      obtain ⟨y0, t0, rfl, q0, g0⟩ := hp_gSj (z := (0 + (1 * v + 0))) gS rfl
      obtain ⟨y1, t1, rfl, q1, g1⟩ := hp_gSi (z := (9900 + (1 * s + 0))) g0 rfl
      obtain ⟨t2, rfl, g2⟩ := hp_gSa g1 (by decide)
      cases hp_gSn g2
      exact e0 l' h' y0 y1 (by omega) (by omega) a1 a2 a3 (hp_gLa gL (List.mem_of_getElem? (i := 0) rfl) (by decide)) (hp_gLi (z := (1200 + (1 * k + 0))) gL (List.mem_of_getElem? (i := 1) rfl) rfl (by omega))
    cases hp
  · intro p hp ys v h' hys a1 a2 a3 gZ gS
    cases hp
theorem ywF_k : hp_chk 316 73 3 [(0, 0, 39), (1, 0, 319), (2, 0, 7)] [] [(0, .inr (.inr (.inl (some 94)))), (1, .inl (1200, [(0, 1)]))] [] [(20013, (0, []), (0, [(1, 1)])), (24576, (1200, [(0, 1)]), (0, [(2, 1)]))] [20013] 8 [(92, ([], 3, [(0, 0, 39), (1, 0, 319), (2, 0, 7)], [], [(0, .inr (.inr (.inl (some 94)))), (1, .inl (1200, [(0, 1)]))], [.inl (1, [(2, 1)]), .inl (1200, [(0, 1)]), .inr (.inr (.inl (some 112)))], [(20013, (0, []), (1, [(1, 1)]))]))] [] = true := by decide +kernel
theorem ywF {cst : am_K} {strs : List Nat} {Φ : am_Q → Prop} {D : Nat} {M : am_M} {h : am_H} {l : am_L} (c : hp_C cst strs D) (hM : m_P[316]? = some M) (hD : (8 : Int) ≤ (D : Int) + 1) (hy : ly_hy m_tt ly_TH h) (k s q : Int) (b0 : 0 ≤ k) (t0 : k ≤ 39) (b1 : 0 ≤ s) (t1 : s ≤ 319) (b2 : 0 ≤ q) (t2 : q ≤ 7) (k0 : ly_hv cst h 20013 0 = some (s)) (k1 : ly_hv cst h 24576 (k + 1200) = some (q)) (l0 : hp_a l 0 94) (l1 : hp_i l 1 (k + 1200)) (e0 : ∀ (l' : am_L) (h' : am_H) (y0 : Int32) (y1 : Int32), y0.toInt = (q + 1) → y1.toInt = (k + 1200) → ly_hy m_tt ly_TH h' → ly_fr cst [20013] h h' → h.length ≤ h'.length → ly_hv cst h' 20013 0 = some (s + 1) → hp_a l' 0 94 → hp_i l' 1 (k + 1200) → hp_F cst strs Φ D M 92 l' [.int y0, .int y1, .ref 112] h') : hp_F cst strs Φ D M 73 l [] h := by
  refine hp_arc c hM ywF_k hD [k, s, q] rfl hy (hp_Bc (z := k) rfl b0 t0 (hp_Bc (z := s) rfl b1 t1 (hp_Bc (z := q) rfl b2 t2 hp_Bn))) hp_Fn (hp_Kc (zi := (0 + 0)) (zv := (0 + (1 * s + 0))) k0 rfl rfl (by omega) (by omega) (hp_Kc (zi := (1200 + (1 * k + 0))) (zv := (0 + (1 * q + 0))) k1 rfl rfl (by omega) (by omega) hp_Kn)) (hp_La l0 (hp_Li (z := (1200 + (1 * k + 0))) l1 rfl (by omega) hp_Ln)) trivial ?_ ?_
  · intro p hp ys l' st' h' hys a1 a2 a3 gZ gL gS
    rcases List.mem_cons.mp hp with rfl | hp
    · obtain rfl := hp_y0 hys
      obtain ⟨y0, t0, rfl, q0, g0⟩ := hp_gSi (z := (1 + (1 * q + 0))) gS rfl
      obtain ⟨y1, t1, rfl, q1, g1⟩ := hp_gSi (z := (1200 + (1 * k + 0))) g0 rfl
      obtain ⟨t2, rfl, g2⟩ := hp_gSa g1 (by decide)
      cases hp_gSn g2
      exact e0 l' h' y0 y1 (by omega) (by omega) a1 a2 a3 (hp_gK (zi := (0 + 0)) (zv := (1 + (1 * s + 0))) gZ.2.2.2 (List.mem_of_getElem? (i := 0) rfl) rfl rfl (by omega) (by omega)) (hp_gLa gL (List.mem_of_getElem? (i := 0) rfl) (by decide)) (hp_gLi (z := (1200 + (1 * k + 0))) gL (List.mem_of_getElem? (i := 1) rfl) rfl (by omega))
    cases hp
  · intro p hp ys v h' hys a1 a2 a3 gZ gS
    cases hp
theorem ywG_k : hp_chk 316 93 1 [(0, 0, 39)] [] [(0, .inr (.inr (.inl (some 94)))), (1, .inl (1200, [(0, 1)]))] [] [] [] 8 [(94, ([], 1, [(0, 0, 39)], [], [(0, .inr (.inr (.inl (some 94)))), (1, .inl (1200, [(0, 1)]))], [.inr (.inr (.inl (some 94)))], []))] [] = true := by decide +kernel
theorem ywG {cst : am_K} {strs : List Nat} {Φ : am_Q → Prop} {D : Nat} {M : am_M} {h : am_H} {l : am_L} (c : hp_C cst strs D) (hM : m_P[316]? = some M) (hD : (8 : Int) ≤ (D : Int) + 1) (hy : ly_hy m_tt ly_TH h) (k : Int) (b0 : 0 ≤ k) (t0 : k ≤ 39) (l0 : hp_a l 0 94) (l1 : hp_i l 1 (k + 1200)) (e0 : ∀ (l' : am_L) (h' : am_H), ly_hy m_tt ly_TH h' → ly_fr cst [] h h' → h.length ≤ h'.length → hp_a l' 0 94 → hp_i l' 1 (k + 1200) → hp_F cst strs Φ D M 94 l' [.ref 94] h') : hp_F cst strs Φ D M 93 l [] h := by
  refine hp_arc c hM ywG_k hD [k] rfl hy (hp_Bc (z := k) rfl b0 t0 hp_Bn) hp_Fn hp_Kn (hp_La l0 (hp_Li (z := (1200 + (1 * k + 0))) l1 rfl (by omega) hp_Ln)) trivial ?_ ?_
  · intro p hp ys l' st' h' hys a1 a2 a3 gZ gL gS
    rcases List.mem_cons.mp hp with rfl | hp
    · obtain rfl := hp_y0 hys
      obtain ⟨t0, rfl, g0⟩ := hp_gSa gS (by decide)
      cases hp_gSn g0
      exact e0 l' h' a1 a2 a3 (hp_gLa gL (List.mem_of_getElem? (i := 0) rfl) (by decide)) (hp_gLi (z := (1200 + (1 * k + 0))) gL (List.mem_of_getElem? (i := 1) rfl) rfl (by omega))
    cases hp
  · intro p hp ys v h' hys a1 a2 a3 gZ gS
    cases hp
theorem ywH_k : hp_chk 316 97 1 [(0, 0, 39)] [] [(0, .inr (.inr (.inl (some 94)))), (1, .inl (1200, [(0, 1)]))] [] [] [] 8 [(31, ([], 1, [(0, 0, 39)], [], [(0, .inr (.inr (.inl (some 94)))), (1, .inl (1200, [(0, 1)]))], [], []))] [] = true := by decide +kernel
theorem ywH {cst : am_K} {strs : List Nat} {Φ : am_Q → Prop} {D : Nat} {M : am_M} {h : am_H} {l : am_L} (c : hp_C cst strs D) (hM : m_P[316]? = some M) (hD : (8 : Int) ≤ (D : Int) + 1) (hy : ly_hy m_tt ly_TH h) (k : Int) (b0 : 0 ≤ k) (t0 : k ≤ 39) (l0 : hp_a l 0 94) (l1 : hp_i l 1 (k + 1200)) (e0 : ∀ (l' : am_L) (h' : am_H), ly_hy m_tt ly_TH h' → ly_fr cst [] h h' → h.length ≤ h'.length → hp_a l' 0 94 → hp_i l' 1 (k + 1200) → hp_F cst strs Φ D M 31 l' [] h') : hp_F cst strs Φ D M 97 l [] h := by
  refine hp_arc c hM ywH_k hD [k] rfl hy (hp_Bc (z := k) rfl b0 t0 hp_Bn) hp_Fn hp_Kn (hp_La l0 (hp_Li (z := (1200 + (1 * k + 0))) l1 rfl (by omega) hp_Ln)) trivial ?_ ?_
  · intro p hp ys l' st' h' hys a1 a2 a3 gZ gL gS
    rcases List.mem_cons.mp hp with rfl | hp
    · obtain rfl := hp_y0 hys
      cases hp_gSn gS
      exact e0 l' h' a1 a2 a3 (hp_gLa gL (List.mem_of_getElem? (i := 0) rfl) (by decide)) (hp_gLi (z := (1200 + (1 * k + 0))) gL (List.mem_of_getElem? (i := 1) rfl) rfl (by omega))
    cases hp
  · intro p hp ys v h' hys a1 a2 a3 gZ gS
    cases hp
theorem yi0_k : hp_chk 307 0 3 [(0, 0, 14), (1, (-9223372036854775808), 9223372036854775807), (2, 0, 40)] [] [(0, .inr (.inr (.inl (some 94)))), (1, .inl (0, [(0, 1)])), (2, .inr (.inl (0, [(1, 1)]))), (4, .inl (0, [(2, 1)]))] [] [] [] 8 [(5, ([], 3, [(0, 0, 14), (1, (-9223372036854775808), 9223372036854775807), (2, 0, 40)], [], [(0, .inr (.inr (.inl (some 94)))), (1, .inl (0, [(0, 1)])), (2, .inr (.inl (0, [(1, 1)]))), (4, .inl (0, [(2, 1)])), (5, .inl (1200, []))], [], []))] [] = true := by decide +kernel
theorem yi0 {cst : am_K} {strs : List Nat} {Φ : am_Q → Prop} {D : Nat} {M : am_M} {h : am_H} {l : am_L} (c : hp_C cst strs D) (hM : m_P[307]? = some M) (hD : (8 : Int) ≤ (D : Int) + 1) (hy : ly_hy m_tt ly_TH h) (kk d u : Int) (b0 : 0 ≤ kk) (t0 : kk ≤ 14) (b1 : (-9223372036854775808) ≤ d) (t1 : d ≤ 9223372036854775807) (b2 : 0 ≤ u) (t2 : u ≤ 40) (l0 : hp_a l 0 94) (l1 : hp_i l 1 (kk)) (l2 : hp_j l 2 (d)) (l4 : hp_i l 4 (u)) (e0 : ∀ (l' : am_L) (h' : am_H), ly_hy m_tt ly_TH h' → ly_fr cst [] h h' → h.length ≤ h'.length → hp_a l' 0 94 → hp_i l' 1 (kk) → hp_j l' 2 (d) → hp_i l' 4 (u) → hp_i l' 5 1200 → hp_F cst strs Φ D M 5 l' [] h') : hp_F cst strs Φ D M 0 l [] h := by
  refine hp_arc c hM yi0_k hD [kk, d, u] rfl hy (hp_Bc (z := kk) rfl b0 t0 (hp_Bc (z := d) rfl b1 t1 (hp_Bc (z := u) rfl b2 t2 hp_Bn))) hp_Fn hp_Kn (hp_La l0 (hp_Li (z := (0 + (1 * kk + 0))) l1 rfl (by omega) (hp_Lj (z := (0 + (1 * d + 0))) l2 rfl (by omega) (hp_Li (z := (0 + (1 * u + 0))) l4 rfl (by omega) hp_Ln)))) trivial ?_ ?_
  · intro p hp ys l' st' h' hys a1 a2 a3 gZ gL gS
    rcases List.mem_cons.mp hp with rfl | hp
    · obtain rfl := hp_y0 hys
      cases hp_gSn gS
      exact e0 l' h' a1 a2 a3 (hp_gLa gL (List.mem_of_getElem? (i := 0) rfl) (by decide)) (hp_gLi (z := (0 + (1 * kk + 0))) gL (List.mem_of_getElem? (i := 1) rfl) rfl (by omega)) (hp_gLj (z := (0 + (1 * d + 0))) gL (List.mem_of_getElem? (i := 2) rfl) rfl (by omega)) (hp_gLi (z := (0 + (1 * u + 0))) gL (List.mem_of_getElem? (i := 3) rfl) rfl (by omega)) (hp_gLi (z := (1200 + 0)) gL (List.mem_of_getElem? (i := 4) rfl) rfl (by omega))
    cases hp
  · intro p hp ys v h' hys a1 a2 a3 gZ gS
    cases hp
theorem yiZ_k : hp_chk 307 5 3 [(0, 0, 14), (1, (-9223372036854775808), 9223372036854775807), (2, 0, 40)] [] [(0, .inr (.inr (.inl (some 94)))), (1, .inl (0, [(0, 1)])), (2, .inr (.inl (0, [(1, 1)]))), (4, .inl (0, [(2, 1)])), (5, .inl (1200, [(2, 1)]))] [] [] [] 8 [] [([], 3, [(0, 0, 14), (1, (-9223372036854775808), 9223372036854775807), (2, 0, 40)], [], [], [.inl (0, [])], [])] = true := by decide +kernel
theorem yiZ {cst : am_K} {strs : List Nat} {Φ : am_Q → Prop} {D : Nat} {M : am_M} {h : am_H} {l : am_L} (c : hp_C cst strs D) (hM : m_P[307]? = some M) (hD : (8 : Int) ≤ (D : Int) + 1) (hy : ly_hy m_tt ly_TH h) (kk d u : Int) (b0 : 0 ≤ kk) (t0 : kk ≤ 14) (b1 : (-9223372036854775808) ≤ d) (t1 : d ≤ 9223372036854775807) (b2 : 0 ≤ u) (t2 : u ≤ 40) (l0 : hp_a l 0 94) (l1 : hp_i l 1 (kk)) (l2 : hp_j l 2 (d)) (l4 : hp_i l 4 (u)) (l5 : hp_i l 5 (u + 1200)) (r0 : ∀ (h' : am_H) (y0 : Int32), y0.toInt = 0 → ly_hy m_tt ly_TH h' → ly_fr cst [] h h' → h.length ≤ h'.length → Φ (some (.int y0), h', 0, 0)) : hp_F cst strs Φ D M 5 l [] h := by
  refine hp_arc c hM yiZ_k hD [kk, d, u] rfl hy (hp_Bc (z := kk) rfl b0 t0 (hp_Bc (z := d) rfl b1 t1 (hp_Bc (z := u) rfl b2 t2 hp_Bn))) hp_Fn hp_Kn (hp_La l0 (hp_Li (z := (0 + (1 * kk + 0))) l1 rfl (by omega) (hp_Lj (z := (0 + (1 * d + 0))) l2 rfl (by omega) (hp_Li (z := (0 + (1 * u + 0))) l4 rfl (by omega) (hp_Li (z := (1200 + (1 * u + 0))) l5 rfl (by omega) hp_Ln))))) trivial ?_ ?_
  · intro p hp ys l' st' h' hys a1 a2 a3 gZ gL gS
    cases hp
  · intro p hp ys v h' hys a1 a2 a3 gZ gS
    rcases List.mem_cons.mp hp with rfl | hp
    · obtain rfl := hp_y0 hys
      cases v with
      | none => cases gS
      | some w =>
        obtain ⟨y0, t0, s0, q0, -⟩ := hp_gSi (z := (0 + 0)) gS rfl
        cases s0
        exact r0 h' y0 (by omega) a1 a2 a3
    cases hp
theorem yiA_k : hp_chk 307 5 5 [(0, 0, 14), (1, (-9223372036854775808), 9223372036854775807), (2, 0, 40), (3, 0, 39), (4, 0, 14)] [((-1), [(2, 1), (3, (-1))]), ((-1), [(0, (-1)), (4, 1)])] [(0, .inr (.inr (.inl (some 94)))), (1, .inl (0, [(0, 1)])), (2, .inr (.inl (0, [(1, 1)]))), (4, .inl (0, [(2, 1)])), (5, .inl (1200, [(3, 1)]))] [] [(23552, (1200, [(3, 1)]), (0, [(4, 1)]))] [] 8 [(5, ([], 5, [(0, 0, 14), (1, (-9223372036854775808), 9223372036854775807), (2, 0, 40), (3, 0, 39), (4, 0, 14)], [], [(0, .inr (.inr (.inl (some 94)))), (1, .inl (0, [(0, 1)])), (2, .inr (.inl (0, [(1, 1)]))), (4, .inl (0, [(2, 1)])), (5, .inl (1201, [(3, 1)]))], [], []))] [] = true := by decide +kernel
theorem yiA {cst : am_K} {strs : List Nat} {Φ : am_Q → Prop} {D : Nat} {M : am_M} {h : am_H} {l : am_L} (c : hp_C cst strs D) (hM : m_P[307]? = some M) (hD : (8 : Int) ≤ (D : Int) + 1) (hy : ly_hy m_tt ly_TH h) (kk d u i x : Int) (b0 : 0 ≤ kk) (t0 : kk ≤ 14) (b1 : (-9223372036854775808) ≤ d) (t1 : d ≤ 9223372036854775807) (b2 : 0 ≤ u) (t2 : u ≤ 40) (b3 : 0 ≤ i) (t3 : i ≤ 39) (b4 : 0 ≤ x) (t4 : x ≤ 14) (f0 : 0 ≤ (u - i - 1)) (f1 : 0 ≤ (x - kk - 1)) (k0 : ly_hv cst h 23552 (i + 1200) = some (x)) (l0 : hp_a l 0 94) (l1 : hp_i l 1 (kk)) (l2 : hp_j l 2 (d)) (l4 : hp_i l 4 (u)) (l5 : hp_i l 5 (i + 1200)) (e0 : ∀ (l' : am_L) (h' : am_H), ly_hy m_tt ly_TH h' → ly_fr cst [] h h' → h.length ≤ h'.length → hp_a l' 0 94 → hp_i l' 1 (kk) → hp_j l' 2 (d) → hp_i l' 4 (u) → hp_i l' 5 (i + 1201) → hp_F cst strs Φ D M 5 l' [] h') : hp_F cst strs Φ D M 5 l [] h := by
  refine hp_arc c hM yiA_k hD [kk, d, u, i, x] rfl hy (hp_Bc (z := kk) rfl b0 t0 (hp_Bc (z := d) rfl b1 t1 (hp_Bc (z := u) rfl b2 t2 (hp_Bc (z := i) rfl b3 t3 (hp_Bc (z := x) rfl b4 t4 hp_Bn))))) (hp_Fc (z := ((-1) + (1 * u + ((-1) * i + 0)))) rfl (by omega) (hp_Fc (z := ((-1) + ((-1) * kk + (1 * x + 0)))) rfl (by omega) hp_Fn)) (hp_Kc (zi := (1200 + (1 * i + 0))) (zv := (0 + (1 * x + 0))) k0 rfl rfl (by omega) (by omega) hp_Kn) (hp_La l0 (hp_Li (z := (0 + (1 * kk + 0))) l1 rfl (by omega) (hp_Lj (z := (0 + (1 * d + 0))) l2 rfl (by omega) (hp_Li (z := (0 + (1 * u + 0))) l4 rfl (by omega) (hp_Li (z := (1200 + (1 * i + 0))) l5 rfl (by omega) hp_Ln))))) trivial ?_ ?_
  · intro p hp ys l' st' h' hys a1 a2 a3 gZ gL gS
    rcases List.mem_cons.mp hp with rfl | hp
    · obtain rfl := hp_y0 hys
      cases hp_gSn gS
      exact e0 l' h' a1 a2 a3 (hp_gLa gL (List.mem_of_getElem? (i := 0) rfl) (by decide)) (hp_gLi (z := (0 + (1 * kk + 0))) gL (List.mem_of_getElem? (i := 1) rfl) rfl (by omega)) (hp_gLj (z := (0 + (1 * d + 0))) gL (List.mem_of_getElem? (i := 2) rfl) rfl (by omega)) (hp_gLi (z := (0 + (1 * u + 0))) gL (List.mem_of_getElem? (i := 3) rfl) rfl (by omega)) (hp_gLi (z := (1201 + (1 * i + 0))) gL (List.mem_of_getElem? (i := 4) rfl) rfl (by omega))
    cases hp
  · intro p hp ys v h' hys a1 a2 a3 gZ gS
    cases hp
theorem yiB_k : hp_chk 307 5 5 [(0, 0, 14), (1, (-9223372036854775808), 9223372036854775807), (2, 0, 40), (3, 0, 39), (4, 0, 14)] [((-1), [(2, 1), (3, (-1))]), ((-1), [(0, 1), (4, (-1))])] [(0, .inr (.inr (.inl (some 94)))), (1, .inl (0, [(0, 1)])), (2, .inr (.inl (0, [(1, 1)]))), (4, .inl (0, [(2, 1)])), (5, .inl (1200, [(3, 1)]))] [] [(23552, (1200, [(3, 1)]), (0, [(4, 1)]))] [] 8 [(5, ([], 5, [(0, 0, 14), (1, (-9223372036854775808), 9223372036854775807), (2, 0, 40), (3, 0, 39), (4, 0, 14)], [], [(0, .inr (.inr (.inl (some 94)))), (1, .inl (0, [(0, 1)])), (2, .inr (.inl (0, [(1, 1)]))), (4, .inl (0, [(2, 1)])), (5, .inl (1201, [(3, 1)]))], [], []))] [] = true := by decide +kernel
theorem yiB {cst : am_K} {strs : List Nat} {Φ : am_Q → Prop} {D : Nat} {M : am_M} {h : am_H} {l : am_L} (c : hp_C cst strs D) (hM : m_P[307]? = some M) (hD : (8 : Int) ≤ (D : Int) + 1) (hy : ly_hy m_tt ly_TH h) (kk d u i x : Int) (b0 : 0 ≤ kk) (t0 : kk ≤ 14) (b1 : (-9223372036854775808) ≤ d) (t1 : d ≤ 9223372036854775807) (b2 : 0 ≤ u) (t2 : u ≤ 40) (b3 : 0 ≤ i) (t3 : i ≤ 39) (b4 : 0 ≤ x) (t4 : x ≤ 14) (f0 : 0 ≤ (u - i - 1)) (f1 : 0 ≤ (kk - x - 1)) (k0 : ly_hv cst h 23552 (i + 1200) = some (x)) (l0 : hp_a l 0 94) (l1 : hp_i l 1 (kk)) (l2 : hp_j l 2 (d)) (l4 : hp_i l 4 (u)) (l5 : hp_i l 5 (i + 1200)) (e0 : ∀ (l' : am_L) (h' : am_H), ly_hy m_tt ly_TH h' → ly_fr cst [] h h' → h.length ≤ h'.length → hp_a l' 0 94 → hp_i l' 1 (kk) → hp_j l' 2 (d) → hp_i l' 4 (u) → hp_i l' 5 (i + 1201) → hp_F cst strs Φ D M 5 l' [] h') : hp_F cst strs Φ D M 5 l [] h := by
  refine hp_arc c hM yiB_k hD [kk, d, u, i, x] rfl hy (hp_Bc (z := kk) rfl b0 t0 (hp_Bc (z := d) rfl b1 t1 (hp_Bc (z := u) rfl b2 t2 (hp_Bc (z := i) rfl b3 t3 (hp_Bc (z := x) rfl b4 t4 hp_Bn))))) (hp_Fc (z := ((-1) + (1 * u + ((-1) * i + 0)))) rfl (by omega) (hp_Fc (z := ((-1) + (1 * kk + ((-1) * x + 0)))) rfl (by omega) hp_Fn)) (hp_Kc (zi := (1200 + (1 * i + 0))) (zv := (0 + (1 * x + 0))) k0 rfl rfl (by omega) (by omega) hp_Kn) (hp_La l0 (hp_Li (z := (0 + (1 * kk + 0))) l1 rfl (by omega) (hp_Lj (z := (0 + (1 * d + 0))) l2 rfl (by omega) (hp_Li (z := (0 + (1 * u + 0))) l4 rfl (by omega) (hp_Li (z := (1200 + (1 * i + 0))) l5 rfl (by omega) hp_Ln))))) trivial ?_ ?_
  · intro p hp ys l' st' h' hys a1 a2 a3 gZ gL gS
    rcases List.mem_cons.mp hp with rfl | hp
    · obtain rfl := hp_y0 hys
      cases hp_gSn gS
      exact e0 l' h' a1 a2 a3 (hp_gLa gL (List.mem_of_getElem? (i := 0) rfl) (by decide)) (hp_gLi (z := (0 + (1 * kk + 0))) gL (List.mem_of_getElem? (i := 1) rfl) rfl (by omega)) (hp_gLj (z := (0 + (1 * d + 0))) gL (List.mem_of_getElem? (i := 2) rfl) rfl (by omega)) (hp_gLi (z := (0 + (1 * u + 0))) gL (List.mem_of_getElem? (i := 3) rfl) rfl (by omega)) (hp_gLi (z := (1201 + (1 * i + 0))) gL (List.mem_of_getElem? (i := 4) rfl) rfl (by omega))
    cases hp
  · intro p hp ys v h' hys a1 a2 a3 gZ gS
    cases hp
theorem yiC_k : hp_chk 307 5 5 [(0, 0, 14), (1, (-9223372036854775808), 9223372036854775807), (2, 0, 40), (3, 0, 39), (4, (-9223372036854775808), 9223372036854775807)] [((-1), [(2, 1), (3, (-1))]), ((-1), [(1, (-1)), (4, 1)])] [(0, .inr (.inr (.inl (some 94)))), (1, .inl (0, [(0, 1)])), (2, .inr (.inl (0, [(1, 1)]))), (4, .inl (0, [(2, 1)])), (5, .inl (1200, [(3, 1)]))] [] [(23552, (1200, [(3, 1)]), (0, [(0, 1)])), (23808, (1200, [(3, 1)]), (0, [(4, 1)]))] [] 8 [(5, ([], 5, [(0, 0, 14), (1, (-9223372036854775808), 9223372036854775807), (2, 0, 40), (3, 0, 39), (4, (-9223372036854775808), 9223372036854775807)], [], [(0, .inr (.inr (.inl (some 94)))), (1, .inl (0, [(0, 1)])), (2, .inr (.inl (0, [(1, 1)]))), (4, .inl (0, [(2, 1)])), (5, .inl (1201, [(3, 1)]))], [], []))] [] = true := by decide +kernel
theorem yiC {cst : am_K} {strs : List Nat} {Φ : am_Q → Prop} {D : Nat} {M : am_M} {h : am_H} {l : am_L} (c : hp_C cst strs D) (hM : m_P[307]? = some M) (hD : (8 : Int) ≤ (D : Int) + 1) (hy : ly_hy m_tt ly_TH h) (kk d u i y : Int) (b0 : 0 ≤ kk) (t0 : kk ≤ 14) (b1 : (-9223372036854775808) ≤ d) (t1 : d ≤ 9223372036854775807) (b2 : 0 ≤ u) (t2 : u ≤ 40) (b3 : 0 ≤ i) (t3 : i ≤ 39) (b4 : (-9223372036854775808) ≤ y) (t4 : y ≤ 9223372036854775807) (f0 : 0 ≤ (u - i - 1)) (f1 : 0 ≤ (y - d - 1)) (k0 : ly_hv cst h 23552 (i + 1200) = some (kk)) (k1 : ly_hv cst h 23808 (i + 1200) = some (y)) (l0 : hp_a l 0 94) (l1 : hp_i l 1 (kk)) (l2 : hp_j l 2 (d)) (l4 : hp_i l 4 (u)) (l5 : hp_i l 5 (i + 1200)) (e0 : ∀ (l' : am_L) (h' : am_H), ly_hy m_tt ly_TH h' → ly_fr cst [] h h' → h.length ≤ h'.length → hp_a l' 0 94 → hp_i l' 1 (kk) → hp_j l' 2 (d) → hp_i l' 4 (u) → hp_i l' 5 (i + 1201) → hp_F cst strs Φ D M 5 l' [] h') : hp_F cst strs Φ D M 5 l [] h := by
  refine hp_arc c hM yiC_k hD [kk, d, u, i, y] rfl hy (hp_Bc (z := kk) rfl b0 t0 (hp_Bc (z := d) rfl b1 t1 (hp_Bc (z := u) rfl b2 t2 (hp_Bc (z := i) rfl b3 t3 (hp_Bc (z := y) rfl b4 t4 hp_Bn))))) (hp_Fc (z := ((-1) + (1 * u + ((-1) * i + 0)))) rfl (by omega) (hp_Fc (z := ((-1) + ((-1) * d + (1 * y + 0)))) rfl (by omega) hp_Fn)) (hp_Kc (zi := (1200 + (1 * i + 0))) (zv := (0 + (1 * kk + 0))) k0 rfl rfl (by omega) (by omega) (hp_Kc (zi := (1200 + (1 * i + 0))) (zv := (0 + (1 * y + 0))) k1 rfl rfl (by omega) (by omega) hp_Kn)) (hp_La l0 (hp_Li (z := (0 + (1 * kk + 0))) l1 rfl (by omega) (hp_Lj (z := (0 + (1 * d + 0))) l2 rfl (by omega) (hp_Li (z := (0 + (1 * u + 0))) l4 rfl (by omega) (hp_Li (z := (1200 + (1 * i + 0))) l5 rfl (by omega) hp_Ln))))) trivial ?_ ?_
  · intro p hp ys l' st' h' hys a1 a2 a3 gZ gL gS
    rcases List.mem_cons.mp hp with rfl | hp
    · obtain rfl := hp_y0 hys
      cases hp_gSn gS
      exact e0 l' h' a1 a2 a3 (hp_gLa gL (List.mem_of_getElem? (i := 0) rfl) (by decide)) (hp_gLi (z := (0 + (1 * kk + 0))) gL (List.mem_of_getElem? (i := 1) rfl) rfl (by omega)) (hp_gLj (z := (0 + (1 * d + 0))) gL (List.mem_of_getElem? (i := 2) rfl) rfl (by omega)) (hp_gLi (z := (0 + (1 * u + 0))) gL (List.mem_of_getElem? (i := 3) rfl) rfl (by omega)) (hp_gLi (z := (1201 + (1 * i + 0))) gL (List.mem_of_getElem? (i := 4) rfl) rfl (by omega))
    cases hp
  · intro p hp ys v h' hys a1 a2 a3 gZ gS
    cases hp
theorem yiD_k : hp_chk 307 5 5 [(0, 0, 14), (1, (-9223372036854775808), 9223372036854775807), (2, 0, 40), (3, 0, 39), (4, (-9223372036854775808), 9223372036854775807)] [((-1), [(2, 1), (3, (-1))]), ((-1), [(1, 1), (4, (-1))])] [(0, .inr (.inr (.inl (some 94)))), (1, .inl (0, [(0, 1)])), (2, .inr (.inl (0, [(1, 1)]))), (4, .inl (0, [(2, 1)])), (5, .inl (1200, [(3, 1)]))] [] [(23552, (1200, [(3, 1)]), (0, [(0, 1)])), (23808, (1200, [(3, 1)]), (0, [(4, 1)]))] [] 8 [(5, ([], 5, [(0, 0, 14), (1, (-9223372036854775808), 9223372036854775807), (2, 0, 40), (3, 0, 39), (4, (-9223372036854775808), 9223372036854775807)], [], [(0, .inr (.inr (.inl (some 94)))), (1, .inl (0, [(0, 1)])), (2, .inr (.inl (0, [(1, 1)]))), (4, .inl (0, [(2, 1)])), (5, .inl (1201, [(3, 1)]))], [], []))] [] = true := by decide +kernel
theorem yiD {cst : am_K} {strs : List Nat} {Φ : am_Q → Prop} {D : Nat} {M : am_M} {h : am_H} {l : am_L} (c : hp_C cst strs D) (hM : m_P[307]? = some M) (hD : (8 : Int) ≤ (D : Int) + 1) (hy : ly_hy m_tt ly_TH h) (kk d u i y : Int) (b0 : 0 ≤ kk) (t0 : kk ≤ 14) (b1 : (-9223372036854775808) ≤ d) (t1 : d ≤ 9223372036854775807) (b2 : 0 ≤ u) (t2 : u ≤ 40) (b3 : 0 ≤ i) (t3 : i ≤ 39) (b4 : (-9223372036854775808) ≤ y) (t4 : y ≤ 9223372036854775807) (f0 : 0 ≤ (u - i - 1)) (f1 : 0 ≤ (d - y - 1)) (k0 : ly_hv cst h 23552 (i + 1200) = some (kk)) (k1 : ly_hv cst h 23808 (i + 1200) = some (y)) (l0 : hp_a l 0 94) (l1 : hp_i l 1 (kk)) (l2 : hp_j l 2 (d)) (l4 : hp_i l 4 (u)) (l5 : hp_i l 5 (i + 1200)) (e0 : ∀ (l' : am_L) (h' : am_H), ly_hy m_tt ly_TH h' → ly_fr cst [] h h' → h.length ≤ h'.length → hp_a l' 0 94 → hp_i l' 1 (kk) → hp_j l' 2 (d) → hp_i l' 4 (u) → hp_i l' 5 (i + 1201) → hp_F cst strs Φ D M 5 l' [] h') : hp_F cst strs Φ D M 5 l [] h := by
  refine hp_arc c hM yiD_k hD [kk, d, u, i, y] rfl hy (hp_Bc (z := kk) rfl b0 t0 (hp_Bc (z := d) rfl b1 t1 (hp_Bc (z := u) rfl b2 t2 (hp_Bc (z := i) rfl b3 t3 (hp_Bc (z := y) rfl b4 t4 hp_Bn))))) (hp_Fc (z := ((-1) + (1 * u + ((-1) * i + 0)))) rfl (by omega) (hp_Fc (z := ((-1) + (1 * d + ((-1) * y + 0)))) rfl (by omega) hp_Fn)) (hp_Kc (zi := (1200 + (1 * i + 0))) (zv := (0 + (1 * kk + 0))) k0 rfl rfl (by omega) (by omega) (hp_Kc (zi := (1200 + (1 * i + 0))) (zv := (0 + (1 * y + 0))) k1 rfl rfl (by omega) (by omega) hp_Kn)) (hp_La l0 (hp_Li (z := (0 + (1 * kk + 0))) l1 rfl (by omega) (hp_Lj (z := (0 + (1 * d + 0))) l2 rfl (by omega) (hp_Li (z := (0 + (1 * u + 0))) l4 rfl (by omega) (hp_Li (z := (1200 + (1 * i + 0))) l5 rfl (by omega) hp_Ln))))) trivial ?_ ?_
  · intro p hp ys l' st' h' hys a1 a2 a3 gZ gL gS
    rcases List.mem_cons.mp hp with rfl | hp
    · obtain rfl := hp_y0 hys
      cases hp_gSn gS
      exact e0 l' h' a1 a2 a3 (hp_gLa gL (List.mem_of_getElem? (i := 0) rfl) (by decide)) (hp_gLi (z := (0 + (1 * kk + 0))) gL (List.mem_of_getElem? (i := 1) rfl) rfl (by omega)) (hp_gLj (z := (0 + (1 * d + 0))) gL (List.mem_of_getElem? (i := 2) rfl) rfl (by omega)) (hp_gLi (z := (0 + (1 * u + 0))) gL (List.mem_of_getElem? (i := 3) rfl) rfl (by omega)) (hp_gLi (z := (1201 + (1 * i + 0))) gL (List.mem_of_getElem? (i := 4) rfl) rfl (by omega))
    cases hp
  · intro p hp ys v h' hys a1 a2 a3 gZ gS
    cases hp
theorem yiE_k : hp_chk 307 5 4 [(0, 0, 14), (1, (-9223372036854775808), 9223372036854775807), (2, 0, 40), (3, 0, 39)] [((-1), [(2, 1), (3, (-1))])] [(0, .inr (.inr (.inl (some 94)))), (1, .inl (0, [(0, 1)])), (2, .inr (.inl (0, [(1, 1)]))), (4, .inl (0, [(2, 1)])), (5, .inl (1200, [(3, 1)]))] [] [(23552, (1200, [(3, 1)]), (0, [(0, 1)])), (23808, (1200, [(3, 1)]), (0, [(1, 1)]))] [] 8 [] [([], 4, [(0, 0, 14), (1, (-9223372036854775808), 9223372036854775807), (2, 0, 40), (3, 0, 39)], [], [], [.inl (1, [])], [])] = true := by decide +kernel
theorem yiE {cst : am_K} {strs : List Nat} {Φ : am_Q → Prop} {D : Nat} {M : am_M} {h : am_H} {l : am_L} (c : hp_C cst strs D) (hM : m_P[307]? = some M) (hD : (8 : Int) ≤ (D : Int) + 1) (hy : ly_hy m_tt ly_TH h) (kk d u i : Int) (b0 : 0 ≤ kk) (t0 : kk ≤ 14) (b1 : (-9223372036854775808) ≤ d) (t1 : d ≤ 9223372036854775807) (b2 : 0 ≤ u) (t2 : u ≤ 40) (b3 : 0 ≤ i) (t3 : i ≤ 39) (f0 : 0 ≤ (u - i - 1)) (k0 : ly_hv cst h 23552 (i + 1200) = some (kk)) (k1 : ly_hv cst h 23808 (i + 1200) = some (d)) (l0 : hp_a l 0 94) (l1 : hp_i l 1 (kk)) (l2 : hp_j l 2 (d)) (l4 : hp_i l 4 (u)) (l5 : hp_i l 5 (i + 1200)) (r0 : ∀ (h' : am_H) (y0 : Int32), y0.toInt = 1 → ly_hy m_tt ly_TH h' → ly_fr cst [] h h' → h.length ≤ h'.length → Φ (some (.int y0), h', 0, 0)) : hp_F cst strs Φ D M 5 l [] h := by
  refine hp_arc c hM yiE_k hD [kk, d, u, i] rfl hy (hp_Bc (z := kk) rfl b0 t0 (hp_Bc (z := d) rfl b1 t1 (hp_Bc (z := u) rfl b2 t2 (hp_Bc (z := i) rfl b3 t3 hp_Bn)))) (hp_Fc (z := ((-1) + (1 * u + ((-1) * i + 0)))) rfl (by omega) hp_Fn) (hp_Kc (zi := (1200 + (1 * i + 0))) (zv := (0 + (1 * kk + 0))) k0 rfl rfl (by omega) (by omega) (hp_Kc (zi := (1200 + (1 * i + 0))) (zv := (0 + (1 * d + 0))) k1 rfl rfl (by omega) (by omega) hp_Kn)) (hp_La l0 (hp_Li (z := (0 + (1 * kk + 0))) l1 rfl (by omega) (hp_Lj (z := (0 + (1 * d + 0))) l2 rfl (by omega) (hp_Li (z := (0 + (1 * u + 0))) l4 rfl (by omega) (hp_Li (z := (1200 + (1 * i + 0))) l5 rfl (by omega) hp_Ln))))) trivial ?_ ?_
  · intro p hp ys l' st' h' hys a1 a2 a3 gZ gL gS
    cases hp
  · intro p hp ys v h' hys a1 a2 a3 gZ gS
    rcases List.mem_cons.mp hp with rfl | hp
    · obtain rfl := hp_y0 hys
      cases v with
      | none => cases gS
      | some w =>
        obtain ⟨y0, t0, s0, q0, -⟩ := hp_gSi (z := (1 + 0)) gS rfl
        cases s0
        exact r0 h' y0 (by omega) a1 a2 a3
    cases hp
theorem ydA0_k : hq_chk [305] 308 0 3 [(0, 0, 39), (1, 0, 1200), (2, 0, 3)] [] [(0, .inr (.inr (.inl (some 94)))), (1, .inl (1200, [(0, 1)]))] [] [(19971, (0, []), (0, [(2, 1)])), (19973, (0, []), (0, [(1, 1)]))] [19990, 19991] 8 [] [([], 3, [(0, 0, 39), (1, 0, 1200), (2, 0, 3)], [], [], [.inl (0, [])], [(19990, (0, []), (1, [])), (19991, (0, []), (0, [(1, 1)]))])] = true := by decide +kernel
theorem ydA0 {cst : am_K} {strs : List Nat} {Φ : am_Q → Prop} {D : Nat} {M : am_M} {h : am_H} {l : am_L} (c : hp_C cst strs D) (hM : m_P[308]? = some M) (hD : (8 : Int) ≤ (D : Int) + 1) (hy : ly_hy m_tt ly_TH h) (k p q : Int) (b0 : 0 ≤ k) (t0 : k ≤ 39) (b1 : 0 ≤ p) (t1 : p ≤ 1200) (b2 : 0 ≤ q) (t2 : q ≤ 3) (k0 : ly_hv cst h 19971 0 = some (q)) (k1 : ly_hv cst h 19973 0 = some (p)) (l0 : hp_a l 0 94) (l1 : hp_i l 1 (k + 1200)) (r0 : ∀ (h' : am_H) (y0 : Int32), y0.toInt = 0 → ly_hy m_tt ly_TH h' → ly_fr cst [19990, 19991] h h' → h.length ≤ h'.length → ly_hv cst h' 19990 0 = some 1 → ly_hv cst h' 19991 0 = some (p) → Φ (some (.int y0), h', 0, 0)) : hp_F cst strs Φ D M 0 l [] h := by
  refine hq_arc c hM ydA0_k hD [k, p, q] rfl hy (hp_Bc (z := k) rfl b0 t0 (hp_Bc (z := p) rfl b1 t1 (hp_Bc (z := q) rfl b2 t2 hp_Bn))) hp_Fn (hp_Kc (zi := (0 + 0)) (zv := (0 + (1 * q + 0))) k0 rfl rfl (by omega) (by omega) (hp_Kc (zi := (0 + 0)) (zv := (0 + (1 * p + 0))) k1 rfl rfl (by omega) (by omega) hp_Kn)) (hp_La l0 (hp_Li (z := (1200 + (1 * k + 0))) l1 rfl (by omega) hp_Ln)) trivial ?_ ?_
  · intro p hp ys l' st' h' hys a1 a2 a3 gZ gL gS
    cases hp
  · intro p hp ys v h' hys a1 a2 a3 gZ gS
    rcases List.mem_cons.mp hp with rfl | hp
    · obtain rfl := hp_y0 hys
      cases v with
      | none => cases gS
      | some w =>
        obtain ⟨y0, t0, s0, q0, -⟩ := hp_gSi (z := (0 + 0)) gS rfl
        cases s0
        exact r0 h' y0 (by omega) a1 a2 a3 (hp_gK (zi := (0 + 0)) (zv := (1 + 0)) gZ.2.2.2 (List.mem_of_getElem? (i := 0) rfl) rfl rfl (by omega) (by omega)) (hp_gK (zi := (0 + 0)) (zv := (0 + (1 * p + 0))) gZ.2.2.2 (List.mem_of_getElem? (i := 1) rfl) rfl rfl (by omega) (by omega))
    cases hp
theorem ydA1_k : hq_chk [305] 308 0 3 [(0, 0, 39), (1, 0, 1200), (2, 5, 8)] [] [(0, .inr (.inr (.inl (some 94)))), (1, .inl (1200, [(0, 1)]))] [] [(19971, (0, []), (0, [(2, 1)])), (19973, (0, []), (0, [(1, 1)]))] [19990, 19991] 8 [] [([], 3, [(0, 0, 39), (1, 0, 1200), (2, 5, 8)], [], [], [.inl (0, [])], [(19990, (0, []), (1, [])), (19991, (0, []), (0, [(1, 1)]))])] = true := by decide +kernel
theorem ydA1 {cst : am_K} {strs : List Nat} {Φ : am_Q → Prop} {D : Nat} {M : am_M} {h : am_H} {l : am_L} (c : hp_C cst strs D) (hM : m_P[308]? = some M) (hD : (8 : Int) ≤ (D : Int) + 1) (hy : ly_hy m_tt ly_TH h) (k p q : Int) (b0 : 0 ≤ k) (t0 : k ≤ 39) (b1 : 0 ≤ p) (t1 : p ≤ 1200) (b2 : 5 ≤ q) (t2 : q ≤ 8) (k0 : ly_hv cst h 19971 0 = some (q)) (k1 : ly_hv cst h 19973 0 = some (p)) (l0 : hp_a l 0 94) (l1 : hp_i l 1 (k + 1200)) (r0 : ∀ (h' : am_H) (y0 : Int32), y0.toInt = 0 → ly_hy m_tt ly_TH h' → ly_fr cst [19990, 19991] h h' → h.length ≤ h'.length → ly_hv cst h' 19990 0 = some 1 → ly_hv cst h' 19991 0 = some (p) → Φ (some (.int y0), h', 0, 0)) : hp_F cst strs Φ D M 0 l [] h := by
  refine hq_arc c hM ydA1_k hD [k, p, q] rfl hy (hp_Bc (z := k) rfl b0 t0 (hp_Bc (z := p) rfl b1 t1 (hp_Bc (z := q) rfl b2 t2 hp_Bn))) hp_Fn (hp_Kc (zi := (0 + 0)) (zv := (0 + (1 * q + 0))) k0 rfl rfl (by omega) (by omega) (hp_Kc (zi := (0 + 0)) (zv := (0 + (1 * p + 0))) k1 rfl rfl (by omega) (by omega) hp_Kn)) (hp_La l0 (hp_Li (z := (1200 + (1 * k + 0))) l1 rfl (by omega) hp_Ln)) trivial ?_ ?_
  · intro p hp ys l' st' h' hys a1 a2 a3 gZ gL gS
    cases hp
  · intro p hp ys v h' hys a1 a2 a3 gZ gS
    rcases List.mem_cons.mp hp with rfl | hp
    · obtain rfl := hp_y0 hys
      cases v with
      | none => cases gS
      | some w =>
        obtain ⟨y0, t0, s0, q0, -⟩ := hp_gSi (z := (0 + 0)) gS rfl
        cases s0
        exact r0 h' y0 (by omega) a1 a2 a3 (hp_gK (zi := (0 + 0)) (zv := (1 + 0)) gZ.2.2.2 (List.mem_of_getElem? (i := 0) rfl) rfl rfl (by omega) (by omega)) (hp_gK (zi := (0 + 0)) (zv := (0 + (1 * p + 0))) gZ.2.2.2 (List.mem_of_getElem? (i := 1) rfl) rfl rfl (by omega) (by omega))
    cases hp
theorem yd0_k : hp_chk 308 0 1 [(0, 0, 39)] [] [(0, .inr (.inr (.inl (some 94)))), (1, .inl (1200, [(0, 1)]))] [] [(19971, (0, []), (4, []))] [] 8 [(15, ([], 1, [(0, 0, 39)], [], [(0, .inr (.inr (.inl (some 94)))), (1, .inl (1200, [(0, 1)]))], [.inr (.inr (.inl (some 94)))], []))] [] = true := by decide +kernel
theorem yd0 {cst : am_K} {strs : List Nat} {Φ : am_Q → Prop} {D : Nat} {M : am_M} {h : am_H} {l : am_L} (c : hp_C cst strs D) (hM : m_P[308]? = some M) (hD : (8 : Int) ≤ (D : Int) + 1) (hy : ly_hy m_tt ly_TH h) (k : Int) (b0 : 0 ≤ k) (t0 : k ≤ 39) (k0 : ly_hv cst h 19971 0 = some 4) (l0 : hp_a l 0 94) (l1 : hp_i l 1 (k + 1200)) (e0 : ∀ (l' : am_L) (h' : am_H), ly_hy m_tt ly_TH h' → ly_fr cst [] h h' → h.length ≤ h'.length → hp_a l' 0 94 → hp_i l' 1 (k + 1200) → hp_F cst strs Φ D M 15 l' [.ref 94] h') : hp_F cst strs Φ D M 0 l [] h := by
  refine hp_arc c hM yd0_k hD [k] rfl hy (hp_Bc (z := k) rfl b0 t0 hp_Bn) hp_Fn (hp_Kc (zi := (0 + 0)) (zv := (4 + 0)) k0 rfl rfl (by omega) (by omega) hp_Kn) (hp_La l0 (hp_Li (z := (1200 + (1 * k + 0))) l1 rfl (by omega) hp_Ln)) trivial ?_ ?_
  · intro p hp ys l' st' h' hys a1 a2 a3 gZ gL gS
    rcases List.mem_cons.mp hp with rfl | hp
    · obtain rfl := hp_y0 hys
      obtain ⟨t0, rfl, g0⟩ := hp_gSa gS (by decide)
      cases hp_gSn g0
      exact e0 l' h' a1 a2 a3 (hp_gLa gL (List.mem_of_getElem? (i := 0) rfl) (by decide)) (hp_gLi (z := (1200 + (1 * k + 0))) gL (List.mem_of_getElem? (i := 1) rfl) rfl (by omega))
    cases hp
  · intro p hp ys v h' hys a1 a2 a3 gZ gS
    cases hp
theorem yd1_k : hp_chk 308 18 2 [(0, 0, 39), (1, 0, 400)] [] [(0, .inr (.inr (.inl (some 94)))), (1, .inl (1200, [(0, 1)]))] [] [(20010, (0, []), (0, [(1, 1)]))] [] 8 [(27, ([], 2, [(0, 0, 39), (1, 0, 400)], [], [(0, .inr (.inr (.inl (some 94)))), (1, .inl (1200, [(0, 1)]))], [.inl (0, [(1, 1)]), .inl (1200, [(0, 1)]), .inr (.inr (.inl (some 111)))], []))] [] = true := by decide +kernel
theorem yd1 {cst : am_K} {strs : List Nat} {Φ : am_Q → Prop} {D : Nat} {M : am_M} {h : am_H} {l : am_L} (c : hp_C cst strs D) (hM : m_P[308]? = some M) (hD : (8 : Int) ≤ (D : Int) + 1) (hy : ly_hy m_tt ly_TH h) (k g : Int) (b0 : 0 ≤ k) (t0 : k ≤ 39) (b1 : 0 ≤ g) (t1 : g ≤ 400) (k0 : ly_hv cst h 20010 0 = some (g)) (l0 : hp_a l 0 94) (l1 : hp_i l 1 (k + 1200)) (e0 : ∀ (l' : am_L) (h' : am_H) (y0 : Int32) (y1 : Int32), y0.toInt = (g) → y1.toInt = (k + 1200) → ly_hy m_tt ly_TH h' → ly_fr cst [] h h' → h.length ≤ h'.length → hp_a l' 0 94 → hp_i l' 1 (k + 1200) → hp_F cst strs Φ D M 27 l' [.int y0, .int y1, .ref 111] h') : hp_F cst strs Φ D M 18 l [] h := by
  refine hp_arc c hM yd1_k hD [k, g] rfl hy (hp_Bc (z := k) rfl b0 t0 (hp_Bc (z := g) rfl b1 t1 hp_Bn)) hp_Fn (hp_Kc (zi := (0 + 0)) (zv := (0 + (1 * g + 0))) k0 rfl rfl (by omega) (by omega) hp_Kn) (hp_La l0 (hp_Li (z := (1200 + (1 * k + 0))) l1 rfl (by omega) hp_Ln)) trivial ?_ ?_
  · intro p hp ys l' st' h' hys a1 a2 a3 gZ gL gS
    rcases List.mem_cons.mp hp with rfl | hp
    · obtain rfl := hp_y0 hys
      obtain ⟨y0, t0, rfl, q0, g0⟩ := hp_gSi (z := (0 + (1 * g + 0))) gS rfl
      obtain ⟨y1, t1, rfl, q1, g1⟩ := hp_gSi (z := (1200 + (1 * k + 0))) g0 rfl
      obtain ⟨t2, rfl, g2⟩ := hp_gSa g1 (by decide)
      cases hp_gSn g2
      exact e0 l' h' y0 y1 (by omega) (by omega) a1 a2 a3 (hp_gLa gL (List.mem_of_getElem? (i := 0) rfl) (by decide)) (hp_gLi (z := (1200 + (1 * k + 0))) gL (List.mem_of_getElem? (i := 1) rfl) rfl (by omega))
    cases hp
  · intro p hp ys v h' hys a1 a2 a3 gZ gS
    cases hp
theorem yd2_k : hp_chk 308 28 2 [(0, 0, 39), (1, 0, 801)] [] [(0, .inr (.inr (.inl (some 94)))), (1, .inl (1200, [(0, 1)]))] [] [(20012, (0, []), (0, [(1, 1)]))] [] 8 [(37, ([], 2, [(0, 0, 39), (1, 0, 801)], [], [(0, .inr (.inr (.inl (some 94)))), (1, .inl (1200, [(0, 1)]))], [.inl (0, [(1, 1)]), .inl (1200, [(0, 1)]), .inr (.inr (.inl (some 113)))], []))] [] = true := by decide +kernel
theorem yd2 {cst : am_K} {strs : List Nat} {Φ : am_Q → Prop} {D : Nat} {M : am_M} {h : am_H} {l : am_L} (c : hp_C cst strs D) (hM : m_P[308]? = some M) (hD : (8 : Int) ≤ (D : Int) + 1) (hy : ly_hy m_tt ly_TH h) (k e : Int) (b0 : 0 ≤ k) (t0 : k ≤ 39) (b1 : 0 ≤ e) (t1 : e ≤ 801) (k0 : ly_hv cst h 20012 0 = some (e)) (l0 : hp_a l 0 94) (l1 : hp_i l 1 (k + 1200)) (e0 : ∀ (l' : am_L) (h' : am_H) (y0 : Int32) (y1 : Int32), y0.toInt = (e) → y1.toInt = (k + 1200) → ly_hy m_tt ly_TH h' → ly_fr cst [] h h' → h.length ≤ h'.length → hp_a l' 0 94 → hp_i l' 1 (k + 1200) → hp_F cst strs Φ D M 37 l' [.int y0, .int y1, .ref 113] h') : hp_F cst strs Φ D M 28 l [] h := by
  refine hp_arc c hM yd2_k hD [k, e] rfl hy (hp_Bc (z := k) rfl b0 t0 (hp_Bc (z := e) rfl b1 t1 hp_Bn)) hp_Fn (hp_Kc (zi := (0 + 0)) (zv := (0 + (1 * e + 0))) k0 rfl rfl (by omega) (by omega) hp_Kn) (hp_La l0 (hp_Li (z := (1200 + (1 * k + 0))) l1 rfl (by omega) hp_Ln)) trivial ?_ ?_
  · intro p hp ys l' st' h' hys a1 a2 a3 gZ gL gS
    rcases List.mem_cons.mp hp with rfl | hp
    · obtain rfl := hp_y0 hys
      obtain ⟨y0, t0, rfl, q0, g0⟩ := hp_gSi (z := (0 + (1 * e + 0))) gS rfl
      obtain ⟨y1, t1, rfl, q1, g1⟩ := hp_gSi (z := (1200 + (1 * k + 0))) g0 rfl
      obtain ⟨t2, rfl, g2⟩ := hp_gSa g1 (by decide)
      cases hp_gSn g2
      exact e0 l' h' y0 y1 (by omega) (by omega) a1 a2 a3 (hp_gLa gL (List.mem_of_getElem? (i := 0) rfl) (by decide)) (hp_gLi (z := (1200 + (1 * k + 0))) gL (List.mem_of_getElem? (i := 1) rfl) rfl (by omega))
    cases hp
  · intro p hp ys v h' hys a1 a2 a3 gZ gS
    cases hp
theorem yd3_k : hp_chk 308 38 1 [(0, 0, 39)] [] [(0, .inr (.inr (.inl (some 94)))), (1, .inl (1200, [(0, 1)]))] [] [] [20014, 20015] 8 [(49, ([], 1, [(0, 0, 39)], [], [(0, .inr (.inr (.inl (some 94)))), (1, .inl (1200, [(0, 1)]))], [.inr (.inr (.inl (some 94)))], [(20014, (0, []), (0, [])), (20015, (0, []), (0, []))]))] [] = true := by decide +kernel
theorem yd3 {cst : am_K} {strs : List Nat} {Φ : am_Q → Prop} {D : Nat} {M : am_M} {h : am_H} {l : am_L} (c : hp_C cst strs D) (hM : m_P[308]? = some M) (hD : (8 : Int) ≤ (D : Int) + 1) (hy : ly_hy m_tt ly_TH h) (k : Int) (b0 : 0 ≤ k) (t0 : k ≤ 39) (l0 : hp_a l 0 94) (l1 : hp_i l 1 (k + 1200)) (e0 : ∀ (l' : am_L) (h' : am_H), ly_hy m_tt ly_TH h' → ly_fr cst [20014, 20015] h h' → h.length ≤ h'.length → ly_hv cst h' 20014 0 = some 0 → ly_hv cst h' 20015 0 = some 0 → hp_a l' 0 94 → hp_i l' 1 (k + 1200) → hp_F cst strs Φ D M 49 l' [.ref 94] h') : hp_F cst strs Φ D M 38 l [] h := by
  refine hp_arc c hM yd3_k hD [k] rfl hy (hp_Bc (z := k) rfl b0 t0 hp_Bn) hp_Fn hp_Kn (hp_La l0 (hp_Li (z := (1200 + (1 * k + 0))) l1 rfl (by omega) hp_Ln)) trivial ?_ ?_
  · intro p hp ys l' st' h' hys a1 a2 a3 gZ gL gS
    rcases List.mem_cons.mp hp with rfl | hp
    · obtain rfl := hp_y0 hys
      obtain ⟨t0, rfl, g0⟩ := hp_gSa gS (by decide)
      cases hp_gSn g0
      exact e0 l' h' a1 a2 a3 (hp_gK (zi := (0 + 0)) (zv := (0 + 0)) gZ.2.2.2 (List.mem_of_getElem? (i := 0) rfl) rfl rfl (by omega) (by omega)) (hp_gK (zi := (0 + 0)) (zv := (0 + 0)) gZ.2.2.2 (List.mem_of_getElem? (i := 1) rfl) rfl rfl (by omega) (by omega)) (hp_gLa gL (List.mem_of_getElem? (i := 0) rfl) (by decide)) (hp_gLi (z := (1200 + (1 * k + 0))) gL (List.mem_of_getElem? (i := 1) rfl) rfl (by omega))
    cases hp
  · intro p hp ys v h' hys a1 a2 a3 gZ gS
    cases hp
theorem ydB_k : hp_chk 308 52 1 [(0, 0, 39)] [] [(0, .inr (.inr (.inl (some 94)))), (1, .inl (1200, [(0, 1)]))] [.inl (0, [])] [] [] 8 [] [([], 1, [(0, 0, 39)], [], [], [.inl (0, [])], [])] = true := by decide +kernel
theorem ydB {cst : am_K} {strs : List Nat} {Φ : am_Q → Prop} {D : Nat} {M : am_M} {h : am_H} {l : am_L} (c : hp_C cst strs D) (hM : m_P[308]? = some M) (hD : (8 : Int) ≤ (D : Int) + 1) (hy : ly_hy m_tt ly_TH h) (k : Int) (x0 : Int32) (hx0 : x0.toInt = 0) (b0 : 0 ≤ k) (t0 : k ≤ 39) (l0 : hp_a l 0 94) (l1 : hp_i l 1 (k + 1200)) (r0 : ∀ (h' : am_H) (y0 : Int32), y0.toInt = 0 → ly_hy m_tt ly_TH h' → ly_fr cst [] h h' → h.length ≤ h'.length → Φ (some (.int y0), h', 0, 0)) : hp_F cst strs Φ D M 52 l [.int x0] h := by
  refine hp_arc c hM ydB_k hD [k] rfl hy (hp_Bc (z := k) rfl b0 t0 hp_Bn) hp_Fn hp_Kn (hp_La l0 (hp_Li (z := (1200 + (1 * k + 0))) l1 rfl (by omega) hp_Ln)) (hp_Si (z := (0 + 0)) rfl (by omega) trivial) ?_ ?_
  · intro p hp ys l' st' h' hys a1 a2 a3 gZ gL gS
    cases hp
  · intro p hp ys v h' hys a1 a2 a3 gZ gS
    rcases List.mem_cons.mp hp with rfl | hp
    · obtain rfl := hp_y0 hys
      cases v with
      | none => cases gS
      | some w =>
        obtain ⟨y0, t0, s0, q0, -⟩ := hp_gSi (z := (0 + 0)) gS rfl
        cases s0
        exact r0 h' y0 (by omega) a1 a2 a3
    cases hp
theorem ydC0_k : hp_chk 308 52 3 [(0, 0, 39), (1, 0, 20), (2, 0, 0)] [] [(0, .inr (.inr (.inl (some 94)))), (1, .inl (1200, [(0, 1)]))] [.inl (1, [])] [(19971, (0, []), (0, [(2, 1)])), (20014, (0, []), (0, [(1, 1)]))] [] 8 [(102, ([], 3, [(0, 0, 39), (1, 0, 20), (2, 0, 0)], [], [(0, .inr (.inr (.inl (some 94)))), (1, .inl (1200, [(0, 1)]))], [.inl (0, [(1, 1)]), .inl (1200, [(0, 1)]), .inr (.inr (.inl (some 112)))], []))] [] = true := by decide +kernel
theorem ydC0 {cst : am_K} {strs : List Nat} {Φ : am_Q → Prop} {D : Nat} {M : am_M} {h : am_H} {l : am_L} (c : hp_C cst strs D) (hM : m_P[308]? = some M) (hD : (8 : Int) ≤ (D : Int) + 1) (hy : ly_hy m_tt ly_TH h) (k m q : Int) (x0 : Int32) (hx0 : x0.toInt = 1) (b0 : 0 ≤ k) (t0 : k ≤ 39) (b1 : 0 ≤ m) (t1 : m ≤ 20) (b2 : 0 ≤ q) (t2 : q ≤ 0) (k0 : ly_hv cst h 19971 0 = some (q)) (k1 : ly_hv cst h 20014 0 = some (m)) (l0 : hp_a l 0 94) (l1 : hp_i l 1 (k + 1200)) (e0 : ∀ (l' : am_L) (h' : am_H) (y0 : Int32) (y1 : Int32), y0.toInt = (m) → y1.toInt = (k + 1200) → ly_hy m_tt ly_TH h' → ly_fr cst [] h h' → h.length ≤ h'.length → hp_a l' 0 94 → hp_i l' 1 (k + 1200) → hp_F cst strs Φ D M 102 l' [.int y0, .int y1, .ref 112] h') : hp_F cst strs Φ D M 52 l [.int x0] h := by
  refine hp_arc c hM ydC0_k hD [k, m, q] rfl hy (hp_Bc (z := k) rfl b0 t0 (hp_Bc (z := m) rfl b1 t1 (hp_Bc (z := q) rfl b2 t2 hp_Bn))) hp_Fn (hp_Kc (zi := (0 + 0)) (zv := (0 + (1 * q + 0))) k0 rfl rfl (by omega) (by omega) (hp_Kc (zi := (0 + 0)) (zv := (0 + (1 * m + 0))) k1 rfl rfl (by omega) (by omega) hp_Kn)) (hp_La l0 (hp_Li (z := (1200 + (1 * k + 0))) l1 rfl (by omega) hp_Ln)) (hp_Si (z := (1 + 0)) rfl (by omega) trivial) ?_ ?_
  · intro p hp ys l' st' h' hys a1 a2 a3 gZ gL gS
    rcases List.mem_cons.mp hp with rfl | hp
    · obtain rfl := hp_y0 hys
      obtain ⟨y0, t0, rfl, q0, g0⟩ := hp_gSi (z := (0 + (1 * m + 0))) gS rfl
      obtain ⟨y1, t1, rfl, q1, g1⟩ := hp_gSi (z := (1200 + (1 * k + 0))) g0 rfl
      obtain ⟨t2, rfl, g2⟩ := hp_gSa g1 (by decide)
      cases hp_gSn g2
      exact e0 l' h' y0 y1 (by omega) (by omega) a1 a2 a3 (hp_gLa gL (List.mem_of_getElem? (i := 0) rfl) (by decide)) (hp_gLi (z := (1200 + (1 * k + 0))) gL (List.mem_of_getElem? (i := 1) rfl) rfl (by omega))
    cases hp
  · intro p hp ys v h' hys a1 a2 a3 gZ gS
    cases hp
theorem ydC1_k : hp_chk 308 52 3 [(0, 0, 39), (1, 0, 20), (2, 2, 8)] [] [(0, .inr (.inr (.inl (some 94)))), (1, .inl (1200, [(0, 1)]))] [.inl (1, [])] [(19971, (0, []), (0, [(2, 1)])), (20014, (0, []), (0, [(1, 1)]))] [] 8 [(102, ([], 3, [(0, 0, 39), (1, 0, 20), (2, 2, 8)], [], [(0, .inr (.inr (.inl (some 94)))), (1, .inl (1200, [(0, 1)]))], [.inl (0, [(1, 1)]), .inl (1200, [(0, 1)]), .inr (.inr (.inl (some 112)))], []))] [] = true := by decide +kernel
theorem ydC1 {cst : am_K} {strs : List Nat} {Φ : am_Q → Prop} {D : Nat} {M : am_M} {h : am_H} {l : am_L} (c : hp_C cst strs D) (hM : m_P[308]? = some M) (hD : (8 : Int) ≤ (D : Int) + 1) (hy : ly_hy m_tt ly_TH h) (k m q : Int) (x0 : Int32) (hx0 : x0.toInt = 1) (b0 : 0 ≤ k) (t0 : k ≤ 39) (b1 : 0 ≤ m) (t1 : m ≤ 20) (b2 : 2 ≤ q) (t2 : q ≤ 8) (k0 : ly_hv cst h 19971 0 = some (q)) (k1 : ly_hv cst h 20014 0 = some (m)) (l0 : hp_a l 0 94) (l1 : hp_i l 1 (k + 1200)) (e0 : ∀ (l' : am_L) (h' : am_H) (y0 : Int32) (y1 : Int32), y0.toInt = (m) → y1.toInt = (k + 1200) → ly_hy m_tt ly_TH h' → ly_fr cst [] h h' → h.length ≤ h'.length → hp_a l' 0 94 → hp_i l' 1 (k + 1200) → hp_F cst strs Φ D M 102 l' [.int y0, .int y1, .ref 112] h') : hp_F cst strs Φ D M 52 l [.int x0] h := by
  refine hp_arc c hM ydC1_k hD [k, m, q] rfl hy (hp_Bc (z := k) rfl b0 t0 (hp_Bc (z := m) rfl b1 t1 (hp_Bc (z := q) rfl b2 t2 hp_Bn))) hp_Fn (hp_Kc (zi := (0 + 0)) (zv := (0 + (1 * q + 0))) k0 rfl rfl (by omega) (by omega) (hp_Kc (zi := (0 + 0)) (zv := (0 + (1 * m + 0))) k1 rfl rfl (by omega) (by omega) hp_Kn)) (hp_La l0 (hp_Li (z := (1200 + (1 * k + 0))) l1 rfl (by omega) hp_Ln)) (hp_Si (z := (1 + 0)) rfl (by omega) trivial) ?_ ?_
  · intro p hp ys l' st' h' hys a1 a2 a3 gZ gL gS
    rcases List.mem_cons.mp hp with rfl | hp
    · obtain rfl := hp_y0 hys
      obtain ⟨y0, t0, rfl, q0, g0⟩ := hp_gSi (z := (0 + (1 * m + 0))) gS rfl
      obtain ⟨y1, t1, rfl, q1, g1⟩ := hp_gSi (z := (1200 + (1 * k + 0))) g0 rfl
      obtain ⟨t2, rfl, g2⟩ := hp_gSa g1 (by decide)
      cases hp_gSn g2
      exact e0 l' h' y0 y1 (by omega) (by omega) a1 a2 a3 (hp_gLa gL (List.mem_of_getElem? (i := 0) rfl) (by decide)) (hp_gLi (z := (1200 + (1 * k + 0))) gL (List.mem_of_getElem? (i := 1) rfl) rfl (by omega))
    cases hp
  · intro p hp ys v h' hys a1 a2 a3 gZ gS
    cases hp
theorem ydD0_k : hp_chk 308 52 3 [(0, 0, 39), (1, 0, 20), (2, (-1), 16)] [] [(0, .inr (.inr (.inl (some 94)))), (1, .inl (1200, [(0, 1)]))] [.inl (1, [])] [(19971, (0, []), (1, [])), (19972, (0, []), (0, [(2, 1)])), (20014, (0, []), (0, [(1, 1)]))] [] 8 [(102, ([], 3, [(0, 0, 39), (1, 0, 20), (2, (-1), 16)], [], [(0, .inr (.inr (.inl (some 94)))), (1, .inl (1200, [(0, 1)]))], [.inl (0, [(1, 1)]), .inl (1200, [(0, 1)]), .inr (.inr (.inl (some 112)))], []))] [] = true := by decide +kernel
theorem ydD0 {cst : am_K} {strs : List Nat} {Φ : am_Q → Prop} {D : Nat} {M : am_M} {h : am_H} {l : am_L} (c : hp_C cst strs D) (hM : m_P[308]? = some M) (hD : (8 : Int) ≤ (D : Int) + 1) (hy : ly_hy m_tt ly_TH h) (k m y : Int) (x0 : Int32) (hx0 : x0.toInt = 1) (b0 : 0 ≤ k) (t0 : k ≤ 39) (b1 : 0 ≤ m) (t1 : m ≤ 20) (b2 : (-1) ≤ y) (t2 : y ≤ 16) (k0 : ly_hv cst h 19971 0 = some 1) (k1 : ly_hv cst h 19972 0 = some (y)) (k2 : ly_hv cst h 20014 0 = some (m)) (l0 : hp_a l 0 94) (l1 : hp_i l 1 (k + 1200)) (e0 : ∀ (l' : am_L) (h' : am_H) (y0 : Int32) (y1 : Int32), y0.toInt = (m) → y1.toInt = (k + 1200) → ly_hy m_tt ly_TH h' → ly_fr cst [] h h' → h.length ≤ h'.length → hp_a l' 0 94 → hp_i l' 1 (k + 1200) → hp_F cst strs Φ D M 102 l' [.int y0, .int y1, .ref 112] h') : hp_F cst strs Φ D M 52 l [.int x0] h := by
  refine hp_arc c hM ydD0_k hD [k, m, y] rfl hy (hp_Bc (z := k) rfl b0 t0 (hp_Bc (z := m) rfl b1 t1 (hp_Bc (z := y) rfl b2 t2 hp_Bn))) hp_Fn (hp_Kc (zi := (0 + 0)) (zv := (1 + 0)) k0 rfl rfl (by omega) (by omega) (hp_Kc (zi := (0 + 0)) (zv := (0 + (1 * y + 0))) k1 rfl rfl (by omega) (by omega) (hp_Kc (zi := (0 + 0)) (zv := (0 + (1 * m + 0))) k2 rfl rfl (by omega) (by omega) hp_Kn))) (hp_La l0 (hp_Li (z := (1200 + (1 * k + 0))) l1 rfl (by omega) hp_Ln)) (hp_Si (z := (1 + 0)) rfl (by omega) trivial) ?_ ?_
  · intro p hp ys l' st' h' hys a1 a2 a3 gZ gL gS
    rcases List.mem_cons.mp hp with rfl | hp
    · obtain rfl := hp_y0 hys
      obtain ⟨y0, t0, rfl, q0, g0⟩ := hp_gSi (z := (0 + (1 * m + 0))) gS rfl
      obtain ⟨y1, t1, rfl, q1, g1⟩ := hp_gSi (z := (1200 + (1 * k + 0))) g0 rfl
      obtain ⟨t2, rfl, g2⟩ := hp_gSa g1 (by decide)
      cases hp_gSn g2
      exact e0 l' h' y0 y1 (by omega) (by omega) a1 a2 a3 (hp_gLa gL (List.mem_of_getElem? (i := 0) rfl) (by decide)) (hp_gLi (z := (1200 + (1 * k + 0))) gL (List.mem_of_getElem? (i := 1) rfl) rfl (by omega))
    cases hp
  · intro p hp ys v h' hys a1 a2 a3 gZ gS
    cases hp
theorem ydD1_k : hp_chk 308 52 3 [(0, 0, 39), (1, 0, 20), (2, 18, 23)] [] [(0, .inr (.inr (.inl (some 94)))), (1, .inl (1200, [(0, 1)]))] [.inl (1, [])] [(19971, (0, []), (1, [])), (19972, (0, []), (0, [(2, 1)])), (20014, (0, []), (0, [(1, 1)]))] [] 8 [(102, ([], 3, [(0, 0, 39), (1, 0, 20), (2, 18, 23)], [], [(0, .inr (.inr (.inl (some 94)))), (1, .inl (1200, [(0, 1)]))], [.inl (0, [(1, 1)]), .inl (1200, [(0, 1)]), .inr (.inr (.inl (some 112)))], []))] [] = true := by decide +kernel
theorem ydD1 {cst : am_K} {strs : List Nat} {Φ : am_Q → Prop} {D : Nat} {M : am_M} {h : am_H} {l : am_L} (c : hp_C cst strs D) (hM : m_P[308]? = some M) (hD : (8 : Int) ≤ (D : Int) + 1) (hy : ly_hy m_tt ly_TH h) (k m y : Int) (x0 : Int32) (hx0 : x0.toInt = 1) (b0 : 0 ≤ k) (t0 : k ≤ 39) (b1 : 0 ≤ m) (t1 : m ≤ 20) (b2 : 18 ≤ y) (t2 : y ≤ 23) (k0 : ly_hv cst h 19971 0 = some 1) (k1 : ly_hv cst h 19972 0 = some (y)) (k2 : ly_hv cst h 20014 0 = some (m)) (l0 : hp_a l 0 94) (l1 : hp_i l 1 (k + 1200)) (e0 : ∀ (l' : am_L) (h' : am_H) (y0 : Int32) (y1 : Int32), y0.toInt = (m) → y1.toInt = (k + 1200) → ly_hy m_tt ly_TH h' → ly_fr cst [] h h' → h.length ≤ h'.length → hp_a l' 0 94 → hp_i l' 1 (k + 1200) → hp_F cst strs Φ D M 102 l' [.int y0, .int y1, .ref 112] h') : hp_F cst strs Φ D M 52 l [.int x0] h := by
  refine hp_arc c hM ydD1_k hD [k, m, y] rfl hy (hp_Bc (z := k) rfl b0 t0 (hp_Bc (z := m) rfl b1 t1 (hp_Bc (z := y) rfl b2 t2 hp_Bn))) hp_Fn (hp_Kc (zi := (0 + 0)) (zv := (1 + 0)) k0 rfl rfl (by omega) (by omega) (hp_Kc (zi := (0 + 0)) (zv := (0 + (1 * y + 0))) k1 rfl rfl (by omega) (by omega) (hp_Kc (zi := (0 + 0)) (zv := (0 + (1 * m + 0))) k2 rfl rfl (by omega) (by omega) hp_Kn))) (hp_La l0 (hp_Li (z := (1200 + (1 * k + 0))) l1 rfl (by omega) hp_Ln)) (hp_Si (z := (1 + 0)) rfl (by omega) trivial) ?_ ?_
  · intro p hp ys l' st' h' hys a1 a2 a3 gZ gL gS
    rcases List.mem_cons.mp hp with rfl | hp
    · obtain rfl := hp_y0 hys
      obtain ⟨y0, t0, rfl, q0, g0⟩ := hp_gSi (z := (0 + (1 * m + 0))) gS rfl
      obtain ⟨y1, t1, rfl, q1, g1⟩ := hp_gSi (z := (1200 + (1 * k + 0))) g0 rfl
      obtain ⟨t2, rfl, g2⟩ := hp_gSa g1 (by decide)
      cases hp_gSn g2
      exact e0 l' h' y0 y1 (by omega) (by omega) a1 a2 a3 (hp_gLa gL (List.mem_of_getElem? (i := 0) rfl) (by decide)) (hp_gLi (z := (1200 + (1 * k + 0))) gL (List.mem_of_getElem? (i := 1) rfl) rfl (by omega))
    cases hp
  · intro p hp ys v h' hys a1 a2 a3 gZ gS
    cases hp
theorem ydE_k : hp_chk 308 52 1 [(0, 0, 39)] [] [(0, .inr (.inr (.inl (some 94)))), (1, .inl (1200, [(0, 1)]))] [.inl (1, [])] [(19971, (0, []), (1, [])), (19972, (0, []), (17, []))] [] 8 [(75, ([], 1, [(0, 0, 39)], [], [(0, .inr (.inr (.inl (some 94)))), (1, .inl (1200, [(0, 1)]))], [.inr (.inr (.inl (some 94)))], []))] [] = true := by decide +kernel
theorem ydE {cst : am_K} {strs : List Nat} {Φ : am_Q → Prop} {D : Nat} {M : am_M} {h : am_H} {l : am_L} (c : hp_C cst strs D) (hM : m_P[308]? = some M) (hD : (8 : Int) ≤ (D : Int) + 1) (hy : ly_hy m_tt ly_TH h) (k : Int) (x0 : Int32) (hx0 : x0.toInt = 1) (b0 : 0 ≤ k) (t0 : k ≤ 39) (k0 : ly_hv cst h 19971 0 = some 1) (k1 : ly_hv cst h 19972 0 = some 17) (l0 : hp_a l 0 94) (l1 : hp_i l 1 (k + 1200)) (e0 : ∀ (l' : am_L) (h' : am_H), ly_hy m_tt ly_TH h' → ly_fr cst [] h h' → h.length ≤ h'.length → hp_a l' 0 94 → hp_i l' 1 (k + 1200) → hp_F cst strs Φ D M 75 l' [.ref 94] h') : hp_F cst strs Φ D M 52 l [.int x0] h := by
  refine hp_arc c hM ydE_k hD [k] rfl hy (hp_Bc (z := k) rfl b0 t0 hp_Bn) hp_Fn (hp_Kc (zi := (0 + 0)) (zv := (1 + 0)) k0 rfl rfl (by omega) (by omega) (hp_Kc (zi := (0 + 0)) (zv := (17 + 0)) k1 rfl rfl (by omega) (by omega) hp_Kn)) (hp_La l0 (hp_Li (z := (1200 + (1 * k + 0))) l1 rfl (by omega) hp_Ln)) (hp_Si (z := (1 + 0)) rfl (by omega) trivial) ?_ ?_
  · intro p hp ys l' st' h' hys a1 a2 a3 gZ gL gS
    rcases List.mem_cons.mp hp with rfl | hp
    · obtain rfl := hp_y0 hys
      obtain ⟨t0, rfl, g0⟩ := hp_gSa gS (by decide)
      cases hp_gSn g0
      exact e0 l' h' a1 a2 a3 (hp_gLa gL (List.mem_of_getElem? (i := 0) rfl) (by decide)) (hp_gLi (z := (1200 + (1 * k + 0))) gL (List.mem_of_getElem? (i := 1) rfl) rfl (by omega))
    cases hp
  · intro p hp ys v h' hys a1 a2 a3 gZ gS
    cases hp
theorem ydF_k : hp_chk 308 78 1 [(0, 0, 39)] [] [(0, .inr (.inr (.inl (some 94)))), (1, .inl (1200, [(0, 1)]))] [] [] [] 8 [(79, ([], 1, [(0, 0, 39)], [], [(0, .inr (.inr (.inl (some 94)))), (1, .inl (1200, [(0, 1)]))], [.inr (.inr (.inl (some 94)))], []))] [] = true := by decide +kernel
theorem ydF {cst : am_K} {strs : List Nat} {Φ : am_Q → Prop} {D : Nat} {M : am_M} {h : am_H} {l : am_L} (c : hp_C cst strs D) (hM : m_P[308]? = some M) (hD : (8 : Int) ≤ (D : Int) + 1) (hy : ly_hy m_tt ly_TH h) (k : Int) (b0 : 0 ≤ k) (t0 : k ≤ 39) (l0 : hp_a l 0 94) (l1 : hp_i l 1 (k + 1200)) (e0 : ∀ (l' : am_L) (h' : am_H), ly_hy m_tt ly_TH h' → ly_fr cst [] h h' → h.length ≤ h'.length → hp_a l' 0 94 → hp_i l' 1 (k + 1200) → hp_F cst strs Φ D M 79 l' [.ref 94] h') : hp_F cst strs Φ D M 78 l [] h := by
  refine hp_arc c hM ydF_k hD [k] rfl hy (hp_Bc (z := k) rfl b0 t0 hp_Bn) hp_Fn hp_Kn (hp_La l0 (hp_Li (z := (1200 + (1 * k + 0))) l1 rfl (by omega) hp_Ln)) trivial ?_ ?_
  · intro p hp ys l' st' h' hys a1 a2 a3 gZ gL gS
    rcases List.mem_cons.mp hp with rfl | hp
    · obtain rfl := hp_y0 hys
      obtain ⟨t0, rfl, g0⟩ := hp_gSa gS (by decide)
      cases hp_gSn g0
      exact e0 l' h' a1 a2 a3 (hp_gLa gL (List.mem_of_getElem? (i := 0) rfl) (by decide)) (hp_gLi (z := (1200 + (1 * k + 0))) gL (List.mem_of_getElem? (i := 1) rfl) rfl (by omega))
    cases hp
  · intro p hp ys v h' hys a1 a2 a3 gZ gS
    cases hp
theorem ydG_k : hp_chk 308 82 1 [(0, 0, 39)] [] [(0, .inr (.inr (.inl (some 94)))), (1, .inl (1200, [(0, 1)]))] [.inl (0, [])] [] [] 8 [] [([], 1, [(0, 0, 39)], [], [], [.inl (0, [])], [])] = true := by decide +kernel
theorem ydG {cst : am_K} {strs : List Nat} {Φ : am_Q → Prop} {D : Nat} {M : am_M} {h : am_H} {l : am_L} (c : hp_C cst strs D) (hM : m_P[308]? = some M) (hD : (8 : Int) ≤ (D : Int) + 1) (hy : ly_hy m_tt ly_TH h) (k : Int) (x0 : Int32) (hx0 : x0.toInt = 0) (b0 : 0 ≤ k) (t0 : k ≤ 39) (l0 : hp_a l 0 94) (l1 : hp_i l 1 (k + 1200)) (r0 : ∀ (h' : am_H) (y0 : Int32), y0.toInt = 0 → ly_hy m_tt ly_TH h' → ly_fr cst [] h h' → h.length ≤ h'.length → Φ (some (.int y0), h', 0, 0)) : hp_F cst strs Φ D M 82 l [.int x0] h := by
  refine hp_arc c hM ydG_k hD [k] rfl hy (hp_Bc (z := k) rfl b0 t0 hp_Bn) hp_Fn hp_Kn (hp_La l0 (hp_Li (z := (1200 + (1 * k + 0))) l1 rfl (by omega) hp_Ln)) (hp_Si (z := (0 + 0)) rfl (by omega) trivial) ?_ ?_
  · intro p hp ys l' st' h' hys a1 a2 a3 gZ gL gS
    cases hp
  · intro p hp ys v h' hys a1 a2 a3 gZ gS
    rcases List.mem_cons.mp hp with rfl | hp
    · obtain rfl := hp_y0 hys
      cases v with
      | none => cases gS
      | some w =>
        obtain ⟨y0, t0, s0, q0, -⟩ := hp_gSi (z := (0 + 0)) gS rfl
        cases s0
        exact r0 h' y0 (by omega) a1 a2 a3
    cases hp
theorem ydH_k : hp_chk 308 82 1 [(0, 0, 39)] [] [(0, .inr (.inr (.inl (some 94)))), (1, .inl (1200, [(0, 1)]))] [.inl (1, [])] [] [] 8 [(90, ([], 1, [(0, 0, 39)], [], [(0, .inr (.inr (.inl (some 94)))), (1, .inl (1200, [(0, 1)]))], [.inl ((-4), []), .inr (.inr (.inl (some 94)))], []))] [] = true := by decide +kernel
theorem ydH {cst : am_K} {strs : List Nat} {Φ : am_Q → Prop} {D : Nat} {M : am_M} {h : am_H} {l : am_L} (c : hp_C cst strs D) (hM : m_P[308]? = some M) (hD : (8 : Int) ≤ (D : Int) + 1) (hy : ly_hy m_tt ly_TH h) (k : Int) (x0 : Int32) (hx0 : x0.toInt = 1) (b0 : 0 ≤ k) (t0 : k ≤ 39) (l0 : hp_a l 0 94) (l1 : hp_i l 1 (k + 1200)) (e0 : ∀ (l' : am_L) (h' : am_H) (y0 : Int32), y0.toInt = (-4) → ly_hy m_tt ly_TH h' → ly_fr cst [] h h' → h.length ≤ h'.length → hp_a l' 0 94 → hp_i l' 1 (k + 1200) → hp_F cst strs Φ D M 90 l' [.int y0, .ref 94] h') : hp_F cst strs Φ D M 82 l [.int x0] h := by
  refine hp_arc c hM ydH_k hD [k] rfl hy (hp_Bc (z := k) rfl b0 t0 hp_Bn) hp_Fn hp_Kn (hp_La l0 (hp_Li (z := (1200 + (1 * k + 0))) l1 rfl (by omega) hp_Ln)) (hp_Si (z := (1 + 0)) rfl (by omega) trivial) ?_ ?_
  · intro p hp ys l' st' h' hys a1 a2 a3 gZ gL gS
    rcases List.mem_cons.mp hp with rfl | hp
    · obtain rfl := hp_y0 hys
      obtain ⟨y0, t0, rfl, q0, g0⟩ := hp_gSi (z := ((-4) + 0)) gS rfl
      obtain ⟨t1, rfl, g1⟩ := hp_gSa g0 (by decide)
      cases hp_gSn g1
      exact e0 l' h' y0 (by omega) a1 a2 a3 (hp_gLa gL (List.mem_of_getElem? (i := 0) rfl) (by decide)) (hp_gLi (z := (1200 + (1 * k + 0))) gL (List.mem_of_getElem? (i := 1) rfl) rfl (by omega))
    cases hp
  · intro p hp ys v h' hys a1 a2 a3 gZ gS
    cases hp
theorem ydI_k : hp_chk 308 93 2 [(0, 0, 39), (1, 0, 20)] [] [(0, .inr (.inr (.inl (some 94)))), (1, .inl (1200, [(0, 1)]))] [] [(20014, (0, []), (0, [(1, 1)]))] [] 8 [(102, ([], 2, [(0, 0, 39), (1, 0, 20)], [], [(0, .inr (.inr (.inl (some 94)))), (1, .inl (1200, [(0, 1)]))], [.inl (0, [(1, 1)]), .inl (1200, [(0, 1)]), .inr (.inr (.inl (some 112)))], []))] [] = true := by decide +kernel
theorem ydI {cst : am_K} {strs : List Nat} {Φ : am_Q → Prop} {D : Nat} {M : am_M} {h : am_H} {l : am_L} (c : hp_C cst strs D) (hM : m_P[308]? = some M) (hD : (8 : Int) ≤ (D : Int) + 1) (hy : ly_hy m_tt ly_TH h) (k m : Int) (b0 : 0 ≤ k) (t0 : k ≤ 39) (b1 : 0 ≤ m) (t1 : m ≤ 20) (k0 : ly_hv cst h 20014 0 = some (m)) (l0 : hp_a l 0 94) (l1 : hp_i l 1 (k + 1200)) (e0 : ∀ (l' : am_L) (h' : am_H) (y0 : Int32) (y1 : Int32), y0.toInt = (m) → y1.toInt = (k + 1200) → ly_hy m_tt ly_TH h' → ly_fr cst [] h h' → h.length ≤ h'.length → hp_a l' 0 94 → hp_i l' 1 (k + 1200) → hp_F cst strs Φ D M 102 l' [.int y0, .int y1, .ref 112] h') : hp_F cst strs Φ D M 93 l [] h := by
  refine hp_arc c hM ydI_k hD [k, m] rfl hy (hp_Bc (z := k) rfl b0 t0 (hp_Bc (z := m) rfl b1 t1 hp_Bn)) hp_Fn (hp_Kc (zi := (0 + 0)) (zv := (0 + (1 * m + 0))) k0 rfl rfl (by omega) (by omega) hp_Kn) (hp_La l0 (hp_Li (z := (1200 + (1 * k + 0))) l1 rfl (by omega) hp_Ln)) trivial ?_ ?_
  · intro p hp ys l' st' h' hys a1 a2 a3 gZ gL gS
    rcases List.mem_cons.mp hp with rfl | hp
    · obtain rfl := hp_y0 hys
      obtain ⟨y0, t0, rfl, q0, g0⟩ := hp_gSi (z := (0 + (1 * m + 0))) gS rfl
      obtain ⟨y1, t1, rfl, q1, g1⟩ := hp_gSi (z := (1200 + (1 * k + 0))) g0 rfl
      obtain ⟨t2, rfl, g2⟩ := hp_gSa g1 (by decide)
      cases hp_gSn g2
      exact e0 l' h' y0 y1 (by omega) (by omega) a1 a2 a3 (hp_gLa gL (List.mem_of_getElem? (i := 0) rfl) (by decide)) (hp_gLi (z := (1200 + (1 * k + 0))) gL (List.mem_of_getElem? (i := 1) rfl) rfl (by omega))
    cases hp
  · intro p hp ys v h' hys a1 a2 a3 gZ gS
    cases hp
theorem ydJ_k : hp_chk 308 103 3 [(0, 0, 39), (1, 0, 801), (2, 0, 801)] [(0, [(1, 1), (2, (-1))])] [(0, .inr (.inr (.inl (some 94)))), (1, .inl (1200, [(0, 1)]))] [] [(20012, (0, []), (0, [(1, 1)])), (24832, (1200, [(0, 1)]), (0, [(2, 1)]))] [] 8 [(119, ([], 3, [(0, 0, 39), (1, 0, 801), (2, 0, 801)], [], [(0, .inr (.inr (.inl (some 94)))), (1, .inl (1200, [(0, 1)]))], [.inl (0, [(1, 1), (2, (-1))]), .inl (1200, [(0, 1)]), .inr (.inr (.inl (some 114)))], []))] [] = true := by decide +kernel
theorem ydJ {cst : am_K} {strs : List Nat} {Φ : am_Q → Prop} {D : Nat} {M : am_M} {h : am_H} {l : am_L} (c : hp_C cst strs D) (hM : m_P[308]? = some M) (hD : (8 : Int) ≤ (D : Int) + 1) (hy : ly_hy m_tt ly_TH h) (k e b : Int) (b0 : 0 ≤ k) (t0 : k ≤ 39) (b1 : 0 ≤ e) (t1 : e ≤ 801) (b2 : 0 ≤ b) (t2 : b ≤ 801) (f0 : 0 ≤ (e - b)) (k0 : ly_hv cst h 20012 0 = some (e)) (k1 : ly_hv cst h 24832 (k + 1200) = some (b)) (l0 : hp_a l 0 94) (l1 : hp_i l 1 (k + 1200)) (e0 : ∀ (l' : am_L) (h' : am_H) (y0 : Int32) (y1 : Int32), y0.toInt = (e - b) → y1.toInt = (k + 1200) → ly_hy m_tt ly_TH h' → ly_fr cst [] h h' → h.length ≤ h'.length → hp_a l' 0 94 → hp_i l' 1 (k + 1200) → hp_F cst strs Φ D M 119 l' [.int y0, .int y1, .ref 114] h') : hp_F cst strs Φ D M 103 l [] h := by
  refine hp_arc c hM ydJ_k hD [k, e, b] rfl hy (hp_Bc (z := k) rfl b0 t0 (hp_Bc (z := e) rfl b1 t1 (hp_Bc (z := b) rfl b2 t2 hp_Bn))) (hp_Fc (z := (0 + (1 * e + ((-1) * b + 0)))) rfl (by omega) hp_Fn) (hp_Kc (zi := (0 + 0)) (zv := (0 + (1 * e + 0))) k0 rfl rfl (by omega) (by omega) (hp_Kc (zi := (1200 + (1 * k + 0))) (zv := (0 + (1 * b + 0))) k1 rfl rfl (by omega) (by omega) hp_Kn)) (hp_La l0 (hp_Li (z := (1200 + (1 * k + 0))) l1 rfl (by omega) hp_Ln)) trivial ?_ ?_
  · intro p hp ys l' st' h' hys a1 a2 a3 gZ gL gS
    rcases List.mem_cons.mp hp with rfl | hp
    · obtain rfl := hp_y0 hys
      obtain ⟨y0, t0, rfl, q0, g0⟩ := hp_gSi (z := (0 + (1 * e + ((-1) * b + 0)))) gS rfl
      obtain ⟨y1, t1, rfl, q1, g1⟩ := hp_gSi (z := (1200 + (1 * k + 0))) g0 rfl
      obtain ⟨t2, rfl, g2⟩ := hp_gSa g1 (by decide)
      cases hp_gSn g2
      exact e0 l' h' y0 y1 (by omega) (by omega) a1 a2 a3 (hp_gLa gL (List.mem_of_getElem? (i := 0) rfl) (by decide)) (hp_gLi (z := (1200 + (1 * k + 0))) gL (List.mem_of_getElem? (i := 1) rfl) rfl (by omega))
    cases hp
  · intro p hp ys v h' hys a1 a2 a3 gZ gS
    cases hp
theorem ydK_k : hp_chk 308 120 0 [] [] [(0, .inr (.inr (.inl (some 94))))] [] [] [] 8 [] [([], 0, [], [], [], [.inl (1, [])], [])] = true := by decide +kernel
theorem ydK {cst : am_K} {strs : List Nat} {Φ : am_Q → Prop} {D : Nat} {M : am_M} {h : am_H} {l : am_L} (c : hp_C cst strs D) (hM : m_P[308]? = some M) (hD : (8 : Int) ≤ (D : Int) + 1) (hy : ly_hy m_tt ly_TH h) (l0 : hp_a l 0 94) (r0 : ∀ (h' : am_H) (y0 : Int32), y0.toInt = 1 → ly_hy m_tt ly_TH h' → ly_fr cst [] h h' → h.length ≤ h'.length → Φ (some (.int y0), h', 0, 0)) : hp_F cst strs Φ D M 120 l [] h := by
  refine hp_arc c hM ydK_k hD [] rfl hy hp_Bn hp_Fn hp_Kn (hp_La l0 hp_Ln) trivial ?_ ?_
  · intro p hp ys l' st' h' hys a1 a2 a3 gZ gL gS
    cases hp
  · intro p hp ys v h' hys a1 a2 a3 gZ gS
    rcases List.mem_cons.mp hp with rfl | hp
    · obtain rfl := hp_y0 hys
      cases v with
      | none => cases gS
      | some w =>
        obtain ⟨y0, t0, s0, q0, -⟩ := hp_gSi (z := (1 + 0)) gS rfl
        cases s0
        exact r0 h' y0 (by omega) a1 a2 a3
    cases hp
theorem p0_re {cst : am_K} {h h' : am_H} {r : Nat} {o v w : Int} {ns : List Int} (A : fn_N cst h r o (ns ++ [w])) (p : hp_p0 cst r (o + (ns.length : Int)) v h h') (hr : r < 60010) : fn_N cst h' r o (ns ++ [v]) := p0_fn (fun k hk => by
  have z := A k (by rw [List.length_append]; omega)
  rw [List.getElem_append_left hk] at z
  exact z) p hr
/-- the entry behind ns in a row becomes v -/
def ze (cst : am_K) (h h' : am_H) (r : Nat) (k : Nat) (v : Int) : Prop := ∀ (ns : List Int) (w : Int), ns.length = k → fn_N cst h r 1200 (ns ++ [w]) → fn_N cst h' r 1200 (ns ++ [v])
/-- an entry v comes behind ns in a row -/
def zn (cst : am_K) (h h' : am_H) (r : Nat) (k : Nat) (v : Int) : Prop := ∀ (ns : List Int), ns.length = k → fn_N cst h r 1200 ns → fn_N cst h' r 1200 (ns ++ [v])
theorem zn_ze {cst : am_K} {h h' : am_H} {r k : Nat} {v : Int} (A : zn cst h h' r k v) : ze cst h h' r k v := fun ns w hk X => A ns hk (fun j hj => by
  have z := X j (by rw [List.length_append]; omega)
  rw [List.getElem_append_left hj] at z
  exact z)
theorem zn_p0 {cst : am_K} {h h' : am_H} {r k : Nat} {v : Int} (p : hp_p0 cst r (1200 + (k : Int)) v h h') (hr : r < 60010) : zn cst h h' r k v := fun ns hk X => p0_fn X (by rw [hk]; exact p) hr
theorem zn_pt {cst : am_K} {h h' : am_H} {r k : Nat} {v : Int} (p : hp_put cst r (1200 + (k : Int)) v h h') : zn cst h h' r k v := fun ns hk X => fn_put X (by rw [hk]; exact p)
theorem zn_fr {cst : am_K} {h h1 h2 : am_H} {r k : Nat} {v : Int} {ms : List Nat} (A : zn cst h h1 r k v) (fr : ly_fr cst ms h1 h2) (q : ly_has r ms = false) : zn cst h h2 r k v := fun ns hk X => fn_mv (A ns hk X) fr q
theorem zn_rf {cst : am_K} {h h1 h2 : am_H} {r k : Nat} {v : Int} {ms : List Nat} (fr : ly_fr cst ms h h1) (q : ly_has r ms = false) (A : zn cst h1 h2 r k v) : zn cst h h2 r k v := fun ns hk X => A ns hk (fn_mv X fr q)
theorem ze_fr {cst : am_K} {h h1 h2 : am_H} {r k : Nat} {v : Int} {ms : List Nat} (A : ze cst h h1 r k v) (fr : ly_fr cst ms h1 h2) (q : ly_has r ms = false) : ze cst h h2 r k v := fun ns w hk X => fn_mv (A ns w hk X) fr q
theorem ze_rf {cst : am_K} {h h1 h2 : am_H} {r k : Nat} {v : Int} {ms : List Nat} (fr : ly_fr cst ms h h1) (q : ly_has r ms = false) (A : ze cst h1 h2 r k v) : ze cst h h2 r k v := fun ns w hk X => A ns w hk (fn_mv X fr q)
/-- a number between bounds -/
def yn_f (kd vl : Int → Int) (t : Nat) (lo hi : Int) (b : Nat) : (Int × Nat) ⊕ (Nat × Int) := if fk kd t b ≠ 2 then .inl (1, b) else if vl (b : Int) < lo ∨ hi < vl (b : Int) then .inl (2, b) else .inr (b + 1, vl (b : Int))
theorem scz317_43 {cst : am_K} {strs : List Nat} {Φ : am_Q → Prop} {D : Nat} {M : am_M} {h : am_H} {l : am_L} {st : List Value} (cc : ∀ d, hp_C cst strs d) (hM : m_P[317]? = some M) (hD : 8 ≤ D) (hy : ly_hy m_tt ly_TH h) {f : Int → Int} {n : Int} {t : Nat} {kd pl vl : Int → Int} {en : Nat → Int} {a : Nat} (R : rq cst h f n t kd pl vl en a) (hst : (st.map fun v => v.category).sum ≤ 8)
    (k : ∀ h', ly_hy m_tt ly_TH h' → ly_fr cst [19971, 19972, 19973, 19974, 19975, 19976] h h' → gl true cst h h' → rq cst h' f n t kd pl vl en (a + 1) → hp_F cst strs Φ D M 46 l st h') : hp_F cst strs Φ D M 43 l (.ref 94 :: st) h := by
  obtain ⟨E, rfl⟩ : ∃ E, D = E + 1 := ⟨D - 1, by omega⟩
  obtain ⟨r, hrun, r1, r2, r3, rhy, rfr, rR⟩ := rq_scan (D := E) (cc _) (by omega) hy R
  refine hp_call (mi := 317) (pc := 43) (tg := 299) (na := 1) (c := 78) (ci := 12) (st0 := [.ref 94]) (st := st) (av := []) hM (by decide +kernel) hy rfl rfl rfl hst hrun r2 r3 ?_
  rw [r1]
  exact k _ rhy rfr (gl_fr rfr rfl) rR
theorem scz318_36 {cst : am_K} {strs : List Nat} {Φ : am_Q → Prop} {D : Nat} {M : am_M} {h : am_H} {l : am_L} {st : List Value} (cc : ∀ d, hp_C cst strs d) (hM : m_P[318]? = some M) (hD : 8 ≤ D) (hy : ly_hy m_tt ly_TH h) {f : Int → Int} {n : Int} {t : Nat} {kd pl vl : Int → Int} {en : Nat → Int} {a : Nat} (R : rq cst h f n t kd pl vl en a) (hst : (st.map fun v => v.category).sum ≤ 8)
    (k : ∀ h', ly_hy m_tt ly_TH h' → ly_fr cst [19971, 19972, 19973, 19974, 19975, 19976] h h' → gl true cst h h' → rq cst h' f n t kd pl vl en (a + 1) → hp_F cst strs Φ D M 39 l st h') : hp_F cst strs Φ D M 36 l (.ref 94 :: st) h := by
  obtain ⟨E, rfl⟩ : ∃ E, D = E + 1 := ⟨D - 1, by omega⟩
  obtain ⟨r, hrun, r1, r2, r3, rhy, rfr, rR⟩ := rq_scan (D := E) (cc _) (by omega) hy R
  refine hp_call (mi := 318) (pc := 36) (tg := 299) (na := 1) (c := 78) (ci := 12) (st0 := [.ref 94]) (st := st) (av := []) hM (by decide +kernel) hy rfl rfl rfl hst hrun r2 r3 ?_
  rw [r1]
  exact k _ rhy rfr (gl_fr rfr rfl) rR
theorem scz316_94 {cst : am_K} {strs : List Nat} {Φ : am_Q → Prop} {D : Nat} {M : am_M} {h : am_H} {l : am_L} {st : List Value} (cc : ∀ d, hp_C cst strs d) (hM : m_P[316]? = some M) (hD : 8 ≤ D) (hy : ly_hy m_tt ly_TH h) {f : Int → Int} {n : Int} {t : Nat} {kd pl vl : Int → Int} {en : Nat → Int} {a : Nat} (R : rq cst h f n t kd pl vl en a) (hst : (st.map fun v => v.category).sum ≤ 8)
    (k : ∀ h', ly_hy m_tt ly_TH h' → ly_fr cst [19971, 19972, 19973, 19974, 19975, 19976] h h' → gl true cst h h' → rq cst h' f n t kd pl vl en (a + 1) → hp_F cst strs Φ D M 97 l st h') : hp_F cst strs Φ D M 94 l (.ref 94 :: st) h := by
  obtain ⟨E, rfl⟩ : ∃ E, D = E + 1 := ⟨D - 1, by omega⟩
  obtain ⟨r, hrun, r1, r2, r3, rhy, rfr, rR⟩ := rq_scan (D := E) (cc _) (by omega) hy R
  refine hp_call (mi := 316) (pc := 94) (tg := 299) (na := 1) (c := 78) (ci := 12) (st0 := [.ref 94]) (st := st) (av := []) hM (by decide +kernel) hy rfl rfl rfl hst hrun r2 r3 ?_
  rw [r1]
  exact k _ rhy rfr (gl_fr rfr rfl) rR
theorem scz308_15 {cst : am_K} {strs : List Nat} {Φ : am_Q → Prop} {D : Nat} {M : am_M} {h : am_H} {l : am_L} {st : List Value} (cc : ∀ d, hp_C cst strs d) (hM : m_P[308]? = some M) (hD : 8 ≤ D) (hy : ly_hy m_tt ly_TH h) {f : Int → Int} {n : Int} {t : Nat} {kd pl vl : Int → Int} {en : Nat → Int} {a : Nat} (R : rq cst h f n t kd pl vl en a) (hst : (st.map fun v => v.category).sum ≤ 8)
    (k : ∀ h', ly_hy m_tt ly_TH h' → ly_fr cst [19971, 19972, 19973, 19974, 19975, 19976] h h' → gl true cst h h' → rq cst h' f n t kd pl vl en (a + 1) → hp_F cst strs Φ D M 18 l st h') : hp_F cst strs Φ D M 15 l (.ref 94 :: st) h := by
  obtain ⟨E, rfl⟩ : ∃ E, D = E + 1 := ⟨D - 1, by omega⟩
  obtain ⟨r, hrun, r1, r2, r3, rhy, rfr, rR⟩ := rq_scan (D := E) (cc _) (by omega) hy R
  refine hp_call (mi := 308) (pc := 15) (tg := 299) (na := 1) (c := 78) (ci := 12) (st0 := [.ref 94]) (st := st) (av := []) hM (by decide +kernel) hy rfl rfl rfl hst hrun r2 r3 ?_
  rw [r1]
  exact k _ rhy rfr (gl_fr rfr rfl) rR
theorem scz308_75 {cst : am_K} {strs : List Nat} {Φ : am_Q → Prop} {D : Nat} {M : am_M} {h : am_H} {l : am_L} {st : List Value} (cc : ∀ d, hp_C cst strs d) (hM : m_P[308]? = some M) (hD : 8 ≤ D) (hy : ly_hy m_tt ly_TH h) {f : Int → Int} {n : Int} {t : Nat} {kd pl vl : Int → Int} {en : Nat → Int} {a : Nat} (R : rq cst h f n t kd pl vl en a) (hst : (st.map fun v => v.category).sum ≤ 8)
    (k : ∀ h', ly_hy m_tt ly_TH h' → ly_fr cst [19971, 19972, 19973, 19974, 19975, 19976] h h' → gl true cst h h' → rq cst h' f n t kd pl vl en (a + 1) → hp_F cst strs Φ D M 78 l st h') : hp_F cst strs Φ D M 75 l (.ref 94 :: st) h := by
  obtain ⟨E, rfl⟩ : ∃ E, D = E + 1 := ⟨D - 1, by omega⟩
  obtain ⟨r, hrun, r1, r2, r3, rhy, rfr, rR⟩ := rq_scan (D := E) (cc _) (by omega) hy R
  refine hp_call (mi := 308) (pc := 75) (tg := 299) (na := 1) (c := 78) (ci := 12) (st0 := [.ref 94]) (st := st) (av := []) hM (by decide +kernel) hy rfl rfl rfl hst hrun r2 r3 ?_
  rw [r1]
  exact k _ rhy rfr (gl_fr rfr rfl) rR
theorem ypz308_90 {cst : am_K} {strs : List Nat} {Φ : am_Q → Prop} {D : Nat} {M : am_M} {h : am_H} {l : am_L} {st : List Value} (cc : ∀ d, hp_C cst strs d) (hM : m_P[308]? = some M) (hD : 8 ≤ D) (hy : ly_hy m_tt ly_TH h) {S : List Int} (X : qt_S cst h S) (sb : S.length ≤ 801) {xs : Int32} {v : Int} (xv : xs.toInt = v) (x0 : -4 ≤ v) (x1 : v ≤ 19) (hst : (st.map fun v => v.category).sum ≤ 8)
    (k : ∀ h', ly_hy m_tt ly_TH h' → ly_fr cst [20012, 26880, 60020, 60050, 60060, 60061, 60071] h h' → gl true cst h h' → qt_S cst h' (S ++ [v]) → hp_F cst strs Φ D M 93 l st h') : hp_F cst strs Φ D M 90 l (.int xs :: .ref 94 :: st) h := by
  obtain ⟨E, rfl⟩ : ∃ E, D = E + 1 := ⟨D - 1, by omega⟩
  subst xv
  obtain ⟨r, hrun, r1, r2, r3, rhy, rfr, rg, rS⟩ := yp_run (D := E) (xs := xs) cc (by omega) hy X sb x0 x1
  refine hp_call (mi := 308) (pc := 90) (tg := 313) (na := 2) (c := 78) (ci := 12) (st0 := [.int xs, .ref 94]) (st := st) (av := [.int xs]) hM (by decide +kernel) hy rfl rfl rfl hst hrun r2 r3 ?_
  rw [r1]
  exact k _ rhy rfr rg rS
/-- readNumber of the reference -/
theorem yn_run {cst : am_K} {strs : List Nat} {D : Nat} {h : am_H} (cc : ∀ d, hp_C cst strs d) (hD : 9 ≤ D) (hy : ly_hy m_tt ly_TH h) {f : Int → Int} {n : Int} {t : Nat} {kd pl vl : Int → Int} {en : Nat → Int} (kb : kB kd t) (vb : vB kd vl t) {b k : Nat} (R : rq cst h f n t kd pl vl en b) (k39 : k ≤ 39) {lo hi : Int} (o0 : 0 ≤ lo) (o1 : lo ≤ 1) (i0 : -1 ≤ hi) (i1 : hi ≤ 9999) {xc xl xh : Int32} (ec : xc.toInt = 1200 + (k : Int)) (el : xl.toInt = lo) (eh : xh.toInt = hi) :
    ∃ r, am_Run cst m_cl m_tt m_P strs sx_bi (D + 1) 317 [.ref 94, .int xc, .int xl, .int xh] h r ∧ gR cst h [19971, 19972, 19973, 19974, 19975, 19976, 19990, 19991, 24064, 60020, 60070] pl t n (yn_f kd vl t lo hi b) (fun y h9 => rq cst h9 f n t kd pl vl en y.1 ∧ ze cst h h9 24064 k y.2 ∧ y = (b + 1, vl (b : Int)) ∧ lo ≤ y.2 ∧ y.2 ≤ hi ∧ b < t) r := by
  obtain ⟨M, hM, hl⟩ := hp_M (mi := 317) (k := 4) (by decide +kernel)
  have c := cc D
  have n1 := R.1.2.2.1
  have ks := rs_so R.2.1
  have kp := R.2.2.2
  have pb := pa_b R.1.1 R.1.2.1 b
  have b0 := (rk_b kd t b kb).1
  have b8 := (rk_b kd t b kb).2.1
  have go : hp_F cst strs (gR cst h [19971, 19972, 19973, 19974, 19975, 19976, 19990, 19991, 24064, 60020, 60070] pl t n (yn_f kd vl t lo hi b) (fun y h9 => rq cst h9 f n t kd pl vl en y.1 ∧ ze cst h h9 24064 k y.2 ∧ y = (b + 1, vl (b : Int)) ∧ lo ≤ y.2 ∧ y.2 ≤ hi ∧ b < t)) D M 0 (lv_args 0 [.ref 94, .int xc, .int xl, .int xh]) [] h := by
    have bad : ∀ q, yn_f kd vl t lo hi b = .inl (q, b) → ∀ (h2 : am_H) (w : Int32), w.toInt = 0 → ly_hy m_tt ly_TH h2 → ly_fr cst [19990, 19991] h h2 → ly_hv cst h2 19990 0 = some q → ly_hv cst h2 19991 0 = some (pa pl t n b) → gR cst h [19971, 19972, 19973, 19974, 19975, 19976, 19990, 19991, 24064, 60020, 60070] pl t n (yn_f kd vl t lo hi b) (fun y h9 => rq cst h9 f n t kd pl vl en y.1 ∧ ze cst h h9 24064 k y.2 ∧ y = (b + 1, vl (b : Int)) ∧ lo ≤ y.2 ∧ y.2 ≤ hi ∧ b < t) (some (.int w), h2, 0, 0) := fun q e h2 w hw u1 u2 k1 k2 => gR_f e hw u1 (hp_sub2 rfl u2) (gl_fr u2 rfl) k1 k2
    by_cases q2 : fk kd t b = 2
    rotate_left
    · have no : yn_f kd vl t lo hi b = .inl (1, b) := if_pos q2
      have n2 : rk kd t b ≠ 2 := fun z => q2 ((rk_i2 kb b).mp z)
      by_cases z : rk kd t b ≤ 1
      · exact ynA0 c hM (by omega) hy (k : Int) lo hi (pa pl t n b) (rk kd t b) (by omega) (by omega) o0 o1 i0 i1 pb.1 (by omega) b0 z ks kp rfl ⟨xc, rfl, by omega⟩ ⟨xl, rfl, el⟩ ⟨xh, rfl, eh⟩ (fun h2 w hw u1 u2 u3 k1 k2 => bad 1 no h2 w hw u1 u2 k1 k2)
      · exact ynA1 c hM (by omega) hy (k : Int) lo hi (pa pl t n b) (rk kd t b) (by omega) (by omega) o0 o1 i0 i1 pb.1 (by omega) (by omega) b8 ks kp rfl ⟨xc, rfl, by omega⟩ ⟨xl, rfl, el⟩ ⟨xh, rfl, eh⟩ (fun h2 w hw u1 u2 u3 k1 k2 => bad 1 no h2 w hw u1 u2 k1 k2)
    rw [(rk_i2 kb b).mpr q2] at ks
    have lt : b < t := fk_in (kd := kd) (by rw [q2]; decide)
    have kdb : kd (b : Int) = 2 := by
      rw [← fk_lt (kd := kd) lt]
      exact q2
    have va := (vb b lt).2 kdb
    have kw' := (R.2.1.1 lt).2.2.2 kdb
    by_cases z1 : vl (b : Int) < lo
    · have no : yn_f kd vl t lo hi b = .inl (2, b) := by
        unfold yn_f
        rw [if_neg (fun z => z q2), if_pos (Or.inl z1)]
      exact ynB c hM (by omega) hy (k : Int) lo hi (pa pl t n b) (vl (b : Int)) (by omega) (by omega) o0 o1 i0 i1 pb.1 (by omega) va.1 va.2 (by omega) ks kp kw' rfl ⟨xc, rfl, by omega⟩ ⟨xl, rfl, el⟩ ⟨xh, rfl, eh⟩ (fun h2 w hw u1 u2 u3 k1 k2 => bad 2 no h2 w hw u1 u2 k1 k2)
    by_cases z2 : hi < vl (b : Int)
    · have no : yn_f kd vl t lo hi b = .inl (2, b) := by
        unfold yn_f
        rw [if_neg (fun z => z q2), if_pos (Or.inr z2)]
      exact ynC c hM (by omega) hy (k : Int) lo hi (pa pl t n b) (vl (b : Int)) (by omega) (by omega) o0 o1 i0 i1 pb.1 (by omega) va.1 va.2 (by omega) ks kp kw' rfl ⟨xc, rfl, by omega⟩ ⟨xl, rfl, el⟩ ⟨xh, rfl, eh⟩ (fun h2 w hw u1 u2 u3 k1 k2 => bad 2 no h2 w hw u1 u2 k1 k2)
    have er : yn_f kd vl t lo hi b = .inr (b + 1, vl (b : Int)) := by
      unfold yn_f
      rw [if_neg (fun z => z q2), if_neg (by omega)]
    refine ynD c hM (by omega) hy (k : Int) lo hi (vl (b : Int)) (by omega) (by omega) o0 o1 i0 i1 va.1 va.2 (by omega) (by omega) ks kw' rfl ⟨xc, rfl, by omega⟩ ⟨xl, rfl, el⟩ ⟨xh, rfl, eh⟩ (fun l1 h1 y0 y1 f0 f1 u1 u2 u3 m0 m1 m2 m3 => ?_)
    refine hp_st0 (c := 94) hM (by decide +kernel) u1 (show ly_ths ly_TH 94 = some (.inl (.int, 1240, 0, 9999)) from rfl) (by omega) (by omega) (by omega) (by omega) (fun h2 v1 v2 v3 => ?_)
    rw [f0, show y1.toInt = 1200 + (k : Int) by omega] at v3
    have v3 : hp_p0 cst 24064 (1200 + (k : Int)) (vl (b : Int)) h1 h2 := v3
    have F2 : ly_fr cst [24064, 60020, 60070] h1 h2 := hp_p0_fr v3 (by decide) rfl rfl
    refine ynE c hM (by omega) v1 (k : Int) lo hi (by omega) (by omega) o0 o1 i0 i1 m0 m1 m2 m3 (fun l3 h3 w1 w2 w3 j0 j1 j2 j3 => ?_)
    have F3 : ly_fr cst [24064, 60020, 60070] h h3 := ly_fr_tr (hp_sub2 rfl u2) (ly_fr_tr F2 (hp_sub2 rfl w2))
    refine scz317_43 cc hM (by omega) w1 (rq_mv R hy w1 F3 rfl) (by decide) (fun h4 x1 x2 x3 x4 => ?_)
    refine ynF c hM (by omega) x1 j0 (fun h5 w hw z1 z2 z3 => gR_s er hw z1 (ly_fr_tr (hp_sub2 rfl F3) (ly_fr_tr (hp_sub2 rfl x2) (hp_sub2 rfl z2))) (gl_tr (gl_fr u2 rfl) (gl_tr (gl_p0 v3 (by decide)) (gl_tr (gl_fr w2 rfl) (gl_tr x3 (gl_fr z2 rfl))))) ⟨rq_mv x4 x1 z1 z2 rfl, zn_ze (zn_rf u2 rfl (zn_fr (zn_fr (zn_fr (zn_p0 v3 (by decide)) w2 rfl) x2 rfl) z2 rfl)), rfl, by show lo ≤ vl (b : Int); omega, by show vl (b : Int) ≤ hi; omega, lt⟩)
  obtain ⟨n', r, hgo, w, r1, r2, r3, r4⟩ := go
  simp only [Nat.zero_add] at r2 r3
  exact ⟨r, Or.inr ⟨M, n', hM, hl, hgo⟩, w, r1, r2, r3, r4⟩
/-- a strike -/
def yk_f (kd vl : Int → Int) (t : Nat) (A : Int) (b : Nat) : (Int × Nat) ⊕ (Nat × Int × Int) := match yn_f kd vl t 0 (A - 1) b with
  | .inl f => .inl f
  | .inr (e, v) => if fk kd t e = 1 then .inr (e + 1, vl (e : Int), v) else .inr (e, 0, v)
/-- readStrike of the reference -/
theorem yk_run {cst : am_K} {strs : List Nat} {D : Nat} {h : am_H} (cc : ∀ d, hp_C cst strs d) (hD : 10 ≤ D) (hy : ly_hy m_tt ly_TH h) {f : Int → Int} {n : Int} {t : Nat} {kd pl vl : Int → Int} {en : Nat → Int} (kb : kB kd t) (vb : vB kd vl t) {b k : Nat} (R : rq cst h f n t kd pl vl en b) (k39 : k ≤ 39) {A : Int} (A0 : 0 ≤ A) (A1 : A ≤ 30) (kA : ly_hv cst h 19989 0 = some A) {xc : Int32} (ec : xc.toInt = 1200 + (k : Int)) :
    ∃ r, am_Run cst m_cl m_tt m_P strs sx_bi (D + 1) 318 [.ref 94, .int xc] h r ∧ gR cst h [19971, 19972, 19973, 19974, 19975, 19976, 19990, 19991, 23808, 24064, 60020, 60070] pl t n (yk_f kd vl t A b) (fun y h9 => rq cst h9 f n t kd pl vl en y.1 ∧ ze cst h h9 24064 k y.2.2 ∧ ((zn cst h h9 23808 k y.2.1) ∨ (y.2.1 = 0 ∧ ly_fr cst [19971, 19972, 19973, 19974, 19975, 19976, 19990, 19991, 24064, 60020, 60070] h h9)) ∧ y.1 ≤ t ∧ b < y.1 ∧ 0 ≤ y.2.2 ∧ y.2.2 ≤ 9999 ∧ 0 ≤ y.2.1 ∧ y.2.1 < 1152921504606846976) r := by
  obtain ⟨M, hM, hl⟩ := hp_M (mi := 318) (k := 2) (by decide +kernel)
  have c := cc D
  obtain ⟨E, rfl⟩ : ∃ E, D = E + 1 := ⟨D - 1, by omega⟩
  have go : hp_F cst strs (gR cst h [19971, 19972, 19973, 19974, 19975, 19976, 19990, 19991, 23808, 24064, 60020, 60070] pl t n (yk_f kd vl t A b) (fun y h9 => rq cst h9 f n t kd pl vl en y.1 ∧ ze cst h h9 24064 k y.2.2 ∧ ((zn cst h h9 23808 k y.2.1) ∨ (y.2.1 = 0 ∧ ly_fr cst [19971, 19972, 19973, 19974, 19975, 19976, 19990, 19991, 24064, 60020, 60070] h h9)) ∧ y.1 ≤ t ∧ b < y.1 ∧ 0 ≤ y.2.2 ∧ y.2.2 ≤ 9999 ∧ 0 ≤ y.2.1 ∧ y.2.1 < 1152921504606846976)) (E + 1) M 0 (lv_args 0 [.ref 94, .int xc]) [] h := by
    refine ys0 c hM (by omega) hy (k : Int) A (by omega) (by omega) A0 A1 kA rfl ⟨xc, rfl, by omega⟩ (fun l1 h1 y0 y1 y2 f0 f1 f2 u1 u2 u3 m0 m1 => ?_)
    obtain ⟨r, hrun, w, r1, r2, r3, rhy, rfr, rg, rF, rS⟩ := yn_run (D := E) (lo := 0) (hi := A - 1) (xc := y2) (xl := y1) (xh := y0) cc (by omega) u1 kb vb (rq_mv R hy u1 u2 rfl) k39 (by omega) (by omega) (by omega) (by omega) (by omega) f1 f0
    refine hp_call (mi := 318) (pc := 9) (tg := 317) (na := 4) (c := 78) (ci := 12) (st0 := [.int y0, .int y1, .int y2, .ref 94]) (st := []) (av := [.int y2, .int y1, .int y0]) hM (by decide +kernel) u1 rfl rfl rfl (by decide) hrun r2 r3 ?_
    rw [r1]
    have g1 : gl false cst h r.2.1 := gf_tr (gl_fr (g := true) u2 rfl) rg
    have fr1 : ly_fr cst [19971, 19972, 19973, 19974, 19975, 19976, 19990, 19991, 24064, 60020, 60070] h r.2.1 := ly_fr_tr (hp_sub2 rfl u2) rfr
    cases e : yn_f kd vl t 0 (A - 1) b with
    | inl q =>
      obtain ⟨q, b2⟩ := q
      obtain ⟨w0, z1, z2⟩ := rF q b2 e
      have er : yk_f kd vl t A b = .inl (q, b2) := by
        unfold yk_f
        rw [e]
      exact ysA c hM (by omega) rhy (k : Int) w w0 (by omega) (by omega) m0 m1 (fun h5 v hv s1 s2 s3 => gR_f er hv s1 (ly_fr_tr (hp_sub2 rfl fr1) (hp_sub2 rfl s2)) (gf_tr g1 (gl_fr s2 rfl)) (s2 _ _ _ rfl z1) (s2 _ _ _ rfl z2))
    | inr q =>
      obtain ⟨w0, gt, zR, zE, eq, v0, v1, lt⟩ := rS q e
      have g1 : gl true cst h r.2.1 := gl_tr (gl_fr u2 rfl) gt
      subst eq
      have v0 : 0 ≤ vl (b : Int) := v0
      have v1 : vl (b : Int) ≤ A - 1 := v1
      have zR : rq cst r.2.1 f n t kd pl vl en (b + 1) := zR
      have ks := rs_so zR.2.1
      have b0 := (rk_b kd t (b + 1) kb).1
      have b8 := (rk_b kd t (b + 1) kb).2.1
      have zE : ze cst h1 r.2.1 24064 k (vl (b : Int)) := zE
      by_cases q1 : fk kd t (b + 1) = 1
      rotate_left
      · have er : yk_f kd vl t A b = .inr (b + 1, 0, vl (b : Int)) := by
          unfold yk_f
          rw [e]
          exact if_neg q1
        have fin : ∀ (h5 : am_H) (v : Int32), v.toInt = 1 → ly_hy m_tt ly_TH h5 → ly_fr cst [] r.2.1 h5 → gR cst h [19971, 19972, 19973, 19974, 19975, 19976, 19990, 19991, 23808, 24064, 60020, 60070] pl t n (yk_f kd vl t A b) (fun y h9 => rq cst h9 f n t kd pl vl en y.1 ∧ ze cst h h9 24064 k y.2.2 ∧ ((zn cst h h9 23808 k y.2.1) ∨ (y.2.1 = 0 ∧ ly_fr cst [19971, 19972, 19973, 19974, 19975, 19976, 19990, 19991, 24064, 60020, 60070] h h9)) ∧ y.1 ≤ t ∧ b < y.1 ∧ 0 ≤ y.2.2 ∧ y.2.2 ≤ 9999 ∧ 0 ≤ y.2.1 ∧ y.2.1 < 1152921504606846976) (some (.int v), h5, 0, 0) := fun h5 v hv s1 s2 => gR_s er hv s1 (ly_fr_tr (hp_sub2 rfl fr1) (hp_sub2 rfl s2)) (gl_tr g1 (gl_fr s2 rfl)) ⟨rq_mv zR rhy s1 s2 rfl, ze_rf u2 rfl (ze_fr zE s2 rfl), Or.inr ⟨rfl, ly_fr_tr fr1 (hp_sub2 rfl s2)⟩, lt, by show b < b + 1; omega, v0, by show vl (b : Int) ≤ 9999; omega, Int.le_refl 0, by show (0 : Int) < 1152921504606846976; decide⟩
        have n1' : rk kd t (b + 1) ≠ 1 := fun z => q1 ((rk_i1 kb (b + 1)).mp z)
        by_cases z : rk kd t (b + 1) ≤ 0
        · exact ysB0 c hM (by omega) rhy (k : Int) (rk kd t (b + 1)) w w0 (by omega) (by omega) b0 z ks m0 m1 (fun h5 v hv s1 s2 s3 => fin h5 v hv s1 s2)
        · exact ysB1 c hM (by omega) rhy (k : Int) (rk kd t (b + 1)) w w0 (by omega) (by omega) (by omega) b8 ks m0 m1 (fun h5 v hv s1 s2 s3 => fin h5 v hv s1 s2)
      have er : yk_f kd vl t A b = .inr (b + 1 + 1, vl ((b + 1 : Nat) : Int), vl (b : Int)) := by
        unfold yk_f
        rw [e]
        exact if_pos q1
      rw [(rk_i1 kb (b + 1)).mpr q1] at ks
      have lt1 : b + 1 < t := fk_in (kd := kd) (by rw [q1]; decide)
      have ka : kd ((b + 1 : Nat) : Int) = 1 := by
        rw [← fk_lt (kd := kd) lt1]
        exact q1
      have va := (vb (b + 1) lt1).1 ka
      refine ysC c hM (by omega) rhy (k : Int) (vl ((b + 1 : Nat) : Int)) w w0 (by omega) (by omega) (by omega) (by omega) ks ((zR.2.1.1 lt1).2.2.1 ka) m0 m1 (fun l3 h3 x0 x1 g0 g1' s1 s2 s3 j0 j1 => ?_)
      refine hp_stj (c := 93) hM (by decide +kernel) s1 (show ly_ths ly_TH 93 = some (.inl (.long, 1240, 0, 0)) from rfl) rfl (by omega) (by omega) (fun h4 t1 t2 t3 => ?_)
      rw [g0, show x1.toInt = 1200 + (k : Int) by omega] at t3
      have t3 : hp_put cst 23808 (1200 + (k : Int)) (vl ((b + 1 : Nat) : Int)) h3 h4 := t3
      have pf : ly_fr cst [23808] h3 h4 := hp_put_fr (by rfl) t3
      have F4 : ly_fr cst [23808] r.2.1 h4 := ly_fr_tr (hp_sub2 rfl s2) pf
      refine ysD c hM (by omega) t1 (k : Int) (by omega) (by omega) j0 j1 (fun l5 h5 d1 d2 d3 p0 p1 => ?_)
      refine scz318_36 cc hM (by omega) d1 (rq_mv (rq_mv zR rhy t1 F4 rfl) t1 d1 d2 rfl) (by decide) (fun h6 a1 a2 a3 a4 => ?_)
      refine ysE c hM (by omega) a1 p0 (fun h7 v hv e1 e2 e3 => gR_s er hv e1 (ly_fr_tr (hp_sub2 rfl fr1) (ly_fr_tr (hp_sub2 rfl F4) (ly_fr_tr (hp_sub2 rfl d2) (ly_fr_tr (hp_sub2 rfl a2) (hp_sub2 rfl e2))))) (gl_tr g1 (gl_tr (gl_fr s2 rfl) (gl_tr (gl_pl t3 (by decide) (by decide)) (gl_tr (gl_fr d2 rfl) (gl_tr a3 (gl_fr e2 rfl)))))) ⟨rq_mv a4 a1 e1 e2 rfl, ze_rf u2 rfl (ze_fr (ze_fr (ze_fr (ze_fr zE F4 rfl) d2 rfl) a2 rfl) e2 rfl), Or.inl (zn_rf fr1 rfl (zn_rf s2 rfl (zn_fr (zn_fr (zn_fr (zn_pt t3) d2 rfl) a2 rfl) e2 rfl))), lt1, by show b < b + 1 + 1; omega, v0, by show vl (b : Int) ≤ 9999; omega, by show 0 ≤ vl ((b + 1 : Nat) : Int); omega, va.2⟩)
  obtain ⟨n', r, hgo, w, r1, r2, r3, r4⟩ := go
  simp only [Nat.zero_add] at r2 r3
  exact ⟨r, Or.inr ⟨M, n', hM, hl, hgo⟩, w, r1, r2, r3, r4⟩
set_option maxRecDepth 8000 in
/-- isTold of the reference -/
theorem yi_lp {cst : am_K} {strs : List Nat} {D : Nat} {M : am_M} {h0 : am_H} (cc : ∀ d, hp_C cst strs d) (hM : m_P[307]? = some M) (hD : 7 ≤ D) {C : List cl} (X1 : fn_N cst h0 23552 1200 (C.map fun x => x.1)) (X2 : fn_N cst h0 23808 1200 (C.map fun x => x.2.1)) (c40 : C.length ≤ 40) {k d : Int} (k0 : 0 ≤ k) (k1 : k ≤ 14) (d0 : -9223372036854775808 ≤ d) (d1 : d ≤ 9223372036854775807) : ∀ (Q : Nat) (h : am_H) (l : am_L) (i : Nat), C.length - i < Q → i ≤ C.length → ly_hy m_tt ly_TH h → ly_fr cst [] h0 h → (∀ j (hj : j < C.length), j < i → ¬ (C[j].1 = k ∧ C[j].2.1 = d)) → hp_a l 0 94 → hp_i l 1 k → hp_j l 2 d → hp_i l 4 (C.length : Int) → hp_i l 5 ((i : Int) + 1200) → hp_F cst strs (fun r : am_Q => ∃ w : Int32, r.1 = some (.int w) ∧ r.2.2.1 = 0 ∧ r.2.2.2 = 0 ∧ ly_hy m_tt ly_TH r.2.1 ∧ ly_fr cst [] h0 r.2.1 ∧ ((tl k d C = true ∧ w.toInt = 1) ∨ (tl k d C = false ∧ w.toInt = 0))) D M 5 l [] h := by
  intro Q
  induction Q with
  | zero => intro h l i hN; omega
  | succ Q ih =>
    intro h l i hN hi hy fr ne l0 l1 l2 l4 l5
    have c := cc D
    by_cases z : i = C.length
    · rw [z] at l5
      exact yiZ c hM (by omega) hy k d (C.length : Int) k0 k1 d0 d1 (by omega) (by omega) l0 l1 l2 l4 l5 (fun h2 w hw u1 u2 u3 => ⟨w, rfl, rfl, rfl, u1, ly_fr_tr fr u2, Or.inr ⟨tl_no (fun j hj => ne j hj (by omega)), hw⟩⟩)
    · have hl : i < C.length := by omega
      have kk : ly_hv cst h 23552 ((i : Int) + 1200) = some (C[i].1) := by
        have z := fr _ _ _ rfl (X1 i (by rw [List.length_map]; exact hl))
        rw [List.getElem_map, Int.add_comm] at z
        exact z
      have kd : ly_hv cst h 23808 ((i : Int) + 1200) = some (C[i].2.1) := by
        have z := fr _ _ _ rfl (X2 i (by rw [List.length_map]; exact hl))
        rw [List.getElem_map, Int.add_comm] at z
        exact z
      obtain ⟨v, kv, v0, v1⟩ := hp_row (cst := cst) (i := (i : Int) + 1200) hy (show ly_ths ly_TH 92 = some (.inl (.int, 1240, 0, 14)) from rfl) (by omega) (by omega)
      have kv : ly_hv cst h 23552 ((i : Int) + 1200) = some v := kv
      rw [kk] at kv
      have ev := Option.some.inj kv
      obtain ⟨w, kw', w0, w1⟩ := hp_rowj (cst := cst) (i := (i : Int) + 1200) hy (show ly_ths ly_TH 93 = some (.inl (.long, 1240, 0, 0)) from rfl) (by omega) (by omega)
      have kw' : ly_hv cst h 23808 ((i : Int) + 1200) = some w := kw'
      rw [kd] at kw'
      have ew := Option.some.inj kw'
      have w0 : -9223372036854775808 ≤ w := w0
      have w1 : w ≤ 9223372036854775807 := w1
      have nx : ¬ (C[i].1 = k ∧ C[i].2.1 = d) → ∀ (l3' : am_L) (h3 : am_H), ly_hy m_tt ly_TH h3 → ly_fr cst [] h h3 → h.length ≤ h3.length → hp_a l3' 0 94 → hp_i l3' 1 k → hp_j l3' 2 d → hp_i l3' 4 (C.length : Int) → hp_i l3' 5 ((i : Int) + 1201) → hp_F cst strs (fun r : am_Q => ∃ w : Int32, r.1 = some (.int w) ∧ r.2.2.1 = 0 ∧ r.2.2.2 = 0 ∧ ly_hy m_tt ly_TH r.2.1 ∧ ly_fr cst [] h0 r.2.1 ∧ ((tl k d C = true ∧ w.toInt = 1) ∨ (tl k d C = false ∧ w.toInt = 0))) D M 5 l3' [] h3 := fun e l3' h3 u1 u2 u3 m0 m1 m2 m4 m5 => ih h3 l3' (i + 1) (by omega) (by omega) u1 (ly_fr_tr fr u2) (fun j hj h9 => if w : j = i then by subst w; exact e else ne j hj (by omega)) m0 m1 m2 m4 (by rw [show ((i + 1 : Nat) : Int) + 1200 = (i : Int) + 1201 by omega]; exact m5)
      by_cases g1 : k < C[i].1
      · exact yiA c hM (by omega) hy k d (C.length : Int) (i : Int) (C[i].1) k0 k1 d0 d1 (by omega) (by omega) (by omega) (by omega) (by omega) (by omega) (by omega) (by omega) kk l0 l1 l2 l4 l5 (nx (fun y => by omega))
      by_cases g2 : C[i].1 < k
      · exact yiB c hM (by omega) hy k d (C.length : Int) (i : Int) (C[i].1) k0 k1 d0 d1 (by omega) (by omega) (by omega) (by omega) (by omega) (by omega) (by omega) (by omega) kk l0 l1 l2 l4 l5 (nx (fun y => by omega))
      have e1 : C[i].1 = k := by omega
      rw [e1] at kk
      by_cases g3 : d < C[i].2.1
      · exact yiC c hM (by omega) hy k d (C.length : Int) (i : Int) (C[i].2.1) k0 k1 d0 d1 (by omega) (by omega) (by omega) (by omega) (by omega) (by omega) (by omega) (by omega) kk kd l0 l1 l2 l4 l5 (nx (fun y => by omega))
      by_cases g4 : C[i].2.1 < d
      · exact yiD c hM (by omega) hy k d (C.length : Int) (i : Int) (C[i].2.1) k0 k1 d0 d1 (by omega) (by omega) (by omega) (by omega) (by omega) (by omega) (by omega) (by omega) kk kd l0 l1 l2 l4 l5 (nx (fun y => by omega))
      have e2 : C[i].2.1 = d := by omega
      rw [e2] at kd
      exact yiE c hM (by omega) hy k d (C.length : Int) (i : Int) k0 k1 d0 d1 (by omega) (by omega) (by omega) (by omega) (by omega) kk kd l0 l1 l2 l4 l5 (fun h2 w hw u1 u2 u3 => ⟨w, rfl, rfl, rfl, u1, ly_fr_tr fr u2, Or.inl ⟨tl_yes hl e1 e2, hw⟩⟩)
theorem yi_run {cst : am_K} {strs : List Nat} {D : Nat} {h : am_H} (cc : ∀ d, hp_C cst strs d) (hD : 7 ≤ D) (hy : ly_hy m_tt ly_TH h) {C : List cl} (X1 : fn_N cst h 23552 1200 (C.map fun x => x.1)) (X2 : fn_N cst h 23808 1200 (C.map fun x => x.2.1)) (c40 : C.length ≤ 40) {k d : Int} (k0 : 0 ≤ k) (k1 : k ≤ 14) {xk xu : Int32} {xd : Int64} (ek : xk.toInt = k) (ed : xd.toInt = d) (eu : xu.toInt = (C.length : Int)) :
    ∃ r, am_Run cst m_cl m_tt m_P strs sx_bi (D + 1) 307 [.ref 94, .int xk, .long xd, .int xu] h r ∧ (fun r : am_Q => ∃ w : Int32, r.1 = some (.int w) ∧ r.2.2.1 = 0 ∧ r.2.2.2 = 0 ∧ ly_hy m_tt ly_TH r.2.1 ∧ ly_fr cst [] h r.2.1 ∧ ((tl k d C = true ∧ w.toInt = 1) ∨ (tl k d C = false ∧ w.toInt = 0))) r := by
  obtain ⟨M, hM, hl⟩ := hp_M (mi := 307) (k := 5) (by decide +kernel)
  have d0 : -9223372036854775808 ≤ d := by rw [← ed]; exact xd.le_toInt
  have d1 : d ≤ 9223372036854775807 := by rw [← ed]; exact xd.toInt_le
  obtain ⟨n', r, hgo, w, r1, r2, r3, r4⟩ := yi0 (Φ := (fun r : am_Q => ∃ w : Int32, r.1 = some (.int w) ∧ r.2.2.1 = 0 ∧ r.2.2.2 = 0 ∧ ly_hy m_tt ly_TH r.2.1 ∧ ly_fr cst [] h r.2.1 ∧ ((tl k d C = true ∧ w.toInt = 1) ∨ (tl k d C = false ∧ w.toInt = 0)))) (l := lv_args 0 [.ref 94, .int xk, .long xd, .int xu]) (cc D) hM (by omega) hy k d (C.length : Int) k0 k1 d0 d1 (by omega) (by omega) rfl ⟨xk, rfl, ek⟩ ⟨xd, rfl, ed⟩ ⟨xu, rfl, eu⟩ (fun l1 h1 u1 u2 u3 m0 m1 m2 m4 m5 => yi_lp (h0 := h) cc hM hD X1 X2 c40 k0 k1 d0 d1 (C.length + 1) h1 l1 0 (by omega) (by omega) u1 u2 (fun j hj h9 => by omega) m0 m1 m2 m4 m5)
  simp only [Nat.zero_add] at r2 r3
  exact ⟨r, Or.inr ⟨M, n', hM, hl, hgo⟩, w, r1, r2, r3, r4⟩
/-- the words said so far in the draft -/
def qt_W (cst : am_K) (h : am_H) (W : List Int) : Prop := ly_hv cst h 20013 0 = some (W.length : Int) ∧ fn_N cst h 27136 9900 W
theorem qt_W_mv {cst : am_K} {h h' : am_H} {W : List Int} {ms : List Nat} (A : qt_W cst h W) (fr : ly_fr cst ms h h') (q1 : ly_has 20013 ms = false) (q2 : ly_has 27136 ms = false) : qt_W cst h' W := ⟨fr _ _ _ q1 A.1, fn_mv A.2 fr q2⟩
set_option maxRecDepth 8000 in
theorem wo_len {kd vl : Int → Int} {t : Nat} : ∀ (F a : Nat) (L : List Int) (e : Nat) (L' : List Int), wo kd vl t F a L = .inr (e, L') → L.length ≤ L'.length ∧ L'.length ≤ L.length + F ∧ e = a + (L'.length - L.length)
  | 0, a, L, e, L', h => by
    rw [wo] at h
    split at h
    · cases h
    · cases h
      omega
  | F + 1, a, L, e, L', h => by
    rw [wo] at h
    split at h
    · have ih := wo_len F (a + 1) (L ++ [vl (a : Int)]) e L' h
      rw [List.length_append, List.length_singleton] at ih
      omega
    · cases h
      omega
set_option maxRecDepth 8000 in
/-- the words of a clause, L of them before -/
theorem yw_lp {cst : am_K} {strs : List Nat} {D : Nat} {M : am_M} {h0 : am_H} (cc : ∀ d, hp_C cst strs d) (hM : m_P[316]? = some M) (hD : 9 ≤ D) {f : Int → Int} {n : Int} {t : Nat} {kd pl vl : Int → Int} {en : Nat → Int} (kb : kB kd t) (vb : vB kd vl t) {k : Nat} (k39 : k ≤ 39) {W : List Int} (wb : W.length ≤ 312) : ∀ (F : Nat) (h : am_H) (l : am_L) (a : Nat) (L : List Int), F + L.length = 8 → a ≤ t → ly_hy m_tt ly_TH h → ly_fr cst [19971, 19972, 19973, 19974, 19975, 19976, 19990, 19991, 20013, 24320, 24576, 27136, 60020, 60070] h0 h → gl true cst h0 h → rq cst h f n t kd pl vl en a → qt_W cst h (W ++ L) → ly_hv cst h 24576 (1200 + (k : Int)) = some (L.length : Int) → (∀ ns w, ns.length = k → fn_N cst h0 24576 1200 (ns ++ [w]) → fn_N cst h 24576 1200 (ns ++ [(L.length : Int)])) → zn cst h0 h 24320 k (W.length : Int) → hp_a l 0 94 → hp_i l 1 ((k : Int) + 1200) → hp_F cst strs (gR cst h0 [19971, 19972, 19973, 19974, 19975, 19976, 19990, 19991, 20013, 24320, 24576, 27136, 60020, 60070] pl t n (wo kd vl t F a L) (fun y h9 => rq cst h9 f n t kd pl vl en y.1 ∧ ze cst h0 h9 24576 k (y.2.length : Int) ∧ zn cst h0 h9 24320 k (W.length : Int) ∧ qt_W cst h9 (W ++ y.2) ∧ y.1 ≤ t)) D M 31 l [] h := by
  intro F
  induction F with
  | zero =>
    intro h l a L hL ha hy fr g R X kq zq zf l0 l1
    have c := cc D
    have n1 := R.1.2.2.1
    have ks := rs_so R.2.1
    have kp := R.2.2.2
    have pb := pa_b R.1.1 R.1.2.1 a
    have b0 := (rk_b kd t a kb).1
    have b8 := (rk_b kd t a kb).2.1
    by_cases q1 : fk kd t a = 1
    · have er : wo kd vl t 0 a L = .inl (4, a) := by rw [wo, if_pos q1]
      rw [(rk_i1 kb a).mpr q1] at ks
      rw [show L.length = 8 by omega, Int.add_comm] at kq
      exact ywD c hM (by omega) hy (k : Int) (pa pl t n a) (by omega) (by omega) pb.1 (by omega) ks kp kq l0 l1 (fun h2 w hw u1 u2 u3 k1 k2 => gR_f er hw u1 (ly_fr_tr fr (hp_sub2 rfl u2)) (gf_tr g (gl_fr u2 rfl)) k1 k2)
    have er : wo kd vl t 0 a L = .inr (a, L) := by rw [wo, if_neg q1]
    have fin : ∀ (h2 : am_H) (w : Int32), w.toInt = 1 → ly_hy m_tt ly_TH h2 → ly_fr cst [] h h2 → (gR cst h0 [19971, 19972, 19973, 19974, 19975, 19976, 19990, 19991, 20013, 24320, 24576, 27136, 60020, 60070] pl t n (wo kd vl t 0 a L) (fun y h9 => rq cst h9 f n t kd pl vl en y.1 ∧ ze cst h0 h9 24576 k (y.2.length : Int) ∧ zn cst h0 h9 24320 k (W.length : Int) ∧ qt_W cst h9 (W ++ y.2) ∧ y.1 ≤ t)) (some (.int w), h2, 0, 0) := fun h2 w hw u1 u2 => gR_s er hw u1 (ly_fr_tr fr (hp_sub2 rfl u2)) (gl_tr g (gl_fr u2 rfl)) ⟨rq_mv R hy u1 u2 rfl, fun ns w hk X0 => fn_mv (zq ns w hk X0) u2 rfl, zn_fr zf u2 rfl, qt_W_mv X u2 rfl rfl, ha⟩
    have n1' : rk kd t a ≠ 1 := fun z => q1 ((rk_i1 kb a).mp z)
    by_cases z : rk kd t a ≤ 0
    · exact ywC0 c hM (by omega) hy (k : Int) (rk kd t a) (by omega) (by omega) b0 z ks l0 l1 (fun h2 w hw u1 u2 u3 => fin h2 w hw u1 u2)
    · exact ywC1 c hM (by omega) hy (k : Int) (rk kd t a) (by omega) (by omega) (by omega) b8 ks l0 l1 (fun h2 w hw u1 u2 u3 => fin h2 w hw u1 u2)
  | succ F ih =>
    intro h l a L hL ha hy fr g R X kq zq zf l0 l1
    have c := cc D
    have n1 := R.1.2.2.1
    have ks := rs_so R.2.1
    have kp := R.2.2.2
    have pb := pa_b R.1.1 R.1.2.1 a
    have b0 := (rk_b kd t a kb).1
    have b8 := (rk_b kd t a kb).2.1
    by_cases q1 : fk kd t a = 1
    rotate_left
    · have er : wo kd vl t (F + 1) a L = .inr (a, L) := by rw [wo, if_neg q1]
      have fin : ∀ (h2 : am_H) (w : Int32), w.toInt = 1 → ly_hy m_tt ly_TH h2 → ly_fr cst [] h h2 → (gR cst h0 [19971, 19972, 19973, 19974, 19975, 19976, 19990, 19991, 20013, 24320, 24576, 27136, 60020, 60070] pl t n (wo kd vl t (F + 1) a L) (fun y h9 => rq cst h9 f n t kd pl vl en y.1 ∧ ze cst h0 h9 24576 k (y.2.length : Int) ∧ zn cst h0 h9 24320 k (W.length : Int) ∧ qt_W cst h9 (W ++ y.2) ∧ y.1 ≤ t)) (some (.int w), h2, 0, 0) := fun h2 w hw u1 u2 => gR_s er hw u1 (ly_fr_tr fr (hp_sub2 rfl u2)) (gl_tr g (gl_fr u2 rfl)) ⟨rq_mv R hy u1 u2 rfl, fun ns w hk X0 => fn_mv (zq ns w hk X0) u2 rfl, zn_fr zf u2 rfl, qt_W_mv X u2 rfl rfl, ha⟩
      have n1' : rk kd t a ≠ 1 := fun z => q1 ((rk_i1 kb a).mp z)
      by_cases z : rk kd t a ≤ 0
      · exact ywC0 c hM (by omega) hy (k : Int) (rk kd t a) (by omega) (by omega) b0 z ks l0 l1 (fun h2 w hw u1 u2 u3 => fin h2 w hw u1 u2)
      · exact ywC1 c hM (by omega) hy (k : Int) (rk kd t a) (by omega) (by omega) (by omega) b8 ks l0 l1 (fun h2 w hw u1 u2 u3 => fin h2 w hw u1 u2)
    have er : wo kd vl t (F + 1) a L = wo kd vl t F (a + 1) (L ++ [vl (a : Int)]) := by rw [wo, if_pos q1]
    rw [er]
    rw [(rk_i1 kb a).mpr q1] at ks
    have lt : a < t := fk_in (kd := kd) (by rw [q1]; decide)
    have ka : kd (a : Int) = 1 := by
      rw [← fk_lt (kd := kd) lt]
      exact q1
    have va := (vb a lt).1 ka
    have lWL : (W ++ L).length = W.length + L.length := List.length_append
    have kq' : ly_hv cst h 24576 ((k : Int) + 1200) = some (L.length : Int) := by
      rw [Int.add_comm]
      exact kq
    refine ywE c hM (by omega) hy (k : Int) ((W ++ L).length : Int) (L.length : Int) (vl (a : Int)) (by omega) (by omega) (by omega) (by omega) (by omega) (by omega) (by omega) (by omega) ks ((R.2.1.1 lt).2.2.1 ka) X.1 kq' l0 l1 (fun l1' h1 y0 y1 f0 f1 u1 u2 u3 m0 m1 => ?_)
    refine hp_stj (c := 106) hM (by decide +kernel) u1 (show ly_ths ly_TH 106 = some (.inl (.long, 10230, 0, 0)) from rfl) rfl (by omega) (by omega) (fun h2 t1 t2 t3 => ?_)
    rw [f0, show y1.toInt = 9900 + ((W ++ L).length : Int) by omega] at t3
    have t3 : hp_put cst 27136 (9900 + ((W ++ L).length : Int)) (vl (a : Int)) h1 h2 := t3
    have pf : ly_fr cst [27136] h1 h2 := hp_put_fr (by rfl) t3
    have F2 : ly_fr cst [27136] h h2 := ly_fr_tr (hp_sub2 rfl u2) pf
    have W2 : fn_N cst h2 27136 9900 (W ++ L ++ [vl (a : Int)]) := fn_put (fn_mv X.2 u2 rfl) t3
    refine ywF c hM (by omega) t1 (k : Int) ((W ++ L).length : Int) (L.length : Int) (by omega) (by omega) (by omega) (by omega) (by omega) (by omega) (F2 _ _ _ rfl X.1) (F2 _ _ _ rfl kq') m0 m1 (fun l3 h3 y2 y3 f2 f3 v1 v2 v3 ks3 j0 j1 => ?_)
    refine hp_st0 (c := 96) hM (by decide +kernel) v1 (show ly_ths ly_TH 96 = some (.inl (.int, 1240, 0, 20)) from rfl) (by omega) (by omega) (by omega) (by omega) (fun h4 s1 s2 s3 => ?_)
    rw [f2, show y3.toInt = 1200 + (k : Int) by omega] at s3
    have s3 : hp_p0 cst 24576 (1200 + (k : Int)) ((L.length : Int) + 1) h3 h4 := s3
    have F4 : ly_fr cst [24576, 60020, 60070] h3 h4 := hp_p0_fr s3 (by decide) rfl rfl
    refine ywG c hM (by omega) s1 (k : Int) (by omega) (by omega) j0 j1 (fun l5 h5 w1 w2 w3 o0 o1 => ?_)
    have F5 : ly_fr cst [20013, 24576, 27136, 60020, 60070] h h5 := ly_fr_tr (hp_sub2 rfl F2) (ly_fr_tr (hp_sub2 rfl v2) (ly_fr_tr (hp_sub2 rfl F4) (hp_sub2 rfl w2)))
    refine scz316_94 cc hM (by omega) w1 (rq_mv R hy w1 F5 rfl) (by decide) (fun h6 x1 x2 x3 x4 => ?_)
    refine ywH c hM (by omega) x1 (k : Int) (by omega) (by omega) o0 o1 (fun l7 h7 d1 d2 d3 p0 p1 => ?_)
    have F7 : ly_fr cst [19971, 19972, 19973, 19974, 19975, 19976] h5 h7 := ly_fr_tr x2 (hp_sub2 rfl d2)
    have len9 : (L ++ [vl (a : Int)]).length = L.length + 1 := by rw [List.length_append, List.length_singleton]
    refine ih h7 l7 (a + 1) (L ++ [vl (a : Int)]) (by omega) lt d1 (ly_fr_tr fr (ly_fr_tr (hp_sub2 rfl F5) (hp_sub2 rfl F7))) (gl_tr g (gl_tr (gl_fr u2 rfl) (gl_tr (gl_pl t3 (by decide) (by decide)) (gl_tr (gl_fr v2 rfl) (gl_tr (gl_p0 s3 (by decide)) (gl_tr (gl_fr w2 rfl) (gl_fr F7 rfl))))))) (rq_mv x4 x1 d1 d2 rfl) ⟨?_, ?_⟩ ?_ (fun ns w hk X0 => ?_) (zn_fr (zn_fr zf F5 rfl) F7 rfl) p0 p1
    · rw [← List.append_assoc, List.length_append, List.length_singleton]
      exact F7 _ _ _ rfl (w2 _ _ _ rfl (F4 _ _ _ rfl ks3))
    · rw [← List.append_assoc]
      exact fn_mv (fn_mv (fn_mv (fn_mv W2 v2 rfl) F4 rfl) w2 rfl) F7 rfl
    · rw [len9]
      refine F7 _ _ _ rfl (w2 _ _ _ rfl ?_)
      rw [ly_hv0 (by decide)]
      exact s3.1
    · rw [len9]
      exact fn_mv (fn_mv (p0_re (fn_mv (fn_mv (zq ns w hk X0) F2 rfl) v2 rfl) (by rw [hk]; exact s3) (by decide)) w2 rfl) F7 rfl
/-- the words of a clause -/
def yw_f (kd vl : Int → Int) (t b : Nat) : (Int × Nat) ⊕ (Nat × List Int) := if fk kd t b ≠ 1 then .inl (1, b) else wo kd vl t 8 b []
/-- readWords of the reference -/
theorem yw_run {cst : am_K} {strs : List Nat} {D : Nat} {h0 : am_H} (cc : ∀ d, hp_C cst strs d) (hD : 9 ≤ D) (hy : ly_hy m_tt ly_TH h0) {f : Int → Int} {n : Int} {t : Nat} {kd pl vl : Int → Int} {en : Nat → Int} (kb : kB kd t) (vb : vB kd vl t) {b k : Nat} (R : rq cst h0 f n t kd pl vl en b) (hb : b ≤ t) (k39 : k ≤ 39) {W : List Int} (X : qt_W cst h0 W) (wb : W.length ≤ 312) {xc : Int32} (ec : xc.toInt = 1200 + (k : Int)) :
    ∃ r, am_Run cst m_cl m_tt m_P strs sx_bi (D + 1) 316 [.ref 94, .int xc] h0 r ∧ gR cst h0 [19971, 19972, 19973, 19974, 19975, 19976, 19990, 19991, 20013, 24320, 24576, 27136, 60020, 60070] pl t n (yw_f kd vl t b) (fun y h9 => rq cst h9 f n t kd pl vl en y.1 ∧ ze cst h0 h9 24576 k (y.2.length : Int) ∧ zn cst h0 h9 24320 k (W.length : Int) ∧ qt_W cst h9 (W ++ y.2) ∧ y.1 ≤ t) r := by
  obtain ⟨M, hM, hl⟩ := hp_M (mi := 316) (k := 2) (by decide +kernel)
  have c := cc D
  have n1 := R.1.2.2.1
  have ks := rs_so R.2.1
  have kp := R.2.2.2
  have pb := pa_b R.1.1 R.1.2.1 b
  have b0 := (rk_b kd t b kb).1
  have b8 := (rk_b kd t b kb).2.1
  have go : hp_F cst strs (gR cst h0 [19971, 19972, 19973, 19974, 19975, 19976, 19990, 19991, 20013, 24320, 24576, 27136, 60020, 60070] pl t n (yw_f kd vl t b) (fun y h9 => rq cst h9 f n t kd pl vl en y.1 ∧ ze cst h0 h9 24576 k (y.2.length : Int) ∧ zn cst h0 h9 24320 k (W.length : Int) ∧ qt_W cst h9 (W ++ y.2) ∧ y.1 ≤ t)) D M 0 (lv_args 0 [.ref 94, .int xc]) [] h0 := by
    refine yw0 c hM (by omega) hy (k : Int) (W.length : Int) (by omega) (by omega) (by omega) (by omega) X.1 rfl ⟨xc, rfl, by omega⟩ (fun l1 h1 y0 y1 f0 f1 u1 u2 u3 m0 m1 => ?_)
    refine hp_st (c := 95) hM (by decide +kernel) u1 (show ly_ths ly_TH 95 = some (.inl (.int, 1240, 0, 401)) from rfl) rfl (by omega) (by omega) (by omega) (by omega) (fun h2 t1 t2 t3 => ?_)
    rw [f0, show y1.toInt = 1200 + (k : Int) by omega] at t3
    have t3 : hp_put cst 24320 (1200 + (k : Int)) (W.length : Int) h1 h2 := t3
    have pf : ly_fr cst [24320] h1 h2 := hp_put_fr (by rfl) t3
    refine yw1 c hM (by omega) t1 (k : Int) (by omega) (by omega) m0 m1 (fun l3 h3 y2 y3 f2 f3 v1 v2 v3 j0 j1 => ?_)
    refine hp_st0 (c := 96) hM (by decide +kernel) v1 (show ly_ths ly_TH 96 = some (.inl (.int, 1240, 0, 20)) from rfl) (by omega) (by omega) (by omega) (by omega) (fun h4 s1 s2 s3 => ?_)
    rw [f2, show y3.toInt = 1200 + (k : Int) by omega] at s3
    have s3 : hp_p0 cst 24576 (1200 + (k : Int)) 0 h3 h4 := s3
    have F4 : ly_fr cst [24576, 60020, 60070] h3 h4 := hp_p0_fr s3 (by decide) rfl rfl
    have F04 : ly_fr cst [24320, 24576, 60020, 60070] h0 h4 := ly_fr_tr (hp_sub2 rfl u2) (ly_fr_tr (hp_sub2 rfl pf) (ly_fr_tr (hp_sub2 rfl v2) (hp_sub2 rfl F4)))
    have g4 : gl true cst h0 h4 := gl_tr (gl_fr u2 rfl) (gl_tr (gl_pl t3 (by decide) (by decide)) (gl_tr (gl_fr v2 rfl) (gl_p0 s3 (by decide))))
    have R4 : rq cst h4 f n t kd pl vl en b := rq_mv R hy s1 F04 rfl
    have ks4 := F04 _ _ _ rfl ks
    have kp4 := F04 _ _ _ rfl kp
    have zf : zn cst h0 h4 24320 k (W.length : Int) := zn_rf u2 rfl (zn_fr (zn_fr (zn_pt t3) v2 rfl) F4 rfl)
    by_cases q1 : fk kd t b = 1
    rotate_left
    · have er : yw_f kd vl t b = .inl (1, b) := if_pos q1
      have n1' : rk kd t b ≠ 1 := fun z => q1 ((rk_i1 kb b).mp z)
      by_cases z : rk kd t b ≤ 0
      · exact ywA0 c hM (by omega) s1 (k : Int) (pa pl t n b) (rk kd t b) (by omega) (by omega) pb.1 (by omega) b0 z ks4 kp4 j0 j1 (fun h5 w hw w1 w2 w3 k1 k2 => gR_f er hw w1 (ly_fr_tr (hp_sub2 rfl F04) (hp_sub2 rfl w2)) (gf_tr g4 (gl_fr w2 rfl)) k1 k2)
      · exact ywA1 c hM (by omega) s1 (k : Int) (pa pl t n b) (rk kd t b) (by omega) (by omega) pb.1 (by omega) (by omega) b8 ks4 kp4 j0 j1 (fun h5 w hw w1 w2 w3 k1 k2 => gR_f er hw w1 (ly_fr_tr (hp_sub2 rfl F04) (hp_sub2 rfl w2)) (gf_tr g4 (gl_fr w2 rfl)) k1 k2)
    have er : yw_f kd vl t b = wo kd vl t 8 b [] := if_neg (fun z => z q1)
    rw [er]
    rw [(rk_i1 kb b).mpr q1] at ks4
    refine ywB c hM (by omega) s1 (k : Int) (by omega) (by omega) ks4 j0 j1 (fun l5 h5 w1 w2 w3 o0 o1 => ?_)
    have F5 : ly_fr cst [24320, 24576, 60020, 60070] h0 h5 := ly_fr_tr F04 (hp_sub2 rfl w2)
    refine yw_lp cc hM hD kb vb k39 wb 8 h5 l5 b [] rfl hb w1 (hp_sub2 rfl F5) (gl_tr g4 (gl_fr w2 rfl)) (rq_mv R4 s1 w1 w2 rfl) (by rw [List.append_nil]; exact qt_W_mv X F5 rfl rfl) ?_ (fun ns w hk X0 => ?_) (zn_fr zf w2 rfl) o0 o1
    · refine w2 _ _ _ rfl ?_
      rw [ly_hv0 (by decide)]
      exact s3.1
    · have Fa : ly_fr cst [24320] h0 h3 := ly_fr_tr (hp_sub2 rfl u2) (ly_fr_tr pf (hp_sub2 rfl v2))
      exact fn_mv (p0_re (fn_mv X0 Fa rfl) (by rw [hk]; exact s3) (by decide)) w2 rfl
  obtain ⟨n', r, hgo, w, r1, r2, r3, r4⟩ := go
  simp only [Nat.zero_add] at r2 r3
  exact ⟨r, Or.inr ⟨M, n', hM, hl, hgo⟩, w, r1, r2, r3, r4⟩
/-- where a deed that was read stands: the token behind it, tests, events, steps -/
def yd_k (cst : am_K) (h0 : am_H) (f : Int → Int) (n : Int) (t : Nat) (kd pl vl : Int → Int) (en : Nat → Int) (A d : Int) (b k : Nat) (T : List qt_T) (S : List Int) (h9 : am_H) : Prop := ∃ (e m : Nat) (V : List (qt_T ⊕ Int)) (S2 : List Int), (fk kd t e = 59 → bo kd vl t A 0 d b = .inr (e, d, (m : Int), qv_e V)) ∧ (fk kd t e ≠ 59 → bo kd vl t A 0 d b = .inl (1, e)) ∧ qv_q V S2 0 m ∧ rq cst h9 f n t kd pl vl en e ∧ qt_D cst h9 (T ++ qv_t V) ∧ qt_S cst h9 (S ++ S2) ∧ qt_q en e (T ++ qv_t V) (S ++ S2) 0 ∧ b < e ∧ e ≤ t ∧ m ≤ 20 ∧ ze cst h0 h9 24576 k (m : Int) ∧ zn cst h0 h9 24320 k (T.length : Int) ∧ zn cst h0 h9 24832 k (S.length : Int) ∧ zn cst h0 h9 25088 k (S2.length : Int)
/-- how a deed's body ends -/
def dR (cst : am_K) (h0 : am_H) (pl : Int → Int) (t : Nat) (n : Int) (bad : Int → Nat → Prop) (ok : am_H → Prop) (r : am_Q) : Prop := ∃ w : Int32, r.1 = some (.int w) ∧ r.2.2.1 = 0 ∧ r.2.2.2 = 0 ∧ ly_hy m_tt ly_TH r.2.1 ∧ ly_fr cst [19971, 19972, 19973, 19974, 19975, 19976, 19990, 19991, 20010, 20011, 20012, 20014, 20015, 20016, 24320, 24576, 24832, 25088, 25344, 25600, 25856, 26112, 26368, 26624, 26880, 60020, 60050, 60060, 60061, 60070, 60071] h0 r.2.1 ∧ gl false cst h0 r.2.1 ∧ ((w.toInt = 0 ∧ ∃ k b, bad k b ∧ ly_hv cst r.2.1 19990 0 = some k ∧ ly_hv cst r.2.1 19991 0 = some (pa pl t n b)) ∨ (w.toInt = 1 ∧ gl true cst h0 r.2.1 ∧ ok r.2.1))
theorem dR_f {cst : am_K} {h0 h' : am_H} {pl : Int → Int} {t : Nat} {n : Int} {bad : Int → Nat → Prop} {ok : am_H → Prop} {w : Int32} {k : Int} {b : Nat} (hw : w.toInt = 0) (hy : ly_hy m_tt ly_TH h') (fr : ly_fr cst [19971, 19972, 19973, 19974, 19975, 19976, 19990, 19991, 20010, 20011, 20012, 20014, 20015, 20016, 24320, 24576, 24832, 25088, 25344, 25600, 25856, 26112, 26368, 26624, 26880, 60020, 60050, 60060, 60061, 60070, 60071] h0 h') (g : gl false cst h0 h') (e : bad k b) (k1 : ly_hv cst h' 19990 0 = some k) (k2 : ly_hv cst h' 19991 0 = some (pa pl t n b)) : dR cst h0 pl t n bad ok (some (.int w), h', 0, 0) := ⟨w, rfl, rfl, rfl, hy, fr, g, Or.inl ⟨hw, k, b, e, k1, k2⟩⟩
theorem dR_s {cst : am_K} {h0 h' : am_H} {pl : Int → Int} {t : Nat} {n : Int} {bad : Int → Nat → Prop} {ok : am_H → Prop} {w : Int32} (hw : w.toInt = 1) (hy : ly_hy m_tt ly_TH h') (fr : ly_fr cst [19971, 19972, 19973, 19974, 19975, 19976, 19990, 19991, 20010, 20011, 20012, 20014, 20015, 20016, 24320, 24576, 24832, 25088, 25344, 25600, 25856, 26112, 26368, 26624, 26880, 60020, 60050, 60060, 60061, 60070, 60071] h0 h') (g : gl true cst h0 h') (k : ok h') : dR cst h0 pl t n bad ok (some (.int w), h', 0, 0) := ⟨w, rfl, rfl, rfl, hy, fr, gf_tr g gl_rf, Or.inr ⟨hw, g, k⟩⟩
theorem bo_0f {kd vl : Int → Int} {t b : Nat} {A d : Int} {f : Int × Nat} (q : fk kd t b = 61) (h : cx kd vl t true (b + 1) (false, false, false) [] false 0 [] = .inl f) : bo kd vl t A 0 d b = .inl f := by
  unfold cx at h
  unfold bo
  rw [if_pos rfl, if_neg (fun z => z q), h]
theorem bo_0s {kd vl : Int → Int} {t b e m : Nat} {A d : Int} {L : List Int} (q : fk kd t b = 61) (h : cx kd vl t true (b + 1) (false, false, false) [] false 0 [] = .inr (e, m, L)) : bo kd vl t A 0 d b = .inr (e, d, (m : Int), L) := by
  unfold cx at h
  unfold bo
  rw [if_pos rfl, if_neg (fun z => z q), h]
/-- a deed behind its condition -/
theorem yd_tl {cst : am_K} {strs : List Nat} {D : Nat} {M : am_M} {h0 h : am_H} {l : am_L} (cc : ∀ d, hp_C cst strs d) (hM : m_P[308]? = some M) (hD : 9 ≤ D) (hy : ly_hy m_tt ly_TH h) {f : Int → Int} {n : Int} {t : Nat} {kd pl vl : Int → Int} {en : Nat → Int} {A d : Int} {b k e m : Nat} {T : List qt_T} {S S2 : List Int} {V : List (qt_T ⊕ Int)} (k39 : k ≤ 39) (fr : ly_fr cst [19971, 19972, 19973, 19974, 19975, 19976, 19990, 19991, 20010, 20011, 20012, 20014, 20015, 20016, 24320, 24576, 24832, 25088, 25344, 25600, 25856, 26112, 26368, 26624, 26880, 60020, 60050, 60060, 60061, 60070, 60071] h0 h) (g : gl true cst h0 h) (e1 : fk kd t e = 59 → bo kd vl t A 0 d b = .inr (e, d, (m : Int), qv_e V)) (e2 : fk kd t e ≠ 59 → bo kd vl t A 0 d b = .inl (1, e)) (sq : qv_q V S2 0 m) (R : rq cst h f n t kd pl vl en e) (X : qt_D cst h (T ++ qv_t V)) (Y : qt_S cst h (S ++ S2)) (po : qt_q en e (T ++ qv_t V) (S ++ S2) 0) (be : b < e) (et : e ≤ t) (m20 : m ≤ 20) (f0 : ∀ (ns : List Int) (w : Int), ns.length = k → fn_N cst h0 24576 1200 (ns ++ [w]) → fn_N cst h 24576 1200 (ns ++ [w])) (f1 : zn cst h0 h 24320 k (T.length : Int)) (f2 : zn cst h0 h 24832 k (S.length : Int)) (f3 : ly_hv cst h 24832 (1200 + (k : Int)) = some (S.length : Int)) (f4 : ∀ (ns : List Int), ns.length = k → fn_N cst h0 25088 1200 ns → fn_N cst h 25088 1200 ns) {xm xc : Int32} (em : xm.toInt = (m : Int)) (ec : xc.toInt = (k : Int) + 1200) (l0 : hp_a l 0 94) (l1 : hp_i l 1 ((k : Int) + 1200)) : hp_F cst strs (dR cst h0 pl t n (fun q c => bo kd vl t A 0 d b = .inl (q, c)) (yd_k cst h0 f n t kd pl vl en A d b k T S)) D M 102 l [.int xm, .int xc, .ref 112] h := by
  have c := cc D
  have n1 := R.1.2.2.1
  have ee := tkT_end R.1.1 e et
  obtain ⟨p1, p2, p3⟩ := po
  have lS : (S ++ S2).length = S.length + S2.length := List.length_append
  refine hp_st0 (c := 96) hM (by decide +kernel) hy (show ly_ths ly_TH 96 = some (.inl (.int, 1240, 0, 20)) from rfl) (by omega) (by omega) (by omega) (by omega) (fun h2 v1 v2 v3 => ?_)
  rw [em, show xc.toInt = 1200 + (k : Int) by omega] at v3
  have v3 : hp_p0 cst 24576 (1200 + (k : Int)) (m : Int) h h2 := v3
  have F2 : ly_fr cst [24576, 60020, 60070] h h2 := hp_p0_fr v3 (by decide) rfl rfl
  have Y2 := qt_S_mv Y F2 rfl rfl
  refine ydJ c hM (by omega) v1 (k : Int) ((S ++ S2).length : Int) (S.length : Int) (by omega) (by omega) (by omega) (by omega) (by omega) (by omega) (by omega) Y2.1 (by rw [Int.add_comm]; exact F2 _ _ _ rfl f3) l0 l1 (fun l3 h3 y0 y1 g0 g1 w1 w2 w3 m0 m1 => ?_)
  refine hp_st0 (c := 98) hM (by decide +kernel) w1 (show ly_ths ly_TH 98 = some (.inl (.int, 1240, 0, 802)) from rfl) (by omega) (by omega) (by omega) (by omega) (fun h4 s1 s2 s3 => ?_)
  rw [show y0.toInt = (S2.length : Int) by omega, show y1.toInt = 1200 + (k : Int) by omega] at s3
  have s3 : hp_p0 cst 25088 (1200 + (k : Int)) (S2.length : Int) h3 h4 := s3
  have F4 : ly_fr cst [25088, 60020, 60061, 60070] h3 h4 := hp_p0_fr s3 (by decide) rfl rfl
  refine ydK c hM (by omega) s1 m0 (fun h5 w hw x1 x2 x3 => ?_)
  have F5 : ly_fr cst [24576, 25088, 60020, 60061, 60070] h h5 := ly_fr_tr (hp_sub2 rfl F2) (ly_fr_tr (hp_sub2 rfl w2) (ly_fr_tr (hp_sub2 rfl F4) (hp_sub2 rfl x2)))
  refine dR_s hw x1 (ly_fr_tr fr (hp_sub2 rfl F5)) (gl_tr g (gl_tr (gl_p0 v3 (by decide)) (gl_tr (gl_fr w2 rfl) (gl_tr (gl_p0 s3 (by decide)) (gl_fr x2 rfl))))) ⟨e, m, V, S2, e1, e2, sq, rq_mv R hy x1 F5 rfl, qt_D_mv X F5 rfl, qt_S_mv Y F5 rfl rfl, ⟨p1, p2, p3⟩, be, et, m20, fun ns w hk X0 => ?_, zn_fr f1 F5 rfl, zn_fr f2 F5 rfl, fun ns hk X0 => ?_⟩
  · exact fn_mv (fn_mv (fn_mv (p0_re (f0 ns w hk X0) (by rw [hk]; exact v3) (by decide)) w2 rfl) F4 rfl) x2 rfl
  · exact fn_mv (p0_fn (fn_mv (fn_mv (f4 ns hk X0) F2 rfl) w2 rfl) (by rw [hk]; exact s3) (by decide)) x2 rfl
/-- readDeed of the reference -/
theorem yd_run {cst : am_K} {strs : List Nat} {D : Nat} {h0 : am_H} (cc : ∀ d, hp_C cst strs d) (hD : 33 ≤ D) (hy : ly_hy m_tt ly_TH h0) {f : Int → Int} {n : Int} {t : Nat} {kd pl vl : Int → Int} {en : Nat → Int} (kb : kB kd t) (vb : vB kd vl t) {A d : Int} {b k : Nat} {T : List qt_T} {S : List Int} (R : rq cst h0 f n t kd pl vl en b) (hb : b ≤ t) (k39 : k ≤ 39) (X : qt_D cst h0 T) (Y : qt_S cst h0 S) (po : 3 * (T.length : Int) + 2 ≤ en b ∧ 3 * (S.length : Int) + 1 ≤ 2 * en b ∧ 2 * ((qt_g T).length : Int) ≤ en b) {xc : Int32} (ec : xc.toInt = 1200 + (k : Int)) :
    ∃ r, am_Run cst m_cl m_tt m_P strs sx_bi (D + 1) 308 [.ref 94, .int xc] h0 r ∧ dR cst h0 pl t n (fun q c => bo kd vl t A 0 d b = .inl (q, c)) (yd_k cst h0 f n t kd pl vl en A d b k T S) r := by
  obtain ⟨M, hM, hl⟩ := hp_M (mi := 308) (k := 2) (by decide +kernel)
  have c := cc D
  have TT := R.1.1
  have n1 := R.1.2.2.1
  have ks := rs_so R.2.1
  have kp := R.2.2.2
  have pb := pa_b R.1.1 R.1.2.1 b
  have b0 := (rk_b kd t b kb).1
  have b8 := (rk_b kd t b kb).2.1
  obtain ⟨p1, p2, p3⟩ := po
  have eb := tkT_end TT b hb
  have go : hp_F cst strs (dR cst h0 pl t n (fun q c => bo kd vl t A 0 d b = .inl (q, c)) (yd_k cst h0 f n t kd pl vl en A d b k T S)) D M 0 (lv_args 0 [.ref 94, .int xc]) [] h0 := by
    by_cases q4 : fk kd t b = 61
    rotate_left
    · have er : bo kd vl t A 0 d b = .inl (1, b) := by
        unfold bo
        rw [if_pos rfl, if_pos q4]
      have n4 : rk kd t b ≠ 4 := fun z => q4 ((rk_i4 kb b).mp z)
      by_cases z : rk kd t b ≤ 3
      · exact ydA0 c hM (by omega) hy (k : Int) (pa pl t n b) (rk kd t b) (by omega) (by omega) pb.1 (by omega) b0 z ks kp rfl ⟨xc, rfl, by omega⟩ (fun h5 w hw w1 w2 w3 k1 k2 => dR_f hw w1 (hp_sub2 rfl w2) (gl_fr w2 rfl) er k1 k2)
      · exact ydA1 c hM (by omega) hy (k : Int) (pa pl t n b) (rk kd t b) (by omega) (by omega) pb.1 (by omega) (by omega) b8 ks kp rfl ⟨xc, rfl, by omega⟩ (fun h5 w hw w1 w2 w3 k1 k2 => dR_f hw w1 (hp_sub2 rfl w2) (gl_fr w2 rfl) er k1 k2)
    rw [(rk_i4 kb b).mpr q4] at ks
    have lt : b < t := fk_in (kd := kd) (by rw [q4]; decide)
    have e1 := tkT_1 TT lt
    refine yd0 c hM (by omega) hy (k : Int) (by omega) (by omega) ks rfl ⟨xc, rfl, by omega⟩ (fun l1 h1 u1 u2 u3 m0 m1 => ?_)
    refine scz308_15 cc hM (by omega) u1 (rq_mv R hy u1 u2 rfl) (by decide) (fun h2 v1 v2 v3 v4 => ?_)
    have F2 : ly_fr cst [19971, 19972, 19973, 19974, 19975, 19976] h0 h2 := ly_fr_tr (hp_sub2 rfl u2) v2
    have X2 := qt_D_mv X F2 rfl
    have Y2 := qt_S_mv Y F2 rfl rfl
    refine yd1 c hM (by omega) v1 (k : Int) (T.length : Int) (by omega) (by omega) (by omega) (by omega) X2.1 m0 m1 (fun l3 h3 y0 y1 f0 f1 w1 w2 w3 j0 j1 => ?_)
    refine hp_st (c := 95) hM (by decide +kernel) w1 (show ly_ths ly_TH 95 = some (.inl (.int, 1240, 0, 401)) from rfl) rfl (by omega) (by omega) (by omega) (by omega) (fun h4 t1 t2 t3 => ?_)
    rw [f0, show y1.toInt = 1200 + (k : Int) by omega] at t3
    have t3 : hp_put cst 24320 (1200 + (k : Int)) (T.length : Int) h3 h4 := t3
    have pf : ly_fr cst [24320] h3 h4 := hp_put_fr (by rfl) t3
    have F24 : ly_fr cst [24320] h2 h4 := ly_fr_tr (hp_sub2 rfl w2) pf
    refine yd2 c hM (by omega) t1 (k : Int) (S.length : Int) (by omega) (by omega) (by omega) (by omega) (F24 _ _ _ rfl Y2.1) j0 j1 (fun l5 h5 y2 y3 f2 f3 x1 x2 x3 o0 o1 => ?_)
    refine hp_st0 (c := 97) hM (by decide +kernel) x1 (show ly_ths ly_TH 97 = some (.inl (.int, 1240, 0, 802)) from rfl) (by omega) (by omega) (by omega) (by omega) (fun h6 s1 s2 s3 => ?_)
    rw [f2, show y3.toInt = 1200 + (k : Int) by omega] at s3
    have s3 : hp_p0 cst 24832 (1200 + (k : Int)) (S.length : Int) h5 h6 := s3
    have F6 : ly_fr cst [24832, 60020, 60050, 60060, 60061, 60070] h5 h6 := hp_p0_fr s3 (by decide) rfl rfl
    refine yd3 c hM (by omega) s1 (k : Int) (by omega) (by omega) o0 o1 (fun l7 h7 d1 d2 d3 k14 k15 i0 i1 => ?_)
    have F27 : ly_fr cst [20014, 20015, 24320, 24832, 60020, 60050, 60060, 60061, 60070] h2 h7 := ly_fr_tr (hp_sub2 rfl F24) (ly_fr_tr (hp_sub2 rfl x2) (ly_fr_tr (hp_sub2 rfl F6) (hp_sub2 rfl d2)))
    have F07 : ly_fr cst [19971, 19972, 19973, 19974, 19975, 19976, 19990, 19991, 20010, 20011, 20012, 20014, 20015, 20016, 24320, 24576, 24832, 25088, 25344, 25600, 25856, 26112, 26368, 26624, 26880, 60020, 60050, 60060, 60061, 60070, 60071] h0 h7 := ly_fr_tr (hp_sub2 rfl F2) (hp_sub2 rfl F27)
    have g7 : gl true cst h0 h7 := gl_tr (gl_fr F2 rfl) (gl_tr (gl_fr w2 rfl) (gl_tr (gl_pl t3 (by decide) (by decide)) (gl_tr (gl_fr x2 rfl) (gl_tr (gl_p0 s3 (by decide)) (gl_fr d2 rfl)))))
    have z1 : zn cst h0 h7 24320 k (T.length : Int) := zn_rf F2 rfl (zn_rf w2 rfl (zn_fr (zn_fr (zn_fr (zn_pt t3) x2 rfl) F6 rfl) d2 rfl))
    have z2 : zn cst h0 h7 24832 k (S.length : Int) := zn_rf F2 rfl (zn_rf F24 rfl (zn_rf x2 rfl (zn_fr (zn_p0 s3 (by decide)) d2 rfl)))
    have z3 : ly_hv cst h7 24832 (1200 + (k : Int)) = some (S.length : Int) := by
      refine d2 _ _ _ rfl ?_
      rw [ly_hv0 (by decide)]
      exact s3.1
    have F4576 : ly_fr cst [19971, 19972, 19973, 19974, 19975, 19976, 20014, 20015, 24320, 24832, 60020, 60050, 60060, 60061, 60070] h0 h7 := ly_fr_tr (hp_sub2 rfl F2) (hp_sub2 rfl F27)
    obtain ⟨E, rfl⟩ : ∃ E, D = E + 1 := ⟨D - 1, by omega⟩
    obtain ⟨r, hrun, w, r1, r2, r3, rhy, rfr, rg, rr⟩ := yC_all cc kb vb t (b + 1) (by omega) lt E 0 0 h7 T S 0 (by omega) ⟨d1, rq_mv v4 v1 d1 F27 rfl, qt_D_mv X2 F27 rfl, qt_S_mv Y2 F27 rfl rfl, k14, k15, ⟨by omega, by omega, by omega⟩, by omega, by omega, by omega⟩
    refine hp_call (mi := 308) (pc := 49) (tg := 309) (na := 1) (c := 78) (ci := 12) (st0 := [.ref 94]) (st := []) (av := []) hM (by decide +kernel) d1 rfl rfl rfl (by decide) hrun r2 r3 ?_
    rw [r1]
    have frr : ly_fr cst [19971, 19972, 19973, 19974, 19975, 19976, 19990, 19991, 20010, 20011, 20012, 20014, 20015, 20016, 24320, 24576, 24832, 25088, 25344, 25600, 25856, 26112, 26368, 26624, 26880, 60020, 60050, 60060, 60061, 60070, 60071] h0 r.2.1 := ly_fr_tr F07 (hp_sub2 rfl rfr)
    have gr : gl false cst h0 r.2.1 := gf_tr g7 rg
    rcases rr with ⟨w0, q, b2, kbd, k1, k2⟩ | ⟨w0, gt, e, m, V, S2, x, y, cxc, sqc, abc, na, no, YS⟩
    · have er : bo kd vl t A 0 d b = .inl (q, b2) := bo_0f q4 (kbd [] false [] rfl)
      exact ydB c hM (by omega) rhy (k : Int) w w0 (by omega) (by omega) i0 i1 (fun h8 v hv a1 a2 a3 => dR_f hv a1 (ly_fr_tr frr (hp_sub2 rfl a2)) (gf_tr gr (gl_fr a2 rfl)) er (a2 _ _ _ rfl k1) (a2 _ _ _ rfl k2))
    have gr : gl true cst h0 r.2.1 := gl_tr g7 gt
    have cx0 := cxc [] false [] rfl
    rw [List.nil_append] at cx0
    obtain ⟨YR, YX, YY, y14, y15, ⟨y1', y2', y3'⟩, et, m20⟩ := YS
    have ks2 := rs_so YR.2.1
    have kk2 := YR.2.2.1
    have c0 := (rk_b kd t e kb).1
    have c8 := (rk_b kd t e kb).2.1
    have ab := ak_b kd vl t e
    have eet := tkT_end TT e et
    by_cases q17 : ak kd vl t e = 17
    rotate_left
    · -- no unless
      have et' : T ++ qv_t (V ++ qv_an x ++ qv_or y) = T ++ qv_t V := by rw [qv_ta, qv_ta, qv_t_an, qv_t_or, List.append_nil, List.append_nil]
      have fin : ∀ (l8 : am_L) (h8 : am_H) (xm xc' : Int32), xm.toInt = (m : Int) → xc'.toInt = (k : Int) + 1200 → ly_hy m_tt ly_TH h8 → ly_fr cst [] r.2.1 h8 → hp_a l8 0 94 → hp_i l8 1 ((k : Int) + 1200) → hp_F cst strs (dR cst h0 pl t n (fun q c => bo kd vl t A 0 d b = .inl (q, c)) (yd_k cst h0 f n t kd pl vl en A d b k T S)) (E + 1) M 102 l8 [.int xm, .int xc', .ref 112] h8 := by
        intro l8 h8 xm xc' g1 g2 a1 a2 n0 n1'
        refine yd_tl (V := V ++ qv_an x ++ qv_or y) (S2 := S2) (T := T) (S := S) cc hM (by omega) a1 k39 (ly_fr_tr frr (hp_sub2 rfl a2)) (gl_tr gr (gl_fr a2 rfl)) (fun z => bo_0s q4 ?_) (fun z => bo_0f q4 ?_) sqc (rq_mv YR rhy a1 a2 rfl) (by rw [et']; exact qt_D_mv YX a2 rfl) (qt_S_mv YY a2 rfl rfl) (by rw [et']; exact ⟨y1', y2', y3'⟩) (by omega) et m20 (fun ns v hk X0 => fn_mv (fn_mv (fn_mv X0 F4576 rfl) rfr rfl) a2 rfl) (zn_fr (zn_fr z1 rfr rfl) a2 rfl) (zn_fr (zn_fr z2 rfr rfl) a2 rfl) (a2 _ _ _ rfl (rfr _ _ _ rfl z3)) (fun ns hk X0 => fn_mv (fn_mv (fn_mv X0 F4576 rfl) rfr rfl) a2 rfl) g1 g2 n0 n1'
        · rw [cx0, cx_fin z, qv_ea, qv_ea, qv_e_an, qv_e_or]
          show Sum.inr (e, m, qv_e V ++ (an x ++ (bif y then [-20007] else [])) ++ []) = _
          simp only [List.append_assoc, List.append_nil]
        · rw [cx0]
          exact cx_bad et (fun _ => rfl) no na (fun z' => q17 z'.1) (fun z' => z z'.1)
      by_cases q1 : fk kd t e = 1
      · rw [(rk_i1 kb e).mpr q1] at ks2
        by_cases z : ak kd vl t e ≤ 16
        · exact ydD0 c hM (by omega) rhy (k : Int) (m : Int) (ak kd vl t e) w w0 (by omega) (by omega) (by omega) (by omega) ab.1 z ks2 kk2 y14 i0 i1 (fun l8 h8 xm xc' g1 g2 a1 a2 a3 n0 n1' => fin l8 h8 xm xc' g1 g2 a1 a2 n0 n1')
        · exact ydD1 c hM (by omega) rhy (k : Int) (m : Int) (ak kd vl t e) w w0 (by omega) (by omega) (by omega) (by omega) (by omega) ab.2 ks2 kk2 y14 i0 i1 (fun l8 h8 xm xc' g1 g2 a1 a2 a3 n0 n1' => fin l8 h8 xm xc' g1 g2 a1 a2 n0 n1')
      have n1'' : rk kd t e ≠ 1 := fun z => q1 ((rk_i1 kb e).mp z)
      by_cases z : rk kd t e ≤ 0
      · exact ydC0 c hM (by omega) rhy (k : Int) (m : Int) (rk kd t e) w w0 (by omega) (by omega) (by omega) (by omega) c0 z ks2 y14 i0 i1 (fun l8 h8 xm xc' g1 g2 a1 a2 a3 n0 n1' => fin l8 h8 xm xc' g1 g2 a1 a2 n0 n1')
      · exact ydC1 c hM (by omega) rhy (k : Int) (m : Int) (rk kd t e) w w0 (by omega) (by omega) (by omega) (by omega) (by omega) c8 ks2 y14 i0 i1 (fun l8 h8 xm xc' g1 g2 a1 a2 a3 n0 n1' => fin l8 h8 xm xc' g1 g2 a1 a2 n0 n1')
    -- unless
    obtain ⟨q1, qw⟩ := ak_w q17 (by decide)
    have lte : e < t := fk_in (kd := kd) (by rw [q1]; decide)
    have e3 := (tkT_l2 TT q1).2 (by have := kw_17 qw; omega)
    rw [(rk_i1 kb e).mpr q1] at ks2
    rw [q17] at kk2
    refine ydE c hM (by omega) rhy (k : Int) w w0 (by omega) (by omega) ks2 kk2 i0 i1 (fun l8 h8 a1 a2 a3 n0 n1' => ?_)
    refine scz308_75 cc hM (by omega) a1 (rq_mv YR rhy a1 a2 rfl) (by decide) (fun h9 b1 b2 b3 b4 => ?_)
    refine ydF c hM (by omega) b1 (k : Int) (by omega) (by omega) n0 n1' (fun l10 h10 c1 c2 c3 n2 n3 => ?_)
    have F10 : ly_fr cst [19971, 19972, 19973, 19974, 19975, 19976] r.2.1 h10 := ly_fr_tr (hp_sub2 rfl a2) (ly_fr_tr b2 (hp_sub2 rfl c2))
    obtain ⟨r', hrun', w', r1', r2', r3', rhy', rfr', rg', rr'⟩ := yC_all cc kb vb t (e + 1) (by omega) lte E 0 m h10 (T ++ qv_t V) (S ++ S2) 1 (by omega) ⟨c1, rq_mv b4 b1 c1 c2 rfl, qt_D_mv YX F10 rfl, qt_S_mv YY F10 rfl rfl, F10 _ _ _ rfl y14, F10 _ _ _ rfl y15, ⟨by omega, by omega, by omega⟩, m20, by omega, by omega⟩
    refine hp_call (mi := 308) (pc := 79) (tg := 309) (na := 1) (c := 78) (ci := 12) (st0 := [.ref 94]) (st := []) (av := []) hM (by decide +kernel) c1 rfl rfl rfl (by decide) hrun' r2' r3' ?_
    rw [r1']
    have frr' : ly_fr cst [19971, 19972, 19973, 19974, 19975, 19976, 19990, 19991, 20010, 20011, 20012, 20014, 20015, 20016, 24320, 24576, 24832, 25088, 25344, 25600, 25856, 26112, 26368, 26624, 26880, 60020, 60050, 60060, 60061, 60070, 60071] h0 r'.2.1 := ly_fr_tr frr (ly_fr_tr (hp_sub2 rfl F10) (hp_sub2 rfl rfr'))
    have gr' : gl false cst h0 r'.2.1 := gf_tr gr (gf_tr (gl_fr (g := true) F10 rfl) rg')
    have cx1 : cx kd vl t true (b + 1) (false, false, false) [] false 0 [] = cx kd vl t true (e + 1) (false, false, false) [] true m (qv_e V ++ rl (y, x, false)) := by
      rw [cx0]
      exact cx_un q17
    rcases rr' with ⟨w0', q, b2', kbd, k1, k2⟩ | ⟨w0', gt', e', m', V', S2', x', y', cxc', sqc', abc', na', no', YS'⟩
    · have er : bo kd vl t A 0 d b = .inl (q, b2') := bo_0f q4 (by rw [cx1]; exact kbd [] true _ rfl)
      exact ydG c hM (by omega) rhy' (k : Int) w' w0' (by omega) (by omega) n2 n3 (fun h11 v hv j1 j2 j3 => dR_f hv j1 (ly_fr_tr frr' (hp_sub2 rfl j2)) (gf_tr gr' (gl_fr j2 rfl)) er (j2 _ _ _ rfl k1) (j2 _ _ _ rfl k2))
    have gr' : gl true cst h0 r'.2.1 := gl_tr gr (gl_tr (gl_fr F10 rfl) gt')
    have cx2 := cxc' [] true (qv_e V ++ rl (y, x, false)) rfl
    obtain ⟨ZR, ZX, ZY, z14, z15, ⟨v1', v2', v3'⟩, et2, m20'⟩ := YS'
    have eet2 := tkT_end TT e' et2
    refine ydH c hM (by omega) rhy' (k : Int) w' w0' (by omega) (by omega) n2 n3 (fun l11 h11 y4 f4 j1 j2 j3 n4 n5 => ?_)
    refine ypz308_90 cc hM (by omega) j1 (qt_S_mv ZY j2 rfl rfl) (by omega) f4 (by decide) (by decide) (by decide) (fun h12 k1 k2 k3 k4 => ?_)
    have F12 : ly_fr cst [20012, 26880, 60020, 60050, 60060, 60061, 60071] r'.2.1 h12 := ly_fr_tr (hp_sub2 rfl j2) k2
    refine ydI c hM (by omega) k1 (k : Int) (m' : Int) (by omega) (by omega) (by omega) (by omega) (F12 _ _ _ rfl z14) n4 n5 (fun l13 h13 xm xc' g1 g2 a1' a2' a3' n6 n7 => ?_)
    have F13 : ly_fr cst [20012, 26880, 60020, 60050, 60060, 60061, 60071] r'.2.1 h13 := ly_fr_tr F12 (hp_sub2 rfl a2')
    have FA : ly_fr cst [19971, 19972, 19973, 19974, 19975, 19976, 19990, 19991, 20010, 20011, 20012, 20014, 20015, 20016, 25344, 25600, 25856, 26112, 26368, 26624, 26880, 60020, 60050, 60060, 60061, 60071] r.2.1 h13 := ly_fr_tr (hp_sub2 rfl F10) (ly_fr_tr rfr' (hp_sub2 rfl F13))
    have et' : T ++ qv_t (V ++ qv_an x ++ qv_or y ++ (V' ++ qv_an x' ++ qv_or y') ++ [.inr (-20005), .inr (-20006)]) = T ++ qv_t V ++ qv_t V' := by
      rw [qv_ta, qv_ta, qv_ta, qv_ta, qv_ta, qv_ta, qv_t_an, qv_t_or, qv_t_an, qv_t_or, List.append_nil, List.append_nil, List.append_nil, List.append_nil, show qv_t [.inr (-20005), .inr (-20006)] = [] from rfl, List.append_nil, List.append_assoc]
    have es' : S ++ (S2 ++ S2' ++ [-4]) = S ++ S2 ++ S2' ++ [-4] := by simp only [List.append_assoc]
    refine yd_tl (m := m') (V := V ++ qv_an x ++ qv_or y ++ (V' ++ qv_an x' ++ qv_or y') ++ [.inr (-20005), .inr (-20006)]) (S2 := S2 ++ S2' ++ [-4]) (T := T) (S := S) cc hM (by omega) a1' k39 (ly_fr_tr frr' (hp_sub2 rfl F13)) (gl_tr gr' (gl_tr (gl_fr j2 rfl) (gl_tr k3 (gl_fr a2' rfl)))) (fun z => bo_0s q4 ?_) (fun z => bo_0f q4 ?_) (qv_qu sqc sqc') (rq_mv ZR rhy' a1' F13 rfl) (by rw [et']; exact qt_D_mv ZX F13 rfl) (by rw [es']; exact qt_S_mv k4 a2' rfl rfl) ?_ (by omega) et2 m20' (fun ns v hk X0 => fn_mv (fn_mv (fn_mv X0 F4576 rfl) rfr rfl) FA rfl) (zn_fr (zn_fr z1 rfr rfl) FA rfl) (zn_fr (zn_fr z2 rfr rfl) FA rfl) (FA _ _ _ rfl (rfr _ _ _ rfl z3)) (fun ns hk X0 => fn_mv (fn_mv (fn_mv X0 F4576 rfl) rfr rfl) FA rfl) g1 g2 n6 n7
    · rw [cx1, cx2, cx_fin z, qv_ea, qv_ea, qv_ea, qv_ea, qv_ea, qv_ea, qv_e_an, qv_e_or, qv_e_an, qv_e_or]
      show Sum.inr (e', m', qv_e V ++ (an x ++ (bif y then [-20007] else [])) ++ qv_e V' ++ (an x' ++ (bif y' then [-20007] else [])) ++ [-20005, -20006]) = _
      rw [show qv_e [.inr (-20005), .inr (-20006)] = [-20005, -20006] from rfl]
      simp only [List.append_assoc]
    · rw [cx1, cx2]
      exact cx_bad et2 (fun _ => rfl) no' na' (fun z' => absurd z'.2.2 (by decide)) (fun z' => z z'.1)
    · rw [et', es']
      exact ⟨v1', by rw [List.length_append, List.length_singleton]; omega, v3'⟩
  obtain ⟨n', r, hgo, w, r1, r2, r3, r4⟩ := go
  simp only [Nat.zero_add] at r2 r3
  exact ⟨r, Or.inr ⟨M, n', hM, hl, hgo⟩, w, r1, r2, r3, r4⟩
