/-! PRINTED by wip/p2/hp_rmet.py: sumOf, isMet, metOf of the reference -/
theorem so0_k : hp_chk 330 0 3 [(0, 0, 19219), (1, 0, 620), (2, 0, 200)] [(19219, [(0, (-1)), (1, (-1))])] [(0, .inr (.inr (.inl (some 94)))), (1, .inl (0, [(0, 1)])), (2, .inl (0, [(1, 1)])), (3, .inl (0, [(2, 1)]))] [] [] [] 2 [(6, ([], 3, [(0, 0, 19219), (1, 0, 620), (2, 0, 200)], [], [(0, .inr (.inr (.inl (some 94)))), (1, .inl (0, [(0, 1)])), (2, .inl (0, [(1, 1)])), (3, .inl (0, [(2, 1)])), (4, .inl (0, [])), (5, .inl (0, [(0, 1)]))], [], []))] [] = true := by decide +kernel
theorem so0 {cst : am_K} {strs : List Nat} {Φ : am_Q → Prop} {D : Nat} {M : am_M} {h : am_H} {l : am_L} (c : hp_C cst strs D) (hM : m_P[330]? = some M) (hD : (2 : Int) ≤ (D : Int) + 1) (hy : ly_hy m_tt ly_TH h) (te ma w : Int) (b0 : 0 ≤ te) (t0 : te ≤ 19219) (b1 : 0 ≤ ma) (t1 : ma ≤ 620) (b2 : 0 ≤ w) (t2 : w ≤ 200) (f0 : 0 ≤ (-te - ma + 19219)) (l0 : hp_a l 0 94) (l1 : hp_i l 1 (te)) (l2 : hp_i l 2 (ma)) (l3 : hp_i l 3 (w)) (e0 : ∀ (l' : am_L) (h' : am_H), ly_hy m_tt ly_TH h' → ly_fr cst [] h h' → h.length ≤ h'.length → hp_a l' 0 94 → hp_i l' 1 (te) → hp_i l' 2 (ma) → hp_i l' 3 (w) → hp_i l' 4 0 → hp_i l' 5 (te) → hp_F cst strs Φ D M 6 l' [] h') : hp_F cst strs Φ D M 0 l [] h := by
  refine hp_arc c hM so0_k hD [te, ma, w] rfl hy (hp_Bc (z := te) rfl b0 t0 (hp_Bc (z := ma) rfl b1 t1 (hp_Bc (z := w) rfl b2 t2 hp_Bn))) (hp_Fc (z := (19219 + ((-1) * te + ((-1) * ma + 0)))) rfl (by omega) hp_Fn) hp_Kn (hp_La l0 (hp_Li (z := (0 + (1 * te + 0))) l1 rfl (by omega) (hp_Li (z := (0 + (1 * ma + 0))) l2 rfl (by omega) (hp_Li (z := (0 + (1 * w + 0))) l3 rfl (by omega) hp_Ln)))) trivial ?_ ?_
  · intro p_9 hp ys l' st' h' hys a1_9 a2 a3 gZ gL gS
    rcases List.mem_cons.mp hp with rfl | hp
    · obtain rfl := hp_y0 hys
      cases hp_gSn gS
      exact e0 l' h' a1_9 a2 a3 (hp_gLa gL (List.mem_of_getElem? (i := 0) rfl) (by decide)) (hp_gLi (z := (0 + (1 * te + 0))) gL (List.mem_of_getElem? (i := 1) rfl) rfl (by omega)) (hp_gLi (z := (0 + (1 * ma + 0))) gL (List.mem_of_getElem? (i := 2) rfl) rfl (by omega)) (hp_gLi (z := (0 + (1 * w + 0))) gL (List.mem_of_getElem? (i := 3) rfl) rfl (by omega)) (hp_gLi (z := (0 + 0)) gL (List.mem_of_getElem? (i := 4) rfl) rfl (by omega)) (hp_gLi (z := (0 + (1 * te + 0))) gL (List.mem_of_getElem? (i := 5) rfl) rfl (by omega))
    cases hp
  · intro p_9 hp ys v_9 h' hys a1_9 a2 a3 gZ gS
    cases hp
theorem soE_k : hp_chk 330 6 4 [(0, 0, 19219), (1, 0, 620), (2, 0, 200), (3, 0, 200000000)] [(19219, [(0, (-1)), (1, (-1))])] [(0, .inr (.inr (.inl (some 94)))), (1, .inl (0, [(0, 1)])), (2, .inl (0, [(1, 1)])), (3, .inl (0, [(2, 1)])), (4, .inl (0, [(3, 1)])), (5, .inl (0, [(0, 1), (1, 1)]))] [] [] [] 2 [] [([], 4, [(0, 0, 19219), (1, 0, 620), (2, 0, 200), (3, 0, 200000000)], [], [], [.inl (0, [(3, 1)])], [])] = true := by decide +kernel
theorem soE {cst : am_K} {strs : List Nat} {Φ : am_Q → Prop} {D : Nat} {M : am_M} {h : am_H} {l : am_L} (c : hp_C cst strs D) (hM : m_P[330]? = some M) (hD : (2 : Int) ≤ (D : Int) + 1) (hy : ly_hy m_tt ly_TH h) (te ma w n : Int) (b0 : 0 ≤ te) (t0 : te ≤ 19219) (b1 : 0 ≤ ma) (t1 : ma ≤ 620) (b2 : 0 ≤ w) (t2 : w ≤ 200) (b3 : 0 ≤ n) (t3 : n ≤ 200000000) (f0 : 0 ≤ (-te - ma + 19219)) (l0 : hp_a l 0 94) (l1 : hp_i l 1 (te)) (l2 : hp_i l 2 (ma)) (l3 : hp_i l 3 (w)) (l4 : hp_i l 4 (n)) (l5 : hp_i l 5 (te + ma)) (r0 : ∀ (h' : am_H) (y0 : Int32), y0.toInt = (n) → ly_hy m_tt ly_TH h' → ly_fr cst [] h h' → h.length ≤ h'.length → Φ (some (.int y0), h', 0, 0)) : hp_F cst strs Φ D M 6 l [] h := by
  refine hp_arc c hM soE_k hD [te, ma, w, n] rfl hy (hp_Bc (z := te) rfl b0 t0 (hp_Bc (z := ma) rfl b1 t1 (hp_Bc (z := w) rfl b2 t2 (hp_Bc (z := n) rfl b3 t3 hp_Bn)))) (hp_Fc (z := (19219 + ((-1) * te + ((-1) * ma + 0)))) rfl (by omega) hp_Fn) hp_Kn (hp_La l0 (hp_Li (z := (0 + (1 * te + 0))) l1 rfl (by omega) (hp_Li (z := (0 + (1 * ma + 0))) l2 rfl (by omega) (hp_Li (z := (0 + (1 * w + 0))) l3 rfl (by omega) (hp_Li (z := (0 + (1 * n + 0))) l4 rfl (by omega) (hp_Li (z := (0 + (1 * te + (1 * ma + 0)))) l5 rfl (by omega) hp_Ln)))))) trivial ?_ ?_
  · intro p_9 hp ys l' st' h' hys a1_9 a2 a3 gZ gL gS
    cases hp
  · intro p_9 hp ys v_9 h' hys a1_9 a2 a3 gZ gS
    rcases List.mem_cons.mp hp with rfl | hp
    · obtain rfl := hp_y0 hys
      cases v_9 with
      | none => cases gS
      | some wz =>
        obtain ⟨y0, t0, s0_9, q0, -⟩ := hp_gSi (z := (0 + (1 * n + 0))) gS rfl
        cases s0_9
        exact r0 h' y0 (by omega) a1_9 a2 a3
    cases hp
theorem so1_k : hp_chk 330 6 6 [(0, 0, 19219), (1, 0, 620), (2, 0, 200), (3, 0, 200000000), (4, 0, 19219), (5, 0, 20000)] [(19219, [(0, (-1)), (1, (-1))]), ((-1), [(0, 1), (1, 1), (4, (-1))])] [(0, .inr (.inr (.inl (some 94)))), (1, .inl (0, [(0, 1)])), (2, .inl (0, [(1, 1)])), (3, .inl (0, [(2, 1)])), (4, .inl (0, [(3, 1)])), (5, .inl (0, [(4, 1)]))] [] [(26624, (0, [(4, 1)]), (0, [(5, 1)]))] [] 2 [(29, ([], 6, [(0, 0, 19219), (1, 0, 620), (2, 0, 200), (3, 0, 200000000), (4, 0, 19219), (5, 0, 20000)], [], [(0, .inr (.inr (.inl (some 94)))), (1, .inl (0, [(0, 1)])), (2, .inl (0, [(1, 1)])), (3, .inl (0, [(2, 1)])), (4, .inl (0, [(3, 1), (5, 1)])), (5, .inl (0, [(4, 1)])), (6, .inl (0, []))], [], []))] [] = true := by decide +kernel
theorem so1 {cst : am_K} {strs : List Nat} {Φ : am_Q → Prop} {D : Nat} {M : am_M} {h : am_H} {l : am_L} (c : hp_C cst strs D) (hM : m_P[330]? = some M) (hD : (2 : Int) ≤ (D : Int) + 1) (hy : ly_hy m_tt ly_TH h) (te ma w n t tn : Int) (b0 : 0 ≤ te) (t0 : te ≤ 19219) (b1 : 0 ≤ ma) (t1 : ma ≤ 620) (b2 : 0 ≤ w) (t2 : w ≤ 200) (b3 : 0 ≤ n) (t3 : n ≤ 200000000) (b4 : 0 ≤ t) (t4 : t ≤ 19219) (b5 : 0 ≤ tn) (t5 : tn ≤ 20000) (f0 : 0 ≤ (-te - ma + 19219)) (f1 : 0 ≤ (te + ma - t - 1)) (k0 : ly_hv cst h 26624 (t) = some (tn)) (l0 : hp_a l 0 94) (l1 : hp_i l 1 (te)) (l2 : hp_i l 2 (ma)) (l3 : hp_i l 3 (w)) (l4 : hp_i l 4 (n)) (l5 : hp_i l 5 (t)) (e0 : ∀ (l' : am_L) (h' : am_H), ly_hy m_tt ly_TH h' → ly_fr cst [] h h' → h.length ≤ h'.length → hp_a l' 0 94 → hp_i l' 1 (te) → hp_i l' 2 (ma) → hp_i l' 3 (w) → hp_i l' 4 (n + tn) → hp_i l' 5 (t) → hp_i l' 6 0 → hp_F cst strs Φ D M 29 l' [] h') : hp_F cst strs Φ D M 6 l [] h := by
  refine hp_arc c hM so1_k hD [te, ma, w, n, t, tn] rfl hy (hp_Bc (z := te) rfl b0 t0 (hp_Bc (z := ma) rfl b1 t1 (hp_Bc (z := w) rfl b2 t2 (hp_Bc (z := n) rfl b3 t3 (hp_Bc (z := t) rfl b4 t4 (hp_Bc (z := tn) rfl b5 t5 hp_Bn)))))) (hp_Fc (z := (19219 + ((-1) * te + ((-1) * ma + 0)))) rfl (by omega) (hp_Fc (z := ((-1) + (1 * te + (1 * ma + ((-1) * t + 0))))) rfl (by omega) hp_Fn)) (hp_Kc (zi := (0 + (1 * t + 0))) (zv := (0 + (1 * tn + 0))) k0 rfl rfl (by omega) (by omega) hp_Kn) (hp_La l0 (hp_Li (z := (0 + (1 * te + 0))) l1 rfl (by omega) (hp_Li (z := (0 + (1 * ma + 0))) l2 rfl (by omega) (hp_Li (z := (0 + (1 * w + 0))) l3 rfl (by omega) (hp_Li (z := (0 + (1 * n + 0))) l4 rfl (by omega) (hp_Li (z := (0 + (1 * t + 0))) l5 rfl (by omega) hp_Ln)))))) trivial ?_ ?_
  · intro p_9 hp ys l' st' h' hys a1_9 a2 a3 gZ gL gS
    rcases List.mem_cons.mp hp with rfl | hp
    · obtain rfl := hp_y0 hys
      cases hp_gSn gS
      exact e0 l' h' a1_9 a2 a3 (hp_gLa gL (List.mem_of_getElem? (i := 0) rfl) (by decide)) (hp_gLi (z := (0 + (1 * te + 0))) gL (List.mem_of_getElem? (i := 1) rfl) rfl (by omega)) (hp_gLi (z := (0 + (1 * ma + 0))) gL (List.mem_of_getElem? (i := 2) rfl) rfl (by omega)) (hp_gLi (z := (0 + (1 * w + 0))) gL (List.mem_of_getElem? (i := 3) rfl) rfl (by omega)) (hp_gLi (z := (0 + (1 * n + (1 * tn + 0)))) gL (List.mem_of_getElem? (i := 4) rfl) rfl (by omega)) (hp_gLi (z := (0 + (1 * t + 0))) gL (List.mem_of_getElem? (i := 5) rfl) rfl (by omega)) (hp_gLi (z := (0 + 0)) gL (List.mem_of_getElem? (i := 6) rfl) rfl (by omega))
    cases hp
  · intro p_9 hp ys v_9 h' hys a1_9 a2 a3 gZ gS
    cases hp
theorem soX_k : hp_chk 330 29 6 [(0, 0, 19219), (1, 0, 620), (2, 0, 200), (3, 0, 200000000), (4, 0, 19219), (5, 0, 20)] [(19219, [(0, (-1)), (1, (-1))]), ((-1), [(0, 1), (1, 1), (4, (-1))])] [(0, .inr (.inr (.inl (some 94)))), (1, .inl (0, [(0, 1)])), (2, .inl (0, [(1, 1)])), (3, .inl (0, [(2, 1)])), (4, .inl (0, [(3, 1)])), (5, .inl (0, [(4, 1)])), (6, .inl (0, [(5, 1)]))] [] [(27904, (0, [(2, 1)]), (0, [(5, 1)]))] [] 2 [(6, ([], 6, [(0, 0, 19219), (1, 0, 620), (2, 0, 200), (3, 0, 200000000), (4, 0, 19219), (5, 0, 20)], [], [(0, .inr (.inr (.inl (some 94)))), (1, .inl (0, [(0, 1)])), (2, .inl (0, [(1, 1)])), (3, .inl (0, [(2, 1)])), (4, .inl (0, [(3, 1)])), (5, .inl (1, [(4, 1)]))], [], []))] [] = true := by decide +kernel
theorem soX {cst : am_K} {strs : List Nat} {Φ : am_Q → Prop} {D : Nat} {M : am_M} {h : am_H} {l : am_L} (c : hp_C cst strs D) (hM : m_P[330]? = some M) (hD : (2 : Int) ≤ (D : Int) + 1) (hy : ly_hy m_tt ly_TH h) (te ma w n t q : Int) (b0 : 0 ≤ te) (t0 : te ≤ 19219) (b1 : 0 ≤ ma) (t1 : ma ≤ 620) (b2 : 0 ≤ w) (t2 : w ≤ 200) (b3 : 0 ≤ n) (t3 : n ≤ 200000000) (b4 : 0 ≤ t) (t4 : t ≤ 19219) (b5 : 0 ≤ q) (t5 : q ≤ 20) (f0 : 0 ≤ (-te - ma + 19219)) (f1 : 0 ≤ (te + ma - t - 1)) (k0 : ly_hv cst h 27904 (w) = some (q)) (l0 : hp_a l 0 94) (l1 : hp_i l 1 (te)) (l2 : hp_i l 2 (ma)) (l3 : hp_i l 3 (w)) (l4 : hp_i l 4 (n)) (l5 : hp_i l 5 (t)) (l6 : hp_i l 6 (q)) (e0 : ∀ (l' : am_L) (h' : am_H), ly_hy m_tt ly_TH h' → ly_fr cst [] h h' → h.length ≤ h'.length → hp_a l' 0 94 → hp_i l' 1 (te) → hp_i l' 2 (ma) → hp_i l' 3 (w) → hp_i l' 4 (n) → hp_i l' 5 (t + 1) → hp_F cst strs Φ D M 6 l' [] h') : hp_F cst strs Φ D M 29 l [] h := by
  refine hp_arc c hM soX_k hD [te, ma, w, n, t, q] rfl hy (hp_Bc (z := te) rfl b0 t0 (hp_Bc (z := ma) rfl b1 t1 (hp_Bc (z := w) rfl b2 t2 (hp_Bc (z := n) rfl b3 t3 (hp_Bc (z := t) rfl b4 t4 (hp_Bc (z := q) rfl b5 t5 hp_Bn)))))) (hp_Fc (z := (19219 + ((-1) * te + ((-1) * ma + 0)))) rfl (by omega) (hp_Fc (z := ((-1) + (1 * te + (1 * ma + ((-1) * t + 0))))) rfl (by omega) hp_Fn)) (hp_Kc (zi := (0 + (1 * w + 0))) (zv := (0 + (1 * q + 0))) k0 rfl rfl (by omega) (by omega) hp_Kn) (hp_La l0 (hp_Li (z := (0 + (1 * te + 0))) l1 rfl (by omega) (hp_Li (z := (0 + (1 * ma + 0))) l2 rfl (by omega) (hp_Li (z := (0 + (1 * w + 0))) l3 rfl (by omega) (hp_Li (z := (0 + (1 * n + 0))) l4 rfl (by omega) (hp_Li (z := (0 + (1 * t + 0))) l5 rfl (by omega) (hp_Li (z := (0 + (1 * q + 0))) l6 rfl (by omega) hp_Ln))))))) trivial ?_ ?_
  · intro p_9 hp ys l' st' h' hys a1_9 a2 a3 gZ gL gS
    rcases List.mem_cons.mp hp with rfl | hp
    · obtain rfl := hp_y0 hys
      cases hp_gSn gS
      exact e0 l' h' a1_9 a2 a3 (hp_gLa gL (List.mem_of_getElem? (i := 0) rfl) (by decide)) (hp_gLi (z := (0 + (1 * te + 0))) gL (List.mem_of_getElem? (i := 1) rfl) rfl (by omega)) (hp_gLi (z := (0 + (1 * ma + 0))) gL (List.mem_of_getElem? (i := 2) rfl) rfl (by omega)) (hp_gLi (z := (0 + (1 * w + 0))) gL (List.mem_of_getElem? (i := 3) rfl) rfl (by omega)) (hp_gLi (z := (0 + (1 * n + 0))) gL (List.mem_of_getElem? (i := 4) rfl) rfl (by omega)) (hp_gLi (z := (1 + (1 * t + 0))) gL (List.mem_of_getElem? (i := 5) rfl) rfl (by omega))
    cases hp
  · intro p_9 hp ys v_9 h' hys a1_9 a2 a3 gZ gS
    cases hp
theorem soZ_k : hp_chk 330 29 7 [(0, 0, 19219), (1, 0, 620), (2, 0, 200), (3, 0, 200000000), (4, 0, 19219), (5, 0, 19), (6, 0, 20)] [(19219, [(0, (-1)), (1, (-1))]), ((-1), [(0, 1), (1, 1), (4, (-1))]), ((-1), [(5, (-1)), (6, 1)])] [(0, .inr (.inr (.inl (some 94)))), (1, .inl (0, [(0, 1)])), (2, .inl (0, [(1, 1)])), (3, .inl (0, [(2, 1)])), (4, .inl (0, [(3, 1)])), (5, .inl (0, [(4, 1)])), (6, .inl (0, [(5, 1)]))] [] [(27904, (0, [(2, 1)]), (0, [(6, 1)])), (26368, (0, [(4, 1)]), (0, []))] [] 2 [(6, ([], 7, [(0, 0, 19219), (1, 0, 620), (2, 0, 200), (3, 0, 200000000), (4, 0, 19219), (5, 0, 19), (6, 0, 20)], [], [(0, .inr (.inr (.inl (some 94)))), (1, .inl (0, [(0, 1)])), (2, .inl (0, [(1, 1)])), (3, .inl (0, [(2, 1)])), (4, .inl (0, [(3, 1)])), (5, .inl (1, [(4, 1)]))], [], []))] [] = true := by decide +kernel
theorem soZ {cst : am_K} {strs : List Nat} {Φ : am_Q → Prop} {D : Nat} {M : am_M} {h : am_H} {l : am_L} (c : hp_C cst strs D) (hM : m_P[330]? = some M) (hD : (2 : Int) ≤ (D : Int) + 1) (hy : ly_hy m_tt ly_TH h) (te ma w n t k q : Int) (b0 : 0 ≤ te) (t0 : te ≤ 19219) (b1 : 0 ≤ ma) (t1 : ma ≤ 620) (b2 : 0 ≤ w) (t2 : w ≤ 200) (b3 : 0 ≤ n) (t3 : n ≤ 200000000) (b4 : 0 ≤ t) (t4 : t ≤ 19219) (b5 : 0 ≤ k) (t5 : k ≤ 19) (b6 : 0 ≤ q) (t6 : q ≤ 20) (f0 : 0 ≤ (-te - ma + 19219)) (f1 : 0 ≤ (te + ma - t - 1)) (f2 : 0 ≤ (q - k - 1)) (k0 : ly_hv cst h 27904 (w) = some (q)) (k1 : ly_hv cst h 26368 (t) = some 0) (l0 : hp_a l 0 94) (l1 : hp_i l 1 (te)) (l2 : hp_i l 2 (ma)) (l3 : hp_i l 3 (w)) (l4 : hp_i l 4 (n)) (l5 : hp_i l 5 (t)) (l6 : hp_i l 6 (k)) (e0 : ∀ (l' : am_L) (h' : am_H), ly_hy m_tt ly_TH h' → ly_fr cst [] h h' → h.length ≤ h'.length → hp_a l' 0 94 → hp_i l' 1 (te) → hp_i l' 2 (ma) → hp_i l' 3 (w) → hp_i l' 4 (n) → hp_i l' 5 (t + 1) → hp_F cst strs Φ D M 6 l' [] h') : hp_F cst strs Φ D M 29 l [] h := by
  refine hp_arc c hM soZ_k hD [te, ma, w, n, t, k, q] rfl hy (hp_Bc (z := te) rfl b0 t0 (hp_Bc (z := ma) rfl b1 t1 (hp_Bc (z := w) rfl b2 t2 (hp_Bc (z := n) rfl b3 t3 (hp_Bc (z := t) rfl b4 t4 (hp_Bc (z := k) rfl b5 t5 (hp_Bc (z := q) rfl b6 t6 hp_Bn))))))) (hp_Fc (z := (19219 + ((-1) * te + ((-1) * ma + 0)))) rfl (by omega) (hp_Fc (z := ((-1) + (1 * te + (1 * ma + ((-1) * t + 0))))) rfl (by omega) (hp_Fc (z := ((-1) + ((-1) * k + (1 * q + 0)))) rfl (by omega) hp_Fn))) (hp_Kc (zi := (0 + (1 * w + 0))) (zv := (0 + (1 * q + 0))) k0 rfl rfl (by omega) (by omega) (hp_Kc (zi := (0 + (1 * t + 0))) (zv := (0 + 0)) k1 rfl rfl (by omega) (by omega) hp_Kn)) (hp_La l0 (hp_Li (z := (0 + (1 * te + 0))) l1 rfl (by omega) (hp_Li (z := (0 + (1 * ma + 0))) l2 rfl (by omega) (hp_Li (z := (0 + (1 * w + 0))) l3 rfl (by omega) (hp_Li (z := (0 + (1 * n + 0))) l4 rfl (by omega) (hp_Li (z := (0 + (1 * t + 0))) l5 rfl (by omega) (hp_Li (z := (0 + (1 * k + 0))) l6 rfl (by omega) hp_Ln))))))) trivial ?_ ?_
  · intro p_9 hp ys l' st' h' hys a1_9 a2 a3 gZ gL gS
    rcases List.mem_cons.mp hp with rfl | hp
    · obtain rfl := hp_y0 hys
      cases hp_gSn gS
      exact e0 l' h' a1_9 a2 a3 (hp_gLa gL (List.mem_of_getElem? (i := 0) rfl) (by decide)) (hp_gLi (z := (0 + (1 * te + 0))) gL (List.mem_of_getElem? (i := 1) rfl) rfl (by omega)) (hp_gLi (z := (0 + (1 * ma + 0))) gL (List.mem_of_getElem? (i := 2) rfl) rfl (by omega)) (hp_gLi (z := (0 + (1 * w + 0))) gL (List.mem_of_getElem? (i := 3) rfl) rfl (by omega)) (hp_gLi (z := (0 + (1 * n + 0))) gL (List.mem_of_getElem? (i := 4) rfl) rfl (by omega)) (hp_gLi (z := (1 + (1 * t + 0))) gL (List.mem_of_getElem? (i := 5) rfl) rfl (by omega))
    cases hp
  · intro p_9 hp ys v_9 h' hys a1_9 a2 a3 gZ gS
    cases hp
theorem soN_k : hp_chk 330 29 9 [(0, 0, 19219), (1, 0, 620), (2, 0, 200), (3, 0, 200000000), (4, 0, 19219), (5, 0, 19), (6, 0, 20), (7, (-9223372036854775808), 9223372036854775807), (8, (-9223372036854775808), 9223372036854775807)] [(19219, [(0, (-1)), (1, (-1))]), ((-1), [(0, 1), (1, 1), (4, (-1))]), ((-1), [(5, (-1)), (6, 1)])] [(0, .inr (.inr (.inl (some 94)))), (1, .inl (0, [(0, 1)])), (2, .inl (0, [(1, 1)])), (3, .inl (0, [(2, 1)])), (4, .inl (0, [(3, 1)])), (5, .inl (0, [(4, 1)])), (6, .inl (0, [(5, 1)]))] [] [(27904, (0, [(2, 1)]), (0, [(6, 1)])), (26368, (0, [(4, 1)]), (0, [(7, 1)])), (61000, (0, [(7, 1)]), (1, [])), (27392, (0, [(2, 20), (5, 1)]), (0, [(8, 1)])), (61000, (0, [(7, (-1)), (8, 1)]), (1, []))] [] 2 [(29, ([], 9, [(0, 0, 19219), (1, 0, 620), (2, 0, 200), (3, 0, 200000000), (4, 0, 19219), (5, 0, 19), (6, 0, 20), (7, (-9223372036854775808), 9223372036854775807), (8, (-9223372036854775808), 9223372036854775807)], [], [(0, .inr (.inr (.inl (some 94)))), (1, .inl (0, [(0, 1)])), (2, .inl (0, [(1, 1)])), (3, .inl (0, [(2, 1)])), (4, .inl (0, [(3, 1)])), (5, .inl (0, [(4, 1)])), (6, .inl (1, [(5, 1)]))], [], []))] [] = true := by decide +kernel
theorem soN {cst : am_K} {strs : List Nat} {Φ : am_Q → Prop} {D : Nat} {M : am_M} {h : am_H} {l : am_L} (c : hp_C cst strs D) (hM : m_P[330]? = some M) (hD : (2 : Int) ≤ (D : Int) + 1) (hy : ly_hy m_tt ly_TH h) (te ma w n t k q tw x : Int) (b0 : 0 ≤ te) (t0 : te ≤ 19219) (b1 : 0 ≤ ma) (t1 : ma ≤ 620) (b2 : 0 ≤ w) (t2 : w ≤ 200) (b3 : 0 ≤ n) (t3 : n ≤ 200000000) (b4 : 0 ≤ t) (t4 : t ≤ 19219) (b5 : 0 ≤ k) (t5 : k ≤ 19) (b6 : 0 ≤ q) (t6 : q ≤ 20) (b7 : (-9223372036854775808) ≤ tw) (t7 : tw ≤ 9223372036854775807) (b8 : (-9223372036854775808) ≤ x) (t8 : x ≤ 9223372036854775807) (f0 : 0 ≤ (-te - ma + 19219)) (f1 : 0 ≤ (te + ma - t - 1)) (f2 : 0 ≤ (q - k - 1)) (k0 : ly_hv cst h 27904 (w) = some (q)) (k1 : ly_hv cst h 26368 (t) = some (tw)) (k2 : ly_hv cst h 61000 (tw) = some 1) (k3 : ly_hv cst h 27392 (20 * w + k) = some (x)) (k4 : ly_hv cst h 61000 (x - tw) = some 1) (l0 : hp_a l 0 94) (l1 : hp_i l 1 (te)) (l2 : hp_i l 2 (ma)) (l3 : hp_i l 3 (w)) (l4 : hp_i l 4 (n)) (l5 : hp_i l 5 (t)) (l6 : hp_i l 6 (k)) (e0 : ∀ (l' : am_L) (h' : am_H), ly_hy m_tt ly_TH h' → ly_fr cst [] h h' → h.length ≤ h'.length → hp_a l' 0 94 → hp_i l' 1 (te) → hp_i l' 2 (ma) → hp_i l' 3 (w) → hp_i l' 4 (n) → hp_i l' 5 (t) → hp_i l' 6 (k + 1) → hp_F cst strs Φ D M 29 l' [] h') : hp_F cst strs Φ D M 29 l [] h := by
  refine hp_arc c hM soN_k hD [te, ma, w, n, t, k, q, tw, x] rfl hy (hp_Bc (z := te) rfl b0 t0 (hp_Bc (z := ma) rfl b1 t1 (hp_Bc (z := w) rfl b2 t2 (hp_Bc (z := n) rfl b3 t3 (hp_Bc (z := t) rfl b4 t4 (hp_Bc (z := k) rfl b5 t5 (hp_Bc (z := q) rfl b6 t6 (hp_Bc (z := tw) rfl b7 t7 (hp_Bc (z := x) rfl b8 t8 hp_Bn))))))))) (hp_Fc (z := (19219 + ((-1) * te + ((-1) * ma + 0)))) rfl (by omega) (hp_Fc (z := ((-1) + (1 * te + (1 * ma + ((-1) * t + 0))))) rfl (by omega) (hp_Fc (z := ((-1) + ((-1) * k + (1 * q + 0)))) rfl (by omega) hp_Fn))) (hp_Kc (zi := (0 + (1 * w + 0))) (zv := (0 + (1 * q + 0))) k0 rfl rfl (by omega) (by omega) (hp_Kc (zi := (0 + (1 * t + 0))) (zv := (0 + (1 * tw + 0))) k1 rfl rfl (by omega) (by omega) (hp_Kc (zi := (0 + (1 * tw + 0))) (zv := (1 + 0)) k2 rfl rfl (by omega) (by omega) (hp_Kc (zi := (0 + (20 * w + (1 * k + 0)))) (zv := (0 + (1 * x + 0))) k3 rfl rfl (by omega) (by omega) (hp_Kc (zi := (0 + ((-1) * tw + (1 * x + 0)))) (zv := (1 + 0)) k4 rfl rfl (by omega) (by omega) hp_Kn))))) (hp_La l0 (hp_Li (z := (0 + (1 * te + 0))) l1 rfl (by omega) (hp_Li (z := (0 + (1 * ma + 0))) l2 rfl (by omega) (hp_Li (z := (0 + (1 * w + 0))) l3 rfl (by omega) (hp_Li (z := (0 + (1 * n + 0))) l4 rfl (by omega) (hp_Li (z := (0 + (1 * t + 0))) l5 rfl (by omega) (hp_Li (z := (0 + (1 * k + 0))) l6 rfl (by omega) hp_Ln))))))) trivial ?_ ?_
  · intro p_9 hp ys l' st' h' hys a1_9 a2 a3 gZ gL gS
    rcases List.mem_cons.mp hp with rfl | hp
    · obtain rfl := hp_y0 hys
      cases hp_gSn gS
      exact e0 l' h' a1_9 a2 a3 (hp_gLa gL (List.mem_of_getElem? (i := 0) rfl) (by decide)) (hp_gLi (z := (0 + (1 * te + 0))) gL (List.mem_of_getElem? (i := 1) rfl) rfl (by omega)) (hp_gLi (z := (0 + (1 * ma + 0))) gL (List.mem_of_getElem? (i := 2) rfl) rfl (by omega)) (hp_gLi (z := (0 + (1 * w + 0))) gL (List.mem_of_getElem? (i := 3) rfl) rfl (by omega)) (hp_gLi (z := (0 + (1 * n + 0))) gL (List.mem_of_getElem? (i := 4) rfl) rfl (by omega)) (hp_gLi (z := (0 + (1 * t + 0))) gL (List.mem_of_getElem? (i := 5) rfl) rfl (by omega)) (hp_gLi (z := (1 + (1 * k + 0))) gL (List.mem_of_getElem? (i := 6) rfl) rfl (by omega))
    cases hp
  · intro p_9 hp ys v_9 h' hys a1_9 a2 a3 gZ gS
    cases hp
theorem soH_k : hp_chk 330 29 9 [(0, 0, 19219), (1, 0, 620), (2, 0, 200), (3, 0, 200000000), (4, 0, 19219), (5, 0, 19), (6, 0, 20), (7, (-9223372036854775808), 9223372036854775807), (8, 0, 20000)] [(19219, [(0, (-1)), (1, (-1))]), ((-1), [(0, 1), (1, 1), (4, (-1))]), ((-1), [(5, (-1)), (6, 1)])] [(0, .inr (.inr (.inl (some 94)))), (1, .inl (0, [(0, 1)])), (2, .inl (0, [(1, 1)])), (3, .inl (0, [(2, 1)])), (4, .inl (0, [(3, 1)])), (5, .inl (0, [(4, 1)])), (6, .inl (0, [(5, 1)]))] [] [(27904, (0, [(2, 1)]), (0, [(6, 1)])), (26368, (0, [(4, 1)]), (0, [(7, 1)])), (61000, (0, [(7, 1)]), (1, [])), (27392, (0, [(2, 20), (5, 1)]), (0, [(7, 1)])), (27648, (0, [(2, 20), (5, 1)]), (0, [(8, 1)]))] [] 2 [(29, ([], 9, [(0, 0, 19219), (1, 0, 620), (2, 0, 200), (3, 0, 200000000), (4, 0, 19219), (5, 0, 19), (6, 0, 20), (7, (-9223372036854775808), 9223372036854775807), (8, 0, 20000)], [], [(0, .inr (.inr (.inl (some 94)))), (1, .inl (0, [(0, 1)])), (2, .inl (0, [(1, 1)])), (3, .inl (0, [(2, 1)])), (4, .inl (0, [(3, 1), (8, 1)])), (5, .inl (0, [(4, 1)])), (6, .inl (1, [(5, 1)]))], [], []))] [] = true := by decide +kernel
theorem soH {cst : am_K} {strs : List Nat} {Φ : am_Q → Prop} {D : Nat} {M : am_M} {h : am_H} {l : am_L} (c : hp_C cst strs D) (hM : m_P[330]? = some M) (hD : (2 : Int) ≤ (D : Int) + 1) (hy : ly_hy m_tt ly_TH h) (te ma w n t k q tw u : Int) (b0 : 0 ≤ te) (t0 : te ≤ 19219) (b1 : 0 ≤ ma) (t1 : ma ≤ 620) (b2 : 0 ≤ w) (t2 : w ≤ 200) (b3 : 0 ≤ n) (t3 : n ≤ 200000000) (b4 : 0 ≤ t) (t4 : t ≤ 19219) (b5 : 0 ≤ k) (t5 : k ≤ 19) (b6 : 0 ≤ q) (t6 : q ≤ 20) (b7 : (-9223372036854775808) ≤ tw) (t7 : tw ≤ 9223372036854775807) (b8 : 0 ≤ u) (t8 : u ≤ 20000) (f0 : 0 ≤ (-te - ma + 19219)) (f1 : 0 ≤ (te + ma - t - 1)) (f2 : 0 ≤ (q - k - 1)) (k0 : ly_hv cst h 27904 (w) = some (q)) (k1 : ly_hv cst h 26368 (t) = some (tw)) (k2 : ly_hv cst h 61000 (tw) = some 1) (k3 : ly_hv cst h 27392 (20 * w + k) = some (tw)) (k4 : ly_hv cst h 27648 (20 * w + k) = some (u)) (l0 : hp_a l 0 94) (l1 : hp_i l 1 (te)) (l2 : hp_i l 2 (ma)) (l3 : hp_i l 3 (w)) (l4 : hp_i l 4 (n)) (l5 : hp_i l 5 (t)) (l6 : hp_i l 6 (k)) (e0 : ∀ (l' : am_L) (h' : am_H), ly_hy m_tt ly_TH h' → ly_fr cst [] h h' → h.length ≤ h'.length → hp_a l' 0 94 → hp_i l' 1 (te) → hp_i l' 2 (ma) → hp_i l' 3 (w) → hp_i l' 4 (n + u) → hp_i l' 5 (t) → hp_i l' 6 (k + 1) → hp_F cst strs Φ D M 29 l' [] h') : hp_F cst strs Φ D M 29 l [] h := by
  refine hp_arc c hM soH_k hD [te, ma, w, n, t, k, q, tw, u] rfl hy (hp_Bc (z := te) rfl b0 t0 (hp_Bc (z := ma) rfl b1 t1 (hp_Bc (z := w) rfl b2 t2 (hp_Bc (z := n) rfl b3 t3 (hp_Bc (z := t) rfl b4 t4 (hp_Bc (z := k) rfl b5 t5 (hp_Bc (z := q) rfl b6 t6 (hp_Bc (z := tw) rfl b7 t7 (hp_Bc (z := u) rfl b8 t8 hp_Bn))))))))) (hp_Fc (z := (19219 + ((-1) * te + ((-1) * ma + 0)))) rfl (by omega) (hp_Fc (z := ((-1) + (1 * te + (1 * ma + ((-1) * t + 0))))) rfl (by omega) (hp_Fc (z := ((-1) + ((-1) * k + (1 * q + 0)))) rfl (by omega) hp_Fn))) (hp_Kc (zi := (0 + (1 * w + 0))) (zv := (0 + (1 * q + 0))) k0 rfl rfl (by omega) (by omega) (hp_Kc (zi := (0 + (1 * t + 0))) (zv := (0 + (1 * tw + 0))) k1 rfl rfl (by omega) (by omega) (hp_Kc (zi := (0 + (1 * tw + 0))) (zv := (1 + 0)) k2 rfl rfl (by omega) (by omega) (hp_Kc (zi := (0 + (20 * w + (1 * k + 0)))) (zv := (0 + (1 * tw + 0))) k3 rfl rfl (by omega) (by omega) (hp_Kc (zi := (0 + (20 * w + (1 * k + 0)))) (zv := (0 + (1 * u + 0))) k4 rfl rfl (by omega) (by omega) hp_Kn))))) (hp_La l0 (hp_Li (z := (0 + (1 * te + 0))) l1 rfl (by omega) (hp_Li (z := (0 + (1 * ma + 0))) l2 rfl (by omega) (hp_Li (z := (0 + (1 * w + 0))) l3 rfl (by omega) (hp_Li (z := (0 + (1 * n + 0))) l4 rfl (by omega) (hp_Li (z := (0 + (1 * t + 0))) l5 rfl (by omega) (hp_Li (z := (0 + (1 * k + 0))) l6 rfl (by omega) hp_Ln))))))) trivial ?_ ?_
  · intro p_9 hp ys l' st' h' hys a1_9 a2 a3 gZ gL gS
    rcases List.mem_cons.mp hp with rfl | hp
    · obtain rfl := hp_y0 hys
      cases hp_gSn gS
      exact e0 l' h' a1_9 a2 a3 (hp_gLa gL (List.mem_of_getElem? (i := 0) rfl) (by decide)) (hp_gLi (z := (0 + (1 * te + 0))) gL (List.mem_of_getElem? (i := 1) rfl) rfl (by omega)) (hp_gLi (z := (0 + (1 * ma + 0))) gL (List.mem_of_getElem? (i := 2) rfl) rfl (by omega)) (hp_gLi (z := (0 + (1 * w + 0))) gL (List.mem_of_getElem? (i := 3) rfl) rfl (by omega)) (hp_gLi (z := (0 + (1 * n + (1 * u + 0)))) gL (List.mem_of_getElem? (i := 4) rfl) rfl (by omega)) (hp_gLi (z := (0 + (1 * t + 0))) gL (List.mem_of_getElem? (i := 5) rfl) rfl (by omega)) (hp_gLi (z := (1 + (1 * k + 0))) gL (List.mem_of_getElem? (i := 6) rfl) rfl (by omega))
    cases hp
  · intro p_9 hp ys v_9 h' hys a1_9 a2 a3 gZ gS
    cases hp
theorem im0_k : hp_chk 329 0 7 [(0, 0, 1199), (1, 0, 29), (2, 0, 19), (3, 0, 200), (4, 0, 401), (5, 0, 601), (6, 0, 4)] [] [(0, .inr (.inr (.inl (some 94)))), (1, .inl (0, [(0, 1)])), (2, .inl (0, [(2, 1)])), (3, .inl (0, [(3, 1)]))] [] [(62040, (0, [(0, 1)]), (0, [(1, 1)])), (24320, (0, [(0, 1)]), (0, [(4, 1)])), (25600, (0, [(1, 420), (2, 1), (4, 1)]), (0, [(5, 1)])), (25856, (0, [(1, 420), (2, 1), (4, 1)]), (0, [(6, 1)]))] [] 2 [(46, ([], 7, [(0, 0, 1199), (1, 0, 29), (2, 0, 19), (3, 0, 200), (4, 0, 401), (5, 0, 601), (6, 0, 4)], [], [(0, .inr (.inr (.inl (some 94)))), (1, .inl (0, [(0, 1)])), (2, .inl (0, [(2, 1)])), (3, .inl (0, [(3, 1)])), (4, .inl (0, [(1, 1)])), (5, .inl (0, [(1, 420), (2, 1), (4, 1)]))], [.inl (0, [(3, 1)]), .inl (0, [(6, 1)]), .inl (0, [(1, 620), (5, 1)]), .inr (.inr (.inl (some 94)))], []))] [] = true := by decide +kernel
theorem im0 {cst : am_K} {strs : List Nat} {Φ : am_Q → Prop} {D : Nat} {M : am_M} {h : am_H} {l : am_L} (c : hp_C cst strs D) (hM : m_P[329]? = some M) (hD : (2 : Int) ≤ (D : Int) + 1) (hy : ly_hy m_tt ly_TH h) (cc a s w fi st le : Int) (b0 : 0 ≤ cc) (t0 : cc ≤ 1199) (b1 : 0 ≤ a) (t1 : a ≤ 29) (b2 : 0 ≤ s) (t2 : s ≤ 19) (b3 : 0 ≤ w) (t3 : w ≤ 200) (b4 : 0 ≤ fi) (t4 : fi ≤ 401) (b5 : 0 ≤ st) (t5 : st ≤ 601) (b6 : 0 ≤ le) (t6 : le ≤ 4) (k0 : ly_hv cst h 62040 (cc) = some (a)) (k1 : ly_hv cst h 24320 (cc) = some (fi)) (k2 : ly_hv cst h 25600 (420 * a + fi + s) = some (st)) (k3 : ly_hv cst h 25856 (420 * a + fi + s) = some (le)) (l0 : hp_a l 0 94) (l1 : hp_i l 1 (cc)) (l2 : hp_i l 2 (s)) (l3 : hp_i l 3 (w)) (e0 : ∀ (l' : am_L) (h' : am_H) (y0 : Int32) (y1 : Int32) (y2 : Int32), y0.toInt = (w) → y1.toInt = (le) → y2.toInt = (620 * a + st) → ly_hy m_tt ly_TH h' → ly_fr cst [] h h' → h.length ≤ h'.length → hp_a l' 0 94 → hp_i l' 1 (cc) → hp_i l' 2 (s) → hp_i l' 3 (w) → hp_i l' 4 (a) → hp_i l' 5 (420 * a + fi + s) → hp_F cst strs Φ D M 46 l' [.int y0, .int y1, .int y2, .ref 94] h') : hp_F cst strs Φ D M 0 l [] h := by
  refine hp_arc c hM im0_k hD [cc, a, s, w, fi, st, le] rfl hy (hp_Bc (z := cc) rfl b0 t0 (hp_Bc (z := a) rfl b1 t1 (hp_Bc (z := s) rfl b2 t2 (hp_Bc (z := w) rfl b3 t3 (hp_Bc (z := fi) rfl b4 t4 (hp_Bc (z := st) rfl b5 t5 (hp_Bc (z := le) rfl b6 t6 hp_Bn))))))) hp_Fn (hp_Kc (zi := (0 + (1 * cc + 0))) (zv := (0 + (1 * a + 0))) k0 rfl rfl (by omega) (by omega) (hp_Kc (zi := (0 + (1 * cc + 0))) (zv := (0 + (1 * fi + 0))) k1 rfl rfl (by omega) (by omega) (hp_Kc (zi := (0 + (420 * a + (1 * s + (1 * fi + 0))))) (zv := (0 + (1 * st + 0))) k2 rfl rfl (by omega) (by omega) (hp_Kc (zi := (0 + (420 * a + (1 * s + (1 * fi + 0))))) (zv := (0 + (1 * le + 0))) k3 rfl rfl (by omega) (by omega) hp_Kn)))) (hp_La l0 (hp_Li (z := (0 + (1 * cc + 0))) l1 rfl (by omega) (hp_Li (z := (0 + (1 * s + 0))) l2 rfl (by omega) (hp_Li (z := (0 + (1 * w + 0))) l3 rfl (by omega) hp_Ln)))) trivial ?_ ?_
  · intro p_9 hp ys l' st' h' hys a1_9 a2 a3 gZ gL gS
    rcases List.mem_cons.mp hp with rfl | hp
    · obtain rfl := hp_y0 hys
      obtain ⟨y0, t0, rfl, q0, g0⟩ := hp_gSi (z := (0 + (1 * w + 0))) gS rfl
      obtain ⟨y1, t1, rfl, q1_9, g1⟩ := hp_gSi (z := (0 + (1 * le + 0))) g0 rfl
      obtain ⟨y2, t2, rfl, q2_9, g2⟩ := hp_gSi (z := (0 + (620 * a + (1 * st + 0)))) g1 rfl
      obtain ⟨t3, rfl, g3_9⟩ := hp_gSa g2 (by decide)
      cases hp_gSn g3_9
      exact e0 l' h' y0 y1 y2 (by omega) (by omega) (by omega) a1_9 a2 a3 (hp_gLa gL (List.mem_of_getElem? (i := 0) rfl) (by decide)) (hp_gLi (z := (0 + (1 * cc + 0))) gL (List.mem_of_getElem? (i := 1) rfl) rfl (by omega)) (hp_gLi (z := (0 + (1 * s + 0))) gL (List.mem_of_getElem? (i := 2) rfl) rfl (by omega)) (hp_gLi (z := (0 + (1 * w + 0))) gL (List.mem_of_getElem? (i := 3) rfl) rfl (by omega)) (hp_gLi (z := (0 + (1 * a + 0))) gL (List.mem_of_getElem? (i := 4) rfl) rfl (by omega)) (hp_gLi (z := (0 + (420 * a + (1 * s + (1 * fi + 0))))) gL (List.mem_of_getElem? (i := 5) rfl) rfl (by omega))
    cases hp
  · intro p_9 hp ys v_9 h' hys a1_9 a2 a3 gZ gS
    cases hp
theorem im1_k : hp_chk 329 49 9 [(0, 0, 1199), (1, 0, 29), (2, 0, 19), (3, 0, 200), (4, 0, 401), (5, 0, 601), (6, 0, 4), (7, 0, 4), (8, 0, 200000000)] [] [(0, .inr (.inr (.inl (some 94)))), (1, .inl (0, [(0, 1)])), (2, .inl (0, [(2, 1)])), (3, .inl (0, [(3, 1)])), (4, .inl (0, [(1, 1)])), (5, .inl (0, [(1, 420), (2, 1), (4, 1)]))] [.inl (0, [(8, 1)])] [(62040, (0, [(0, 1)]), (0, [(1, 1)])), (24320, (0, [(0, 1)]), (0, [(4, 1)])), (25600, (0, [(1, 420), (2, 1), (4, 1)]), (0, [(5, 1)])), (25856, (0, [(1, 420), (2, 1), (4, 1)]), (0, [(6, 1)])), (26112, (0, [(1, 420), (2, 1), (4, 1)]), (0, [(7, 1)]))] [] 2 [(82, ([], 9, [(0, 0, 1199), (1, 0, 29), (2, 0, 19), (3, 0, 200), (4, 0, 401), (5, 0, 601), (6, 0, 4), (7, 0, 4), (8, 0, 200000000)], [], [(0, .inr (.inr (.inl (some 94)))), (1, .inl (0, [(0, 1)])), (2, .inl (0, [(2, 1)])), (3, .inl (0, [(3, 1)])), (4, .inl (0, [(1, 1)])), (5, .inl (0, [(1, 420), (2, 1), (4, 1)])), (6, .inl (0, [(8, 1)]))], [.inl (0, [(3, 1)]), .inl (0, [(7, 1)]), .inl (0, [(1, 620), (5, 1), (6, 1)]), .inr (.inr (.inl (some 94)))], []))] [] = true := by decide +kernel
theorem im1 {cst : am_K} {strs : List Nat} {Φ : am_Q → Prop} {D : Nat} {M : am_M} {h : am_H} {l : am_L} (c : hp_C cst strs D) (hM : m_P[329]? = some M) (hD : (2 : Int) ≤ (D : Int) + 1) (hy : ly_hy m_tt ly_TH h) (cc a s w fi st le ri x : Int) (x0 : Int32) (hx0 : x0.toInt = (x)) (b0 : 0 ≤ cc) (t0 : cc ≤ 1199) (b1 : 0 ≤ a) (t1 : a ≤ 29) (b2 : 0 ≤ s) (t2 : s ≤ 19) (b3 : 0 ≤ w) (t3 : w ≤ 200) (b4 : 0 ≤ fi) (t4 : fi ≤ 401) (b5 : 0 ≤ st) (t5 : st ≤ 601) (b6 : 0 ≤ le) (t6 : le ≤ 4) (b7 : 0 ≤ ri) (t7 : ri ≤ 4) (b8 : 0 ≤ x) (t8 : x ≤ 200000000) (k0 : ly_hv cst h 62040 (cc) = some (a)) (k1 : ly_hv cst h 24320 (cc) = some (fi)) (k2 : ly_hv cst h 25600 (420 * a + fi + s) = some (st)) (k3 : ly_hv cst h 25856 (420 * a + fi + s) = some (le)) (k4 : ly_hv cst h 26112 (420 * a + fi + s) = some (ri)) (l0 : hp_a l 0 94) (l1 : hp_i l 1 (cc)) (l2 : hp_i l 2 (s)) (l3 : hp_i l 3 (w)) (l4 : hp_i l 4 (a)) (l5 : hp_i l 5 (420 * a + fi + s)) (e0 : ∀ (l' : am_L) (h' : am_H) (y0 : Int32) (y1 : Int32) (y2 : Int32), y0.toInt = (w) → y1.toInt = (ri) → y2.toInt = (620 * a + st + le) → ly_hy m_tt ly_TH h' → ly_fr cst [] h h' → h.length ≤ h'.length → hp_a l' 0 94 → hp_i l' 1 (cc) → hp_i l' 2 (s) → hp_i l' 3 (w) → hp_i l' 4 (a) → hp_i l' 5 (420 * a + fi + s) → hp_i l' 6 (x) → hp_F cst strs Φ D M 82 l' [.int y0, .int y1, .int y2, .ref 94] h') : hp_F cst strs Φ D M 49 l [.int x0] h := by
  refine hp_arc c hM im1_k hD [cc, a, s, w, fi, st, le, ri, x] rfl hy (hp_Bc (z := cc) rfl b0 t0 (hp_Bc (z := a) rfl b1 t1 (hp_Bc (z := s) rfl b2 t2 (hp_Bc (z := w) rfl b3 t3 (hp_Bc (z := fi) rfl b4 t4 (hp_Bc (z := st) rfl b5 t5 (hp_Bc (z := le) rfl b6 t6 (hp_Bc (z := ri) rfl b7 t7 (hp_Bc (z := x) rfl b8 t8 hp_Bn))))))))) hp_Fn (hp_Kc (zi := (0 + (1 * cc + 0))) (zv := (0 + (1 * a + 0))) k0 rfl rfl (by omega) (by omega) (hp_Kc (zi := (0 + (1 * cc + 0))) (zv := (0 + (1 * fi + 0))) k1 rfl rfl (by omega) (by omega) (hp_Kc (zi := (0 + (420 * a + (1 * s + (1 * fi + 0))))) (zv := (0 + (1 * st + 0))) k2 rfl rfl (by omega) (by omega) (hp_Kc (zi := (0 + (420 * a + (1 * s + (1 * fi + 0))))) (zv := (0 + (1 * le + 0))) k3 rfl rfl (by omega) (by omega) (hp_Kc (zi := (0 + (420 * a + (1 * s + (1 * fi + 0))))) (zv := (0 + (1 * ri + 0))) k4 rfl rfl (by omega) (by omega) hp_Kn))))) (hp_La l0 (hp_Li (z := (0 + (1 * cc + 0))) l1 rfl (by omega) (hp_Li (z := (0 + (1 * s + 0))) l2 rfl (by omega) (hp_Li (z := (0 + (1 * w + 0))) l3 rfl (by omega) (hp_Li (z := (0 + (1 * a + 0))) l4 rfl (by omega) (hp_Li (z := (0 + (420 * a + (1 * s + (1 * fi + 0))))) l5 rfl (by omega) hp_Ln)))))) (hp_Si (z := (0 + (1 * x + 0))) rfl (by omega) trivial) ?_ ?_
  · intro p_9 hp ys l' st' h' hys a1_9 a2 a3 gZ gL gS
    rcases List.mem_cons.mp hp with rfl | hp
    · obtain rfl := hp_y0 hys
      obtain ⟨y0, t0, rfl, q0, g0⟩ := hp_gSi (z := (0 + (1 * w + 0))) gS rfl
      obtain ⟨y1, t1, rfl, q1_9, g1⟩ := hp_gSi (z := (0 + (1 * ri + 0))) g0 rfl
      obtain ⟨y2, t2, rfl, q2_9, g2⟩ := hp_gSi (z := (0 + (620 * a + (1 * st + (1 * le + 0))))) g1 rfl
      obtain ⟨t3, rfl, g3_9⟩ := hp_gSa g2 (by decide)
      cases hp_gSn g3_9
      exact e0 l' h' y0 y1 y2 (by omega) (by omega) (by omega) a1_9 a2 a3 (hp_gLa gL (List.mem_of_getElem? (i := 0) rfl) (by decide)) (hp_gLi (z := (0 + (1 * cc + 0))) gL (List.mem_of_getElem? (i := 1) rfl) rfl (by omega)) (hp_gLi (z := (0 + (1 * s + 0))) gL (List.mem_of_getElem? (i := 2) rfl) rfl (by omega)) (hp_gLi (z := (0 + (1 * w + 0))) gL (List.mem_of_getElem? (i := 3) rfl) rfl (by omega)) (hp_gLi (z := (0 + (1 * a + 0))) gL (List.mem_of_getElem? (i := 4) rfl) rfl (by omega)) (hp_gLi (z := (0 + (420 * a + (1 * s + (1 * fi + 0))))) gL (List.mem_of_getElem? (i := 5) rfl) rfl (by omega)) (hp_gLi (z := (0 + (1 * x + 0))) gL (List.mem_of_getElem? (i := 6) rfl) rfl (by omega))
    cases hp
  · intro p_9 hp ys v_9 h' hys a1_9 a2 a3 gZ gS
    cases hp
theorem im2y_k : hp_chk 329 85 7 [(0, 0, 1199), (1, 0, 29), (2, 0, 19), (3, 0, 200), (4, 0, 401), (5, 1, 200000000), (6, 0, 200000000)] [] [(0, .inr (.inr (.inl (some 94)))), (1, .inl (0, [(0, 1)])), (2, .inl (0, [(2, 1)])), (3, .inl (0, [(3, 1)])), (4, .inl (0, [(1, 1)])), (5, .inl (0, [(1, 420), (2, 1), (4, 1)])), (6, .inl (0, [(5, 1)]))] [.inl (0, [(6, 1)])] [(25344, (0, [(1, 420), (2, 1), (4, 1)]), (0, []))] [] 2 [] [([], 7, [(0, 0, 1199), (1, 0, 29), (2, 0, 19), (3, 0, 200), (4, 0, 401), (5, 1, 200000000), (6, 0, 200000000)], [], [], [.inl (1, [])], [])] = true := by decide +kernel
theorem im2y {cst : am_K} {strs : List Nat} {Φ : am_Q → Prop} {D : Nat} {M : am_M} {h : am_H} {l : am_L} (c : hp_C cst strs D) (hM : m_P[329]? = some M) (hD : (2 : Int) ≤ (D : Int) + 1) (hy : ly_hy m_tt ly_TH h) (cc a s w fi x y : Int) (x0 : Int32) (hx0 : x0.toInt = (y)) (b0 : 0 ≤ cc) (t0 : cc ≤ 1199) (b1 : 0 ≤ a) (t1 : a ≤ 29) (b2 : 0 ≤ s) (t2 : s ≤ 19) (b3 : 0 ≤ w) (t3 : w ≤ 200) (b4 : 0 ≤ fi) (t4 : fi ≤ 401) (b5 : 1 ≤ x) (t5 : x ≤ 200000000) (b6 : 0 ≤ y) (t6 : y ≤ 200000000) (k0 : ly_hv cst h 25344 (420 * a + fi + s) = some 0) (l0 : hp_a l 0 94) (l1 : hp_i l 1 (cc)) (l2 : hp_i l 2 (s)) (l3 : hp_i l 3 (w)) (l4 : hp_i l 4 (a)) (l5 : hp_i l 5 (420 * a + fi + s)) (l6 : hp_i l 6 (x)) (r0 : ∀ (h' : am_H) (y0 : Int32), y0.toInt = 1 → ly_hy m_tt ly_TH h' → ly_fr cst [] h h' → h.length ≤ h'.length → Φ (some (.int y0), h', 0, 0)) : hp_F cst strs Φ D M 85 l [.int x0] h := by
  refine hp_arc c hM im2y_k hD [cc, a, s, w, fi, x, y] rfl hy (hp_Bc (z := cc) rfl b0 t0 (hp_Bc (z := a) rfl b1 t1 (hp_Bc (z := s) rfl b2 t2 (hp_Bc (z := w) rfl b3 t3 (hp_Bc (z := fi) rfl b4 t4 (hp_Bc (z := x) rfl b5 t5 (hp_Bc (z := y) rfl b6 t6 hp_Bn))))))) hp_Fn (hp_Kc (zi := (0 + (420 * a + (1 * s + (1 * fi + 0))))) (zv := (0 + 0)) k0 rfl rfl (by omega) (by omega) hp_Kn) (hp_La l0 (hp_Li (z := (0 + (1 * cc + 0))) l1 rfl (by omega) (hp_Li (z := (0 + (1 * s + 0))) l2 rfl (by omega) (hp_Li (z := (0 + (1 * w + 0))) l3 rfl (by omega) (hp_Li (z := (0 + (1 * a + 0))) l4 rfl (by omega) (hp_Li (z := (0 + (420 * a + (1 * s + (1 * fi + 0))))) l5 rfl (by omega) (hp_Li (z := (0 + (1 * x + 0))) l6 rfl (by omega) hp_Ln))))))) (hp_Si (z := (0 + (1 * y + 0))) rfl (by omega) trivial) ?_ ?_
  · intro p_9 hp ys l' st' h' hys a1_9 a2 a3 gZ gL gS
    cases hp
  · intro p_9 hp ys v_9 h' hys a1_9 a2 a3 gZ gS
    rcases List.mem_cons.mp hp with rfl | hp
    · obtain rfl := hp_y0 hys
      cases v_9 with
      | none => cases gS
      | some wz =>
        obtain ⟨y0, t0, s0_9, q0, -⟩ := hp_gSi (z := (1 + 0)) gS rfl
        cases s0_9
        exact r0 h' y0 (by omega) a1_9 a2 a3
    cases hp
theorem im2n_k : hp_chk 329 85 7 [(0, 0, 1199), (1, 0, 29), (2, 0, 19), (3, 0, 200), (4, 0, 401), (5, 0, 0), (6, 0, 200000000)] [] [(0, .inr (.inr (.inl (some 94)))), (1, .inl (0, [(0, 1)])), (2, .inl (0, [(2, 1)])), (3, .inl (0, [(3, 1)])), (4, .inl (0, [(1, 1)])), (5, .inl (0, [(1, 420), (2, 1), (4, 1)])), (6, .inl (0, [(5, 1)]))] [.inl (0, [(6, 1)])] [(25344, (0, [(1, 420), (2, 1), (4, 1)]), (0, []))] [] 2 [] [([], 7, [(0, 0, 1199), (1, 0, 29), (2, 0, 19), (3, 0, 200), (4, 0, 401), (5, 0, 0), (6, 0, 200000000)], [], [], [.inl (0, [])], [])] = true := by decide +kernel
theorem im2n {cst : am_K} {strs : List Nat} {Φ : am_Q → Prop} {D : Nat} {M : am_M} {h : am_H} {l : am_L} (c : hp_C cst strs D) (hM : m_P[329]? = some M) (hD : (2 : Int) ≤ (D : Int) + 1) (hy : ly_hy m_tt ly_TH h) (cc a s w fi x y : Int) (x0 : Int32) (hx0 : x0.toInt = (y)) (b0 : 0 ≤ cc) (t0 : cc ≤ 1199) (b1 : 0 ≤ a) (t1 : a ≤ 29) (b2 : 0 ≤ s) (t2 : s ≤ 19) (b3 : 0 ≤ w) (t3 : w ≤ 200) (b4 : 0 ≤ fi) (t4 : fi ≤ 401) (b5 : 0 ≤ x) (t5 : x ≤ 0) (b6 : 0 ≤ y) (t6 : y ≤ 200000000) (k0 : ly_hv cst h 25344 (420 * a + fi + s) = some 0) (l0 : hp_a l 0 94) (l1 : hp_i l 1 (cc)) (l2 : hp_i l 2 (s)) (l3 : hp_i l 3 (w)) (l4 : hp_i l 4 (a)) (l5 : hp_i l 5 (420 * a + fi + s)) (l6 : hp_i l 6 (x)) (r0 : ∀ (h' : am_H) (y0 : Int32), y0.toInt = 0 → ly_hy m_tt ly_TH h' → ly_fr cst [] h h' → h.length ≤ h'.length → Φ (some (.int y0), h', 0, 0)) : hp_F cst strs Φ D M 85 l [.int x0] h := by
  refine hp_arc c hM im2n_k hD [cc, a, s, w, fi, x, y] rfl hy (hp_Bc (z := cc) rfl b0 t0 (hp_Bc (z := a) rfl b1 t1 (hp_Bc (z := s) rfl b2 t2 (hp_Bc (z := w) rfl b3 t3 (hp_Bc (z := fi) rfl b4 t4 (hp_Bc (z := x) rfl b5 t5 (hp_Bc (z := y) rfl b6 t6 hp_Bn))))))) hp_Fn (hp_Kc (zi := (0 + (420 * a + (1 * s + (1 * fi + 0))))) (zv := (0 + 0)) k0 rfl rfl (by omega) (by omega) hp_Kn) (hp_La l0 (hp_Li (z := (0 + (1 * cc + 0))) l1 rfl (by omega) (hp_Li (z := (0 + (1 * s + 0))) l2 rfl (by omega) (hp_Li (z := (0 + (1 * w + 0))) l3 rfl (by omega) (hp_Li (z := (0 + (1 * a + 0))) l4 rfl (by omega) (hp_Li (z := (0 + (420 * a + (1 * s + (1 * fi + 0))))) l5 rfl (by omega) (hp_Li (z := (0 + (1 * x + 0))) l6 rfl (by omega) hp_Ln))))))) (hp_Si (z := (0 + (1 * y + 0))) rfl (by omega) trivial) ?_ ?_
  · intro p_9 hp ys l' st' h' hys a1_9 a2 a3 gZ gL gS
    cases hp
  · intro p_9 hp ys v_9 h' hys a1_9 a2 a3 gZ gS
    rcases List.mem_cons.mp hp with rfl | hp
    · obtain rfl := hp_y0 hys
      cases v_9 with
      | none => cases gS
      | some wz =>
        obtain ⟨y0, t0, s0_9, q0, -⟩ := hp_gSi (z := (0 + 0)) gS rfl
        cases s0_9
        exact r0 h' y0 (by omega) a1_9 a2 a3
    cases hp
theorem im3y_k : hp_chk 329 85 7 [(0, 0, 1199), (1, 0, 29), (2, 0, 19), (3, 0, 200), (4, 0, 401), (5, 0, 200000000), (6, 0, 200000000)] [((-1), [(5, 1), (6, (-1))])] [(0, .inr (.inr (.inl (some 94)))), (1, .inl (0, [(0, 1)])), (2, .inl (0, [(2, 1)])), (3, .inl (0, [(3, 1)])), (4, .inl (0, [(1, 1)])), (5, .inl (0, [(1, 420), (2, 1), (4, 1)])), (6, .inl (0, [(5, 1)]))] [.inl (0, [(6, 1)])] [(25344, (0, [(1, 420), (2, 1), (4, 1)]), (1, []))] [] 2 [] [([], 7, [(0, 0, 1199), (1, 0, 29), (2, 0, 19), (3, 0, 200), (4, 0, 401), (5, 0, 200000000), (6, 0, 200000000)], [], [], [.inl (1, [])], [])] = true := by decide +kernel
theorem im3y {cst : am_K} {strs : List Nat} {Φ : am_Q → Prop} {D : Nat} {M : am_M} {h : am_H} {l : am_L} (c : hp_C cst strs D) (hM : m_P[329]? = some M) (hD : (2 : Int) ≤ (D : Int) + 1) (hy : ly_hy m_tt ly_TH h) (cc a s w fi x y : Int) (x0 : Int32) (hx0 : x0.toInt = (y)) (b0 : 0 ≤ cc) (t0 : cc ≤ 1199) (b1 : 0 ≤ a) (t1 : a ≤ 29) (b2 : 0 ≤ s) (t2 : s ≤ 19) (b3 : 0 ≤ w) (t3 : w ≤ 200) (b4 : 0 ≤ fi) (t4 : fi ≤ 401) (b5 : 0 ≤ x) (t5 : x ≤ 200000000) (b6 : 0 ≤ y) (t6 : y ≤ 200000000) (f0 : 0 ≤ (x - y - 1)) (k0 : ly_hv cst h 25344 (420 * a + fi + s) = some 1) (l0 : hp_a l 0 94) (l1 : hp_i l 1 (cc)) (l2 : hp_i l 2 (s)) (l3 : hp_i l 3 (w)) (l4 : hp_i l 4 (a)) (l5 : hp_i l 5 (420 * a + fi + s)) (l6 : hp_i l 6 (x)) (r0 : ∀ (h' : am_H) (y0 : Int32), y0.toInt = 1 → ly_hy m_tt ly_TH h' → ly_fr cst [] h h' → h.length ≤ h'.length → Φ (some (.int y0), h', 0, 0)) : hp_F cst strs Φ D M 85 l [.int x0] h := by
  refine hp_arc c hM im3y_k hD [cc, a, s, w, fi, x, y] rfl hy (hp_Bc (z := cc) rfl b0 t0 (hp_Bc (z := a) rfl b1 t1 (hp_Bc (z := s) rfl b2 t2 (hp_Bc (z := w) rfl b3 t3 (hp_Bc (z := fi) rfl b4 t4 (hp_Bc (z := x) rfl b5 t5 (hp_Bc (z := y) rfl b6 t6 hp_Bn))))))) (hp_Fc (z := ((-1) + (1 * x + ((-1) * y + 0)))) rfl (by omega) hp_Fn) (hp_Kc (zi := (0 + (420 * a + (1 * s + (1 * fi + 0))))) (zv := (1 + 0)) k0 rfl rfl (by omega) (by omega) hp_Kn) (hp_La l0 (hp_Li (z := (0 + (1 * cc + 0))) l1 rfl (by omega) (hp_Li (z := (0 + (1 * s + 0))) l2 rfl (by omega) (hp_Li (z := (0 + (1 * w + 0))) l3 rfl (by omega) (hp_Li (z := (0 + (1 * a + 0))) l4 rfl (by omega) (hp_Li (z := (0 + (420 * a + (1 * s + (1 * fi + 0))))) l5 rfl (by omega) (hp_Li (z := (0 + (1 * x + 0))) l6 rfl (by omega) hp_Ln))))))) (hp_Si (z := (0 + (1 * y + 0))) rfl (by omega) trivial) ?_ ?_
  · intro p_9 hp ys l' st' h' hys a1_9 a2 a3 gZ gL gS
    cases hp
  · intro p_9 hp ys v_9 h' hys a1_9 a2 a3 gZ gS
    rcases List.mem_cons.mp hp with rfl | hp
    · obtain rfl := hp_y0 hys
      cases v_9 with
      | none => cases gS
      | some wz =>
        obtain ⟨y0, t0, s0_9, q0, -⟩ := hp_gSi (z := (1 + 0)) gS rfl
        cases s0_9
        exact r0 h' y0 (by omega) a1_9 a2 a3
    cases hp
theorem im3n_k : hp_chk 329 85 7 [(0, 0, 1199), (1, 0, 29), (2, 0, 19), (3, 0, 200), (4, 0, 401), (5, 0, 200000000), (6, 0, 200000000)] [(0, [(5, (-1)), (6, 1)])] [(0, .inr (.inr (.inl (some 94)))), (1, .inl (0, [(0, 1)])), (2, .inl (0, [(2, 1)])), (3, .inl (0, [(3, 1)])), (4, .inl (0, [(1, 1)])), (5, .inl (0, [(1, 420), (2, 1), (4, 1)])), (6, .inl (0, [(5, 1)]))] [.inl (0, [(6, 1)])] [(25344, (0, [(1, 420), (2, 1), (4, 1)]), (1, []))] [] 2 [] [([], 7, [(0, 0, 1199), (1, 0, 29), (2, 0, 19), (3, 0, 200), (4, 0, 401), (5, 0, 200000000), (6, 0, 200000000)], [], [], [.inl (0, [])], [])] = true := by decide +kernel
theorem im3n {cst : am_K} {strs : List Nat} {Φ : am_Q → Prop} {D : Nat} {M : am_M} {h : am_H} {l : am_L} (c : hp_C cst strs D) (hM : m_P[329]? = some M) (hD : (2 : Int) ≤ (D : Int) + 1) (hy : ly_hy m_tt ly_TH h) (cc a s w fi x y : Int) (x0 : Int32) (hx0 : x0.toInt = (y)) (b0 : 0 ≤ cc) (t0 : cc ≤ 1199) (b1 : 0 ≤ a) (t1 : a ≤ 29) (b2 : 0 ≤ s) (t2 : s ≤ 19) (b3 : 0 ≤ w) (t3 : w ≤ 200) (b4 : 0 ≤ fi) (t4 : fi ≤ 401) (b5 : 0 ≤ x) (t5 : x ≤ 200000000) (b6 : 0 ≤ y) (t6 : y ≤ 200000000) (f0 : 0 ≤ (y - x)) (k0 : ly_hv cst h 25344 (420 * a + fi + s) = some 1) (l0 : hp_a l 0 94) (l1 : hp_i l 1 (cc)) (l2 : hp_i l 2 (s)) (l3 : hp_i l 3 (w)) (l4 : hp_i l 4 (a)) (l5 : hp_i l 5 (420 * a + fi + s)) (l6 : hp_i l 6 (x)) (r0 : ∀ (h' : am_H) (y0 : Int32), y0.toInt = 0 → ly_hy m_tt ly_TH h' → ly_fr cst [] h h' → h.length ≤ h'.length → Φ (some (.int y0), h', 0, 0)) : hp_F cst strs Φ D M 85 l [.int x0] h := by
  refine hp_arc c hM im3n_k hD [cc, a, s, w, fi, x, y] rfl hy (hp_Bc (z := cc) rfl b0 t0 (hp_Bc (z := a) rfl b1 t1 (hp_Bc (z := s) rfl b2 t2 (hp_Bc (z := w) rfl b3 t3 (hp_Bc (z := fi) rfl b4 t4 (hp_Bc (z := x) rfl b5 t5 (hp_Bc (z := y) rfl b6 t6 hp_Bn))))))) (hp_Fc (z := (0 + ((-1) * x + (1 * y + 0)))) rfl (by omega) hp_Fn) (hp_Kc (zi := (0 + (420 * a + (1 * s + (1 * fi + 0))))) (zv := (1 + 0)) k0 rfl rfl (by omega) (by omega) hp_Kn) (hp_La l0 (hp_Li (z := (0 + (1 * cc + 0))) l1 rfl (by omega) (hp_Li (z := (0 + (1 * s + 0))) l2 rfl (by omega) (hp_Li (z := (0 + (1 * w + 0))) l3 rfl (by omega) (hp_Li (z := (0 + (1 * a + 0))) l4 rfl (by omega) (hp_Li (z := (0 + (420 * a + (1 * s + (1 * fi + 0))))) l5 rfl (by omega) (hp_Li (z := (0 + (1 * x + 0))) l6 rfl (by omega) hp_Ln))))))) (hp_Si (z := (0 + (1 * y + 0))) rfl (by omega) trivial) ?_ ?_
  · intro p_9 hp ys l' st' h' hys a1_9 a2 a3 gZ gL gS
    cases hp
  · intro p_9 hp ys v_9 h' hys a1_9 a2 a3 gZ gS
    rcases List.mem_cons.mp hp with rfl | hp
    · obtain rfl := hp_y0 hys
      cases v_9 with
      | none => cases gS
      | some wz =>
        obtain ⟨y0, t0, s0_9, q0, -⟩ := hp_gSi (z := (0 + 0)) gS rfl
        cases s0_9
        exact r0 h' y0 (by omega) a1_9 a2 a3
    cases hp
theorem im4y_k : hp_chk 329 85 7 [(0, 0, 1199), (1, 0, 29), (2, 0, 19), (3, 0, 200), (4, 0, 401), (5, 0, 200000000), (6, 0, 200000000)] [((-1), [(5, (-1)), (6, 1)])] [(0, .inr (.inr (.inl (some 94)))), (1, .inl (0, [(0, 1)])), (2, .inl (0, [(2, 1)])), (3, .inl (0, [(3, 1)])), (4, .inl (0, [(1, 1)])), (5, .inl (0, [(1, 420), (2, 1), (4, 1)])), (6, .inl (0, [(5, 1)]))] [.inl (0, [(6, 1)])] [(25344, (0, [(1, 420), (2, 1), (4, 1)]), (2, []))] [] 2 [] [([], 7, [(0, 0, 1199), (1, 0, 29), (2, 0, 19), (3, 0, 200), (4, 0, 401), (5, 0, 200000000), (6, 0, 200000000)], [], [], [.inl (1, [])], [])] = true := by decide +kernel
theorem im4y {cst : am_K} {strs : List Nat} {Φ : am_Q → Prop} {D : Nat} {M : am_M} {h : am_H} {l : am_L} (c : hp_C cst strs D) (hM : m_P[329]? = some M) (hD : (2 : Int) ≤ (D : Int) + 1) (hy : ly_hy m_tt ly_TH h) (cc a s w fi x y : Int) (x0 : Int32) (hx0 : x0.toInt = (y)) (b0 : 0 ≤ cc) (t0 : cc ≤ 1199) (b1 : 0 ≤ a) (t1 : a ≤ 29) (b2 : 0 ≤ s) (t2 : s ≤ 19) (b3 : 0 ≤ w) (t3 : w ≤ 200) (b4 : 0 ≤ fi) (t4 : fi ≤ 401) (b5 : 0 ≤ x) (t5 : x ≤ 200000000) (b6 : 0 ≤ y) (t6 : y ≤ 200000000) (f0 : 0 ≤ (y - x - 1)) (k0 : ly_hv cst h 25344 (420 * a + fi + s) = some 2) (l0 : hp_a l 0 94) (l1 : hp_i l 1 (cc)) (l2 : hp_i l 2 (s)) (l3 : hp_i l 3 (w)) (l4 : hp_i l 4 (a)) (l5 : hp_i l 5 (420 * a + fi + s)) (l6 : hp_i l 6 (x)) (r0 : ∀ (h' : am_H) (y0 : Int32), y0.toInt = 1 → ly_hy m_tt ly_TH h' → ly_fr cst [] h h' → h.length ≤ h'.length → Φ (some (.int y0), h', 0, 0)) : hp_F cst strs Φ D M 85 l [.int x0] h := by
  refine hp_arc c hM im4y_k hD [cc, a, s, w, fi, x, y] rfl hy (hp_Bc (z := cc) rfl b0 t0 (hp_Bc (z := a) rfl b1 t1 (hp_Bc (z := s) rfl b2 t2 (hp_Bc (z := w) rfl b3 t3 (hp_Bc (z := fi) rfl b4 t4 (hp_Bc (z := x) rfl b5 t5 (hp_Bc (z := y) rfl b6 t6 hp_Bn))))))) (hp_Fc (z := ((-1) + ((-1) * x + (1 * y + 0)))) rfl (by omega) hp_Fn) (hp_Kc (zi := (0 + (420 * a + (1 * s + (1 * fi + 0))))) (zv := (2 + 0)) k0 rfl rfl (by omega) (by omega) hp_Kn) (hp_La l0 (hp_Li (z := (0 + (1 * cc + 0))) l1 rfl (by omega) (hp_Li (z := (0 + (1 * s + 0))) l2 rfl (by omega) (hp_Li (z := (0 + (1 * w + 0))) l3 rfl (by omega) (hp_Li (z := (0 + (1 * a + 0))) l4 rfl (by omega) (hp_Li (z := (0 + (420 * a + (1 * s + (1 * fi + 0))))) l5 rfl (by omega) (hp_Li (z := (0 + (1 * x + 0))) l6 rfl (by omega) hp_Ln))))))) (hp_Si (z := (0 + (1 * y + 0))) rfl (by omega) trivial) ?_ ?_
  · intro p_9 hp ys l' st' h' hys a1_9 a2 a3 gZ gL gS
    cases hp
  · intro p_9 hp ys v_9 h' hys a1_9 a2 a3 gZ gS
    rcases List.mem_cons.mp hp with rfl | hp
    · obtain rfl := hp_y0 hys
      cases v_9 with
      | none => cases gS
      | some wz =>
        obtain ⟨y0, t0, s0_9, q0, -⟩ := hp_gSi (z := (1 + 0)) gS rfl
        cases s0_9
        exact r0 h' y0 (by omega) a1_9 a2 a3
    cases hp
theorem im4n_k : hp_chk 329 85 7 [(0, 0, 1199), (1, 0, 29), (2, 0, 19), (3, 0, 200), (4, 0, 401), (5, 0, 200000000), (6, 0, 200000000)] [(0, [(5, 1), (6, (-1))])] [(0, .inr (.inr (.inl (some 94)))), (1, .inl (0, [(0, 1)])), (2, .inl (0, [(2, 1)])), (3, .inl (0, [(3, 1)])), (4, .inl (0, [(1, 1)])), (5, .inl (0, [(1, 420), (2, 1), (4, 1)])), (6, .inl (0, [(5, 1)]))] [.inl (0, [(6, 1)])] [(25344, (0, [(1, 420), (2, 1), (4, 1)]), (2, []))] [] 2 [] [([], 7, [(0, 0, 1199), (1, 0, 29), (2, 0, 19), (3, 0, 200), (4, 0, 401), (5, 0, 200000000), (6, 0, 200000000)], [], [], [.inl (0, [])], [])] = true := by decide +kernel
theorem im4n {cst : am_K} {strs : List Nat} {Φ : am_Q → Prop} {D : Nat} {M : am_M} {h : am_H} {l : am_L} (c : hp_C cst strs D) (hM : m_P[329]? = some M) (hD : (2 : Int) ≤ (D : Int) + 1) (hy : ly_hy m_tt ly_TH h) (cc a s w fi x y : Int) (x0 : Int32) (hx0 : x0.toInt = (y)) (b0 : 0 ≤ cc) (t0 : cc ≤ 1199) (b1 : 0 ≤ a) (t1 : a ≤ 29) (b2 : 0 ≤ s) (t2 : s ≤ 19) (b3 : 0 ≤ w) (t3 : w ≤ 200) (b4 : 0 ≤ fi) (t4 : fi ≤ 401) (b5 : 0 ≤ x) (t5 : x ≤ 200000000) (b6 : 0 ≤ y) (t6 : y ≤ 200000000) (f0 : 0 ≤ (x - y)) (k0 : ly_hv cst h 25344 (420 * a + fi + s) = some 2) (l0 : hp_a l 0 94) (l1 : hp_i l 1 (cc)) (l2 : hp_i l 2 (s)) (l3 : hp_i l 3 (w)) (l4 : hp_i l 4 (a)) (l5 : hp_i l 5 (420 * a + fi + s)) (l6 : hp_i l 6 (x)) (r0 : ∀ (h' : am_H) (y0 : Int32), y0.toInt = 0 → ly_hy m_tt ly_TH h' → ly_fr cst [] h h' → h.length ≤ h'.length → Φ (some (.int y0), h', 0, 0)) : hp_F cst strs Φ D M 85 l [.int x0] h := by
  refine hp_arc c hM im4n_k hD [cc, a, s, w, fi, x, y] rfl hy (hp_Bc (z := cc) rfl b0 t0 (hp_Bc (z := a) rfl b1 t1 (hp_Bc (z := s) rfl b2 t2 (hp_Bc (z := w) rfl b3 t3 (hp_Bc (z := fi) rfl b4 t4 (hp_Bc (z := x) rfl b5 t5 (hp_Bc (z := y) rfl b6 t6 hp_Bn))))))) (hp_Fc (z := (0 + (1 * x + ((-1) * y + 0)))) rfl (by omega) hp_Fn) (hp_Kc (zi := (0 + (420 * a + (1 * s + (1 * fi + 0))))) (zv := (2 + 0)) k0 rfl rfl (by omega) (by omega) hp_Kn) (hp_La l0 (hp_Li (z := (0 + (1 * cc + 0))) l1 rfl (by omega) (hp_Li (z := (0 + (1 * s + 0))) l2 rfl (by omega) (hp_Li (z := (0 + (1 * w + 0))) l3 rfl (by omega) (hp_Li (z := (0 + (1 * a + 0))) l4 rfl (by omega) (hp_Li (z := (0 + (420 * a + (1 * s + (1 * fi + 0))))) l5 rfl (by omega) (hp_Li (z := (0 + (1 * x + 0))) l6 rfl (by omega) hp_Ln))))))) (hp_Si (z := (0 + (1 * y + 0))) rfl (by omega) trivial) ?_ ?_
  · intro p_9 hp ys l' st' h' hys a1_9 a2 a3 gZ gL gS
    cases hp
  · intro p_9 hp ys v_9 h' hys a1_9 a2 a3 gZ gS
    rcases List.mem_cons.mp hp with rfl | hp
    · obtain rfl := hp_y0 hys
      cases v_9 with
      | none => cases gS
      | some wz =>
        obtain ⟨y0, t0, s0_9, q0, -⟩ := hp_gSi (z := (0 + 0)) gS rfl
        cases s0_9
        exact r0 h' y0 (by omega) a1_9 a2 a3
    cases hp
theorem im5y_k : hp_chk 329 85 6 [(0, 0, 1199), (1, 0, 29), (2, 0, 19), (3, 0, 200), (4, 0, 401), (5, 0, 200000000)] [] [(0, .inr (.inr (.inl (some 94)))), (1, .inl (0, [(0, 1)])), (2, .inl (0, [(2, 1)])), (3, .inl (0, [(3, 1)])), (4, .inl (0, [(1, 1)])), (5, .inl (0, [(1, 420), (2, 1), (4, 1)])), (6, .inl (0, [(5, 1)]))] [.inl (0, [(5, 1)])] [(25344, (0, [(1, 420), (2, 1), (4, 1)]), (3, []))] [] 2 [] [([], 6, [(0, 0, 1199), (1, 0, 29), (2, 0, 19), (3, 0, 200), (4, 0, 401), (5, 0, 200000000)], [], [], [.inl (1, [])], [])] = true := by decide +kernel
theorem im5y {cst : am_K} {strs : List Nat} {Φ : am_Q → Prop} {D : Nat} {M : am_M} {h : am_H} {l : am_L} (c : hp_C cst strs D) (hM : m_P[329]? = some M) (hD : (2 : Int) ≤ (D : Int) + 1) (hy : ly_hy m_tt ly_TH h) (cc a s w fi x : Int) (x0 : Int32) (hx0 : x0.toInt = (x)) (b0 : 0 ≤ cc) (t0 : cc ≤ 1199) (b1 : 0 ≤ a) (t1 : a ≤ 29) (b2 : 0 ≤ s) (t2 : s ≤ 19) (b3 : 0 ≤ w) (t3 : w ≤ 200) (b4 : 0 ≤ fi) (t4 : fi ≤ 401) (b5 : 0 ≤ x) (t5 : x ≤ 200000000) (k0 : ly_hv cst h 25344 (420 * a + fi + s) = some 3) (l0 : hp_a l 0 94) (l1 : hp_i l 1 (cc)) (l2 : hp_i l 2 (s)) (l3 : hp_i l 3 (w)) (l4 : hp_i l 4 (a)) (l5 : hp_i l 5 (420 * a + fi + s)) (l6 : hp_i l 6 (x)) (r0 : ∀ (h' : am_H) (y0 : Int32), y0.toInt = 1 → ly_hy m_tt ly_TH h' → ly_fr cst [] h h' → h.length ≤ h'.length → Φ (some (.int y0), h', 0, 0)) : hp_F cst strs Φ D M 85 l [.int x0] h := by
  refine hp_arc c hM im5y_k hD [cc, a, s, w, fi, x] rfl hy (hp_Bc (z := cc) rfl b0 t0 (hp_Bc (z := a) rfl b1 t1 (hp_Bc (z := s) rfl b2 t2 (hp_Bc (z := w) rfl b3 t3 (hp_Bc (z := fi) rfl b4 t4 (hp_Bc (z := x) rfl b5 t5 hp_Bn)))))) hp_Fn (hp_Kc (zi := (0 + (420 * a + (1 * s + (1 * fi + 0))))) (zv := (3 + 0)) k0 rfl rfl (by omega) (by omega) hp_Kn) (hp_La l0 (hp_Li (z := (0 + (1 * cc + 0))) l1 rfl (by omega) (hp_Li (z := (0 + (1 * s + 0))) l2 rfl (by omega) (hp_Li (z := (0 + (1 * w + 0))) l3 rfl (by omega) (hp_Li (z := (0 + (1 * a + 0))) l4 rfl (by omega) (hp_Li (z := (0 + (420 * a + (1 * s + (1 * fi + 0))))) l5 rfl (by omega) (hp_Li (z := (0 + (1 * x + 0))) l6 rfl (by omega) hp_Ln))))))) (hp_Si (z := (0 + (1 * x + 0))) rfl (by omega) trivial) ?_ ?_
  · intro p_9 hp ys l' st' h' hys a1_9 a2 a3 gZ gL gS
    cases hp
  · intro p_9 hp ys v_9 h' hys a1_9 a2 a3 gZ gS
    rcases List.mem_cons.mp hp with rfl | hp
    · obtain rfl := hp_y0 hys
      cases v_9 with
      | none => cases gS
      | some wz =>
        obtain ⟨y0, t0, s0_9, q0, -⟩ := hp_gSi (z := (1 + 0)) gS rfl
        cases s0_9
        exact r0 h' y0 (by omega) a1_9 a2 a3
    cases hp
theorem im5n_k : hp_chk 329 85 7 [(0, 0, 1199), (1, 0, 29), (2, 0, 19), (3, 0, 200), (4, 0, 401), (5, 0, 200000000), (6, 0, 200000000)] [] [(0, .inr (.inr (.inl (some 94)))), (1, .inl (0, [(0, 1)])), (2, .inl (0, [(2, 1)])), (3, .inl (0, [(3, 1)])), (4, .inl (0, [(1, 1)])), (5, .inl (0, [(1, 420), (2, 1), (4, 1)])), (6, .inl (0, [(5, 1)]))] [.inl (0, [(6, 1)])] [(25344, (0, [(1, 420), (2, 1), (4, 1)]), (3, [])), (61000, (0, [(5, 1), (6, (-1))]), (1, []))] [] 2 [] [([], 7, [(0, 0, 1199), (1, 0, 29), (2, 0, 19), (3, 0, 200), (4, 0, 401), (5, 0, 200000000), (6, 0, 200000000)], [], [], [.inl (0, [])], [])] = true := by decide +kernel
theorem im5n {cst : am_K} {strs : List Nat} {Φ : am_Q → Prop} {D : Nat} {M : am_M} {h : am_H} {l : am_L} (c : hp_C cst strs D) (hM : m_P[329]? = some M) (hD : (2 : Int) ≤ (D : Int) + 1) (hy : ly_hy m_tt ly_TH h) (cc a s w fi x y : Int) (x0 : Int32) (hx0 : x0.toInt = (y)) (b0 : 0 ≤ cc) (t0 : cc ≤ 1199) (b1 : 0 ≤ a) (t1 : a ≤ 29) (b2 : 0 ≤ s) (t2 : s ≤ 19) (b3 : 0 ≤ w) (t3 : w ≤ 200) (b4 : 0 ≤ fi) (t4 : fi ≤ 401) (b5 : 0 ≤ x) (t5 : x ≤ 200000000) (b6 : 0 ≤ y) (t6 : y ≤ 200000000) (k0 : ly_hv cst h 25344 (420 * a + fi + s) = some 3) (k1 : ly_hv cst h 61000 (x - y) = some 1) (l0 : hp_a l 0 94) (l1 : hp_i l 1 (cc)) (l2 : hp_i l 2 (s)) (l3 : hp_i l 3 (w)) (l4 : hp_i l 4 (a)) (l5 : hp_i l 5 (420 * a + fi + s)) (l6 : hp_i l 6 (x)) (r0 : ∀ (h' : am_H) (y0 : Int32), y0.toInt = 0 → ly_hy m_tt ly_TH h' → ly_fr cst [] h h' → h.length ≤ h'.length → Φ (some (.int y0), h', 0, 0)) : hp_F cst strs Φ D M 85 l [.int x0] h := by
  refine hp_arc c hM im5n_k hD [cc, a, s, w, fi, x, y] rfl hy (hp_Bc (z := cc) rfl b0 t0 (hp_Bc (z := a) rfl b1 t1 (hp_Bc (z := s) rfl b2 t2 (hp_Bc (z := w) rfl b3 t3 (hp_Bc (z := fi) rfl b4 t4 (hp_Bc (z := x) rfl b5 t5 (hp_Bc (z := y) rfl b6 t6 hp_Bn))))))) hp_Fn (hp_Kc (zi := (0 + (420 * a + (1 * s + (1 * fi + 0))))) (zv := (3 + 0)) k0 rfl rfl (by omega) (by omega) (hp_Kc (zi := (0 + (1 * x + ((-1) * y + 0)))) (zv := (1 + 0)) k1 rfl rfl (by omega) (by omega) hp_Kn)) (hp_La l0 (hp_Li (z := (0 + (1 * cc + 0))) l1 rfl (by omega) (hp_Li (z := (0 + (1 * s + 0))) l2 rfl (by omega) (hp_Li (z := (0 + (1 * w + 0))) l3 rfl (by omega) (hp_Li (z := (0 + (1 * a + 0))) l4 rfl (by omega) (hp_Li (z := (0 + (420 * a + (1 * s + (1 * fi + 0))))) l5 rfl (by omega) (hp_Li (z := (0 + (1 * x + 0))) l6 rfl (by omega) hp_Ln))))))) (hp_Si (z := (0 + (1 * y + 0))) rfl (by omega) trivial) ?_ ?_
  · intro p_9 hp ys l' st' h' hys a1_9 a2 a3 gZ gL gS
    cases hp
  · intro p_9 hp ys v_9 h' hys a1_9 a2 a3 gZ gS
    rcases List.mem_cons.mp hp with rfl | hp
    · obtain rfl := hp_y0 hys
      cases v_9 with
      | none => cases gS
      | some wz =>
        obtain ⟨y0, t0, s0_9, q0, -⟩ := hp_gSi (z := (0 + 0)) gS rfl
        cases s0_9
        exact r0 h' y0 (by omega) a1_9 a2 a3
    cases hp
theorem mo0_k : hp_chk 328 0 2 [(0, 0, 1199), (1, 0, 200)] [] [(0, .inr (.inr (.inl (some 94)))), (1, .inl (0, [(0, 1)])), (2, .inl (0, [(1, 1)]))] [] [] [] 2 [(5, ([], 2, [(0, 0, 1199), (1, 0, 200)], [], [(0, .inr (.inr (.inl (some 94)))), (1, .inl (0, [(0, 1)])), (2, .inl (0, [(1, 1)])), (3, .inl (0, [])), (4, .inl (0, []))], [], []))] [] = true := by decide +kernel
theorem mo0 {cst : am_K} {strs : List Nat} {Φ : am_Q → Prop} {D : Nat} {M : am_M} {h : am_H} {l : am_L} (c : hp_C cst strs D) (hM : m_P[328]? = some M) (hD : (2 : Int) ≤ (D : Int) + 1) (hy : ly_hy m_tt ly_TH h) (cc w : Int) (b0 : 0 ≤ cc) (t0 : cc ≤ 1199) (b1 : 0 ≤ w) (t1 : w ≤ 200) (l0 : hp_a l 0 94) (l1 : hp_i l 1 (cc)) (l2 : hp_i l 2 (w)) (e0 : ∀ (l' : am_L) (h' : am_H), ly_hy m_tt ly_TH h' → ly_fr cst [] h h' → h.length ≤ h'.length → hp_a l' 0 94 → hp_i l' 1 (cc) → hp_i l' 2 (w) → hp_i l' 3 0 → hp_i l' 4 0 → hp_F cst strs Φ D M 5 l' [] h') : hp_F cst strs Φ D M 0 l [] h := by
  refine hp_arc c hM mo0_k hD [cc, w] rfl hy (hp_Bc (z := cc) rfl b0 t0 (hp_Bc (z := w) rfl b1 t1 hp_Bn)) hp_Fn hp_Kn (hp_La l0 (hp_Li (z := (0 + (1 * cc + 0))) l1 rfl (by omega) (hp_Li (z := (0 + (1 * w + 0))) l2 rfl (by omega) hp_Ln))) trivial ?_ ?_
  · intro p_9 hp ys l' st' h' hys a1_9 a2 a3 gZ gL gS
    rcases List.mem_cons.mp hp with rfl | hp
    · obtain rfl := hp_y0 hys
      cases hp_gSn gS
      exact e0 l' h' a1_9 a2 a3 (hp_gLa gL (List.mem_of_getElem? (i := 0) rfl) (by decide)) (hp_gLi (z := (0 + (1 * cc + 0))) gL (List.mem_of_getElem? (i := 1) rfl) rfl (by omega)) (hp_gLi (z := (0 + (1 * w + 0))) gL (List.mem_of_getElem? (i := 2) rfl) rfl (by omega)) (hp_gLi (z := (0 + 0)) gL (List.mem_of_getElem? (i := 3) rfl) rfl (by omega)) (hp_gLi (z := (0 + 0)) gL (List.mem_of_getElem? (i := 4) rfl) rfl (by omega))
    cases hp
  · intro p_9 hp ys v_9 h' hys a1_9 a2 a3 gZ gS
    cases hp
theorem moE_k : hp_chk 328 5 4 [(0, 0, 1199), (1, 0, 200), (2, (-2147483648), 2147483647), (3, 0, 20)] [] [(0, .inr (.inr (.inl (some 94)))), (1, .inl (0, [(0, 1)])), (2, .inl (0, [(1, 1)])), (3, .inl (0, [(2, 1)])), (4, .inl (0, [(3, 1)]))] [] [(24576, (0, [(0, 1)]), (0, [(3, 1)]))] [] 2 [] [([], 4, [(0, 0, 1199), (1, 0, 200), (2, (-2147483648), 2147483647), (3, 0, 20)], [], [], [.inl (0, [(2, 1)])], [])] = true := by decide +kernel
theorem moE {cst : am_K} {strs : List Nat} {Φ : am_Q → Prop} {D : Nat} {M : am_M} {h : am_H} {l : am_L} (c : hp_C cst strs D) (hM : m_P[328]? = some M) (hD : (2 : Int) ≤ (D : Int) + 1) (hy : ly_hy m_tt ly_TH h) (cc w o m : Int) (b0 : 0 ≤ cc) (t0 : cc ≤ 1199) (b1 : 0 ≤ w) (t1 : w ≤ 200) (b2 : (-2147483648) ≤ o) (t2 : o ≤ 2147483647) (b3 : 0 ≤ m) (t3 : m ≤ 20) (k0 : ly_hv cst h 24576 (cc) = some (m)) (l0 : hp_a l 0 94) (l1 : hp_i l 1 (cc)) (l2 : hp_i l 2 (w)) (l3 : hp_i l 3 (o)) (l4 : hp_i l 4 (m)) (r0 : ∀ (h' : am_H) (y0 : Int32), y0.toInt = (o) → ly_hy m_tt ly_TH h' → ly_fr cst [] h h' → h.length ≤ h'.length → Φ (some (.int y0), h', 0, 0)) : hp_F cst strs Φ D M 5 l [] h := by
  refine hp_arc c hM moE_k hD [cc, w, o, m] rfl hy (hp_Bc (z := cc) rfl b0 t0 (hp_Bc (z := w) rfl b1 t1 (hp_Bc (z := o) rfl b2 t2 (hp_Bc (z := m) rfl b3 t3 hp_Bn)))) hp_Fn (hp_Kc (zi := (0 + (1 * cc + 0))) (zv := (0 + (1 * m + 0))) k0 rfl rfl (by omega) (by omega) hp_Kn) (hp_La l0 (hp_Li (z := (0 + (1 * cc + 0))) l1 rfl (by omega) (hp_Li (z := (0 + (1 * w + 0))) l2 rfl (by omega) (hp_Li (z := (0 + (1 * o + 0))) l3 rfl (by omega) (hp_Li (z := (0 + (1 * m + 0))) l4 rfl (by omega) hp_Ln))))) trivial ?_ ?_
  · intro p_9 hp ys l' st' h' hys a1_9 a2 a3 gZ gL gS
    cases hp
  · intro p_9 hp ys v_9 h' hys a1_9 a2 a3 gZ gS
    rcases List.mem_cons.mp hp with rfl | hp
    · obtain rfl := hp_y0 hys
      cases v_9 with
      | none => cases gS
      | some wz =>
        obtain ⟨y0, t0, s0_9, q0, -⟩ := hp_gSi (z := (0 + (1 * o + 0))) gS rfl
        cases s0_9
        exact r0 h' y0 (by omega) a1_9 a2 a3
    cases hp
theorem mo1_k : hp_chk 328 5 5 [(0, 0, 1199), (1, 0, 200), (2, (-2147483648), 2147483647), (3, 0, 20), (4, 0, 20)] [((-1), [(3, (-1)), (4, 1)])] [(0, .inr (.inr (.inl (some 94)))), (1, .inl (0, [(0, 1)])), (2, .inl (0, [(1, 1)])), (3, .inl (0, [(2, 1)])), (4, .inl (0, [(3, 1)]))] [] [(24576, (0, [(0, 1)]), (0, [(4, 1)]))] [] 2 [(21, ([], 5, [(0, 0, 1199), (1, 0, 200), (2, (-2147483648), 2147483647), (3, 0, 20), (4, 0, 20)], [], [(0, .inr (.inr (.inl (some 94)))), (1, .inl (0, [(0, 1)])), (2, .inl (0, [(1, 1)])), (3, .inl (0, [(2, 1)])), (4, .inl (0, [(3, 1)]))], [.inl (0, [(1, 1)]), .inl (0, [(3, 1)]), .inl (0, [(0, 1)]), .inr (.inr (.inl (some 94)))], []))] [] = true := by decide +kernel
theorem mo1 {cst : am_K} {strs : List Nat} {Φ : am_Q → Prop} {D : Nat} {M : am_M} {h : am_H} {l : am_L} (c : hp_C cst strs D) (hM : m_P[328]? = some M) (hD : (2 : Int) ≤ (D : Int) + 1) (hy : ly_hy m_tt ly_TH h) (cc w o t m : Int) (b0 : 0 ≤ cc) (t0 : cc ≤ 1199) (b1 : 0 ≤ w) (t1 : w ≤ 200) (b2 : (-2147483648) ≤ o) (t2 : o ≤ 2147483647) (b3 : 0 ≤ t) (t3 : t ≤ 20) (b4 : 0 ≤ m) (t4 : m ≤ 20) (f0 : 0 ≤ (m - t - 1)) (k0 : ly_hv cst h 24576 (cc) = some (m)) (l0 : hp_a l 0 94) (l1 : hp_i l 1 (cc)) (l2 : hp_i l 2 (w)) (l3 : hp_i l 3 (o)) (l4 : hp_i l 4 (t)) (e0 : ∀ (l' : am_L) (h' : am_H) (y0 : Int32) (y1 : Int32) (y2 : Int32), y0.toInt = (w) → y1.toInt = (t) → y2.toInt = (cc) → ly_hy m_tt ly_TH h' → ly_fr cst [] h h' → h.length ≤ h'.length → hp_a l' 0 94 → hp_i l' 1 (cc) → hp_i l' 2 (w) → hp_i l' 3 (o) → hp_i l' 4 (t) → hp_F cst strs Φ D M 21 l' [.int y0, .int y1, .int y2, .ref 94] h') : hp_F cst strs Φ D M 5 l [] h := by
  refine hp_arc c hM mo1_k hD [cc, w, o, t, m] rfl hy (hp_Bc (z := cc) rfl b0 t0 (hp_Bc (z := w) rfl b1 t1 (hp_Bc (z := o) rfl b2 t2 (hp_Bc (z := t) rfl b3 t3 (hp_Bc (z := m) rfl b4 t4 hp_Bn))))) (hp_Fc (z := ((-1) + ((-1) * t + (1 * m + 0)))) rfl (by omega) hp_Fn) (hp_Kc (zi := (0 + (1 * cc + 0))) (zv := (0 + (1 * m + 0))) k0 rfl rfl (by omega) (by omega) hp_Kn) (hp_La l0 (hp_Li (z := (0 + (1 * cc + 0))) l1 rfl (by omega) (hp_Li (z := (0 + (1 * w + 0))) l2 rfl (by omega) (hp_Li (z := (0 + (1 * o + 0))) l3 rfl (by omega) (hp_Li (z := (0 + (1 * t + 0))) l4 rfl (by omega) hp_Ln))))) trivial ?_ ?_
  · intro p_9 hp ys l' st' h' hys a1_9 a2 a3 gZ gL gS
    rcases List.mem_cons.mp hp with rfl | hp
    · obtain rfl := hp_y0 hys
      obtain ⟨y0, t0, rfl, q0, g0⟩ := hp_gSi (z := (0 + (1 * w + 0))) gS rfl
      obtain ⟨y1, t1, rfl, q1_9, g1⟩ := hp_gSi (z := (0 + (1 * t + 0))) g0 rfl
      obtain ⟨y2, t2, rfl, q2_9, g2⟩ := hp_gSi (z := (0 + (1 * cc + 0))) g1 rfl
      obtain ⟨t3, rfl, g3_9⟩ := hp_gSa g2 (by decide)
      cases hp_gSn g3_9
      exact e0 l' h' y0 y1 y2 (by omega) (by omega) (by omega) a1_9 a2 a3 (hp_gLa gL (List.mem_of_getElem? (i := 0) rfl) (by decide)) (hp_gLi (z := (0 + (1 * cc + 0))) gL (List.mem_of_getElem? (i := 1) rfl) rfl (by omega)) (hp_gLi (z := (0 + (1 * w + 0))) gL (List.mem_of_getElem? (i := 2) rfl) rfl (by omega)) (hp_gLi (z := (0 + (1 * o + 0))) gL (List.mem_of_getElem? (i := 3) rfl) rfl (by omega)) (hp_gLi (z := (0 + (1 * t + 0))) gL (List.mem_of_getElem? (i := 4) rfl) rfl (by omega))
    cases hp
  · intro p_9 hp ys v_9 h' hys a1_9 a2 a3 gZ gS
    cases hp
theorem mo2_k : hp_chk 328 24 4 [(0, 0, 1199), (1, 0, 200), (2, (-2147483648), 2147483647), (3, 0, 19)] [] [(0, .inr (.inr (.inl (some 94)))), (1, .inl (0, [(0, 1)])), (2, .inl (0, [(1, 1)])), (3, .inl (0, [(2, 1)])), (4, .inl (0, [(3, 1)]))] [.inl (0, [])] [] [] 2 [(5, ([], 4, [(0, 0, 1199), (1, 0, 200), (2, (-2147483648), 2147483647), (3, 0, 19)], [], [(0, .inr (.inr (.inl (some 94)))), (1, .inl (0, [(0, 1)])), (2, .inl (0, [(1, 1)])), (3, .inl (0, [(2, 1)])), (4, .inl (1, [(3, 1)]))], [], []))] [] = true := by decide +kernel
theorem mo2 {cst : am_K} {strs : List Nat} {Φ : am_Q → Prop} {D : Nat} {M : am_M} {h : am_H} {l : am_L} (c : hp_C cst strs D) (hM : m_P[328]? = some M) (hD : (2 : Int) ≤ (D : Int) + 1) (hy : ly_hy m_tt ly_TH h) (cc w o t : Int) (x0 : Int32) (hx0 : x0.toInt = 0) (b0 : 0 ≤ cc) (t0 : cc ≤ 1199) (b1 : 0 ≤ w) (t1 : w ≤ 200) (b2 : (-2147483648) ≤ o) (t2 : o ≤ 2147483647) (b3 : 0 ≤ t) (t3 : t ≤ 19) (l0 : hp_a l 0 94) (l1 : hp_i l 1 (cc)) (l2 : hp_i l 2 (w)) (l3 : hp_i l 3 (o)) (l4 : hp_i l 4 (t)) (e0 : ∀ (l' : am_L) (h' : am_H), ly_hy m_tt ly_TH h' → ly_fr cst [] h h' → h.length ≤ h'.length → hp_a l' 0 94 → hp_i l' 1 (cc) → hp_i l' 2 (w) → hp_i l' 3 (o) → hp_i l' 4 (t + 1) → hp_F cst strs Φ D M 5 l' [] h') : hp_F cst strs Φ D M 24 l [.int x0] h := by
  refine hp_arc c hM mo2_k hD [cc, w, o, t] rfl hy (hp_Bc (z := cc) rfl b0 t0 (hp_Bc (z := w) rfl b1 t1 (hp_Bc (z := o) rfl b2 t2 (hp_Bc (z := t) rfl b3 t3 hp_Bn)))) hp_Fn hp_Kn (hp_La l0 (hp_Li (z := (0 + (1 * cc + 0))) l1 rfl (by omega) (hp_Li (z := (0 + (1 * w + 0))) l2 rfl (by omega) (hp_Li (z := (0 + (1 * o + 0))) l3 rfl (by omega) (hp_Li (z := (0 + (1 * t + 0))) l4 rfl (by omega) hp_Ln))))) (hp_Si (z := (0 + 0)) rfl (by omega) trivial) ?_ ?_
  · intro p_9 hp ys l' st' h' hys a1_9 a2 a3 gZ gL gS
    rcases List.mem_cons.mp hp with rfl | hp
    · obtain rfl := hp_y0 hys
      cases hp_gSn gS
      exact e0 l' h' a1_9 a2 a3 (hp_gLa gL (List.mem_of_getElem? (i := 0) rfl) (by decide)) (hp_gLi (z := (0 + (1 * cc + 0))) gL (List.mem_of_getElem? (i := 1) rfl) rfl (by omega)) (hp_gLi (z := (0 + (1 * w + 0))) gL (List.mem_of_getElem? (i := 2) rfl) rfl (by omega)) (hp_gLi (z := (0 + (1 * o + 0))) gL (List.mem_of_getElem? (i := 3) rfl) rfl (by omega)) (hp_gLi (z := (1 + (1 * t + 0))) gL (List.mem_of_getElem? (i := 4) rfl) rfl (by omega))
    cases hp
  · intro p_9 hp ys v_9 h' hys a1_9 a2 a3 gZ gS
    cases hp
theorem mo3_k : hp_chk 328 24 4 [(0, 0, 1199), (1, 0, 200), (2, (-2147483648), 2147483647), (3, 0, 19)] [] [(0, .inr (.inr (.inl (some 94)))), (1, .inl (0, [(0, 1)])), (2, .inl (0, [(1, 1)])), (3, .inl (0, [(2, 1)])), (4, .inl (0, [(3, 1)]))] [.inl (1, [])] [] [] 2 [(31, ([], 4, [(0, 0, 1199), (1, 0, 200), (2, (-2147483648), 2147483647), (3, 0, 19)], [], [(0, .inr (.inr (.inl (some 94)))), (1, .inl (0, [(0, 1)])), (2, .inl (0, [(1, 1)])), (3, .inl (0, [(2, 1)])), (4, .inl (0, [(3, 1)]))], [.inl (0, [(3, 1)]), .inl (1, []), .inl (0, [(2, 1)])], []))] [] = true := by decide +kernel
theorem mo3 {cst : am_K} {strs : List Nat} {Φ : am_Q → Prop} {D : Nat} {M : am_M} {h : am_H} {l : am_L} (c : hp_C cst strs D) (hM : m_P[328]? = some M) (hD : (2 : Int) ≤ (D : Int) + 1) (hy : ly_hy m_tt ly_TH h) (cc w o t : Int) (x0 : Int32) (hx0 : x0.toInt = 1) (b0 : 0 ≤ cc) (t0 : cc ≤ 1199) (b1 : 0 ≤ w) (t1 : w ≤ 200) (b2 : (-2147483648) ≤ o) (t2 : o ≤ 2147483647) (b3 : 0 ≤ t) (t3 : t ≤ 19) (l0 : hp_a l 0 94) (l1 : hp_i l 1 (cc)) (l2 : hp_i l 2 (w)) (l3 : hp_i l 3 (o)) (l4 : hp_i l 4 (t)) (e0 : ∀ (l' : am_L) (h' : am_H) (y0 : Int32) (y1 : Int32) (y2 : Int32), y0.toInt = (t) → y1.toInt = 1 → y2.toInt = (o) → ly_hy m_tt ly_TH h' → ly_fr cst [] h h' → h.length ≤ h'.length → hp_a l' 0 94 → hp_i l' 1 (cc) → hp_i l' 2 (w) → hp_i l' 3 (o) → hp_i l' 4 (t) → hp_F cst strs Φ D M 31 l' [.int y0, .int y1, .int y2] h') : hp_F cst strs Φ D M 24 l [.int x0] h := by
  refine hp_arc c hM mo3_k hD [cc, w, o, t] rfl hy (hp_Bc (z := cc) rfl b0 t0 (hp_Bc (z := w) rfl b1 t1 (hp_Bc (z := o) rfl b2 t2 (hp_Bc (z := t) rfl b3 t3 hp_Bn)))) hp_Fn hp_Kn (hp_La l0 (hp_Li (z := (0 + (1 * cc + 0))) l1 rfl (by omega) (hp_Li (z := (0 + (1 * w + 0))) l2 rfl (by omega) (hp_Li (z := (0 + (1 * o + 0))) l3 rfl (by omega) (hp_Li (z := (0 + (1 * t + 0))) l4 rfl (by omega) hp_Ln))))) (hp_Si (z := (1 + 0)) rfl (by omega) trivial) ?_ ?_
  · intro p_9 hp ys l' st' h' hys a1_9 a2 a3 gZ gL gS
    rcases List.mem_cons.mp hp with rfl | hp
    · obtain rfl := hp_y0 hys
      obtain ⟨y0, t0, rfl, q0, g0⟩ := hp_gSi (z := (0 + (1 * t + 0))) gS rfl
      obtain ⟨y1, t1, rfl, q1_9, g1⟩ := hp_gSi (z := (1 + 0)) g0 rfl
      obtain ⟨y2, t2, rfl, q2_9, g2⟩ := hp_gSi (z := (0 + (1 * o + 0))) g1 rfl
      cases hp_gSn g2
      exact e0 l' h' y0 y1 y2 (by omega) (by omega) (by omega) a1_9 a2 a3 (hp_gLa gL (List.mem_of_getElem? (i := 0) rfl) (by decide)) (hp_gLi (z := (0 + (1 * cc + 0))) gL (List.mem_of_getElem? (i := 1) rfl) rfl (by omega)) (hp_gLi (z := (0 + (1 * w + 0))) gL (List.mem_of_getElem? (i := 2) rfl) rfl (by omega)) (hp_gLi (z := (0 + (1 * o + 0))) gL (List.mem_of_getElem? (i := 3) rfl) rfl (by omega)) (hp_gLi (z := (0 + (1 * t + 0))) gL (List.mem_of_getElem? (i := 4) rfl) rfl (by omega))
    cases hp
  · intro p_9 hp ys v_9 h' hys a1_9 a2 a3 gZ gS
    cases hp
theorem mo4_k : hp_chk 328 33 5 [(0, 0, 1199), (1, 0, 200), (2, (-2147483648), 2147483647), (3, 0, 19), (4, (-2147483648), 2147483647)] [] [(0, .inr (.inr (.inl (some 94)))), (1, .inl (0, [(0, 1)])), (2, .inl (0, [(1, 1)])), (3, .inl (0, [(2, 1)])), (4, .inl (0, [(3, 1)]))] [.inl (0, [(4, 1)])] [] [] 2 [(5, ([], 5, [(0, 0, 1199), (1, 0, 200), (2, (-2147483648), 2147483647), (3, 0, 19), (4, (-2147483648), 2147483647)], [], [(0, .inr (.inr (.inl (some 94)))), (1, .inl (0, [(0, 1)])), (2, .inl (0, [(1, 1)])), (3, .inl (0, [(4, 1)])), (4, .inl (1, [(3, 1)]))], [], []))] [] = true := by decide +kernel
theorem mo4 {cst : am_K} {strs : List Nat} {Φ : am_Q → Prop} {D : Nat} {M : am_M} {h : am_H} {l : am_L} (c : hp_C cst strs D) (hM : m_P[328]? = some M) (hD : (2 : Int) ≤ (D : Int) + 1) (hy : ly_hy m_tt ly_TH h) (cc w o t d : Int) (x0 : Int32) (hx0 : x0.toInt = (d)) (b0 : 0 ≤ cc) (t0 : cc ≤ 1199) (b1 : 0 ≤ w) (t1 : w ≤ 200) (b2 : (-2147483648) ≤ o) (t2 : o ≤ 2147483647) (b3 : 0 ≤ t) (t3 : t ≤ 19) (b4 : (-2147483648) ≤ d) (t4 : d ≤ 2147483647) (l0 : hp_a l 0 94) (l1 : hp_i l 1 (cc)) (l2 : hp_i l 2 (w)) (l3 : hp_i l 3 (o)) (l4 : hp_i l 4 (t)) (e0 : ∀ (l' : am_L) (h' : am_H), ly_hy m_tt ly_TH h' → ly_fr cst [] h h' → h.length ≤ h'.length → hp_a l' 0 94 → hp_i l' 1 (cc) → hp_i l' 2 (w) → hp_i l' 3 (d) → hp_i l' 4 (t + 1) → hp_F cst strs Φ D M 5 l' [] h') : hp_F cst strs Φ D M 33 l [.int x0] h := by
  refine hp_arc c hM mo4_k hD [cc, w, o, t, d] rfl hy (hp_Bc (z := cc) rfl b0 t0 (hp_Bc (z := w) rfl b1 t1 (hp_Bc (z := o) rfl b2 t2 (hp_Bc (z := t) rfl b3 t3 (hp_Bc (z := d) rfl b4 t4 hp_Bn))))) hp_Fn hp_Kn (hp_La l0 (hp_Li (z := (0 + (1 * cc + 0))) l1 rfl (by omega) (hp_Li (z := (0 + (1 * w + 0))) l2 rfl (by omega) (hp_Li (z := (0 + (1 * o + 0))) l3 rfl (by omega) (hp_Li (z := (0 + (1 * t + 0))) l4 rfl (by omega) hp_Ln))))) (hp_Si (z := (0 + (1 * d + 0))) rfl (by omega) trivial) ?_ ?_
  · intro p_9 hp ys l' st' h' hys a1_9 a2 a3 gZ gL gS
    rcases List.mem_cons.mp hp with rfl | hp
    · obtain rfl := hp_y0 hys
      cases hp_gSn gS
      exact e0 l' h' a1_9 a2 a3 (hp_gLa gL (List.mem_of_getElem? (i := 0) rfl) (by decide)) (hp_gLi (z := (0 + (1 * cc + 0))) gL (List.mem_of_getElem? (i := 1) rfl) rfl (by omega)) (hp_gLi (z := (0 + (1 * w + 0))) gL (List.mem_of_getElem? (i := 2) rfl) rfl (by omega)) (hp_gLi (z := (0 + (1 * d + 0))) gL (List.mem_of_getElem? (i := 3) rfl) rfl (by omega)) (hp_gLi (z := (1 + (1 * t + 0))) gL (List.mem_of_getElem? (i := 4) rfl) rfl (by omega))
    cases hp
  · intro p_9 hp ys v_9 h' hys a1_9 a2 a3 gZ gS
    cases hp
/-- all values of a name -/
def lka : List Int → List Int → Int → Int
  | n :: ns, v :: vs, x => (if n = x then v else 0) + lka ns vs x
  | _, _, _ => 0
/-- names that are told once -/
def ndl : List Int → Prop
  | [] => True
  | n :: ns => (n ∉ ns) ∧ ndl ns
set_option maxRecDepth 8000 in
theorem lka_no : ∀ (ns vs : List Int) (x : Int), x ∉ ns → lka ns vs x = 0
  | [], vs, x, _ => by cases vs <;> rfl
  | n :: ns, [], x, _ => rfl
  | n :: ns, v :: vs, x, h => by
    show (if n = x then v else 0) + lka ns vs x = 0
    rw [if_neg (fun e => h (by rw [e]; exact List.mem_cons_self)), lka_no ns vs x (fun m => h (List.mem_cons_of_mem _ m)), Int.zero_add]
set_option maxRecDepth 8000 in
theorem lka_u : ∀ (ns vs : List Int) (x : Int), ndl ns → lka ns vs x = lkv ns vs x
  | [], vs, x, _ => by cases vs <;> rfl
  | n :: ns, [], x, _ => rfl
  | n :: ns, v :: vs, x, h => by
    show (if n = x then v else 0) + lka ns vs x = if n = x then v else lkv ns vs x
    by_cases e : n = x
    · rw [if_pos e, if_pos e, lka_no ns vs x (by rw [← e]; exact h.1), Int.add_zero]
    · rw [if_neg e, if_neg e, lka_u ns vs x h.2, Int.zero_add]
set_option maxRecDepth 8000 in
theorem ndl_ap : ∀ (ns : List Int) (v : Int), ndl ns → v ∉ ns → ndl (ns ++ [v])
  | [], v, _, _ => ⟨fun h => (by cases h), trivial⟩
  | n :: ns, v, h, hv => ⟨fun m => by
      rcases List.mem_append.mp m with m | m
      · exact h.1 m
      · exact hv (by rw [← List.mem_singleton.mp m]; exact List.mem_cons_self), ndl_ap ns v h.2 (fun m => hv (List.mem_cons_of_mem _ m))⟩
set_option maxRecDepth 8000 in
theorem fa_nd {kd vl : Int → Int} {t : Nat} (vb : vB kd vl t) : ∀ (F_9 a_9 : Nat) (ns vs : List Int), ndl ns → (∀ v_9 ∈ vs, 0 ≤ v_9 ∧ v_9 ≤ 9999) → ∀ ms ws_9, fa kd vl t F_9 a_9 ns vs = some (ms, ws_9) → ndl ms ∧ ∀ v_9 ∈ ws_9, 0 ≤ v_9 ∧ v_9 ≤ 9999
  | 0, _, _, _, _, _, _, _, h_9 => by cases h_9
  | F_9 + 1, a_9, ns, vs, hn, hv, ms, ws_9, h_9 => by
    rw [fa] at h_9
    split at h_9
    · cases h_9
      exact ⟨hn, hv⟩
    · split at h_9
      · cases h_9
      · rename_i q
        have nm : vl (a_9 : Int) ∉ ns := fun m_9 => q (Or.inr (Or.inr m_9))
        split at h_9
        · split at h_9
          · cases h_9
          · rename_i q2_9
            have k2_9 : fk kd t (a_9 + 2) = 2 := by
              by_cases z_9 : fk kd t (a_9 + 2) = 2
              · exact z_9
              · exact absurd (Or.inl z_9) q2_9
            have hlt : a_9 + 2 < t := fk_in (kd := kd) (by omega)
            have e_9 := fk_lt (kd := kd) hlt
            have b_9 := (vb (a_9 + 2) hlt).2 (by omega)
            exact fa_nd vb F_9 _ _ _ (ndl_ap ns _ hn nm) (fun v_9 m_9 => by
              rcases List.mem_append.mp m_9 with m_9 | m_9
              · exact hv v_9 m_9
              · rw [List.mem_singleton.mp m_9]
                exact b_9) _ _ h_9
        · split at h_9
          · cases h_9
          · exact fa_nd vb F_9 _ _ _ (ndl_ap ns _ hn nm) (fun v_9 m_9 => by
              rcases List.mem_append.mp m_9 with m_9 | m_9
              · exact hv v_9 m_9
              · rw [List.mem_singleton.mp m_9]
                decide) _ _ h_9
set_option maxRecDepth 8000 in
theorem lka_b : ∀ (ns vs : List Int) (x : Int), (∀ v ∈ vs, 0 ≤ v ∧ v ≤ 9999) → 0 ≤ lka ns vs x
  | [], vs, x, _ => by
    have e : lka [] vs x = 0 := by cases vs <;> rfl
    omega
  | n :: ns, [], x, _ => by
    have e : lka (n :: ns) [] x = 0 := rfl
    omega
  | n :: ns, v :: vs, x, h => by
    show 0 ≤ (if n = x then v else 0) + lka ns vs x
    have b := lka_b ns vs x (fun w hw => h w (List.mem_cons_of_mem _ hw))
    have c := h v List.mem_cons_self
    by_cases z : n = x
    · rw [if_pos z]
      omega
    · rw [if_neg z]
      omega
set_option maxRecDepth 8000 in
theorem lka_t : ∀ (ns vs : List Int) (x : Int), (∀ v ∈ vs, 0 ≤ v ∧ v ≤ 9999) → lka ns vs x ≤ 9999 * (ns.length : Int)
  | [], vs, x, _ => by
    have e : lka [] vs x = 0 := by cases vs <;> rfl
    rw [e]
    exact Int.le_refl 0
  | n :: ns, [], x, _ => by
    have e : lka (n :: ns) [] x = 0 := rfl
    rw [e]
    omega
  | n :: ns, v :: vs, x, h => by
    show (if n = x then v else 0) + lka ns vs x ≤ 9999 * (((ns.length + 1 : Nat)) : Int)
    have b := lka_t ns vs x (fun w hw => h w (List.mem_cons_of_mem _ hw))
    have c := h v List.mem_cons_self
    by_cases z : n = x
    · rw [if_pos z]
      omega
    · rw [if_neg z]
      omega
/-- a row of FACTS of the reference -/
def rG (cst : am_K) (h : am_H) (q : Int) (ns vs : List Int) : Prop := ly_hv cst h 27904 q = some (ns.length : Int) ∧ fn_N cst h 27392 (20 * q) ns ∧ fn_N cst h 27648 (20 * q) vs ∧ vs.length = ns.length ∧ ns.length ≤ 20 ∧ (∀ v ∈ vs, 0 ≤ v ∧ v ≤ 9999) ∧ ndl ns
theorem rG_mv {cst : am_K} {h h' : am_H} {q : Int} {ns vs : List Int} {ms : List Nat} (G : rG cst h q ns vs) (fr : ly_fr cst ms h h') (q1 : ly_has 27904 ms = false) (q2 : ly_has 27392 ms = false) (q3 : ly_has 27648 ms = false) : rG cst h' q ns vs := ⟨fr _ _ _ q1 G.1, fn_mv G.2.1 fr q2, fn_mv G.2.2.1 fr q3, G.2.2.2⟩
set_option maxRecDepth 8000 in
/-- the facts of one term -/
theorem so_in {cst : am_K} {strs : List Nat} {D : Nat} {M : am_M} {h0 : am_H} {Φ : am_Q → Prop} (c : hp_C cst strs D) (hM : m_P[330]? = some M) (hD : 1 ≤ D) {te ma q : Int} (t0 : 0 ≤ te) (m0' : 0 ≤ ma) (m1' : ma ≤ 620) (tm1 : te + ma ≤ 19219) (q0 : 0 ≤ q) (q1 : q ≤ 200) {p : Nat} (pm : (p : Int) < ma) {tw n9 : Int} (kw : ly_hv cst h0 26368 (te + (p : Int)) = some tw) (tw0 : tw ≠ 0) {NN : Nat} (kq : ly_hv cst h0 27904 q = some (NN : Int)) (n20 : NN ≤ 20)
    (kx : ∀ (h_9 : am_H) (l : am_L), ly_hy m_tt ly_TH h_9 → ly_fr cst [] h0 h_9 → hp_a l 0 94 → hp_i l 1 te → hp_i l 2 ma → hp_i l 3 q → hp_i l 4 n9 → hp_i l 5 (te + (p : Int) + 1) → hp_F cst strs Φ D M 6 l [] h_9) :
    ∀ (ns vs : List Int) (h_9 : am_H) (l : am_L) (k_9 : Nat) (n_9 : Int), vs.length = ns.length → k_9 + ns.length = NN → (∀ j_9 (hj : j_9 < ns.length), ly_hv cst h0 27392 (20 * q + ((k_9 + j_9 : Nat) : Int)) = some (ns[j_9])) → (∀ j_9 (hj : j_9 < vs.length), ly_hv cst h0 27648 (20 * q + ((k_9 + j_9 : Nat) : Int)) = some (vs[j_9])) → (∀ v_9 ∈ vs, 0 ≤ v_9 ∧ v_9 ≤ 9999) → n_9 + lka ns vs tw = n9 → 0 ≤ n_9 → n_9 ≤ 220000 * (p : Int) + 9999 + 9999 * (k_9 : Int) → ly_hy m_tt ly_TH h_9 → ly_fr cst [] h0 h_9 → hp_a l 0 94 → hp_i l 1 te → hp_i l 2 ma → hp_i l 3 q → hp_i l 4 n_9 → hp_i l 5 (te + (p : Int)) → hp_i l 6 (k_9 : Int) → hp_F cst strs Φ D M 29 l [] h_9 := by
  intro ns
  induction ns with
  | nil =>
    intro vs h_9 l k_9 n_9 ev_9 ek _ _ _ e9_9 nn nb hy fr_9 l0 l1 l2 l3 l4 l5 l6
    have ek : k_9 = NN := ek
    have e0_9 : lka [] vs tw = 0 := by cases vs <;> rfl
    rw [e0_9, Int.add_zero] at e9_9
    rw [e9_9] at l4
    rw [ek] at l6
    exact soX c hM (by omega) hy te ma q n9 (te + (p : Int)) (NN : Int) t0 (by omega) m0' m1' q0 q1 (by omega) (by omega) (by omega) (by omega) (by omega) (by omega) (by omega) (by omega) (fr_9 _ _ _ rfl kq) l0 l1 l2 l3 l4 l5 l6 (fun l2' h2 u1_9 u2_9 u3 m0_9 m1_9 m2_9 m3_9 m4_9 m5_9 => kx h2 l2' u1_9 (ly_fr_tr fr_9 u2_9) m0_9 m1_9 m2_9 m3_9 m4_9 m5_9)
  | cons x_9 ns ih_9 =>
    intro vs h_9 l k_9 n_9 ev_9 ek r1_9 r2 vb e9_9 nn nb hy fr_9 l0 l1 l2 l3 l4 l5 l6
    cases vs with
    | nil => cases ev_9
    | cons v_9 vs =>
      have ev_9 : vs.length + 1 = ns.length + 1 := ev_9
      have ek : k_9 + (ns.length + 1) = NN := ek
      have k1_9 : ly_hv cst h_9 27392 (20 * q + (k_9 : Int)) = some x_9 := by
        have z_9 := r1_9 0 (Nat.zero_lt_succ _)
        rw [Nat.add_zero] at z_9
        exact fr_9 _ _ _ rfl z_9
      have k2_9 : ly_hv cst h_9 27648 (20 * q + (k_9 : Int)) = some v_9 := by
        have z_9 := r2 0 (Nat.zero_lt_succ _)
        rw [Nat.add_zero] at z_9
        exact fr_9 _ _ _ rfl z_9
      have r1' : ∀ j_9 (hj : j_9 < ns.length), ly_hv cst h0 27392 (20 * q + ((k_9 + 1 + j_9 : Nat) : Int)) = some (ns[j_9]) := fun j_9 hj => by
        have z_9 := r1_9 (j_9 + 1) (Nat.succ_lt_succ hj)
        rw [show k_9 + (j_9 + 1) = k_9 + 1 + j_9 by omega] at z_9
        exact z_9
      have r2' : ∀ j_9 (hj : j_9 < vs.length), ly_hv cst h0 27648 (20 * q + ((k_9 + 1 + j_9 : Nat) : Int)) = some (vs[j_9]) := fun j_9 hj => by
        have z_9 := r2 (j_9 + 1) (Nat.succ_lt_succ hj)
        rw [show k_9 + (j_9 + 1) = k_9 + 1 + j_9 by omega] at z_9
        exact z_9
      have bv_9 := vb v_9 List.mem_cons_self
      have vb' : ∀ y_9 ∈ vs, 0 ≤ y_9 ∧ y_9 ≤ 9999 := fun y_9 hy => vb y_9 (List.mem_cons_of_mem _ hy)
      have nk : (((k_9 + 1 : Nat)) : Int) = (k_9 : Int) + 1 := by omega
      have e9_9 : n_9 + ((if x_9 = tw then v_9 else 0) + lka ns vs tw) = n9 := e9_9
      have kq' := fr_9 _ _ _ rfl kq
      have kw' := fr_9 _ _ _ rfl kw
      obtain ⟨w_9, kw2, w0_9, w1_9⟩ := hp_rowj (cst := cst) (i := te + (p : Int)) hy (show ly_ths ly_TH 103 = some (.inl (.long, 19220, 0, 0)) from rfl) (by omega) (by omega)
      have kw2 : ly_hv cst h_9 26368 (te + (p : Int)) = some w_9 := kw2
      have ew := Option.some.inj (kw'.symm.trans kw2)
      have w0_9 : -9223372036854775808 ≤ w_9 := w0_9
      have w1_9 : w_9 ≤ 9223372036854775807 := w1_9
      by_cases e_9 : x_9 = tw
      · rw [if_pos e_9] at e9_9
        rw [e_9] at k1_9
        exact soH c hM (by omega) hy te ma q n_9 (te + (p : Int)) (k_9 : Int) (NN : Int) tw v_9 t0 (by omega) m0' m1' q0 q1 nn (by omega) (by omega) (by omega) (by omega) (by omega) (by omega) (by omega) (by omega) (by omega) bv_9.1 (by omega) (by omega) (by omega) (by omega) kq' kw' (hp_ne tw0) k1_9 k2_9 l0 l1 l2 l3 l4 l5 l6 (fun l2' h2 u1_9 u2_9 u3 m0_9 m1_9 m2_9 m3_9 m4_9 m5_9 m6_9 => ih_9 vs h2 l2' (k_9 + 1) (n_9 + v_9) (by omega) (by omega) r1' r2' vb' (by omega) (by omega) (by omega) u1_9 (ly_fr_tr fr_9 u2_9) m0_9 m1_9 m2_9 m3_9 m4_9 m5_9 (by rw [nk]; exact m6_9))
      · rw [if_neg e_9] at e9_9
        obtain ⟨y_9, ky, y0, y1⟩ := hp_rowj (cst := cst) (i := 20 * q + (k_9 : Int)) hy (show ly_ths ly_TH 107 = some (.inl (.long, 4020, 0, 0)) from rfl) (by omega) (by omega)
        have ky : ly_hv cst h_9 27392 (20 * q + (k_9 : Int)) = some y_9 := ky
        have ey := Option.some.inj (k1_9.symm.trans ky)
        have y0 : -9223372036854775808 ≤ y_9 := y0
        have y1 : y_9 ≤ 9223372036854775807 := y1
        exact soN c hM (by omega) hy te ma q n_9 (te + (p : Int)) (k_9 : Int) (NN : Int) tw x_9 t0 (by omega) m0' m1' q0 q1 nn (by omega) (by omega) (by omega) (by omega) (by omega) (by omega) (by omega) (by omega) (by omega) (by omega) (by omega) (by omega) (by omega) (by omega) kq' kw' (hp_ne tw0) k1_9 (hp_ne (by omega)) l0 l1 l2 l3 l4 l5 l6 (fun l2' h2 u1_9 u2_9 u3 m0_9 m1_9 m2_9 m3_9 m4_9 m5_9 m6_9 => ih_9 vs h2 l2' (k_9 + 1) n_9 (by omega) (by omega) r1' r2' vb' (by omega) nn (by omega) u1_9 (ly_fr_tr fr_9 u2_9) m0_9 m1_9 m2_9 m3_9 m4_9 m5_9 (by rw [nk]; exact m6_9))
theorem tvl_w {ns vs : List Int} {x : Int} (w : itw x) (nd : ndl ns) : tvl ns vs x = tn x + (if tw x = 0 then 0 else lka ns vs (tw x)) := by
  unfold tvl tn tw
  rcases w with w | w
  · rw [if_pos w, if_neg (show ¬ x < 0 by omega), if_neg (show ¬ x < 0 by omega), if_neg (show ¬ x = 0 by omega), lka_u ns vs x nd, Int.zero_add]
  · rw [if_neg (show ¬ 0 < x by omega), if_pos w.2, if_pos w.2, if_pos rfl, Int.add_zero]
set_option maxRecDepth 8000 in
theorem so_lp {cst : am_K} {strs : List Nat} {D : Nat} {M : am_M} {h0 : am_H} (c : hp_C cst strs D) (hM : m_P[330]? = some M) (hD : 1 ≤ D) {te ma q : Int} (t0 : 0 ≤ te) (m0' : 0 ≤ ma) (m1' : ma ≤ 620) (tm1 : te + ma ≤ 19219) (q0 : 0 ≤ q) (q1 : q ≤ 200) {ns vs : List Int} (G : rG cst h0 q ns vs) {S : Int} :
    ∀ (E_9 : List Int) (h_9 : am_H) (l : am_L) (p_9 : Nat) (n_9 : Int), (p_9 : Int) + (E_9.length : Int) = ma → (∀ i_9 ∈ E_9, itw i_9) → (∀ j_9 (hj : j_9 < E_9.length), ly_hv cst h0 26368 (te + ((p_9 + j_9 : Nat) : Int)) = some (tw (E_9[j_9]))) → (∀ j_9 (hj : j_9 < E_9.length), ly_hv cst h0 26624 (te + ((p_9 + j_9 : Nat) : Int)) = some (tn (E_9[j_9]))) → n_9 + slv ns vs E_9 = S → 0 ≤ n_9 → n_9 ≤ 220000 * (p_9 : Int) → ly_hy m_tt ly_TH h_9 → ly_fr cst [] h0 h_9 → hp_a l 0 94 → hp_i l 1 te → hp_i l 2 ma → hp_i l 3 q → hp_i l 4 n_9 → hp_i l 5 (te + (p_9 : Int)) → hp_F cst strs (fun r_9 : am_Q => ∃ w_9 : Int32, r_9.1 = some (.int w_9) ∧ r_9.2.2.1 = 0 ∧ r_9.2.2.2 = 0 ∧ ly_hy m_tt ly_TH r_9.2.1 ∧ ly_fr cst [] h0 r_9.2.1 ∧ w_9.toInt = S) D M 6 l [] h_9 := by
  intro E_9
  induction E_9 with
  | nil =>
    intro h_9 l p_9 n_9 ep _ _ _ eS nn nb hy fr_9 l0 l1 l2 l3 l4 l5
    have ep : (p_9 : Int) + 0 = ma := ep
    have eS : n_9 + 0 = S := eS
    rw [show te + (p_9 : Int) = te + ma by omega] at l5
    exact soE c hM (by omega) hy te ma q n_9 t0 (by omega) m0' m1' q0 q1 nn (by omega) (by omega) l0 l1 l2 l3 l4 l5 (fun h2 w_9 hw u1_9 u2_9 u3 => ⟨w_9, rfl, rfl, rfl, u1_9, ly_fr_tr fr_9 u2_9, by rw [hw]; omega⟩)
  | cons x_9 E_9 ih_9 =>
    intro h_9 l p_9 n_9 ep wf r1_9 r2 eS nn nb hy fr_9 l0 l1 l2 l3 l4 l5
    have ep : (p_9 : Int) + ((E_9.length : Int) + 1) = ma := by
      rw [List.length_cons] at ep
      omega
    have wx := wf x_9 List.mem_cons_self
    have k1_9 : ly_hv cst h0 26368 (te + (p_9 : Int)) = some (tw x_9) := by
      have z_9 := r1_9 0 (Nat.zero_lt_succ _)
      rw [Nat.add_zero] at z_9
      exact z_9
    have k2_9 : ly_hv cst h0 26624 (te + (p_9 : Int)) = some (tn x_9) := by
      have z_9 := r2 0 (Nat.zero_lt_succ _)
      rw [Nat.add_zero] at z_9
      exact z_9
    have r1' : ∀ j_9 (hj : j_9 < E_9.length), ly_hv cst h0 26368 (te + ((p_9 + 1 + j_9 : Nat) : Int)) = some (tw (E_9[j_9])) := fun j_9 hj => by
      have z_9 := r1_9 (j_9 + 1) (Nat.succ_lt_succ hj)
      rw [show p_9 + (j_9 + 1) = p_9 + 1 + j_9 by omega] at z_9
      exact z_9
    have r2' : ∀ j_9 (hj : j_9 < E_9.length), ly_hv cst h0 26624 (te + ((p_9 + 1 + j_9 : Nat) : Int)) = some (tn (E_9[j_9])) := fun j_9 hj => by
      have z_9 := r2 (j_9 + 1) (Nat.succ_lt_succ hj)
      rw [show p_9 + (j_9 + 1) = p_9 + 1 + j_9 by omega] at z_9
      exact z_9
    have wf' : ∀ i_9 ∈ E_9, itw i_9 := fun i_9 hi_9 => wf i_9 (List.mem_cons_of_mem _ hi_9)
    have eS : n_9 + (tvl ns vs x_9 + slv ns vs E_9) = S := eS
    rw [tvl_w wx G.2.2.2.2.2.2] at eS
    have bt_9 : 0 ≤ tn x_9 ∧ tn x_9 ≤ 9999 := by
      unfold tn
      rcases wx with w_9 | w_9
      · rw [if_neg (by omega)]
        omega
      · rw [if_pos w_9.2]
        omega
    have np : (((p_9 + 1 : Nat)) : Int) = (p_9 : Int) + 1 := by omega
    have pm : (p_9 : Int) < ma := by omega
    have bl := lka_b ns vs (tw x_9) G.2.2.2.2.2.1
    have bu := lka_t ns vs (tw x_9) G.2.2.2.2.2.1
    have n20 := G.2.2.2.2.1
    refine so1 c hM (by omega) hy te ma q n_9 (te + (p_9 : Int)) (tn x_9) t0 (by omega) m0' m1' q0 q1 nn (by omega) (by omega) (by omega) bt_9.1 (by omega) (by omega) (by omega) (fr_9 _ _ _ rfl k2_9) l0 l1 l2 l3 l4 l5 (fun l2' h2 u1_9 u2_9 u3 m0_9 m1_9 m2_9 m3_9 m4_9 m5_9 m6_9 => ?_)
    have F2 : ly_fr cst [] h0 h2 := ly_fr_tr fr_9 u2_9
    have nxt_9 : ∀ (n2_9 : Int), n2_9 + slv ns vs E_9 = S → 0 ≤ n2_9 → n2_9 ≤ 220000 * ((p_9 : Int) + 1) → ∀ (h3 : am_H) (l3' : am_L), ly_hy m_tt ly_TH h3 → ly_fr cst [] h0 h3 → hp_a l3' 0 94 → hp_i l3' 1 te → hp_i l3' 2 ma → hp_i l3' 3 q → hp_i l3' 4 n2_9 → hp_i l3' 5 (te + (p_9 : Int) + 1) → hp_F cst strs (fun r_9 : am_Q => ∃ w_9 : Int32, r_9.1 = some (.int w_9) ∧ r_9.2.2.1 = 0 ∧ r_9.2.2.2 = 0 ∧ ly_hy m_tt ly_TH r_9.2.1 ∧ ly_fr cst [] h0 r_9.2.1 ∧ w_9.toInt = S) D M 6 l3' [] h3 := fun n2_9 e2_9 nn2 nb2 h3 l3' v1_9 v2 o0_9 o1 o2 o3_9 o4_9 o5_9 => ih_9 h3 l3' (p_9 + 1) n2_9 (by omega) wf' r1' r2' e2_9 nn2 (by omega) v1_9 v2 o0_9 o1 o2 o3_9 o4_9 (by rw [np, ← Int.add_assoc]; exact o5_9)
    by_cases z_9 : tw x_9 = 0
    · rw [if_pos z_9, Int.add_zero] at eS
      rw [z_9] at k1_9
      by_cases y_9 : ns.length = 0
      · have kq : ly_hv cst h2 27904 q = some ((0 : Nat) : Int) := by
          rw [← y_9]
          exact F2 _ _ _ rfl G.1
        exact soX c hM (by omega) u1_9 te ma q (n_9 + tn x_9) (te + (p_9 : Int)) 0 t0 (by omega) m0' m1' q0 q1 (by omega) (by omega) (by omega) (by omega) (by omega) (by omega) (by omega) (by omega) kq m0_9 m1_9 m2_9 m3_9 m4_9 m5_9 m6_9 (fun l3' h3 v1_9 v2 v3 o0_9 o1 o2 o3_9 o4_9 o5_9 => nxt_9 (n_9 + tn x_9) (by omega) (by omega) (by omega) h3 l3' v1_9 (ly_fr_tr F2 v2) o0_9 o1 o2 o3_9 o4_9 o5_9)
      · exact soZ c hM (by omega) u1_9 te ma q (n_9 + tn x_9) (te + (p_9 : Int)) 0 (ns.length : Int) t0 (by omega) m0' m1' q0 q1 (by omega) (by omega) (by omega) (by omega) (by omega) (by omega) (by omega) (by omega) (by omega) (by omega) (by omega) (F2 _ _ _ rfl G.1) (F2 _ _ _ rfl k1_9) m0_9 m1_9 m2_9 m3_9 m4_9 m5_9 m6_9 (fun l3' h3 v1_9 v2 v3 o0_9 o1 o2 o3_9 o4_9 o5_9 => nxt_9 (n_9 + tn x_9) (by omega) (by omega) (by omega) h3 l3' v1_9 (ly_fr_tr F2 v2) o0_9 o1 o2 o3_9 o4_9 o5_9)
    · rw [if_neg z_9] at eS
      exact so_in c hM hD t0 m0' m1' tm1 q0 q1 pm (n9 := n_9 + tn x_9 + lka ns vs (tw x_9)) k1_9 z_9 G.1 n20 (nxt_9 (n_9 + tn x_9 + lka ns vs (tw x_9)) (by omega) (by omega) (by omega)) ns vs h2 l2' 0 (n_9 + tn x_9) G.2.2.2.1 (by omega) (fun j_9 hj => by rw [Nat.zero_add]; exact G.2.1 j_9 hj) (fun j_9 hj => by rw [Nat.zero_add]; exact G.2.2.1 j_9 hj) G.2.2.2.2.2.1 rfl (by omega) (by omega) u1_9 F2 m0_9 m1_9 m2_9 m3_9 m4_9 m5_9 m6_9
/-- sumOf -/
theorem so_run {cst : am_K} {strs : List Nat} {D : Nat} {h0 : am_H} (c : hp_C cst strs D) (hD : 1 ≤ D) (hy : ly_hy m_tt ly_TH h0) {te q : Int} (t0 : 0 ≤ te) (q0 : 0 ≤ q) (q1 : q ≤ 200) {ns vs : List Int} (G : rG cst h0 q ns vs) {E : List Int} (e620 : E.length ≤ 620) (tm1 : te + (E.length : Int) ≤ 19219) (wf : ∀ i_9 ∈ E, itw i_9) (r1 : fn_N cst h0 26368 te (E.map tw)) (r2 : fn_N cst h0 26624 te (E.map tn)) {S : Int} (eS : slv ns vs E = S) {xt xm xq : Int32} (et : xt.toInt = te) (em : xm.toInt = (E.length : Int)) (eq : xq.toInt = q) :
    ∃ r_9, am_Run cst m_cl m_tt m_P strs sx_bi (D + 1) 330 [.ref 94, .int xt, .int xm, .int xq] h0 r_9 ∧ (fun r_9 : am_Q => ∃ w_9 : Int32, r_9.1 = some (.int w_9) ∧ r_9.2.2.1 = 0 ∧ r_9.2.2.2 = 0 ∧ ly_hy m_tt ly_TH r_9.2.1 ∧ ly_fr cst [] h0 r_9.2.1 ∧ w_9.toInt = S) r_9 := by
  obtain ⟨M_9, hM_9, hl⟩ := hp_M (mi := 330) (k := 4) (by decide +kernel)
  have go_9 : hp_F cst strs (fun r_9 : am_Q => ∃ w_9 : Int32, r_9.1 = some (.int w_9) ∧ r_9.2.2.1 = 0 ∧ r_9.2.2.2 = 0 ∧ ly_hy m_tt ly_TH r_9.2.1 ∧ ly_fr cst [] h0 r_9.2.1 ∧ w_9.toInt = S) D M_9 0 (lv_args 0 [.ref 94, .int xt, .int xm, .int xq]) [] h0 := so0 c hM_9 (by omega) hy te (E.length : Int) q t0 (by omega) (by omega) (by omega) q0 q1 (by omega) rfl ⟨xt, rfl, et⟩ ⟨xm, rfl, em⟩ ⟨xq, rfl, eq⟩ (fun l1 h1 u1_9 u2_9 u3 m0_9 m1_9 m2_9 m3_9 m4_9 m5_9 => so_lp c hM_9 hD t0 (by omega) (by omega) tm1 q0 q1 G E h1 l1 0 0 (by omega) wf (fun j_9 hj => by
      have z_9 := r1 j_9 (by rw [List.length_map]; exact hj)
      rw [List.getElem_map] at z_9
      rw [Nat.zero_add]
      exact z_9) (fun j_9 hj => by
      have z_9 := r2 j_9 (by rw [List.length_map]; exact hj)
      rw [List.getElem_map] at z_9
      rw [Nat.zero_add]
      exact z_9) (by omega) (by omega) (by omega) u1_9 u2_9 m0_9 m1_9 m2_9 m3_9 m4_9 (by rw [show te + ((0 : Nat) : Int) = te by omega]; exact m5_9))
  obtain ⟨n', r_9, hgo, w_9, r1, r2, r3, r4⟩ := go_9
  simp only [Nat.zero_add] at r2 r3
  exact ⟨r_9, Or.inr ⟨M_9, n', hM_9, hl, hgo⟩, w_9, r1, r2, r3, r4⟩
set_option maxRecDepth 8000 in
theorem qs_at : ∀ (T : List qt_T) (o : Int) (k : Nat) (hk : k < T.length), (qt_s o T)[k]? = some (o + ((qt_g (T.take k)).length : Int))
  | [], o, k, hk => absurd hk (Nat.not_lt_zero _)
  | x :: T, o, 0, hk => by
    show some o = some (o + ((qt_g []).length : Int))
    rw [show ((qt_g []).length : Int) = 0 from rfl, Int.add_zero]
  | x :: T, o, k + 1, hk => by
    show (qt_s (o + (x.2.1.length : Int) + (x.2.2.length : Int)) T)[k]? = some (o + (((x.2.1 ++ x.2.2) ++ qt_g (T.take k)).length : Int))
    rw [qs_at T _ k (Nat.lt_of_succ_lt_succ hk), List.length_append, List.length_append]
    congr 1
    omega
set_option maxRecDepth 8000 in
theorem qg_at : ∀ (T : List qt_T) (k : Nat) (hk : k < T.length) (q : Nat) (hq : q < ((T[k]).2.1 ++ (T[k]).2.2).length), (qt_g T)[(qt_g (T.take k)).length + q]? = some (((T[k]).2.1 ++ (T[k]).2.2)[q])
  | [], k, hk, _, _ => absurd hk (Nat.not_lt_zero _)
  | x :: T, 0, hk, q, hq => by
    show ((x.2.1 ++ x.2.2) ++ qt_g T)[0 + q]? = some ((x.2.1 ++ x.2.2)[q])
    have hq : q < (x.2.1 ++ x.2.2).length := hq
    rw [Nat.zero_add, List.getElem?_append_left hq, List.getElem?_eq_getElem hq]
  | x :: T, k + 1, hk, q, hq => by
    show ((x.2.1 ++ x.2.2) ++ qt_g T)[((x.2.1 ++ x.2.2) ++ qt_g (T.take k)).length + q]? = some (((T[k]' (Nat.lt_of_succ_lt_succ hk)).2.1 ++ (T[k]' (Nat.lt_of_succ_lt_succ hk)).2.2)[q])
    rw [List.length_append, Nat.add_assoc, List.getElem?_append_right (Nat.le_add_right _ _), Nat.add_sub_cancel_left]
    exact qg_at T k (Nat.lt_of_succ_lt_succ hk) q hq
set_option maxRecDepth 8000 in
theorem qg_le : ∀ (T : List qt_T) (k : Nat) (hk : k < T.length), (qt_g (T.take k)).length + ((T[k]).2.1 ++ (T[k]).2.2).length ≤ (qt_g T).length
  | [], k, hk => absurd hk (Nat.not_lt_zero _)
  | x :: T, 0, hk => by
    show 0 + (x.2.1 ++ x.2.2).length ≤ ((x.2.1 ++ x.2.2) ++ qt_g T).length
    rw [List.length_append (as := x.2.1 ++ x.2.2)]
    omega
  | x :: T, k + 1, hk => by
    show ((x.2.1 ++ x.2.2) ++ qt_g (T.take k)).length + ((T[k]' (Nat.lt_of_succ_lt_succ hk)).2.1 ++ (T[k]' (Nat.lt_of_succ_lt_succ hk)).2.2).length ≤ ((x.2.1 ++ x.2.2) ++ qt_g T).length
    rw [List.length_append (as := x.2.1 ++ x.2.2), List.length_append (as := x.2.1 ++ x.2.2)]
    have := qg_le T k (Nat.lt_of_succ_lt_succ hk)
    omega
/-- the rows of the test k of the act a -/
theorem rt_at {cst : am_K} {h : am_H} {X : List rX} (R : rA cst h X) {a : Nat} (ha : a < X.length) {k : Nat} (hk : k < (X[a]).2.2.2.2.1.length) : ∃ s_9 : Nat, ly_hv cst h 25344 (420 * (a : Int) + (k : Int)) = some ((X[a]).2.2.2.2.1[k]).1 ∧ ly_hv cst h 25600 (420 * (a : Int) + (k : Int)) = some (s_9 : Int) ∧ ly_hv cst h 25856 (420 * (a : Int) + (k : Int)) = some (((X[a]).2.2.2.2.1[k]).2.1.length : Int) ∧ ly_hv cst h 26112 (420 * (a : Int) + (k : Int)) = some (((X[a]).2.2.2.2.1[k]).2.2.length : Int) ∧ s_9 + (((X[a]).2.2.2.2.1[k]).2.1.length + ((X[a]).2.2.2.2.1[k]).2.2.length) ≤ 620 ∧ (fn_N cst h 26368 (620 * (a : Int) + (s_9 : Int)) ((((X[a]).2.2.2.2.1[k]).2.1 ++ ((X[a]).2.2.2.2.1[k]).2.2).map tw) ∧ fn_N cst h 26624 (620 * (a : Int) + (s_9 : Int)) ((((X[a]).2.2.2.2.1[k]).2.1 ++ ((X[a]).2.2.2.2.1[k]).2.2).map tn)) := by
  obtain ⟨-, -, ⟨t1_9, t2_9, t3_9, t4_9, t5_9, t6⟩, -, -, ⟨-, -, b1, b2, -⟩⟩ := R.2 a ha
  have z1 := t1_9 k (by rw [List.length_map]; exact hk)
  have z3 := t3_9 k (by rw [List.length_map]; exact hk)
  have z4 := t4_9 k (by rw [List.length_map]; exact hk)
  rw [List.getElem_map] at z1 z3 z4
  have le_9 := qg_le (X[a]).2.2.2.2.1 k hk
  have e2_9 := qs_at (X[a]).2.2.2.2.1 0 k hk
  have hl2 : k < (qt_s 0 (X[a]).2.2.2.2.1).length := by
    by_cases y_9 : k < (qt_s 0 (X[a]).2.2.2.2.1).length
    · exact y_9
    · rw [List.getElem?_eq_none (by omega)] at e2_9
      cases e2_9
  have z2 := t2_9 k hl2
  rw [List.getElem?_eq_getElem hl2, Int.zero_add] at e2_9
  rw [Option.some.inj e2_9] at z2
  rw [List.length_append] at le_9
  have row_9 : ∀ (g_9 : Int → Int) (r_9 : Nat), fn_N cst h r_9 (620 * (a : Int)) ((qt_g (X[a]).2.2.2.2.1).map g_9) → fn_N cst h r_9 (620 * (a : Int) + ((qt_g ((X[a]).2.2.2.2.1.take k)).length : Int)) ((((X[a]).2.2.2.2.1[k]).2.1 ++ ((X[a]).2.2.2.2.1[k]).2.2).map g_9) := fun g_9 r_9 f_9 q_9 hq => by
    have hq' : q_9 < (((X[a]).2.2.2.2.1[k]).2.1 ++ ((X[a]).2.2.2.2.1[k]).2.2).length := by rw [List.length_map] at hq; exact hq
    have e_9 := qg_at (X[a]).2.2.2.2.1 k hk q_9 hq'
    have hl : (qt_g ((X[a]).2.2.2.2.1.take k)).length + q_9 < (qt_g (X[a]).2.2.2.2.1).length := by
      rw [List.length_append] at hq'
      omega
    rw [List.getElem?_eq_getElem hl] at e_9
    have y_9 := f_9 _ (by rw [List.length_map]; exact hl)
    rw [List.getElem_map, Option.some.inj e_9, Int.natCast_add, ← Int.add_assoc] at y_9
    rw [List.getElem_map]
    exact y_9
  exact ⟨(qt_g ((X[a]).2.2.2.2.1.take k)).length, z1, z2, z3, z4, by omega, row_9 tw 26368 t5_9, row_9 tn 26624 t6⟩
theorem fn_l {cst : am_K} {h : am_H} {r : Nat} {o : Int} {A B : List Int} (g : Int → Int) (f : fn_N cst h r o ((A ++ B).map g)) : fn_N cst h r o (A.map g) := fun q_9 hq => by
  have z_9 := f q_9 (by rw [List.length_map] at hq ⊢; rw [List.length_append]; omega)
  rw [List.getElem_map] at z_9 ⊢
  rw [List.getElem_append_left (by rw [List.length_map] at hq; exact hq)] at z_9
  exact z_9
theorem fn_r {cst : am_K} {h : am_H} {r : Nat} {o : Int} {A B : List Int} (g : Int → Int) (f : fn_N cst h r o ((A ++ B).map g)) : fn_N cst h r (o + (A.length : Int)) (B.map g) := fun q_9 hq => by
  rw [List.length_map] at hq
  have z_9 := f (A.length + q_9) (by rw [List.length_map, List.length_append]; omega)
  rw [List.getElem_map] at z_9 ⊢
  rw [List.getElem_append_right (Nat.le_add_right _ _), Int.natCast_add, ← Int.add_assoc] at z_9
  simp only [Nat.add_sub_cancel_left] at z_9
  exact z_9
set_option maxRecDepth 8000 in
theorem slv_b {ns vs : List Int} (nd : ndl ns) (vb : ∀ v_9 ∈ vs, 0 ≤ v_9 ∧ v_9 ≤ 9999) : ∀ (E_9 : List Int), (∀ i_9 ∈ E_9, itw i_9) → 0 ≤ slv ns vs E_9 ∧ slv ns vs E_9 ≤ 10000 * (E_9.length : Int)
  | [], _ => ⟨Int.le_refl 0, Int.le_refl 0⟩
  | x :: E_9, w => by
    have ih := slv_b nd vb E_9 (fun i_9 hi_9 => w i_9 (List.mem_cons_of_mem _ hi_9))
    have wx := w x List.mem_cons_self
    show 0 ≤ tvl ns vs x + slv ns vs E_9 ∧ tvl ns vs x + slv ns vs E_9 ≤ 10000 * (((E_9.length + 1 : Nat)) : Int)
    have bt : 0 ≤ tvl ns vs x ∧ tvl ns vs x ≤ 10000 := by
      unfold tvl
      rcases wx with wx | wx
      · rw [if_pos wx]
        have := lkv_b ns vs x vb
        omega
      · rw [if_neg (by omega)]
        omega
    omega
/-- isMet: the test s of the clause 40 a + j, the test k of the act -/
theorem im_run {cst : am_K} {strs : List Nat} {D : Nat} {h0 : am_H} (cc : ∀ d_9, hp_C cst strs d_9) (hD : 1 ≤ D) (hy : ly_hy m_tt ly_TH h0) {X : List rX} (R : rA cst h0 X) (x30 : X.length ≤ 30) {a j : Nat} (ha : a < X.length) (hj : j < 40) {fi s k : Nat} (kf : ly_hv cst h0 24320 (40 * (a : Int) + (j : Int)) = some (fi : Int)) (ek : k = fi + s) (s20 : s ≤ 19) (hk : k < (X[a]).2.2.2.2.1.length) {x : qt_T} (ex : (X[a]).2.2.2.2.1[k] = x) (wx : qwt x) {q : Int} (q0 : 0 ≤ q) (q1 : q ≤ 200) {ns vs : List Int} (G : rG cst h0 q ns vs) {xc xs xq : Int32} (ec : xc.toInt = 40 * (a : Int) + (j : Int)) (es : xs.toInt = (s : Int)) (eq : xq.toInt = q) :
    ∃ r_9, am_Run cst m_cl m_tt m_P strs sx_bi (D + 2) 329 [.ref 94, .int xc, .int xs, .int xq] h0 r_9 ∧ (fun r_9 : am_Q => ∃ w_9 : Int32, r_9.1 = some (.int w_9) ∧ r_9.2.2.1 = 0 ∧ r_9.2.2.2 = 0 ∧ ly_hy m_tt ly_TH r_9.2.1 ∧ ly_fr cst [] h0 r_9.2.1 ∧ w_9.toInt = bif tst ns vs x then 1 else 0) r_9 := by
  obtain ⟨M_9, hM_9, hl⟩ := hp_M (mi := 329) (k := 4) (by decide +kernel)
  have c : hp_C cst strs (D + 1) := cc _
  obtain ⟨st, k1_9, k2_9, k3_9, k4_9, bd, f1_9, f2_9⟩ := rt_at R ha hk
  rw [ex] at k1_9 k3_9 k4_9 bd f1_9 f2_9
  obtain ⟨w0_9, w3_9, wl, wr_9⟩ := wx
  obtain ⟨u_9, ku, u0, u1'⟩ := hp_row (cst := cst) (i := 40 * (a : Int) + (j : Int)) hy (show ly_ths ly_TH 95 = some (.inl (.int, 1240, 0, 401)) from rfl) (by omega) (by omega)
  have ku : ly_hv cst h0 24320 (40 * (a : Int) + (j : Int)) = some u_9 := ku
  have eu := Option.some.inj (kf.symm.trans ku)
  have b420 := (R.2 a ha).2.2.2.2.2.2.2.1
  obtain ⟨v_9, kv, v0_9, v1_9⟩ := hp_row (cst := cst) (i := 420 * (a : Int) + (k : Int)) hy (show ly_ths ly_TH 101 = some (.inl (.int, 13020, 0, 4)) from rfl) (by omega) (by omega)
  have kv : ly_hv cst h0 25856 (420 * (a : Int) + (k : Int)) = some v_9 := kv
  have ev_9 := Option.some.inj (k3_9.symm.trans kv)
  obtain ⟨v', kv', v0', v1'⟩ := hp_row (cst := cst) (i := 420 * (a : Int) + (k : Int)) hy (show ly_ths ly_TH 102 = some (.inl (.int, 13020, 0, 4)) from rfl) (by omega) (by omega)
  have kv' : ly_hv cst h0 26112 (420 * (a : Int) + (k : Int)) = some v' := kv'
  have ev' := Option.some.inj (k4_9.symm.trans kv')
  obtain ⟨g_9, kg, g0, g1⟩ := hp_row (cst := cst) (i := 420 * (a : Int) + (k : Int)) hy (show ly_ths ly_TH 100 = some (.inl (.int, 13020, 0, 601)) from rfl) (by omega) (by omega)
  have kg : ly_hv cst h0 25600 (420 * (a : Int) + (k : Int)) = some g_9 := kg
  have eg := Option.some.inj (k2_9.symm.trans kg)
  rw [show (420 * (a : Int) + (k : Int)) = 420 * (a : Int) + (fi : Int) + (s : Int) by omega] at k1_9 k2_9 k3_9 k4_9
  have nd_9 := G.2.2.2.2.2.2
  have vb := G.2.2.2.2.2.1
  have sl_9 := slv_b nd_9 vb x.2.1 wl
  have sr := slv_b nd_9 vb x.2.2 wr_9
  have go_9 : hp_F cst strs (fun r_9 : am_Q => ∃ w_9 : Int32, r_9.1 = some (.int w_9) ∧ r_9.2.2.1 = 0 ∧ r_9.2.2.2 = 0 ∧ ly_hy m_tt ly_TH r_9.2.1 ∧ ly_fr cst [] h0 r_9.2.1 ∧ w_9.toInt = bif tst ns vs x then 1 else 0) (D + 1) M_9 0 (lv_args 0 [.ref 94, .int xc, .int xs, .int xq]) [] h0 := by
    refine im0 c hM_9 (by omega) hy (40 * (a : Int) + (j : Int)) (a : Int) (s : Int) q (fi : Int) (st : Int) (x.2.1.length : Int) (by omega) (by omega) (by omega) (by omega) (by omega) (by omega) q0 q1 (by omega) (by omega) (by omega) (by omega) (by omega) (by omega) (q40 hj) kf k2_9 k3_9 rfl ⟨xc, rfl, ec⟩ ⟨xs, rfl, es⟩ ⟨xq, rfl, eq⟩ (fun l1 h1 z0 z1 z2 e0_9 e1_9 e2_9 y1 y2 y3 m0_9 m1_9 m2_9 m3_9 m4_9 m5_9 => ?_)
    obtain ⟨r_9, hrun, w_9, r1_9, r2, r3, rhy, rfr, ew⟩ := so_run (D := D) (cc _) hD y1 (te := 620 * (a : Int) + (st : Int)) (q := q) (by omega) q0 q1 (rG_mv G y2 rfl rfl rfl) (E := x.2.1) (by omega) (by omega) wl (fn_mv (fn_l tw f1_9) y2 rfl) (fn_mv (fn_l tn f2_9) y2 rfl) rfl (xt := z2) (xm := z1) (xq := z0) e2_9 e1_9 e0_9
    refine hp_call (mi := 329) (pc := 46) (tg := 330) (na := 4) (c := 78) (ci := 12) (st0 := [.int z0, .int z1, .int z2, .ref 94]) (st := []) (av := [.int z2, .int z1, .int z0]) hM_9 (by decide +kernel) y1 rfl rfl rfl (by decide) hrun r2 r3 ?_
    rw [r1_9]
    have F2 : ly_fr cst [] h0 r_9.2.1 := ly_fr_tr y2 rfr
    refine im1 c hM_9 (by omega) rhy (40 * (a : Int) + (j : Int)) (a : Int) (s : Int) q (fi : Int) (st : Int) (x.2.1.length : Int) (x.2.2.length : Int) (slv ns vs x.2.1) w_9 ew (by omega) (by omega) (by omega) (by omega) (by omega) (by omega) q0 q1 (by omega) (by omega) (by omega) (by omega) (by omega) (by omega) (by omega) (by omega) (by omega) (by omega) (q40 hj) (F2 _ _ _ rfl kf) (F2 _ _ _ rfl k2_9) (F2 _ _ _ rfl k3_9) (F2 _ _ _ rfl k4_9) m0_9 m1_9 m2_9 m3_9 m4_9 m5_9 (fun l3 h3 z3 z4 z5 e3_9 e4_9 e5_9 t1_9 t2_9 t3_9 n0_9 n1_9 n2_9 n3_9 n4_9 n5_9 n6_9 => ?_)
    have F3 : ly_fr cst [] h0 h3 := ly_fr_tr F2 t2_9
    have f1' : fn_N cst h0 26368 (620 * (a : Int) + (st : Int) + (x.2.1.length : Int)) (x.2.2.map tw) := fn_r tw f1_9
    have f2' : fn_N cst h0 26624 (620 * (a : Int) + (st : Int) + (x.2.1.length : Int)) (x.2.2.map tn) := fn_r tn f2_9
    obtain ⟨r', hrun', w', s1_9, s2_9, s3_9, shy, sfr, ew'⟩ := so_run (D := D) (cc _) hD t1_9 (te := 620 * (a : Int) + (st : Int) + (x.2.1.length : Int)) (q := q) (by omega) q0 q1 (rG_mv G F3 rfl rfl rfl) (E := x.2.2) (by omega) (by omega) wr_9 (fn_mv f1' F3 rfl) (fn_mv f2' F3 rfl) rfl (xt := z5) (xm := z4) (xq := z3) e5_9 e4_9 e3_9
    refine hp_call (mi := 329) (pc := 82) (tg := 330) (na := 4) (c := 78) (ci := 12) (st0 := [.int z3, .int z4, .int z5, .ref 94]) (st := []) (av := [.int z5, .int z4, .int z3]) hM_9 (by decide +kernel) t1_9 rfl rfl rfl (by decide) hrun' s2_9 s3_9 ?_
    rw [s1_9]
    have F4 : ly_fr cst [] h0 r'.2.1 := ly_fr_tr F3 sfr
    have ko := F4 _ _ _ rfl k1_9
    have fin_9 : ∀ (b_9 : Bool), tst ns vs x = b_9 → ∀ (h5 : am_H) (w5 : Int32), w5.toInt = (bif b_9 then 1 else 0) → ly_hy m_tt ly_TH h5 → ly_fr cst [] r'.2.1 h5 → r'.2.1.length ≤ h5.length → (fun r_9 : am_Q => ∃ w_9 : Int32, r_9.1 = some (.int w_9) ∧ r_9.2.2.1 = 0 ∧ r_9.2.2.2 = 0 ∧ ly_hy m_tt ly_TH r_9.2.1 ∧ ly_fr cst [] h0 r_9.2.1 ∧ w_9.toInt = bif tst ns vs x then 1 else 0) (some (.int w5), h5, 0, 0) := fun b_9 eb h5 w5 hw5 p1_9 p2_9 p3_9 => ⟨w5, rfl, rfl, rfl, p1_9, ly_fr_tr F4 p2_9, by rw [hw5, eb]⟩
    by_cases o0_9 : x.1 = 0
    · rw [o0_9] at ko
      have et : tst ns vs x = decide (0 < slv ns vs x.2.1) := by unfold tst; rw [if_pos o0_9]
      by_cases g_9 : 0 < slv ns vs x.2.1
      · exact im2y c hM_9 (by omega) shy (40 * (a : Int) + (j : Int)) (a : Int) (s : Int) q (fi : Int) (slv ns vs x.2.1) (slv ns vs x.2.2) w' ew' (by omega) (by omega) (by omega) (by omega) (by omega) (by omega) q0 q1 (by omega) (by omega) (by omega) (by omega) (by omega) (by omega) ko n0_9 n1_9 n2_9 n3_9 n4_9 n5_9 n6_9 (fin_9 true (by rw [et]; exact decide_eq_true g_9))
      · exact im2n c hM_9 (by omega) shy (40 * (a : Int) + (j : Int)) (a : Int) (s : Int) q (fi : Int) (slv ns vs x.2.1) (slv ns vs x.2.2) w' ew' (by omega) (by omega) (by omega) (by omega) (by omega) (by omega) q0 q1 (by omega) (by omega) (by omega) (by omega) (by omega) (by omega) ko n0_9 n1_9 n2_9 n3_9 n4_9 n5_9 n6_9 (fin_9 false (by rw [et]; exact decide_eq_false g_9))
    by_cases o1 : x.1 = 1
    · rw [o1] at ko
      have et : tst ns vs x = decide (slv ns vs x.2.2 < slv ns vs x.2.1) := by unfold tst; rw [if_neg (by omega)]; unfold hld; rw [if_pos (by omega)]
      by_cases g_9 : slv ns vs x.2.2 < slv ns vs x.2.1
      · exact im3y c hM_9 (by omega) shy (40 * (a : Int) + (j : Int)) (a : Int) (s : Int) q (fi : Int) (slv ns vs x.2.1) (slv ns vs x.2.2) w' ew' (by omega) (by omega) (by omega) (by omega) (by omega) (by omega) q0 q1 (by omega) (by omega) (by omega) (by omega) (by omega) (by omega) (by omega) ko n0_9 n1_9 n2_9 n3_9 n4_9 n5_9 n6_9 (fin_9 true (by rw [et]; exact decide_eq_true g_9))
      · exact im3n c hM_9 (by omega) shy (40 * (a : Int) + (j : Int)) (a : Int) (s : Int) q (fi : Int) (slv ns vs x.2.1) (slv ns vs x.2.2) w' ew' (by omega) (by omega) (by omega) (by omega) (by omega) (by omega) q0 q1 (by omega) (by omega) (by omega) (by omega) (by omega) (by omega) (by omega) ko n0_9 n1_9 n2_9 n3_9 n4_9 n5_9 n6_9 (fin_9 false (by rw [et]; exact decide_eq_false g_9))
    by_cases o2 : x.1 = 2
    · rw [o2] at ko
      have et : tst ns vs x = decide (slv ns vs x.2.1 < slv ns vs x.2.2) := by unfold tst; rw [if_neg (by omega)]; unfold hld; rw [if_neg (by omega), if_pos (by omega)]
      by_cases g_9 : slv ns vs x.2.1 < slv ns vs x.2.2
      · exact im4y c hM_9 (by omega) shy (40 * (a : Int) + (j : Int)) (a : Int) (s : Int) q (fi : Int) (slv ns vs x.2.1) (slv ns vs x.2.2) w' ew' (by omega) (by omega) (by omega) (by omega) (by omega) (by omega) q0 q1 (by omega) (by omega) (by omega) (by omega) (by omega) (by omega) (by omega) ko n0_9 n1_9 n2_9 n3_9 n4_9 n5_9 n6_9 (fin_9 true (by rw [et]; exact decide_eq_true g_9))
      · exact im4n c hM_9 (by omega) shy (40 * (a : Int) + (j : Int)) (a : Int) (s : Int) q (fi : Int) (slv ns vs x.2.1) (slv ns vs x.2.2) w' ew' (by omega) (by omega) (by omega) (by omega) (by omega) (by omega) q0 q1 (by omega) (by omega) (by omega) (by omega) (by omega) (by omega) (by omega) ko n0_9 n1_9 n2_9 n3_9 n4_9 n5_9 n6_9 (fin_9 false (by rw [et]; exact decide_eq_false g_9))
    by_cases o3_9 : x.1 = 3
    · rw [o3_9] at ko
      have et : tst ns vs x = decide (slv ns vs x.2.1 = slv ns vs x.2.2) := by unfold tst; rw [if_neg (by omega)]; unfold hld; rw [if_neg (by omega), if_neg (by omega), if_pos (by omega)]
      by_cases g_9 : slv ns vs x.2.1 = slv ns vs x.2.2
      · rw [← g_9] at ew'
        exact im5y c hM_9 (by omega) shy (40 * (a : Int) + (j : Int)) (a : Int) (s : Int) q (fi : Int) (slv ns vs x.2.1) w' ew' (by omega) (by omega) (by omega) (by omega) (by omega) (by omega) q0 q1 (by omega) (by omega) (by omega) (by omega) ko n0_9 n1_9 n2_9 n3_9 n4_9 n5_9 n6_9 (fin_9 true (by rw [et]; exact decide_eq_true g_9))
      · exact im5n c hM_9 (by omega) shy (40 * (a : Int) + (j : Int)) (a : Int) (s : Int) q (fi : Int) (slv ns vs x.2.1) (slv ns vs x.2.2) w' ew' (by omega) (by omega) (by omega) (by omega) (by omega) (by omega) q0 q1 (by omega) (by omega) (by omega) (by omega) (by omega) (by omega) ko (hp_ne (by omega)) n0_9 n1_9 n2_9 n3_9 n4_9 n5_9 n6_9 (fin_9 false (by rw [et]; exact decide_eq_false g_9))
    omega
  obtain ⟨n', r_9, hgo, w_9, r1_9, r2, r3, r4⟩ := go_9
  simp only [Nat.zero_add] at r2 r3
  exact ⟨r_9, Or.inr ⟨M_9, n', hM_9, hl, hgo⟩, w_9, r1_9, r2, r3, r4⟩
set_option maxRecDepth 8000 in
theorem mo_lp {cst : am_K} {strs : List Nat} {D : Nat} {M : am_M} {h0 : am_H} (cc : ∀ d_9, hp_C cst strs d_9) (hM : m_P[328]? = some M) (hD : 1 ≤ D) {X : List rX} (R : rA cst h0 X) (x30 : X.length ≤ 30) {a j : Nat} (ha : a < X.length) (hj : j < 40) {fi m : Nat} (kf : ly_hv cst h0 24320 (40 * (a : Int) + (j : Int)) = some (fi : Int)) (km : ly_hv cst h0 24576 (40 * (a : Int) + (j : Int)) = some (m : Int)) (m20 : m ≤ 20) {Q : List qt_T} (eQ : Q.length = m) (hQ : ∀ s_9 (hs : s_9 < Q.length), ∃ hk : fi + s_9 < (X[a]).2.2.2.2.1.length, (X[a]).2.2.2.2.1[fi + s_9] = Q[s_9]) (wQ : ∀ x_9 ∈ Q, qwt x_9) {q : Int} (q0 : 0 ≤ q) (q1 : q ≤ 200) {ns vs : List Int} (G : rG cst h0 q ns vs) {P : List Bool} (eP : Q.map (tst ns vs) = P) :
    ∀ (F_9 : Nat) (h_9 : am_H) (l : am_L) (t_9 : Nat) (o : Int32), t_9 + F_9 = m → ly_hy m_tt ly_TH h_9 → ly_fr cst [] h0 h_9 → mbs (P.take t_9) o → hp_a l 0 94 → hp_i l 1 (40 * (a : Int) + (j : Int)) → hp_i l 2 q → hp_i l 3 o.toInt → hp_i l 4 (t_9 : Int) → hp_F cst strs (fun r_9 : am_Q => ∃ w_9 : Int32, r_9.1 = some (.int w_9) ∧ r_9.2.2.1 = 0 ∧ r_9.2.2.2 = 0 ∧ ly_hy m_tt ly_TH r_9.2.1 ∧ ly_fr cst [] h0 r_9.2.1 ∧ mbs P w_9) (D + 2) M 5 l [] h_9 := by
  have c : hp_C cst strs (D + 2) := cc _
  have lP : P.length = m := by rw [← eP, List.length_map, eQ]
  intro F_9
  induction F_9 with
  | zero =>
    intro h_9 l t_9 o et hy fr_9 B_9 l0 l1 l2 l3 l4
    have et : t_9 = m := et
    rw [et] at l4 B_9
    rw [List.take_of_length_le (by omega)] at B_9
    exact moE c hM (by omega) hy (40 * (a : Int) + (j : Int)) q o.toInt (m : Int) (by omega) (by omega) q0 q1 o.le_toInt o.toInt_le (by omega) (by omega) (fr_9 _ _ _ rfl km) l0 l1 l2 l3 l4 (fun h2 w_9 hw u1_9 u2_9 u3 => ⟨w_9, rfl, rfl, rfl, u1_9, ly_fr_tr fr_9 u2_9, by rw [Int32.toInt_inj.mp hw]; exact B_9⟩)
  | succ F_9 ih_9 =>
    intro h_9 l t_9 o et hy fr_9 B_9 l0 l1 l2 l3 l4
    have hs : t_9 < Q.length := by omega
    obtain ⟨hk, ex_9⟩ := hQ t_9 hs
    refine mo1 c hM (by omega) hy (40 * (a : Int) + (j : Int)) q o.toInt (t_9 : Int) (m : Int) (by omega) (by omega) q0 q1 o.le_toInt o.toInt_le (by omega) (by omega) (by omega) (by omega) (by omega) (fr_9 _ _ _ rfl km) l0 l1 l2 l3 l4 (fun l2' h2 z0 z1 z2 e0_9 e1_9 e2_9 u1_9 u2_9 u3 m0_9 m1_9 m2_9 m3_9 m4_9 => ?_)
    have F2 : ly_fr cst [] h0 h2 := ly_fr_tr fr_9 u2_9
    obtain ⟨r_9, hrun, w_9, r1_9, r2, r3, rhy, rfr, ew⟩ := im_run (D := D) cc hD u1_9 (rA_f3 R F2) x30 ha hj (F2 _ _ _ rfl kf) rfl (by omega) hk ex_9 (wQ _ (List.getElem_mem hs)) q0 q1 (rG_mv G F2 rfl rfl rfl) (xc := z2) (xs := z1) (xq := z0) e2_9 e1_9 e0_9
    refine hp_call (mi := 328) (pc := 21) (tg := 329) (na := 4) (c := 78) (ci := 12) (st0 := [.int z0, .int z1, .int z2, .ref 94]) (st := []) (av := [.int z2, .int z1, .int z0]) hM (by decide +kernel) u1_9 rfl rfl rfl (by decide) hrun r2 r3 ?_
    rw [r1_9]
    have F3 : ly_fr cst [] h0 r_9.2.1 := ly_fr_tr F2 rfr
    have eT : P.take (t_9 + 1) = P.take t_9 ++ [tst ns vs (Q[t_9])] := by
      have hp : t_9 < P.length := by omega
      rw [List.take_succ, List.getElem?_eq_getElem hp]
      have ep : P[t_9] = tst ns vs (Q[t_9]) := by
        subst eP
        rw [List.getElem_map]
      rw [ep]
      rfl
    have lt' : (P.take t_9).length = t_9 := by rw [List.length_take]; omega
    have nt' : (((t_9 + 1 : Nat)) : Int) = (t_9 : Int) + 1 := by omega
    cases eb : tst ns vs (Q[t_9])
    · rw [eb] at ew eT
      exact mo2 c hM (by omega) rhy (40 * (a : Int) + (j : Int)) q o.toInt (t_9 : Int) w_9 ew (by omega) (by omega) q0 q1 o.le_toInt o.toInt_le (by omega) (by omega) m0_9 m1_9 m2_9 m3_9 m4_9 (fun l3' h3 v1_9 v2 v3 o0_9 o1 o2 o3_9 o4_9 => ih_9 h3 l3' (t_9 + 1) o (by omega) v1_9 (ly_fr_tr F3 v2) (by rw [eT]; exact mbs_f B_9) o0_9 o1 o2 o3_9 (by rw [nt']; exact o4_9))
    · rw [eb] at ew eT
      refine mo3 c hM (by omega) rhy (40 * (a : Int) + (j : Int)) q o.toInt (t_9 : Int) w_9 ew (by omega) (by omega) q0 q1 o.le_toInt o.toInt_le (by omega) (by omega) m0_9 m1_9 m2_9 m3_9 m4_9 (fun l3' h3 y0 y1 y2 f0_9 f1_9 f2_9 v1_9 v2 v3 o0_9 o1 o2 o3_9 o4_9 => ?_)
      have em2 : y2 = o := Int32.toInt_inj.mp f2_9
      have em1 : y1 = 1 := Int32.toInt_inj.mp (show y1.toInt = (1 : Int32).toInt from f1_9)
      rw [em2, em1]
      refine btq_ishl hM (by decide +kernel) ?_
      refine btq_ior hM (by decide +kernel) ?_
      exact mo4 c hM (by omega) v1_9 (40 * (a : Int) + (j : Int)) q o.toInt (t_9 : Int) (o ||| ((1 : Int32) <<< (y0 &&& 31))).toInt (o ||| ((1 : Int32) <<< (y0 &&& 31))) rfl (by omega) (by omega) q0 q1 o.le_toInt o.toInt_le (by omega) (by omega) (Int32.le_toInt _) (Int32.toInt_le _) o0_9 o1 o2 o3_9 o4_9 (fun l5 h5 x1_9 x2_9 x3 p0_9 p1_9 p2_9 p3_9 p4_9 => ih_9 h5 l5 (t_9 + 1) _ (by omega) x1_9 (ly_fr_tr F3 (ly_fr_tr v2 x2_9)) (by rw [eT]; exact mbs_t B_9 (by rw [lt']; exact f0_9) (by omega)) p0_9 p1_9 p2_9 p3_9 (by rw [nt']; exact p4_9))
/-- metOf -/
theorem mo_run {cst : am_K} {strs : List Nat} {D : Nat} {h0 : am_H} (cc : ∀ d_9, hp_C cst strs d_9) (hD : 1 ≤ D) (hy : ly_hy m_tt ly_TH h0) {X : List rX} (R : rA cst h0 X) (x30 : X.length ≤ 30) {a j : Nat} (ha : a < X.length) (hj : j < 40) {fi m : Nat} (kf : ly_hv cst h0 24320 (40 * (a : Int) + (j : Int)) = some (fi : Int)) (km : ly_hv cst h0 24576 (40 * (a : Int) + (j : Int)) = some (m : Int)) (m20 : m ≤ 20) {Q : List qt_T} (eQ : Q.length = m) (hQ : ∀ s_9 (hs : s_9 < Q.length), ∃ hk : fi + s_9 < (X[a]).2.2.2.2.1.length, (X[a]).2.2.2.2.1[fi + s_9] = Q[s_9]) (wQ : ∀ x_9 ∈ Q, qwt x_9) {q : Int} (q0 : 0 ≤ q) (q1 : q ≤ 200) {ns vs : List Int} (G : rG cst h0 q ns vs) {P : List Bool} (eP : Q.map (tst ns vs) = P) {xc xq : Int32} (ec : xc.toInt = 40 * (a : Int) + (j : Int)) (eq : xq.toInt = q) :
    ∃ r_9, am_Run cst m_cl m_tt m_P strs sx_bi (D + 3) 328 [.ref 94, .int xc, .int xq] h0 r_9 ∧ (fun r_9 : am_Q => ∃ w_9 : Int32, r_9.1 = some (.int w_9) ∧ r_9.2.2.1 = 0 ∧ r_9.2.2.2 = 0 ∧ ly_hy m_tt ly_TH r_9.2.1 ∧ ly_fr cst [] h0 r_9.2.1 ∧ mbs P w_9) r_9 := by
  obtain ⟨M_9, hM_9, hl⟩ := hp_M (mi := 328) (k := 3) (by decide +kernel)
  have c_9 : hp_C cst strs (D + 2) := cc _
  have go_9 : hp_F cst strs (fun r_9 : am_Q => ∃ w_9 : Int32, r_9.1 = some (.int w_9) ∧ r_9.2.2.1 = 0 ∧ r_9.2.2.2 = 0 ∧ ly_hy m_tt ly_TH r_9.2.1 ∧ ly_fr cst [] h0 r_9.2.1 ∧ mbs P w_9) (D + 2) M_9 0 (lv_args 0 [.ref 94, .int xc, .int xq]) [] h0 := mo0 c_9 hM_9 (by omega) hy (40 * (a : Int) + (j : Int)) q (by omega) (by omega) q0 q1 rfl ⟨xc, rfl, ec⟩ ⟨xq, rfl, eq⟩ (fun l1 h1 u1_9 u2_9 u3 m0_9 m1_9 m2_9 m3_9 m4_9 => mo_lp cc hM_9 hD R x30 ha hj kf km m20 eQ hQ wQ q0 q1 G eP m h1 l1 0 0 (by omega) u1_9 u2_9 mbs_0 m0_9 m1_9 m2_9 m3_9 m4_9)
  obtain ⟨n', r_9, hgo, w_9, r1_9, r2, r3, r4⟩ := go_9
  simp only [Nat.zero_add] at r2 r3
  exact ⟨r_9, Or.inr ⟨M_9, n', hM_9, hl, hgo⟩, w_9, r1_9, r2, r3, r4⟩
