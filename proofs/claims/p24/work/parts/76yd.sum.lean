/-! PRINTED by wip/p2/hp_sum.py: readSum of the class, exactly -/
theorem fr_up {cst : am_K} {h h' : am_H} {ms : List Nat} {a : Nat} (f : ly_fr cst ms h h') : ly_fr cst (a :: ms) h h' := fun r i v hr e => f r i v (by
  unfold ly_has at hr ⊢
  rw [List.any_cons, Bool.or_eq_false_iff] at hr
  exact hr.2) e
theorem it_o {cst : am_K} {h : am_H} {i0 L : List Int} (A : it cst h i0 L) : fn_N cst h 5888 0 i0 := fun k hk => by
  have := A.2.2 k (by rw [List.length_append]; omega)
  rw [List.getElem_append_left hk] at this
  exact this
/-- what a reading method of the class leaves: 0 and a fault (the items in force stand), or 1 and what is read -/
def pR (cst : am_K) (h0 : am_H) (ms mf : List Nat) (i0 : List Int) (pl : Int → Int) (t : Nat) (n : Int) {Y : Type} (res : (Int × Nat) ⊕ Y) (ok : Y → am_H → Prop) (r : am_Q) : Prop := ∃ w : Int32, r.1 = some (.int w) ∧ r.2.2.1 = 0 ∧ r.2.2.2 = 0 ∧ ly_hy m_tt ly_TH r.2.1 ∧ (∀ k b, res = .inl (k, b) → w.toInt = 0 ∧ ly_fr cst (6144 :: 6145 :: mf) h0 r.2.1 ∧ fn_N cst r.2.1 5888 0 i0 ∧ ly_hv cst r.2.1 6144 0 = some k ∧ ly_hv cst r.2.1 6145 0 = some (pa pl t n b)) ∧ ∀ x, res = .inr x → w.toInt = 1 ∧ ly_fr cst ms h0 r.2.1 ∧ ok x r.2.1
theorem pR_f {cst : am_K} {h0 h' : am_H} {ms mf : List Nat} {i0 : List Int} {pl : Int → Int} {t : Nat} {n : Int} {Y : Type} {res : (Int × Nat) ⊕ Y} {ok : Y → am_H → Prop} {w : Int32} {k : Int} {b : Nat} (e : res = .inl (k, b)) (hw : w.toInt = 0) (hy : ly_hy m_tt ly_TH h') (fr : ly_fr cst (6144 :: 6145 :: mf) h0 h') (kp : fn_N cst h' 5888 0 i0) (k1 : ly_hv cst h' 6144 0 = some k) (k2 : ly_hv cst h' 6145 0 = some (pa pl t n b)) : pR cst h0 ms mf i0 pl t n res ok (some (.int w), h', 0, 0) := ⟨w, rfl, rfl, rfl, hy, fun k' b' e' => by
  rw [e] at e'
  cases e'
  exact ⟨hw, fr, kp, k1, k2⟩, fun x e' => by rw [e] at e'; cases e'⟩
theorem pR_s {cst : am_K} {h0 h' : am_H} {ms mf : List Nat} {i0 : List Int} {pl : Int → Int} {t : Nat} {n : Int} {Y : Type} {res : (Int × Nat) ⊕ Y} {ok : Y → am_H → Prop} {w : Int32} {x : Y} (e : res = .inr x) (hw : w.toInt = 1) (hy : ly_hy m_tt ly_TH h') (fr : ly_fr cst ms h0 h') (k : ok x h') : pR cst h0 ms mf i0 pl t n res ok (some (.int w), h', 0, 0) := ⟨w, rfl, rfl, rfl, hy, fun k' b' e' => (by rw [e] at e'; cases e'), fun x' e' => by
  rw [e] at e'
  cases e'
  exact ⟨hw, fr, k⟩⟩
theorem jf_neg {k : Int} (h : k < 17) (h0 : -1 ≤ k) : jf k = -1 := by
  unfold jf
  repeat' split
  all_goals omega
theorem jf_pos {k : Int} (h : 17 ≤ k) (h1 : k ≤ 23) : 0 ≤ jf k ∧ jf k ≤ 6 := by
  unfold jf
  repeat' split
  all_goals omega
theorem jf_lt {k : Int} (h0 : -1 ≤ k) (h : k < 21) : -1 ≤ jf k ∧ jf k ≤ 3 := by
  unfold jf
  repeat' split
  all_goals omega
theorem jf_ge {k : Int} (h : 21 ≤ k) (h1 : k ≤ 23) : jf k = k - 17 := by
  unfold jf
  repeat' split
  all_goals omega
theorem su0_k : hp_chk 96 0 0 [] [] [(0, .inr (.inr (.inl (some 40))))] [] [] [] 2 [(2, ([], 0, [], [], [(0, .inr (.inr (.inl (some 40)))), (1, .inl (0, []))], [], []))] [] = true := by decide +kernel
theorem su0 {cst : am_K} {strs : List Nat} {Φ : am_Q → Prop} {D : Nat} {M : am_M} {h : am_H} {l : am_L} (c : hp_C cst strs D) (hM : m_P[96]? = some M) (hD : (2 : Int) ≤ (D : Int) + 1) (hy : ly_hy m_tt ly_TH h) (l0 : hp_a l 0 40) (e0 : ∀ (l' : am_L) (h' : am_H), ly_hy m_tt ly_TH h' → ly_fr cst [] h h' → h.length ≤ h'.length → hp_a l' 0 40 → hp_i l' 1 0 → hp_F cst strs Φ D M 2 l' [] h') : hp_F cst strs Φ D M 0 l [] h := by
  refine hp_arc c hM su0_k hD [] rfl hy hp_Bn hp_Fn hp_Kn (hp_La l0 hp_Ln) trivial ?_ ?_
  · intro p hp ys l' st' h' hys a1 a2 a3 gZ gL gS
    rcases List.mem_cons.mp hp with rfl | hp
    · obtain rfl := hp_y0 hys
      cases hp_gSn gS
      exact e0 l' h' a1 a2 a3 (hp_gLa gL (List.mem_of_getElem? (i := 0) rfl) (by decide)) (hp_gLi (z := (0 + 0)) gL (List.mem_of_getElem? (i := 1) rfl) rfl (by omega))
    cases hp
  · intro p hp ys v h' hys a1 a2 a3 gZ gS
    cases hp
theorem suA0_k : hq_chk [95] 96 2 1 [(0, 0, 4)] [] [(0, .inr (.inr (.inl (some 40)))), (1, .inl (0, [(0, 1)]))] [] [(6155, (0, []), (0, []))] [] 3 [(16, ([], 1, [(0, 0, 4)], [], [(0, .inr (.inr (.inl (some 40)))), (1, .inl (0, [(0, 1)]))], [.inl (1, []), .inr (.inr (.inl (some 40)))], []))] [] = true := by decide +kernel
theorem suA0 {cst : am_K} {strs : List Nat} {Φ : am_Q → Prop} {D : Nat} {M : am_M} {h : am_H} {l : am_L} (c : hp_C cst strs D) (hM : m_P[96]? = some M) (hD : (3 : Int) ≤ (D : Int) + 1) (hy : ly_hy m_tt ly_TH h) (m : Int) (b0 : 0 ≤ m) (t0 : m ≤ 4) (k0 : ly_hv cst h 6155 0 = some 0) (l0 : hp_a l 0 40) (l1 : hp_i l 1 (m)) (e0 : ∀ (l' : am_L) (h' : am_H) (y0 : Int32), y0.toInt = 1 → ly_hy m_tt ly_TH h' → ly_fr cst [] h h' → h.length ≤ h'.length → hp_a l' 0 40 → hp_i l' 1 (m) → hp_F cst strs Φ D M 16 l' [.int y0, .ref 40] h') : hp_F cst strs Φ D M 2 l [] h := by
  refine hq_arc c hM suA0_k hD [m] rfl hy (hp_Bc (z := m) rfl b0 t0 hp_Bn) hp_Fn (hp_Kc (zi := (0 + 0)) (zv := (0 + 0)) k0 rfl rfl (by omega) (by omega) hp_Kn) (hp_La l0 (hp_Li (z := (0 + (1 * m + 0))) l1 rfl (by omega) hp_Ln)) trivial ?_ ?_
  · intro p hp ys l' st' h' hys a1 a2 a3 gZ gL gS
    rcases List.mem_cons.mp hp with rfl | hp
    · obtain rfl := hp_y0 hys
      obtain ⟨y0, t0, rfl, q0, g0⟩ := hp_gSi (z := (1 + 0)) gS rfl
      obtain ⟨t1, rfl, g1⟩ := hp_gSa g0 (by decide)
      cases hp_gSn g1
      exact e0 l' h' y0 (by omega) a1 a2 a3 (hp_gLa gL (List.mem_of_getElem? (i := 0) rfl) (by decide)) (hp_gLi (z := (0 + (1 * m + 0))) gL (List.mem_of_getElem? (i := 1) rfl) rfl (by omega))
    cases hp
  · intro p hp ys v h' hys a1 a2 a3 gZ gS
    cases hp
theorem suA1_k : hq_chk [95] 96 2 2 [(0, 0, 4), (1, 3, 255)] [] [(0, .inr (.inr (.inl (some 40)))), (1, .inl (0, [(0, 1)]))] [] [(6155, (0, []), (0, [(1, 1)]))] [] 3 [(16, ([], 2, [(0, 0, 4), (1, 3, 255)], [], [(0, .inr (.inr (.inl (some 40)))), (1, .inl (0, [(0, 1)]))], [.inl (1, []), .inr (.inr (.inl (some 40)))], []))] [] = true := by decide +kernel
theorem suA1 {cst : am_K} {strs : List Nat} {Φ : am_Q → Prop} {D : Nat} {M : am_M} {h : am_H} {l : am_L} (c : hp_C cst strs D) (hM : m_P[96]? = some M) (hD : (3 : Int) ≤ (D : Int) + 1) (hy : ly_hy m_tt ly_TH h) (m q : Int) (b0 : 0 ≤ m) (t0 : m ≤ 4) (b1 : 3 ≤ q) (t1 : q ≤ 255) (k0 : ly_hv cst h 6155 0 = some (q)) (l0 : hp_a l 0 40) (l1 : hp_i l 1 (m)) (e0 : ∀ (l' : am_L) (h' : am_H) (y0 : Int32), y0.toInt = 1 → ly_hy m_tt ly_TH h' → ly_fr cst [] h h' → h.length ≤ h'.length → hp_a l' 0 40 → hp_i l' 1 (m) → hp_F cst strs Φ D M 16 l' [.int y0, .ref 40] h') : hp_F cst strs Φ D M 2 l [] h := by
  refine hq_arc c hM suA1_k hD [m, q] rfl hy (hp_Bc (z := m) rfl b0 t0 (hp_Bc (z := q) rfl b1 t1 hp_Bn)) hp_Fn (hp_Kc (zi := (0 + 0)) (zv := (0 + (1 * q + 0))) k0 rfl rfl (by omega) (by omega) hp_Kn) (hp_La l0 (hp_Li (z := (0 + (1 * m + 0))) l1 rfl (by omega) hp_Ln)) trivial ?_ ?_
  · intro p hp ys l' st' h' hys a1 a2 a3 gZ gL gS
    rcases List.mem_cons.mp hp with rfl | hp
    · obtain rfl := hp_y0 hys
      obtain ⟨y0, t0, rfl, q0, g0⟩ := hp_gSi (z := (1 + 0)) gS rfl
      obtain ⟨t1, rfl, g1⟩ := hp_gSa g0 (by decide)
      cases hp_gSn g1
      exact e0 l' h' y0 (by omega) a1 a2 a3 (hp_gLa gL (List.mem_of_getElem? (i := 0) rfl) (by decide)) (hp_gLi (z := (0 + (1 * m + 0))) gL (List.mem_of_getElem? (i := 1) rfl) rfl (by omega))
    cases hp
  · intro p hp ys v h' hys a1 a2 a3 gZ gS
    cases hp
theorem suA2_k : hq_chk [95] 96 2 2 [(0, 0, 4), (1, 0, 6)] [] [(0, .inr (.inr (.inl (some 40)))), (1, .inl (0, [(0, 1)]))] [] [(6155, (0, []), (1, [])), (6157, (0, []), (0, [(1, 1)]))] [] 3 [(16, ([], 2, [(0, 0, 4), (1, 0, 6)], [], [(0, .inr (.inr (.inl (some 40)))), (1, .inl (0, [(0, 1)]))], [.inl (1, []), .inr (.inr (.inl (some 40)))], []))] [] = true := by decide +kernel
theorem suA2 {cst : am_K} {strs : List Nat} {Φ : am_Q → Prop} {D : Nat} {M : am_M} {h : am_H} {l : am_L} (c : hp_C cst strs D) (hM : m_P[96]? = some M) (hD : (3 : Int) ≤ (D : Int) + 1) (hy : ly_hy m_tt ly_TH h) (m j : Int) (b0 : 0 ≤ m) (t0 : m ≤ 4) (b1 : 0 ≤ j) (t1 : j ≤ 6) (k0 : ly_hv cst h 6155 0 = some 1) (k1 : ly_hv cst h 6157 0 = some (j)) (l0 : hp_a l 0 40) (l1 : hp_i l 1 (m)) (e0 : ∀ (l' : am_L) (h' : am_H) (y0 : Int32), y0.toInt = 1 → ly_hy m_tt ly_TH h' → ly_fr cst [] h h' → h.length ≤ h'.length → hp_a l' 0 40 → hp_i l' 1 (m) → hp_F cst strs Φ D M 16 l' [.int y0, .ref 40] h') : hp_F cst strs Φ D M 2 l [] h := by
  refine hq_arc c hM suA2_k hD [m, j] rfl hy (hp_Bc (z := m) rfl b0 t0 (hp_Bc (z := j) rfl b1 t1 hp_Bn)) hp_Fn (hp_Kc (zi := (0 + 0)) (zv := (1 + 0)) k0 rfl rfl (by omega) (by omega) (hp_Kc (zi := (0 + 0)) (zv := (0 + (1 * j + 0))) k1 rfl rfl (by omega) (by omega) hp_Kn)) (hp_La l0 (hp_Li (z := (0 + (1 * m + 0))) l1 rfl (by omega) hp_Ln)) trivial ?_ ?_
  · intro p hp ys l' st' h' hys a1 a2 a3 gZ gL gS
    rcases List.mem_cons.mp hp with rfl | hp
    · obtain rfl := hp_y0 hys
      obtain ⟨y0, t0, rfl, q0, g0⟩ := hp_gSi (z := (1 + 0)) gS rfl
      obtain ⟨t1, rfl, g1⟩ := hp_gSa g0 (by decide)
      cases hp_gSn g1
      exact e0 l' h' y0 (by omega) a1 a2 a3 (hp_gLa gL (List.mem_of_getElem? (i := 0) rfl) (by decide)) (hp_gLi (z := (0 + (1 * m + 0))) gL (List.mem_of_getElem? (i := 1) rfl) rfl (by omega))
    cases hp
  · intro p hp ys v h' hys a1 a2 a3 gZ gS
    cases hp
theorem suB0_k : hq_chk [95] 96 2 0 [] [] [(0, .inr (.inr (.inl (some 40)))), (1, .inl (4, []))] [] [(6155, (0, []), (2, []))] [] 3 [(27, ([], 0, [], [], [(0, .inr (.inr (.inl (some 40))))], [.inl (4, []), .inr (.inr (.inl (some 40)))], []))] [] = true := by decide +kernel
theorem suB0 {cst : am_K} {strs : List Nat} {Φ : am_Q → Prop} {D : Nat} {M : am_M} {h : am_H} {l : am_L} (c : hp_C cst strs D) (hM : m_P[96]? = some M) (hD : (3 : Int) ≤ (D : Int) + 1) (hy : ly_hy m_tt ly_TH h) (k0 : ly_hv cst h 6155 0 = some 2) (l0 : hp_a l 0 40) (l1 : hp_i l 1 4) (e0 : ∀ (l' : am_L) (h' : am_H) (y0 : Int32), y0.toInt = 4 → ly_hy m_tt ly_TH h' → ly_fr cst [] h h' → h.length ≤ h'.length → hp_a l' 0 40 → hp_F cst strs Φ D M 27 l' [.int y0, .ref 40] h') : hp_F cst strs Φ D M 2 l [] h := by
  refine hq_arc c hM suB0_k hD [] rfl hy hp_Bn hp_Fn (hp_Kc (zi := (0 + 0)) (zv := (2 + 0)) k0 rfl rfl (by omega) (by omega) hp_Kn) (hp_La l0 (hp_Li (z := (4 + 0)) l1 rfl (by omega) hp_Ln)) trivial ?_ ?_
  · intro p hp ys l' st' h' hys a1 a2 a3 gZ gL gS
    rcases List.mem_cons.mp hp with rfl | hp
    · obtain rfl := hp_y0 hys
      obtain ⟨y0, t0, rfl, q0, g0⟩ := hp_gSi (z := (4 + 0)) gS rfl
      obtain ⟨t1, rfl, g1⟩ := hp_gSa g0 (by decide)
      cases hp_gSn g1
      exact e0 l' h' y0 (by omega) a1 a2 a3 (hp_gLa gL (List.mem_of_getElem? (i := 0) rfl) (by decide))
    cases hp
  · intro p hp ys v h' hys a1 a2 a3 gZ gS
    cases hp
theorem suB1_k : hq_chk [95] 96 2 0 [] [] [(0, .inr (.inr (.inl (some 40)))), (1, .inl (4, []))] [] [(6155, (0, []), (1, [])), (6157, (0, []), ((-1), []))] [] 3 [(27, ([], 0, [], [], [(0, .inr (.inr (.inl (some 40))))], [.inl (4, []), .inr (.inr (.inl (some 40)))], []))] [] = true := by decide +kernel
theorem suB1 {cst : am_K} {strs : List Nat} {Φ : am_Q → Prop} {D : Nat} {M : am_M} {h : am_H} {l : am_L} (c : hp_C cst strs D) (hM : m_P[96]? = some M) (hD : (3 : Int) ≤ (D : Int) + 1) (hy : ly_hy m_tt ly_TH h) (k0 : ly_hv cst h 6155 0 = some 1) (k1 : ly_hv cst h 6157 0 = some (-1)) (l0 : hp_a l 0 40) (l1 : hp_i l 1 4) (e0 : ∀ (l' : am_L) (h' : am_H) (y0 : Int32), y0.toInt = 4 → ly_hy m_tt ly_TH h' → ly_fr cst [] h h' → h.length ≤ h'.length → hp_a l' 0 40 → hp_F cst strs Φ D M 27 l' [.int y0, .ref 40] h') : hp_F cst strs Φ D M 2 l [] h := by
  refine hq_arc c hM suB1_k hD [] rfl hy hp_Bn hp_Fn (hp_Kc (zi := (0 + 0)) (zv := (1 + 0)) k0 rfl rfl (by omega) (by omega) (hp_Kc (zi := (0 + 0)) (zv := ((-1) + 0)) k1 rfl rfl (by omega) (by omega) hp_Kn)) (hp_La l0 (hp_Li (z := (4 + 0)) l1 rfl (by omega) hp_Ln)) trivial ?_ ?_
  · intro p hp ys l' st' h' hys a1 a2 a3 gZ gL gS
    rcases List.mem_cons.mp hp with rfl | hp
    · obtain rfl := hp_y0 hys
      obtain ⟨y0, t0, rfl, q0, g0⟩ := hp_gSi (z := (4 + 0)) gS rfl
      obtain ⟨t1, rfl, g1⟩ := hp_gSa g0 (by decide)
      cases hp_gSn g1
      exact e0 l' h' y0 (by omega) a1 a2 a3 (hp_gLa gL (List.mem_of_getElem? (i := 0) rfl) (by decide))
    cases hp
  · intro p hp ys v h' hys a1 a2 a3 gZ gS
    cases hp
theorem suC0_k : hq_chk [95] 96 2 2 [(0, 0, 3), (1, 1, 1152921504606846976)] [] [(0, .inr (.inr (.inl (some 40)))), (1, .inl (0, [(0, 1)]))] [] [(6155, (0, []), (1, [])), (6157, (0, []), ((-1), [])), (6156, (0, []), (0, [(1, 1)]))] [] 3 [(65, ([], 2, [(0, 0, 3), (1, 1, 1152921504606846976)], [], [(0, .inr (.inr (.inl (some 40)))), (1, .inl (0, [(0, 1)]))], [.inr (.inl (0, [(1, 1)])), .inr (.inr (.inl (some 30)))], []))] [] = true := by decide +kernel
theorem suC0 {cst : am_K} {strs : List Nat} {Φ : am_Q → Prop} {D : Nat} {M : am_M} {h : am_H} {l : am_L} (c : hp_C cst strs D) (hM : m_P[96]? = some M) (hD : (3 : Int) ≤ (D : Int) + 1) (hy : ly_hy m_tt ly_TH h) (m v : Int) (b0 : 0 ≤ m) (t0 : m ≤ 3) (b1 : 1 ≤ v) (t1 : v ≤ 1152921504606846976) (k0 : ly_hv cst h 6155 0 = some 1) (k1 : ly_hv cst h 6157 0 = some (-1)) (k2 : ly_hv cst h 6156 0 = some (v)) (l0 : hp_a l 0 40) (l1 : hp_i l 1 (m)) (e0 : ∀ (l' : am_L) (h' : am_H) (y0 : Int64), y0.toInt = (v) → ly_hy m_tt ly_TH h' → ly_fr cst [] h h' → h.length ≤ h'.length → hp_a l' 0 40 → hp_i l' 1 (m) → hp_F cst strs Φ D M 65 l' [.long y0, .ref 30] h') : hp_F cst strs Φ D M 2 l [] h := by
  refine hq_arc c hM suC0_k hD [m, v] rfl hy (hp_Bc (z := m) rfl b0 t0 (hp_Bc (z := v) rfl b1 t1 hp_Bn)) hp_Fn (hp_Kc (zi := (0 + 0)) (zv := (1 + 0)) k0 rfl rfl (by omega) (by omega) (hp_Kc (zi := (0 + 0)) (zv := ((-1) + 0)) k1 rfl rfl (by omega) (by omega) (hp_Kc (zi := (0 + 0)) (zv := (0 + (1 * v + 0))) k2 rfl rfl (by omega) (by omega) hp_Kn))) (hp_La l0 (hp_Li (z := (0 + (1 * m + 0))) l1 rfl (by omega) hp_Ln)) trivial ?_ ?_
  · intro p hp ys l' st' h' hys a1 a2 a3 gZ gL gS
    rcases List.mem_cons.mp hp with rfl | hp
    · obtain rfl := hp_y0 hys
      obtain ⟨y0, t0, rfl, q0, g0⟩ := hp_gSj (z := (0 + (1 * v + 0))) gS rfl
      obtain ⟨t1, rfl, g1⟩ := hp_gSa g0 (by decide)
      cases hp_gSn g1
      exact e0 l' h' y0 (by omega) a1 a2 a3 (hp_gLa gL (List.mem_of_getElem? (i := 0) rfl) (by decide)) (hp_gLi (z := (0 + (1 * m + 0))) gL (List.mem_of_getElem? (i := 1) rfl) rfl (by omega))
    cases hp
  · intro p hp ys v h' hys a1 a2 a3 gZ gS
    cases hp
theorem suC1_k : hq_chk [95, 80] 96 2 4 [(0, 0, 3), (1, 0, 1199), (2, 0, 1200), (3, 0, 9999)] [((-1), [(1, (-1)), (2, 1)])] [(0, .inr (.inr (.inl (some 40)))), (1, .inl (0, [(0, 1)]))] [] [(6155, (0, []), (2, [])), (6154, (0, []), (0, [(1, 1)])), (261, (0, []), (0, [(2, 1)])), (1280, (0, [(1, 1)]), (0, [(3, 1)]))] [] 3 [(65, ([], 4, [(0, 0, 3), (1, 0, 1199), (2, 0, 1200), (3, 0, 9999)], [], [(0, .inr (.inr (.inl (some 40)))), (1, .inl (0, [(0, 1)]))], [.inr (.inl ((-1), [(3, (-1))])), .inr (.inr (.inl (some 30)))], []))] [] = true := by decide +kernel
theorem suC1 {cst : am_K} {strs : List Nat} {Φ : am_Q → Prop} {D : Nat} {M : am_M} {h : am_H} {l : am_L} (c : hp_C cst strs D) (hM : m_P[96]? = some M) (hD : (3 : Int) ≤ (D : Int) + 1) (hy : ly_hy m_tt ly_TH h) (m b t x : Int) (b0 : 0 ≤ m) (t0 : m ≤ 3) (b1 : 0 ≤ b) (t1 : b ≤ 1199) (b2 : 0 ≤ t) (t2 : t ≤ 1200) (b3 : 0 ≤ x) (t3 : x ≤ 9999) (f0 : 0 ≤ (t - b - 1)) (k0 : ly_hv cst h 6155 0 = some 2) (k1 : ly_hv cst h 6154 0 = some (b)) (k2 : ly_hv cst h 261 0 = some (t)) (k3 : ly_hv cst h 1280 (b) = some (x)) (l0 : hp_a l 0 40) (l1 : hp_i l 1 (m)) (e0 : ∀ (l' : am_L) (h' : am_H) (y0 : Int64), y0.toInt = (-x - 1) → ly_hy m_tt ly_TH h' → ly_fr cst [] h h' → h.length ≤ h'.length → hp_a l' 0 40 → hp_i l' 1 (m) → hp_F cst strs Φ D M 65 l' [.long y0, .ref 30] h') : hp_F cst strs Φ D M 2 l [] h := by
  refine hq_arc c hM suC1_k hD [m, b, t, x] rfl hy (hp_Bc (z := m) rfl b0 t0 (hp_Bc (z := b) rfl b1 t1 (hp_Bc (z := t) rfl b2 t2 (hp_Bc (z := x) rfl b3 t3 hp_Bn)))) (hp_Fc (z := ((-1) + ((-1) * b + (1 * t + 0)))) rfl (by omega) hp_Fn) (hp_Kc (zi := (0 + 0)) (zv := (2 + 0)) k0 rfl rfl (by omega) (by omega) (hp_Kc (zi := (0 + 0)) (zv := (0 + (1 * b + 0))) k1 rfl rfl (by omega) (by omega) (hp_Kc (zi := (0 + 0)) (zv := (0 + (1 * t + 0))) k2 rfl rfl (by omega) (by omega) (hp_Kc (zi := (0 + (1 * b + 0))) (zv := (0 + (1 * x + 0))) k3 rfl rfl (by omega) (by omega) hp_Kn)))) (hp_La l0 (hp_Li (z := (0 + (1 * m + 0))) l1 rfl (by omega) hp_Ln)) trivial ?_ ?_
  · intro p hp ys l' st' h' hys a1 a2 a3 gZ gL gS
    rcases List.mem_cons.mp hp with rfl | hp
    · obtain rfl := hp_y0 hys
      obtain ⟨y0, t0, rfl, q0, g0⟩ := hp_gSj (z := ((-1) + ((-1) * x + 0))) gS rfl
      obtain ⟨t1, rfl, g1⟩ := hp_gSa g0 (by decide)
      cases hp_gSn g1
      exact e0 l' h' y0 (by omega) a1 a2 a3 (hp_gLa gL (List.mem_of_getElem? (i := 0) rfl) (by decide)) (hp_gLi (z := (0 + (1 * m + 0))) gL (List.mem_of_getElem? (i := 1) rfl) rfl (by omega))
    cases hp
  · intro p hp ys v h' hys a1 a2 a3 gZ gS
    cases hp
theorem suD_k : hp_chk 96 68 2 [(0, 0, 3), (1, 0, 1199)] [] [(0, .inr (.inr (.inl (some 40)))), (1, .inl (0, [(0, 1)]))] [] [(6154, (0, []), (0, [(1, 1)]))] [] 2 [(75, ([], 2, [(0, 0, 3), (1, 0, 1199)], [], [(0, .inr (.inr (.inl (some 40)))), (1, .inl (0, [(0, 1)]))], [.inl (1, [(1, 1)]), .inr (.inr (.inl (some 40)))], []))] [] = true := by decide +kernel
theorem suD {cst : am_K} {strs : List Nat} {Φ : am_Q → Prop} {D : Nat} {M : am_M} {h : am_H} {l : am_L} (c : hp_C cst strs D) (hM : m_P[96]? = some M) (hD : (2 : Int) ≤ (D : Int) + 1) (hy : ly_hy m_tt ly_TH h) (m b : Int) (b0 : 0 ≤ m) (t0 : m ≤ 3) (b1 : 0 ≤ b) (t1 : b ≤ 1199) (k0 : ly_hv cst h 6154 0 = some (b)) (l0 : hp_a l 0 40) (l1 : hp_i l 1 (m)) (e0 : ∀ (l' : am_L) (h' : am_H) (y0 : Int32), y0.toInt = (b + 1) → ly_hy m_tt ly_TH h' → ly_fr cst [] h h' → h.length ≤ h'.length → hp_a l' 0 40 → hp_i l' 1 (m) → hp_F cst strs Φ D M 75 l' [.int y0, .ref 40] h') : hp_F cst strs Φ D M 68 l [] h := by
  refine hp_arc c hM suD_k hD [m, b] rfl hy (hp_Bc (z := m) rfl b0 t0 (hp_Bc (z := b) rfl b1 t1 hp_Bn)) hp_Fn (hp_Kc (zi := (0 + 0)) (zv := (0 + (1 * b + 0))) k0 rfl rfl (by omega) (by omega) hp_Kn) (hp_La l0 (hp_Li (z := (0 + (1 * m + 0))) l1 rfl (by omega) hp_Ln)) trivial ?_ ?_
  · intro p hp ys l' st' h' hys a1 a2 a3 gZ gL gS
    rcases List.mem_cons.mp hp with rfl | hp
    · obtain rfl := hp_y0 hys
      obtain ⟨y0, t0, rfl, q0, g0⟩ := hp_gSi (z := (1 + (1 * b + 0))) gS rfl
      obtain ⟨t1, rfl, g1⟩ := hp_gSa g0 (by decide)
      cases hp_gSn g1
      exact e0 l' h' y0 (by omega) a1 a2 a3 (hp_gLa gL (List.mem_of_getElem? (i := 0) rfl) (by decide)) (hp_gLi (z := (0 + (1 * m + 0))) gL (List.mem_of_getElem? (i := 1) rfl) rfl (by omega))
    cases hp
  · intro p hp ys v h' hys a1 a2 a3 gZ gS
    cases hp
theorem suE0_k : hp_chk 96 78 2 [(0, 0, 3), (1, 0, 42)] [] [(0, .inr (.inr (.inl (some 40)))), (1, .inl (0, [(0, 1)]))] [] [(6155, (0, []), (0, [(1, 1)]))] [] 2 [] [([], 2, [(0, 0, 3), (1, 0, 42)], [], [], [.inl (1, [])], [])] = true := by decide +kernel
theorem suE0 {cst : am_K} {strs : List Nat} {Φ : am_Q → Prop} {D : Nat} {M : am_M} {h : am_H} {l : am_L} (c : hp_C cst strs D) (hM : m_P[96]? = some M) (hD : (2 : Int) ≤ (D : Int) + 1) (hy : ly_hy m_tt ly_TH h) (m q : Int) (b0 : 0 ≤ m) (t0 : m ≤ 3) (b1 : 0 ≤ q) (t1 : q ≤ 42) (k0 : ly_hv cst h 6155 0 = some (q)) (l0 : hp_a l 0 40) (l1 : hp_i l 1 (m)) (r0 : ∀ (h' : am_H) (y0 : Int32), y0.toInt = 1 → ly_hy m_tt ly_TH h' → ly_fr cst [] h h' → h.length ≤ h'.length → Φ (some (.int y0), h', 0, 0)) : hp_F cst strs Φ D M 78 l [] h := by
  refine hp_arc c hM suE0_k hD [m, q] rfl hy (hp_Bc (z := m) rfl b0 t0 (hp_Bc (z := q) rfl b1 t1 hp_Bn)) hp_Fn (hp_Kc (zi := (0 + 0)) (zv := (0 + (1 * q + 0))) k0 rfl rfl (by omega) (by omega) hp_Kn) (hp_La l0 (hp_Li (z := (0 + (1 * m + 0))) l1 rfl (by omega) hp_Ln)) trivial ?_ ?_
  · intro p hp ys l' st' h' hys a1 a2 a3 gZ gL gS
    cases hp
  · intro p hp ys v h' hys a1 a2 a3 gZ gS
    rcases List.mem_cons.mp hp with rfl | hp
    · obtain rfl := hp_y0 hys
      cases v with
      | none => cases gS
      | some w =>
        obtain ⟨y0, t0, s0, q0, -⟩ := hp_gSi (z := (1 + 0)) gS rfl
        cases s0
        exact r0 h' y0 (by omega) a1 a2 a3
    cases hp
theorem suE1_k : hp_chk 96 78 2 [(0, 0, 3), (1, 44, 255)] [] [(0, .inr (.inr (.inl (some 40)))), (1, .inl (0, [(0, 1)]))] [] [(6155, (0, []), (0, [(1, 1)]))] [] 2 [] [([], 2, [(0, 0, 3), (1, 44, 255)], [], [], [.inl (1, [])], [])] = true := by decide +kernel
theorem suE1 {cst : am_K} {strs : List Nat} {Φ : am_Q → Prop} {D : Nat} {M : am_M} {h : am_H} {l : am_L} (c : hp_C cst strs D) (hM : m_P[96]? = some M) (hD : (2 : Int) ≤ (D : Int) + 1) (hy : ly_hy m_tt ly_TH h) (m q : Int) (b0 : 0 ≤ m) (t0 : m ≤ 3) (b1 : 44 ≤ q) (t1 : q ≤ 255) (k0 : ly_hv cst h 6155 0 = some (q)) (l0 : hp_a l 0 40) (l1 : hp_i l 1 (m)) (r0 : ∀ (h' : am_H) (y0 : Int32), y0.toInt = 1 → ly_hy m_tt ly_TH h' → ly_fr cst [] h h' → h.length ≤ h'.length → Φ (some (.int y0), h', 0, 0)) : hp_F cst strs Φ D M 78 l [] h := by
  refine hp_arc c hM suE1_k hD [m, q] rfl hy (hp_Bc (z := m) rfl b0 t0 (hp_Bc (z := q) rfl b1 t1 hp_Bn)) hp_Fn (hp_Kc (zi := (0 + 0)) (zv := (0 + (1 * q + 0))) k0 rfl rfl (by omega) (by omega) hp_Kn) (hp_La l0 (hp_Li (z := (0 + (1 * m + 0))) l1 rfl (by omega) hp_Ln)) trivial ?_ ?_
  · intro p hp ys l' st' h' hys a1 a2 a3 gZ gL gS
    cases hp
  · intro p hp ys v h' hys a1 a2 a3 gZ gS
    rcases List.mem_cons.mp hp with rfl | hp
    · obtain rfl := hp_y0 hys
      cases v with
      | none => cases gS
      | some w =>
        obtain ⟨y0, t0, s0, q0, -⟩ := hp_gSi (z := (1 + 0)) gS rfl
        cases s0
        exact r0 h' y0 (by omega) a1 a2 a3
    cases hp
theorem suF_k : hp_chk 96 78 2 [(0, 0, 3), (1, 0, 1199)] [] [(0, .inr (.inr (.inl (some 40)))), (1, .inl (0, [(0, 1)]))] [] [(6155, (0, []), (43, [])), (6154, (0, []), (0, [(1, 1)]))] [] 2 [(96, ([], 2, [(0, 0, 3), (1, 0, 1199)], [], [(0, .inr (.inr (.inl (some 40)))), (1, .inl (0, [(0, 1)]))], [.inl (1, [(1, 1)]), .inr (.inr (.inl (some 40)))], []))] [] = true := by decide +kernel
theorem suF {cst : am_K} {strs : List Nat} {Φ : am_Q → Prop} {D : Nat} {M : am_M} {h : am_H} {l : am_L} (c : hp_C cst strs D) (hM : m_P[96]? = some M) (hD : (2 : Int) ≤ (D : Int) + 1) (hy : ly_hy m_tt ly_TH h) (m b : Int) (b0 : 0 ≤ m) (t0 : m ≤ 3) (b1 : 0 ≤ b) (t1 : b ≤ 1199) (k0 : ly_hv cst h 6155 0 = some 43) (k1 : ly_hv cst h 6154 0 = some (b)) (l0 : hp_a l 0 40) (l1 : hp_i l 1 (m)) (e0 : ∀ (l' : am_L) (h' : am_H) (y0 : Int32), y0.toInt = (b + 1) → ly_hy m_tt ly_TH h' → ly_fr cst [] h h' → h.length ≤ h'.length → hp_a l' 0 40 → hp_i l' 1 (m) → hp_F cst strs Φ D M 96 l' [.int y0, .ref 40] h') : hp_F cst strs Φ D M 78 l [] h := by
  refine hp_arc c hM suF_k hD [m, b] rfl hy (hp_Bc (z := m) rfl b0 t0 (hp_Bc (z := b) rfl b1 t1 hp_Bn)) hp_Fn (hp_Kc (zi := (0 + 0)) (zv := (43 + 0)) k0 rfl rfl (by omega) (by omega) (hp_Kc (zi := (0 + 0)) (zv := (0 + (1 * b + 0))) k1 rfl rfl (by omega) (by omega) hp_Kn)) (hp_La l0 (hp_Li (z := (0 + (1 * m + 0))) l1 rfl (by omega) hp_Ln)) trivial ?_ ?_
  · intro p hp ys l' st' h' hys a1 a2 a3 gZ gL gS
    rcases List.mem_cons.mp hp with rfl | hp
    · obtain rfl := hp_y0 hys
      obtain ⟨y0, t0, rfl, q0, g0⟩ := hp_gSi (z := (1 + (1 * b + 0))) gS rfl
      obtain ⟨t1, rfl, g1⟩ := hp_gSa g0 (by decide)
      cases hp_gSn g1
      exact e0 l' h' y0 (by omega) a1 a2 a3 (hp_gLa gL (List.mem_of_getElem? (i := 0) rfl) (by decide)) (hp_gLi (z := (0 + (1 * m + 0))) gL (List.mem_of_getElem? (i := 1) rfl) rfl (by omega))
    cases hp
  · intro p hp ys v h' hys a1 a2 a3 gZ gS
    cases hp
theorem suG_k : hp_chk 96 99 1 [(0, 0, 3)] [] [(0, .inr (.inr (.inl (some 40)))), (1, .inl (0, [(0, 1)]))] [] [] [] 2 [(2, ([], 1, [(0, 0, 3)], [], [(0, .inr (.inr (.inl (some 40)))), (1, .inl (1, [(0, 1)]))], [], []))] [] = true := by decide +kernel
theorem suG {cst : am_K} {strs : List Nat} {Φ : am_Q → Prop} {D : Nat} {M : am_M} {h : am_H} {l : am_L} (c : hp_C cst strs D) (hM : m_P[96]? = some M) (hD : (2 : Int) ≤ (D : Int) + 1) (hy : ly_hy m_tt ly_TH h) (m : Int) (b0 : 0 ≤ m) (t0 : m ≤ 3) (l0 : hp_a l 0 40) (l1 : hp_i l 1 (m)) (e0 : ∀ (l' : am_L) (h' : am_H), ly_hy m_tt ly_TH h' → ly_fr cst [] h h' → h.length ≤ h'.length → hp_a l' 0 40 → hp_i l' 1 (m + 1) → hp_F cst strs Φ D M 2 l' [] h') : hp_F cst strs Φ D M 99 l [] h := by
  refine hp_arc c hM suG_k hD [m] rfl hy (hp_Bc (z := m) rfl b0 t0 hp_Bn) hp_Fn hp_Kn (hp_La l0 (hp_Li (z := (0 + (1 * m + 0))) l1 rfl (by omega) hp_Ln)) trivial ?_ ?_
  · intro p hp ys l' st' h' hys a1 a2 a3 gZ gL gS
    rcases List.mem_cons.mp hp with rfl | hp
    · obtain rfl := hp_y0 hys
      cases hp_gSn gS
      exact e0 l' h' a1 a2 a3 (hp_gLa gL (List.mem_of_getElem? (i := 0) rfl) (by decide)) (hp_gLi (z := (1 + (1 * m + 0))) gL (List.mem_of_getElem? (i := 1) rfl) rfl (by omega))
    cases hp
  · intro p hp ys v h' hys a1 a2 a3 gZ gS
    cases hp
theorem fr96_16_k : hp_chk 96 19 0 [] [] [] [.inl (0, [])] [] [] 2 [] [([], 0, [], [], [], [.inl (0, [])], [])] = true := by decide +kernel
theorem fr96_16 {cst : am_K} {strs : List Nat} {Φ : am_Q → Prop} {D : Nat} {M : am_M} {h : am_H} {l : am_L} (c : hp_C cst strs D) (hM : m_P[96]? = some M) (hD : (2 : Int) ≤ (D : Int) + 1) (hy : ly_hy m_tt ly_TH h) (x0 : Int32) (hx0 : x0.toInt = 0) (r0 : ∀ (h' : am_H) (y0 : Int32), y0.toInt = 0 → ly_hy m_tt ly_TH h' → ly_fr cst [] h h' → h.length ≤ h'.length → Φ (some (.int y0), h', 0, 0)) : hp_F cst strs Φ D M 19 l [.int x0] h := by
  refine hp_arc c hM fr96_16_k hD [] rfl hy hp_Bn hp_Fn hp_Kn hp_Ln (hp_Si (z := (0 + 0)) rfl (by omega) trivial) ?_ ?_
  · intro p hp ys l' st' h' hys a1 a2 a3 gZ gL gS
    cases hp
  · intro p hp ys v h' hys a1 a2 a3 gZ gS
    rcases List.mem_cons.mp hp with rfl | hp
    · obtain rfl := hp_y0 hys
      cases v with
      | none => cases gS
      | some w =>
        obtain ⟨y0, t0, s0, q0, -⟩ := hp_gSi (z := (0 + 0)) gS rfl
        cases s0
        exact r0 h' y0 (by omega) a1 a2 a3
    cases hp
theorem fr96_27_k : hp_chk 96 30 0 [] [] [] [.inl (0, [])] [] [] 2 [] [([], 0, [], [], [], [.inl (0, [])], [])] = true := by decide +kernel
theorem fr96_27 {cst : am_K} {strs : List Nat} {Φ : am_Q → Prop} {D : Nat} {M : am_M} {h : am_H} {l : am_L} (c : hp_C cst strs D) (hM : m_P[96]? = some M) (hD : (2 : Int) ≤ (D : Int) + 1) (hy : ly_hy m_tt ly_TH h) (x0 : Int32) (hx0 : x0.toInt = 0) (r0 : ∀ (h' : am_H) (y0 : Int32), y0.toInt = 0 → ly_hy m_tt ly_TH h' → ly_fr cst [] h h' → h.length ≤ h'.length → Φ (some (.int y0), h', 0, 0)) : hp_F cst strs Φ D M 30 l [.int x0] h := by
  refine hp_arc c hM fr96_27_k hD [] rfl hy hp_Bn hp_Fn hp_Kn hp_Ln (hp_Si (z := (0 + 0)) rfl (by omega) trivial) ?_ ?_
  · intro p hp ys l' st' h' hys a1 a2 a3 gZ gL gS
    cases hp
  · intro p hp ys v h' hys a1 a2 a3 gZ gS
    rcases List.mem_cons.mp hp with rfl | hp
    · obtain rfl := hp_y0 hys
      cases v with
      | none => cases gS
      | some w =>
        obtain ⟨y0, t0, s0, q0, -⟩ := hp_gSi (z := (0 + 0)) gS rfl
        cases s0
        exact r0 h' y0 (by omega) a1 a2 a3
    cases hp
theorem fz96_16 {cst : am_K} {strs : List Nat} {Φ : am_Q → Prop} {D : Nat} {M : am_M} {h : am_H} {l : am_L} (c1 : hp_C cst strs D) (c : hp_C cst strs (D + 1)) (hM : m_P[96]? = some M) (hD : 3 ≤ D) (hy : ly_hy m_tt ly_TH h) {kd pl vl : Int → Int} {t : Nat} {n : Int} (t1 : (t : Int) ≤ 1200) (n0 : 0 ≤ n) (n1 : n ≤ 1200) (X : ct cst h kd pl vl t n) {y : Int32} {b : Nat} (k0 : 1 ≤ y.toInt) (k1 : y.toInt ≤ 4) (ka : ly_hv cst h 6154 0 = some (b : Int)) (b1 : (b : Int) ≤ 1200)
    (k : ∀ (h' : am_H) (w : Int32), w.toInt = 0 → ly_hy m_tt ly_TH h' → ly_fr cst [6144, 6145] h h' → ly_hv cst h' 6144 0 = some y.toInt → ly_hv cst h' 6145 0 = some (pa pl t n b) → Φ (some (.int w), h', 0, 0)) : hp_F cst strs Φ (D + 1) M 16 l [.int y, .ref 40] h := by
  obtain ⟨r, hrun, w, r1, r2, r3, rhy, rfr, e0, k2, k3⟩ := fl_run (xk := y) c1 (by omega) hy t1 n0 n1 X k0 k1 ka b1
  refine hp_call (mi := 96) (pc := 16) (tg := 83) (na := 2) (c := 24) (ci := 4) (st0 := [.int y, .ref 40]) (st := []) (av := [.int y]) hM (by decide +kernel) hy rfl rfl rfl (by decide) hrun r2 r3 ?_
  rw [r1]
  exact fr96_16 c hM (by omega) rhy w e0 (fun h5 v hv u1 u2 u3 => k h5 v hv u1 (ly_fr_tr rfr (hp_sub2 rfl u2)) (u2 _ _ _ rfl k2) (u2 _ _ _ rfl k3))
theorem fz96_27 {cst : am_K} {strs : List Nat} {Φ : am_Q → Prop} {D : Nat} {M : am_M} {h : am_H} {l : am_L} (c1 : hp_C cst strs D) (c : hp_C cst strs (D + 1)) (hM : m_P[96]? = some M) (hD : 3 ≤ D) (hy : ly_hy m_tt ly_TH h) {kd pl vl : Int → Int} {t : Nat} {n : Int} (t1 : (t : Int) ≤ 1200) (n0 : 0 ≤ n) (n1 : n ≤ 1200) (X : ct cst h kd pl vl t n) {y : Int32} {b : Nat} (k0 : 1 ≤ y.toInt) (k1 : y.toInt ≤ 4) (ka : ly_hv cst h 6154 0 = some (b : Int)) (b1 : (b : Int) ≤ 1200)
    (k : ∀ (h' : am_H) (w : Int32), w.toInt = 0 → ly_hy m_tt ly_TH h' → ly_fr cst [6144, 6145] h h' → ly_hv cst h' 6144 0 = some y.toInt → ly_hv cst h' 6145 0 = some (pa pl t n b) → Φ (some (.int w), h', 0, 0)) : hp_F cst strs Φ (D + 1) M 27 l [.int y, .ref 40] h := by
  obtain ⟨r, hrun, w, r1, r2, r3, rhy, rfr, e0, k2, k3⟩ := fl_run (xk := y) c1 (by omega) hy t1 n0 n1 X k0 k1 ka b1
  refine hp_call (mi := 96) (pc := 27) (tg := 83) (na := 2) (c := 24) (ci := 4) (st0 := [.int y, .ref 40]) (st := []) (av := [.int y]) hM (by decide +kernel) hy rfl rfl rfl (by decide) hrun r2 r3 ?_
  rw [r1]
  exact fr96_27 c hM (by omega) rhy w e0 (fun h5 v hv u1 u2 u3 => k h5 v hv u1 (ly_fr_tr rfr (hp_sub2 rfl u2)) (u2 _ _ _ rfl k2) (u2 _ _ _ rfl k3))
theorem lz96_75 {cst : am_K} {strs : List Nat} {Φ : am_Q → Prop} {D : Nat} {M : am_M} {h : am_H} {l : am_L} (c1 : hp_C cst strs D) (c : hp_C cst strs (D + 1)) (hM : m_P[96]? = some M) (hD : 3 ≤ D) (hy : ly_hy m_tt ly_TH h) {kd pl vl : Int → Int} {t : Nat} {n : Int} (t1 : (t : Int) ≤ 1200) (kb : kB kd t) (vb : vB kd vl t) (X : ct cst h kd pl vl t n) {y : Int32} {b : Nat} (e : y.toInt = (b : Int)) (b1 : (b : Int) ≤ 1200)
    (k : ∀ (h' : am_H), ly_hy m_tt ly_TH h' → ly_fr cst [6154, 6155, 6156, 6157] h h' → cs cst h' kd vl t b → hp_F cst strs Φ (D + 1) M 78 l [] h') : hp_F cst strs Φ (D + 1) M 75 l [.int y, .ref 40] h := by
  obtain ⟨r, hrun, r1, r2, r3, rhy, rfr, rC⟩ := lk_run (xb := y) c1 (by omega) hy t1 kb vb X e b1
  refine hp_call (mi := 96) (pc := 75) (tg := 78) (na := 2) (c := 24) (ci := 4) (st0 := [.int y, .ref 40]) (st := []) (av := [.int y]) hM (by decide +kernel) hy rfl rfl rfl (by decide) hrun r2 r3 ?_
  rw [r1]
  exact k _ rhy rfr rC
theorem lz96_96 {cst : am_K} {strs : List Nat} {Φ : am_Q → Prop} {D : Nat} {M : am_M} {h : am_H} {l : am_L} (c1 : hp_C cst strs D) (c : hp_C cst strs (D + 1)) (hM : m_P[96]? = some M) (hD : 3 ≤ D) (hy : ly_hy m_tt ly_TH h) {kd pl vl : Int → Int} {t : Nat} {n : Int} (t1 : (t : Int) ≤ 1200) (kb : kB kd t) (vb : vB kd vl t) (X : ct cst h kd pl vl t n) {y : Int32} {b : Nat} (e : y.toInt = (b : Int)) (b1 : (b : Int) ≤ 1200)
    (k : ∀ (h' : am_H), ly_hy m_tt ly_TH h' → ly_fr cst [6154, 6155, 6156, 6157] h h' → cs cst h' kd vl t b → hp_F cst strs Φ (D + 1) M 99 l [] h') : hp_F cst strs Φ (D + 1) M 96 l [.int y, .ref 40] h := by
  obtain ⟨r, hrun, r1, r2, r3, rhy, rfr, rC⟩ := lk_run (xb := y) c1 (by omega) hy t1 kb vb X e b1
  refine hp_call (mi := 96) (pc := 96) (tg := 78) (na := 2) (c := 24) (ci := 4) (st0 := [.int y, .ref 40]) (st := []) (av := [.int y]) hM (by decide +kernel) hy rfl rfl rfl (by decide) hrun r2 r3 ?_
  rw [r1]
  exact k _ rhy rfr rC
theorem dz96_65 {cst : am_K} {strs : List Nat} {Φ : am_Q → Prop} {D : Nat} {M : am_M} {h : am_H} {l : am_L} (c1 : hp_C cst strs D) (c : hp_C cst strs (D + 1)) (hM : m_P[96]? = some M) (hD : 1 ≤ D) (hy : ly_hy m_tt ly_TH h) {i0 : List Int} {L : List Int} (A : it cst h i0 L) (rm : (i0.length : Int) + (L.length : Int) ≤ 10239) {y : Int64}
    (k : ∀ (h' : am_H), ly_hy m_tt ly_TH h' → ly_fr cst [3594, 5888] h h' → it cst h' i0 (L ++ [y.toInt]) → hp_F cst strs Φ (D + 1) M 68 l [] h') : hp_F cst strs Φ (D + 1) M 65 l [.long y, .ref 30] h := by
  obtain ⟨r, hrun, r1, r2, r3, rhy, rfr, rI⟩ := di_run (xv := y) c1 hD hy A rm
  refine hp_call (mi := 96) (pc := 65) (tg := 97) (na := 2) (c := 14) (ci := 3) (st0 := [.long y, .ref 30]) (st := []) (av := [.long y]) hM (by decide +kernel) hy rfl rfl rfl (by decide) hrun r2 r3 ?_
  rw [r1]
  exact k _ rhy rfr rI
set_option maxHeartbeats 8000000 in
theorem su_lp {cst : am_K} {strs : List Nat} {D : Nat} {M : am_M} {h0 : am_H} (c1 : hp_C cst strs D) (c : hp_C cst strs (D + 1)) (hM : m_P[96]? = some M) (hD : 3 ≤ D) {kd pl vl : Int → Int} {t : Nat} {n : Int} (t1 : (t : Int) ≤ 1200) (n0 : 0 ≤ n) (n1 : n ≤ 1200) (kb : kB kd t) (vb : vB kd vl t) (X : ct cst h0 kd pl vl t n) {i0 : List Int} {P : List Int} (rm : (i0.length : Int) + (P.length : Int) ≤ 10236) : ∀ (F : Nat) (h : am_H) (l : am_L) (a : Nat) (L : List Int), F + L.length = 5 → L.length ≤ 4 → (a : Int) ≤ 1200 → ly_hy m_tt ly_TH h → ly_fr cst [3594, 5888, 6154, 6155, 6156, 6157] h0 h → cs cst h kd vl t a → it cst h i0 (P ++ L) → hp_a l 0 40 → hp_i l 1 (L.length : Int) → hp_F cst strs (pR cst h0 [3594, 5888, 6154, 6155, 6156, 6157] [3594, 5888, 6154, 6155, 6156, 6157] i0 pl t n (sm kd vl t F a L) (fun x h' => cs cst h' kd vl t x.1 ∧ it cst h' i0 (P ++ x.2))) (D + 1) M 2 l [] h := by
  intro F
  induction F with
  | zero => intro h l a L hN; omega
  | succ F ih =>
    intro h l a L hN nl a1 hy fr C I l0 l1
    have b := fk_b kb a
    have ab := ak_b kd vl t a
    obtain ⟨C1, C2, C3, C4⟩ := C
    have len : (P ++ L).length = P.length + L.length := List.length_append
    by_cases tmm : tm kd vl t a
    rotate_left
    · have er : sm kd vl t (F + 1) a L = .inl (1, a) := by
        rw [sm, if_neg tmm]
      have fz : ∀ (l2 : am_L) (h2 : am_H) (y0 : Int32), y0.toInt = 1 → ly_hy m_tt ly_TH h2 → ly_fr cst [] h h2 → hp_F cst strs (pR cst h0 [3594, 5888, 6154, 6155, 6156, 6157] [3594, 5888, 6154, 6155, 6156, 6157] i0 pl t n (sm kd vl t (F + 1) a L) (fun x h' => cs cst h' kd vl t x.1 ∧ it cst h' i0 (P ++ x.2))) (D + 1) M 16 l2 [.int y0, .ref 40] h2 := fun l2 h2 y0 e0 u1 u2 => fz96_16 c1 c hM hD u1 t1 n0 n1 (ct_mv (ct_mv X fr rfl) u2 rfl) (by omega) (by omega) (u2 _ _ _ rfl C1) a1 (fun h3 w hw v1 v2 z1 z2 => pR_f er hw v1 (ly_fr_tr (hp_sub2 rfl fr) (ly_fr_tr (hp_sub2 rfl u2) (hp_sub2 rfl v2))) (it_o (it_mv (it_mv I u2 rfl) v2 rfl)) (by rw [← e0]; exact z1) z2)
      by_cases q0 : fk kd t a = 0
      · rw [q0] at C2
        exact suA0 c hM (by omega) hy (L.length : Int) (by omega) (by omega) C2 l0 l1 (fun l2 h2 y0 e0 u1 u2 u3 m0 m1 => fz l2 h2 y0 e0 u1 u2)
      by_cases q1 : fk kd t a = 1
      · have j := jf_pos (k := ak kd vl t a) (by
          by_cases z : ak kd vl t a < 17
          · exact absurd (Or.inr ⟨q1, z⟩) tmm
          · omega) ab.2
        rw [q1] at C2
        exact suA2 c hM (by omega) hy (L.length : Int) (jf (ak kd vl t a)) (by omega) (by omega) j.1 j.2 C2 C4 l0 l1 (fun l2 h2 y0 e0 u1 u2 u3 m0 m1 => fz l2 h2 y0 e0 u1 u2)
      · have q2 : fk kd t a ≠ 2 := fun z => tmm (Or.inl z)
        exact suA1 c hM (by omega) hy (L.length : Int) (fk kd t a) (by omega) (by omega) (by omega) (by omega) C2 l0 l1 (fun l2 h2 y0 e0 u1 u2 u3 m0 m1 => fz l2 h2 y0 e0 u1 u2)
    have at' : a < t := fk_in (kd := kd) (by rcases tmm with z | ⟨z, -⟩ <;> rw [z] <;> decide)
    by_cases q4 : L.length = 4
    · have er : sm kd vl t (F + 1) a L = .inl (4, a) := by
        rw [sm, if_pos tmm, if_pos q4]
      have fz : ∀ (l2 : am_L) (h2 : am_H) (y0 : Int32), y0.toInt = 4 → ly_hy m_tt ly_TH h2 → ly_fr cst [] h h2 → hp_F cst strs (pR cst h0 [3594, 5888, 6154, 6155, 6156, 6157] [3594, 5888, 6154, 6155, 6156, 6157] i0 pl t n (sm kd vl t (F + 1) a L) (fun x h' => cs cst h' kd vl t x.1 ∧ it cst h' i0 (P ++ x.2))) (D + 1) M 27 l2 [.int y0, .ref 40] h2 := fun l2 h2 y0 e0 u1 u2 => fz96_27 c1 c hM hD u1 t1 n0 n1 (ct_mv (ct_mv X fr rfl) u2 rfl) (by omega) (by omega) (u2 _ _ _ rfl C1) a1 (fun h3 w hw v1 v2 z1 z2 => pR_f er hw v1 (ly_fr_tr (hp_sub2 rfl fr) (ly_fr_tr (hp_sub2 rfl u2) (hp_sub2 rfl v2))) (it_o (it_mv (it_mv I u2 rfl) v2 rfl)) (by rw [← e0]; exact z1) z2)
      rw [q4] at l1
      rcases tmm with z | ⟨z, z2⟩
      · rw [z] at C2
        exact suB0 c hM (by omega) hy C2 l0 l1 (fun l2 h2 y0 e0 u1 u2 u3 m0 => fz l2 h2 y0 e0 u1 u2)
      · rw [z] at C2
        rw [jf_neg z2 ab.1] at C4
        exact suB1 c hM (by omega) hy C2 C4 l0 l1 (fun l2 h2 y0 e0 u1 u2 u3 m0 => fz l2 h2 y0 e0 u1 u2)
    -- behind draftItem
    have go : ∀ (l2 : am_L) (h2 : am_H) (y0 : Int64), y0.toInt = ti kd vl t a → ly_hy m_tt ly_TH h2 → ly_fr cst [] h h2 → hp_a l2 0 40 → hp_i l2 1 (L.length : Int) → hp_F cst strs (pR cst h0 [3594, 5888, 6154, 6155, 6156, 6157] [3594, 5888, 6154, 6155, 6156, 6157] i0 pl t n (sm kd vl t (F + 1) a L) (fun x h' => cs cst h' kd vl t x.1 ∧ it cst h' i0 (P ++ x.2))) (D + 1) M 65 l2 [.long y0, .ref 30] h2 := by
      intro l2 h2 y0 e0 u1 u2 m0 m1
      refine dz96_65 c1 c hM (by omega) u1 (it_mv I u2 rfl) (by omega) (fun h3 v1 v2 I3 => ?_)
      rw [e0, List.append_assoc] at I3
      refine suD c hM (by omega) v1 (L.length : Int) (a : Int) (by omega) (by omega) (by omega) (by omega) (v2 _ _ _ rfl (u2 _ _ _ rfl C1)) m0 m1 (fun l4 h4 y1 e1 w1 w2 w3 o0 o1 => ?_)
      have fr4 : ly_fr cst [3594, 5888, 6154, 6155, 6156, 6157] h0 h4 := ly_fr_tr fr (ly_fr_tr (hp_sub2 rfl u2) (ly_fr_tr (hp_sub2 rfl v2) (hp_sub2 rfl w2)))
      refine lz96_75 c1 c hM hD w1 t1 kb vb (ct_mv X fr4 rfl) (b := a + 1) (by omega) (by omega) (fun h5 p1 p2 C5 => ?_)
      have fr5 : ly_fr cst [3594, 5888, 6154, 6155, 6156, 6157] h0 h5 := ly_fr_tr fr4 (hp_sub2 rfl p2)
      have I5 := it_mv (it_mv I3 w2 rfl) p2 rfl
      have b5 := fk_b kb (a + 1)
      by_cases q43 : fk kd t (a + 1) = 43
      · have er : sm kd vl t (F + 1) a L = sm kd vl t F (a + 2) (L ++ [ti kd vl t a]) := by
          rw [sm, if_pos tmm, if_neg q4, if_pos q43]
        have lt1 : a + 1 < t := fk_in (kd := kd) (by rw [q43]; decide)
        have k5 := C5.2.1
        rw [q43] at k5
        refine suF c hM (by omega) p1 (L.length : Int) ((a + 1 : Nat) : Int) (by omega) (by omega) (by omega) (by omega) k5 C5.1 o0 o1 (fun l6 h6 y2 e2 s1 s2 s3 g0 g1 => ?_)
        refine lz96_96 c1 c hM hD s1 t1 kb vb (ct_mv (ct_mv X fr5 rfl) s2 rfl) (b := a + 2) (by omega) (by omega) (fun h7 d1 d2 C7 => ?_)
        have fr7 : ly_fr cst [3594, 5888, 6154, 6155, 6156, 6157] h0 h7 := ly_fr_tr fr5 (ly_fr_tr (hp_sub2 rfl s2) (hp_sub2 rfl d2))
        have len9 : (L ++ [ti kd vl t a]).length = L.length + 1 := by
          rw [List.length_append, List.length_singleton]
        rw [er]
        refine suG c hM (by omega) d1 (L.length : Int) (by omega) (by omega) g0 g1 (fun l8 h8 x1 x2 x3 i0' i1' => ih h8 l8 (a + 2) (L ++ [ti kd vl t a]) (by omega) (by omega) (by omega) x1 (ly_fr_tr fr7 (hp_sub2 rfl x2)) (cs_mv C7 x2 rfl) (it_mv (it_mv (it_mv I5 s2 rfl) d2 rfl) x2 rfl) i0' (by rw [len9]; exact i1'))
      · have er : sm kd vl t (F + 1) a L = .inr (a + 1, L ++ [ti kd vl t a]) := by
          rw [sm, if_pos tmm, if_neg q4, if_neg q43]
        have fin : ∀ (h6 : am_H) (w : Int32), w.toInt = 1 → ly_hy m_tt ly_TH h6 → ly_fr cst [] h5 h6 → pR cst h0 [3594, 5888, 6154, 6155, 6156, 6157] [3594, 5888, 6154, 6155, 6156, 6157] i0 pl t n (sm kd vl t (F + 1) a L) (fun x h' => cs cst h' kd vl t x.1 ∧ it cst h' i0 (P ++ x.2)) (some (.int w), h6, 0, 0) := fun h6 w hw s1 s2 => pR_s er hw s1 (ly_fr_tr fr5 (hp_sub2 rfl s2)) ⟨cs_mv C5 s2 rfl, it_mv I5 s2 rfl⟩
        by_cases q42 : fk kd t (a + 1) ≤ 42
        · exact suE0 c hM (by omega) p1 (L.length : Int) (fk kd t (a + 1)) (by omega) (by omega) b5.1 q42 C5.2.1 o0 o1 (fun h6 w hw s1 s2 s3 => fin h6 w hw s1 s2)
        · exact suE1 c hM (by omega) p1 (L.length : Int) (fk kd t (a + 1)) (by omega) (by omega) (by omega) (by omega) C5.2.1 o0 o1 (fun h6 w hw s1 s2 s3 => fin h6 w hw s1 s2)
    have kb' := kb a at'
    have ef := fk_lt (kd := kd) at'
    rcases tmm with z | ⟨z, z2⟩
    · have vv := (vb a at').2 (by rw [← ef]; exact z)
      rw [z] at C2
      have et : ti kd vl t a = -1 - vl (a : Int) := if_neg (by rw [z]; decide)
      obtain ⟨x1, -, x3, -⟩ := ct_mv X fr rfl
      exact suC1 c hM (by omega) hy (L.length : Int) (a : Int) (t : Int) (vl (a : Int)) (by omega) (by omega) (by omega) (by omega) (by omega) t1 vv.1 vv.2 (by omega) C2 C1 x1 (x3 a at').2.2 l0 l1 (fun l2 h2 y0 e0 u1 u2 u3 m0 m1 => go l2 h2 y0 (by omega) u1 u2 m0 m1)
    · have vv := (vb a at').1 (by rw [← ef]; exact z)
      have ew : wv kd vl t a = vl (a : Int) := if_pos z
      have et : ti kd vl t a = vl (a : Int) := if_pos z
      rw [z] at C2
      rw [jf_neg z2 ab.1] at C4
      rw [ew] at C3
      exact suC0 c hM (by omega) hy (L.length : Int) (vl (a : Int)) (by omega) (by omega) vv.1 (by omega) C2 C4 C3 l0 l1 (fun l2 h2 y0 e0 u1 u2 u3 m0 m1 => go l2 h2 y0 (by omega) u1 u2 m0 m1)
/-- readSum of the class -/
theorem su_run {cst : am_K} {strs : List Nat} {D : Nat} {h : am_H} (c1 : hp_C cst strs D) (c : hp_C cst strs (D + 1)) (hD : 3 ≤ D) (hy : ly_hy m_tt ly_TH h) {kd pl vl : Int → Int} {t : Nat} {n : Int} (t1 : (t : Int) ≤ 1200) (n0 : 0 ≤ n) (n1 : n ≤ 1200) (kb : kB kd t) (vb : vB kd vl t) (X : ct cst h kd pl vl t n) {i0 : List Int} {P : List Int} (rm : (i0.length : Int) + (P.length : Int) ≤ 10236) {a : Nat} (a1 : (a : Int) ≤ 1200) (C : cs cst h kd vl t a) (I : it cst h i0 P) :
    ∃ r, am_Run cst m_cl m_tt m_P strs sx_bi (D + 1 + 1) 96 [.ref 40] h r ∧ pR cst h [3594, 5888, 6154, 6155, 6156, 6157] [3594, 5888, 6154, 6155, 6156, 6157] i0 pl t n (sm kd vl t 5 a []) (fun x h' => cs cst h' kd vl t x.1 ∧ it cst h' i0 (P ++ x.2)) r := by
  obtain ⟨M, hM, hl⟩ := hp_M (mi := 96) (k := 1) (by decide +kernel)
  obtain ⟨n', r, hgo, w, r1, r2, r3, r4⟩ := su0 (Φ := pR cst h [3594, 5888, 6154, 6155, 6156, 6157] [3594, 5888, 6154, 6155, 6156, 6157] i0 pl t n (sm kd vl t 5 a []) (fun x h' => cs cst h' kd vl t x.1 ∧ it cst h' i0 (P ++ x.2))) (l := lv_args 0 [.ref 40]) c hM (by omega) hy rfl (fun l1 h1 u1 u2 u3 m0 m1 => su_lp c1 c hM hD t1 n0 n1 kb vb X rm 5 h1 l1 a [] rfl (by decide) a1 u1 (hp_sub2 rfl u2) (cs_mv C u2 rfl) (by rw [List.append_nil]; exact it_mv I u2 rfl) m0 m1)
  simp only [Nat.zero_add] at r2 r3
  exact ⟨r, Or.inr ⟨M, n', hM, hl, hgo⟩, w, r1, r2, r3, r4⟩
