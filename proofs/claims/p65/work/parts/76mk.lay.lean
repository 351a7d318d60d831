/-! PRINTED by wip/p2/hp_lay.py: lay of the class, exactly as to the table -/
theorem cb7a_k : hq_chk [252, 119] 250 0 8 [(0, 0, 10), (1, 0, 10), (2, 0, 10), (3, 0, 10), (4, 0, 10), (5, 0, 10), (6, 0, 360), (7, (-2147483648), 2147483647)] [((-1), [(0, (-1)), (3, 1)]), ((-1), [(1, (-1)), (4, 1)]), ((-1), [(2, (-1)), (5, 1)])] [(0, .inr (.inr (.inl (some 85)))), (1, .inl (7, []))] [] [(18688, (0, []), (0, [(0, 1)])), (18688, (1, []), (0, [(1, 1)])), (18688, (2, []), (0, [(2, 1)])), (18432, (133, [(0, 121), (1, 11), (2, 1)]), (0, [(6, 1)])), (18176, (0, [(0, 1)]), (0, [(7, 1)])), (18176, (10, [(1, 1)]), (0, [(7, 1)])), (18176, (20, [(2, 1)]), (0, [(7, 1)]))] [] 5 [] [([], 8, [(0, 0, 10), (1, 0, 10), (2, 0, 10), (3, 0, 10), (4, 0, 10), (5, 0, 10), (6, 0, 360), (7, (-2147483648), 2147483647)], [], [], [.inl (0, [(6, 1)])], [])] = true := by decide +kernel
theorem cb7a {cst : am_K} {strs : List Nat} {Φ : am_Q → Prop} {D : Nat} {M : am_M} {h : am_H} {l : am_L} (c : hp_C cst strs D) (hM : m_P[250]? = some M) (hD : (5 : Int) ≤ (D : Int) + 1) (hy : ly_hy m_tt ly_TH h) (a b d ma mb md y u : Int) (b0 : 0 ≤ a) (t0 : a ≤ 10) (b1 : 0 ≤ b) (t1 : b ≤ 10) (b2 : 0 ≤ d) (t2 : d ≤ 10) (b3 : 0 ≤ ma) (t3 : ma ≤ 10) (b4 : 0 ≤ mb) (t4 : mb ≤ 10) (b5 : 0 ≤ md) (t5 : md ≤ 10) (b6 : 0 ≤ y) (t6 : y ≤ 360) (b7 : (-2147483648) ≤ u) (t7 : u ≤ 2147483647) (f0 : 0 ≤ (ma - a - 1)) (f1 : 0 ≤ (mb - b - 1)) (f2 : 0 ≤ (md - d - 1)) (k0 : ly_hv cst h 18688 0 = some (a)) (k1 : ly_hv cst h 18688 1 = some (b)) (k2 : ly_hv cst h 18688 2 = some (d)) (k3 : ly_hv cst h 18432 (121 * a + 11 * b + d + 133) = some (y)) (k4 : ly_hv cst h 18176 (a) = some (u)) (k5 : ly_hv cst h 18176 (b + 10) = some (u)) (k6 : ly_hv cst h 18176 (d + 20) = some (u)) (l0 : hp_a l 0 85) (l1 : hp_i l 1 7) (r0 : ∀ (h' : am_H) (y0 : Int32), y0.toInt = (y) → ly_hy m_tt ly_TH h' → ly_fr cst [] h h' → h.length ≤ h'.length → Φ (some (.int y0), h', 0, 0)) : hp_F cst strs Φ D M 0 l [] h := by
  refine hq_arc c hM cb7a_k hD [a, b, d, ma, mb, md, y, u] rfl hy (hp_Bc (z := a) rfl b0 t0 (hp_Bc (z := b) rfl b1 t1 (hp_Bc (z := d) rfl b2 t2 (hp_Bc (z := ma) rfl b3 t3 (hp_Bc (z := mb) rfl b4 t4 (hp_Bc (z := md) rfl b5 t5 (hp_Bc (z := y) rfl b6 t6 (hp_Bc (z := u) rfl b7 t7 hp_Bn)))))))) (hp_Fc (z := ((-1) + ((-1) * a + (1 * ma + 0)))) rfl (by omega) (hp_Fc (z := ((-1) + ((-1) * b + (1 * mb + 0)))) rfl (by omega) (hp_Fc (z := ((-1) + ((-1) * d + (1 * md + 0)))) rfl (by omega) hp_Fn))) (hp_Kc (zi := (0 + 0)) (zv := (0 + (1 * a + 0))) k0 rfl rfl (by omega) (by omega) (hp_Kc (zi := (1 + 0)) (zv := (0 + (1 * b + 0))) k1 rfl rfl (by omega) (by omega) (hp_Kc (zi := (2 + 0)) (zv := (0 + (1 * d + 0))) k2 rfl rfl (by omega) (by omega) (hp_Kc (zi := (133 + (121 * a + (11 * b + (1 * d + 0))))) (zv := (0 + (1 * y + 0))) k3 rfl rfl (by omega) (by omega) (hp_Kc (zi := (0 + (1 * a + 0))) (zv := (0 + (1 * u + 0))) k4 rfl rfl (by omega) (by omega) (hp_Kc (zi := (10 + (1 * b + 0))) (zv := (0 + (1 * u + 0))) k5 rfl rfl (by omega) (by omega) (hp_Kc (zi := (20 + (1 * d + 0))) (zv := (0 + (1 * u + 0))) k6 rfl rfl (by omega) (by omega) hp_Kn))))))) (hp_La l0 (hp_Li (z := (7 + 0)) l1 rfl (by omega) hp_Ln)) trivial ?_ ?_
  · intro p hp ys l' st' h' hys a1 a2 a3 gZ gL gS
    cases hp
  · intro p hp ys v h' hys a1 a2 a3 gZ gS
    rcases List.mem_cons.mp hp with rfl | hp
    · obtain rfl := hp_y0 hys
      cases v with
      | none => cases gS
      | some w =>
        obtain ⟨y0, t0, s0, q0, -⟩ := hp_gSi (z := (0 + (1 * y + 0))) gS rfl
        cases s0
        exact r0 h' y0 (by omega) a1 a2 a3
    cases hp
theorem cb7b_k : hq_chk [252, 119] 250 0 10 [(0, 0, 10), (1, 0, 10), (2, 0, 10), (3, 0, 10), (4, 0, 10), (5, 0, 10), (6, 0, 360), (7, (-2147483648), 2147483647), (8, (-2147483648), 2147483647), (9, (-2147483648), 2147483647)] [((-1), [(0, (-1)), (3, 1)]), ((-1), [(1, (-1)), (4, 1)]), ((-1), [(2, (-1)), (5, 1)])] [(0, .inr (.inr (.inl (some 85)))), (1, .inl (7, []))] [] [(18688, (0, []), (0, [(0, 1)])), (18688, (1, []), (0, [(1, 1)])), (18688, (2, []), (0, [(2, 1)])), (18432, (133, [(0, 121), (1, 11), (2, 1)]), (0, [(6, 1)])), (18176, (0, [(0, 1)]), (0, [(8, 1)])), (18176, (10, [(1, 1)]), (0, [(8, 1)])), (18176, (20, [(2, 1)]), (0, [(9, 1)])), (61000, (0, [(8, (-1)), (9, 1)]), (1, [])), (62010, (0, [(9, 1)]), (0, [(7, 1)])), (62010, (0, [(8, 1)]), (0, [(7, 1)]))] [] 5 [] [([], 10, [(0, 0, 10), (1, 0, 10), (2, 0, 10), (3, 0, 10), (4, 0, 10), (5, 0, 10), (6, 0, 360), (7, (-2147483648), 2147483647), (8, (-2147483648), 2147483647), (9, (-2147483648), 2147483647)], [], [], [.inl (2, [(6, 1)])], [])] = true := by decide +kernel
theorem cb7b {cst : am_K} {strs : List Nat} {Φ : am_Q → Prop} {D : Nat} {M : am_M} {h : am_H} {l : am_L} (c : hp_C cst strs D) (hM : m_P[250]? = some M) (hD : (5 : Int) ≤ (D : Int) + 1) (hy : ly_hy m_tt ly_TH h) (a b d ma mb md y q u w : Int) (b0 : 0 ≤ a) (t0 : a ≤ 10) (b1 : 0 ≤ b) (t1 : b ≤ 10) (b2 : 0 ≤ d) (t2 : d ≤ 10) (b3 : 0 ≤ ma) (t3 : ma ≤ 10) (b4 : 0 ≤ mb) (t4 : mb ≤ 10) (b5 : 0 ≤ md) (t5 : md ≤ 10) (b6 : 0 ≤ y) (t6 : y ≤ 360) (b7 : (-2147483648) ≤ q) (t7 : q ≤ 2147483647) (b8 : (-2147483648) ≤ u) (t8 : u ≤ 2147483647) (b9 : (-2147483648) ≤ w) (t9 : w ≤ 2147483647) (f0 : 0 ≤ (ma - a - 1)) (f1 : 0 ≤ (mb - b - 1)) (f2 : 0 ≤ (md - d - 1)) (k0 : ly_hv cst h 18688 0 = some (a)) (k1 : ly_hv cst h 18688 1 = some (b)) (k2 : ly_hv cst h 18688 2 = some (d)) (k3 : ly_hv cst h 18432 (121 * a + 11 * b + d + 133) = some (y)) (k4 : ly_hv cst h 18176 (a) = some (u)) (k5 : ly_hv cst h 18176 (b + 10) = some (u)) (k6 : ly_hv cst h 18176 (d + 20) = some (w)) (k7 : ly_hv cst h 61000 (w - u) = some 1) (k8 : ly_hv cst h 62010 (w) = some (q)) (k9 : ly_hv cst h 62010 (u) = some (q)) (l0 : hp_a l 0 85) (l1 : hp_i l 1 7) (r0 : ∀ (h' : am_H) (y0 : Int32), y0.toInt = (y + 2) → ly_hy m_tt ly_TH h' → ly_fr cst [] h h' → h.length ≤ h'.length → Φ (some (.int y0), h', 0, 0)) : hp_F cst strs Φ D M 0 l [] h := by
  refine hq_arc c hM cb7b_k hD [a, b, d, ma, mb, md, y, q, u, w] rfl hy (hp_Bc (z := a) rfl b0 t0 (hp_Bc (z := b) rfl b1 t1 (hp_Bc (z := d) rfl b2 t2 (hp_Bc (z := ma) rfl b3 t3 (hp_Bc (z := mb) rfl b4 t4 (hp_Bc (z := md) rfl b5 t5 (hp_Bc (z := y) rfl b6 t6 (hp_Bc (z := q) rfl b7 t7 (hp_Bc (z := u) rfl b8 t8 (hp_Bc (z := w) rfl b9 t9 hp_Bn)))))))))) (hp_Fc (z := ((-1) + ((-1) * a + (1 * ma + 0)))) rfl (by omega) (hp_Fc (z := ((-1) + ((-1) * b + (1 * mb + 0)))) rfl (by omega) (hp_Fc (z := ((-1) + ((-1) * d + (1 * md + 0)))) rfl (by omega) hp_Fn))) (hp_Kc (zi := (0 + 0)) (zv := (0 + (1 * a + 0))) k0 rfl rfl (by omega) (by omega) (hp_Kc (zi := (1 + 0)) (zv := (0 + (1 * b + 0))) k1 rfl rfl (by omega) (by omega) (hp_Kc (zi := (2 + 0)) (zv := (0 + (1 * d + 0))) k2 rfl rfl (by omega) (by omega) (hp_Kc (zi := (133 + (121 * a + (11 * b + (1 * d + 0))))) (zv := (0 + (1 * y + 0))) k3 rfl rfl (by omega) (by omega) (hp_Kc (zi := (0 + (1 * a + 0))) (zv := (0 + (1 * u + 0))) k4 rfl rfl (by omega) (by omega) (hp_Kc (zi := (10 + (1 * b + 0))) (zv := (0 + (1 * u + 0))) k5 rfl rfl (by omega) (by omega) (hp_Kc (zi := (20 + (1 * d + 0))) (zv := (0 + (1 * w + 0))) k6 rfl rfl (by omega) (by omega) (hp_Kc (zi := (0 + ((-1) * u + (1 * w + 0)))) (zv := (1 + 0)) k7 rfl rfl (by omega) (by omega) (hp_Kc (zi := (0 + (1 * w + 0))) (zv := (0 + (1 * q + 0))) k8 rfl rfl (by omega) (by omega) (hp_Kc (zi := (0 + (1 * u + 0))) (zv := (0 + (1 * q + 0))) k9 rfl rfl (by omega) (by omega) hp_Kn)))))))))) (hp_La l0 (hp_Li (z := (7 + 0)) l1 rfl (by omega) hp_Ln)) trivial ?_ ?_
  · intro p hp ys l' st' h' hys a1 a2 a3 gZ gL gS
    cases hp
  · intro p hp ys v h' hys a1 a2 a3 gZ gS
    rcases List.mem_cons.mp hp with rfl | hp
    · obtain rfl := hp_y0 hys
      cases v with
      | none => cases gS
      | some w =>
        obtain ⟨y0, t0, s0, q0, -⟩ := hp_gSi (z := (2 + (1 * y + 0))) gS rfl
        cases s0
        exact r0 h' y0 (by omega) a1 a2 a3
    cases hp
theorem cb7c_k : hq_chk [252, 119] 250 0 11 [(0, 0, 10), (1, 0, 10), (2, 0, 10), (3, 0, 10), (4, 0, 10), (5, 0, 10), (6, 0, 360), (7, (-2147483648), 2147483647), (8, (-2147483648), 2147483647), (9, (-2147483648), 2147483647), (10, (-2147483648), 2147483647)] [((-1), [(0, (-1)), (3, 1)]), ((-1), [(1, (-1)), (4, 1)]), ((-1), [(2, (-1)), (5, 1)])] [(0, .inr (.inr (.inl (some 85)))), (1, .inl (7, []))] [] [(18688, (0, []), (0, [(0, 1)])), (18688, (1, []), (0, [(1, 1)])), (18688, (2, []), (0, [(2, 1)])), (18432, (133, [(0, 121), (1, 11), (2, 1)]), (0, [(6, 1)])), (18176, (0, [(0, 1)]), (0, [(9, 1)])), (18176, (10, [(1, 1)]), (0, [(9, 1)])), (18176, (20, [(2, 1)]), (0, [(10, 1)])), (61000, (0, [(9, (-1)), (10, 1)]), (1, [])), (62010, (0, [(10, 1)]), (0, [(8, 1)])), (62010, (0, [(9, 1)]), (0, [(7, 1)])), (61000, (0, [(7, (-1)), (8, 1)]), (1, []))] [] 5 [] [([], 11, [(0, 0, 10), (1, 0, 10), (2, 0, 10), (3, 0, 10), (4, 0, 10), (5, 0, 10), (6, 0, 360), (7, (-2147483648), 2147483647), (8, (-2147483648), 2147483647), (9, (-2147483648), 2147483647), (10, (-2147483648), 2147483647)], [], [], [.inl (8, [(6, 1)])], [])] = true := by decide +kernel
theorem cb7c {cst : am_K} {strs : List Nat} {Φ : am_Q → Prop} {D : Nat} {M : am_M} {h : am_H} {l : am_L} (c : hp_C cst strs D) (hM : m_P[250]? = some M) (hD : (5 : Int) ≤ (D : Int) + 1) (hy : ly_hy m_tt ly_TH h) (a b d ma mb md y p q u w : Int) (b0 : 0 ≤ a) (t0 : a ≤ 10) (b1 : 0 ≤ b) (t1 : b ≤ 10) (b2 : 0 ≤ d) (t2 : d ≤ 10) (b3 : 0 ≤ ma) (t3 : ma ≤ 10) (b4 : 0 ≤ mb) (t4 : mb ≤ 10) (b5 : 0 ≤ md) (t5 : md ≤ 10) (b6 : 0 ≤ y) (t6 : y ≤ 360) (b7 : (-2147483648) ≤ p) (t7 : p ≤ 2147483647) (b8 : (-2147483648) ≤ q) (t8 : q ≤ 2147483647) (b9 : (-2147483648) ≤ u) (t9 : u ≤ 2147483647) (b10 : (-2147483648) ≤ w) (t10 : w ≤ 2147483647) (f0 : 0 ≤ (ma - a - 1)) (f1 : 0 ≤ (mb - b - 1)) (f2 : 0 ≤ (md - d - 1)) (k0 : ly_hv cst h 18688 0 = some (a)) (k1 : ly_hv cst h 18688 1 = some (b)) (k2 : ly_hv cst h 18688 2 = some (d)) (k3 : ly_hv cst h 18432 (121 * a + 11 * b + d + 133) = some (y)) (k4 : ly_hv cst h 18176 (a) = some (u)) (k5 : ly_hv cst h 18176 (b + 10) = some (u)) (k6 : ly_hv cst h 18176 (d + 20) = some (w)) (k7 : ly_hv cst h 61000 (w - u) = some 1) (k8 : ly_hv cst h 62010 (w) = some (q)) (k9 : ly_hv cst h 62010 (u) = some (p)) (k10 : ly_hv cst h 61000 (q - p) = some 1) (l0 : hp_a l 0 85) (l1 : hp_i l 1 7) (r0 : ∀ (h' : am_H) (y0 : Int32), y0.toInt = (y + 8) → ly_hy m_tt ly_TH h' → ly_fr cst [] h h' → h.length ≤ h'.length → Φ (some (.int y0), h', 0, 0)) : hp_F cst strs Φ D M 0 l [] h := by
  refine hq_arc c hM cb7c_k hD [a, b, d, ma, mb, md, y, p, q, u, w] rfl hy (hp_Bc (z := a) rfl b0 t0 (hp_Bc (z := b) rfl b1 t1 (hp_Bc (z := d) rfl b2 t2 (hp_Bc (z := ma) rfl b3 t3 (hp_Bc (z := mb) rfl b4 t4 (hp_Bc (z := md) rfl b5 t5 (hp_Bc (z := y) rfl b6 t6 (hp_Bc (z := p) rfl b7 t7 (hp_Bc (z := q) rfl b8 t8 (hp_Bc (z := u) rfl b9 t9 (hp_Bc (z := w) rfl b10 t10 hp_Bn))))))))))) (hp_Fc (z := ((-1) + ((-1) * a + (1 * ma + 0)))) rfl (by omega) (hp_Fc (z := ((-1) + ((-1) * b + (1 * mb + 0)))) rfl (by omega) (hp_Fc (z := ((-1) + ((-1) * d + (1 * md + 0)))) rfl (by omega) hp_Fn))) (hp_Kc (zi := (0 + 0)) (zv := (0 + (1 * a + 0))) k0 rfl rfl (by omega) (by omega) (hp_Kc (zi := (1 + 0)) (zv := (0 + (1 * b + 0))) k1 rfl rfl (by omega) (by omega) (hp_Kc (zi := (2 + 0)) (zv := (0 + (1 * d + 0))) k2 rfl rfl (by omega) (by omega) (hp_Kc (zi := (133 + (121 * a + (11 * b + (1 * d + 0))))) (zv := (0 + (1 * y + 0))) k3 rfl rfl (by omega) (by omega) (hp_Kc (zi := (0 + (1 * a + 0))) (zv := (0 + (1 * u + 0))) k4 rfl rfl (by omega) (by omega) (hp_Kc (zi := (10 + (1 * b + 0))) (zv := (0 + (1 * u + 0))) k5 rfl rfl (by omega) (by omega) (hp_Kc (zi := (20 + (1 * d + 0))) (zv := (0 + (1 * w + 0))) k6 rfl rfl (by omega) (by omega) (hp_Kc (zi := (0 + ((-1) * u + (1 * w + 0)))) (zv := (1 + 0)) k7 rfl rfl (by omega) (by omega) (hp_Kc (zi := (0 + (1 * w + 0))) (zv := (0 + (1 * q + 0))) k8 rfl rfl (by omega) (by omega) (hp_Kc (zi := (0 + (1 * u + 0))) (zv := (0 + (1 * p + 0))) k9 rfl rfl (by omega) (by omega) (hp_Kc (zi := (0 + ((-1) * p + (1 * q + 0)))) (zv := (1 + 0)) k10 rfl rfl (by omega) (by omega) hp_Kn))))))))))) (hp_La l0 (hp_Li (z := (7 + 0)) l1 rfl (by omega) hp_Ln)) trivial ?_ ?_
  · intro p hp ys l' st' h' hys a1 a2 a3 gZ gL gS
    cases hp
  · intro p hp ys v h' hys a1 a2 a3 gZ gS
    rcases List.mem_cons.mp hp with rfl | hp
    · obtain rfl := hp_y0 hys
      cases v with
      | none => cases gS
      | some w =>
        obtain ⟨y0, t0, s0, q0, -⟩ := hp_gSi (z := (8 + (1 * y + 0))) gS rfl
        cases s0
        exact r0 h' y0 (by omega) a1 a2 a3
    cases hp
theorem cb7d_k : hq_chk [252, 119] 250 0 10 [(0, 0, 10), (1, 0, 10), (2, 0, 10), (3, 0, 10), (4, 0, 10), (5, 0, 10), (6, 0, 360), (7, (-2147483648), 2147483647), (8, (-2147483648), 2147483647), (9, (-2147483648), 2147483647)] [((-1), [(0, (-1)), (3, 1)]), ((-1), [(1, (-1)), (4, 1)]), ((-1), [(2, (-1)), (5, 1)])] [(0, .inr (.inr (.inl (some 85)))), (1, .inl (7, []))] [] [(18688, (0, []), (0, [(0, 1)])), (18688, (1, []), (0, [(1, 1)])), (18688, (2, []), (0, [(2, 1)])), (18432, (133, [(0, 121), (1, 11), (2, 1)]), (0, [(6, 1)])), (18176, (0, [(0, 1)]), (0, [(8, 1)])), (18176, (10, [(1, 1)]), (0, [(9, 1)])), (18176, (20, [(2, 1)]), (0, [(8, 1)])), (61000, (0, [(8, (-1)), (9, 1)]), (1, [])), (62010, (0, [(9, 1)]), (0, [(7, 1)])), (62010, (0, [(8, 1)]), (0, [(7, 1)]))] [] 5 [] [([], 10, [(0, 0, 10), (1, 0, 10), (2, 0, 10), (3, 0, 10), (4, 0, 10), (5, 0, 10), (6, 0, 360), (7, (-2147483648), 2147483647), (8, (-2147483648), 2147483647), (9, (-2147483648), 2147483647)], [], [], [.inl (2, [(6, 1)])], [])] = true := by decide +kernel
theorem cb7d {cst : am_K} {strs : List Nat} {Φ : am_Q → Prop} {D : Nat} {M : am_M} {h : am_H} {l : am_L} (c : hp_C cst strs D) (hM : m_P[250]? = some M) (hD : (5 : Int) ≤ (D : Int) + 1) (hy : ly_hy m_tt ly_TH h) (a b d ma mb md y q u v : Int) (b0 : 0 ≤ a) (t0 : a ≤ 10) (b1 : 0 ≤ b) (t1 : b ≤ 10) (b2 : 0 ≤ d) (t2 : d ≤ 10) (b3 : 0 ≤ ma) (t3 : ma ≤ 10) (b4 : 0 ≤ mb) (t4 : mb ≤ 10) (b5 : 0 ≤ md) (t5 : md ≤ 10) (b6 : 0 ≤ y) (t6 : y ≤ 360) (b7 : (-2147483648) ≤ q) (t7 : q ≤ 2147483647) (b8 : (-2147483648) ≤ u) (t8 : u ≤ 2147483647) (b9 : (-2147483648) ≤ v) (t9 : v ≤ 2147483647) (f0 : 0 ≤ (ma - a - 1)) (f1 : 0 ≤ (mb - b - 1)) (f2 : 0 ≤ (md - d - 1)) (k0 : ly_hv cst h 18688 0 = some (a)) (k1 : ly_hv cst h 18688 1 = some (b)) (k2 : ly_hv cst h 18688 2 = some (d)) (k3 : ly_hv cst h 18432 (121 * a + 11 * b + d + 133) = some (y)) (k4 : ly_hv cst h 18176 (a) = some (u)) (k5 : ly_hv cst h 18176 (b + 10) = some (v)) (k6 : ly_hv cst h 18176 (d + 20) = some (u)) (k7 : ly_hv cst h 61000 (v - u) = some 1) (k8 : ly_hv cst h 62010 (v) = some (q)) (k9 : ly_hv cst h 62010 (u) = some (q)) (l0 : hp_a l 0 85) (l1 : hp_i l 1 7) (r0 : ∀ (h' : am_H) (y0 : Int32), y0.toInt = (y + 2) → ly_hy m_tt ly_TH h' → ly_fr cst [] h h' → h.length ≤ h'.length → Φ (some (.int y0), h', 0, 0)) : hp_F cst strs Φ D M 0 l [] h := by
  refine hq_arc c hM cb7d_k hD [a, b, d, ma, mb, md, y, q, u, v] rfl hy (hp_Bc (z := a) rfl b0 t0 (hp_Bc (z := b) rfl b1 t1 (hp_Bc (z := d) rfl b2 t2 (hp_Bc (z := ma) rfl b3 t3 (hp_Bc (z := mb) rfl b4 t4 (hp_Bc (z := md) rfl b5 t5 (hp_Bc (z := y) rfl b6 t6 (hp_Bc (z := q) rfl b7 t7 (hp_Bc (z := u) rfl b8 t8 (hp_Bc (z := v) rfl b9 t9 hp_Bn)))))))))) (hp_Fc (z := ((-1) + ((-1) * a + (1 * ma + 0)))) rfl (by omega) (hp_Fc (z := ((-1) + ((-1) * b + (1 * mb + 0)))) rfl (by omega) (hp_Fc (z := ((-1) + ((-1) * d + (1 * md + 0)))) rfl (by omega) hp_Fn))) (hp_Kc (zi := (0 + 0)) (zv := (0 + (1 * a + 0))) k0 rfl rfl (by omega) (by omega) (hp_Kc (zi := (1 + 0)) (zv := (0 + (1 * b + 0))) k1 rfl rfl (by omega) (by omega) (hp_Kc (zi := (2 + 0)) (zv := (0 + (1 * d + 0))) k2 rfl rfl (by omega) (by omega) (hp_Kc (zi := (133 + (121 * a + (11 * b + (1 * d + 0))))) (zv := (0 + (1 * y + 0))) k3 rfl rfl (by omega) (by omega) (hp_Kc (zi := (0 + (1 * a + 0))) (zv := (0 + (1 * u + 0))) k4 rfl rfl (by omega) (by omega) (hp_Kc (zi := (10 + (1 * b + 0))) (zv := (0 + (1 * v + 0))) k5 rfl rfl (by omega) (by omega) (hp_Kc (zi := (20 + (1 * d + 0))) (zv := (0 + (1 * u + 0))) k6 rfl rfl (by omega) (by omega) (hp_Kc (zi := (0 + ((-1) * u + (1 * v + 0)))) (zv := (1 + 0)) k7 rfl rfl (by omega) (by omega) (hp_Kc (zi := (0 + (1 * v + 0))) (zv := (0 + (1 * q + 0))) k8 rfl rfl (by omega) (by omega) (hp_Kc (zi := (0 + (1 * u + 0))) (zv := (0 + (1 * q + 0))) k9 rfl rfl (by omega) (by omega) hp_Kn)))))))))) (hp_La l0 (hp_Li (z := (7 + 0)) l1 rfl (by omega) hp_Ln)) trivial ?_ ?_
  · intro p hp ys l' st' h' hys a1 a2 a3 gZ gL gS
    cases hp
  · intro p hp ys v h' hys a1 a2 a3 gZ gS
    rcases List.mem_cons.mp hp with rfl | hp
    · obtain rfl := hp_y0 hys
      cases v with
      | none => cases gS
      | some w =>
        obtain ⟨y0, t0, s0, q0, -⟩ := hp_gSi (z := (2 + (1 * y + 0))) gS rfl
        cases s0
        exact r0 h' y0 (by omega) a1 a2 a3
    cases hp
theorem cb7e_k : hq_chk [252, 119] 250 0 11 [(0, 0, 10), (1, 0, 10), (2, 0, 10), (3, 0, 10), (4, 0, 10), (5, 0, 10), (6, 0, 360), (7, (-2147483648), 2147483647), (8, (-2147483648), 2147483647), (9, (-2147483648), 2147483647), (10, (-2147483648), 2147483647)] [((-1), [(0, (-1)), (3, 1)]), ((-1), [(1, (-1)), (4, 1)]), ((-1), [(2, (-1)), (5, 1)])] [(0, .inr (.inr (.inl (some 85)))), (1, .inl (7, []))] [] [(18688, (0, []), (0, [(0, 1)])), (18688, (1, []), (0, [(1, 1)])), (18688, (2, []), (0, [(2, 1)])), (18432, (133, [(0, 121), (1, 11), (2, 1)]), (0, [(6, 1)])), (18176, (0, [(0, 1)]), (0, [(9, 1)])), (18176, (10, [(1, 1)]), (0, [(10, 1)])), (18176, (20, [(2, 1)]), (0, [(9, 1)])), (61000, (0, [(9, (-1)), (10, 1)]), (1, [])), (62010, (0, [(10, 1)]), (0, [(8, 1)])), (62010, (0, [(9, 1)]), (0, [(7, 1)])), (61000, (0, [(7, (-1)), (8, 1)]), (1, []))] [] 5 [] [([], 11, [(0, 0, 10), (1, 0, 10), (2, 0, 10), (3, 0, 10), (4, 0, 10), (5, 0, 10), (6, 0, 360), (7, (-2147483648), 2147483647), (8, (-2147483648), 2147483647), (9, (-2147483648), 2147483647), (10, (-2147483648), 2147483647)], [], [], [.inl (8, [(6, 1)])], [])] = true := by decide +kernel
theorem cb7e {cst : am_K} {strs : List Nat} {Φ : am_Q → Prop} {D : Nat} {M : am_M} {h : am_H} {l : am_L} (c : hp_C cst strs D) (hM : m_P[250]? = some M) (hD : (5 : Int) ≤ (D : Int) + 1) (hy : ly_hy m_tt ly_TH h) (a b d ma mb md y p q u v : Int) (b0 : 0 ≤ a) (t0 : a ≤ 10) (b1 : 0 ≤ b) (t1 : b ≤ 10) (b2 : 0 ≤ d) (t2 : d ≤ 10) (b3 : 0 ≤ ma) (t3 : ma ≤ 10) (b4 : 0 ≤ mb) (t4 : mb ≤ 10) (b5 : 0 ≤ md) (t5 : md ≤ 10) (b6 : 0 ≤ y) (t6 : y ≤ 360) (b7 : (-2147483648) ≤ p) (t7 : p ≤ 2147483647) (b8 : (-2147483648) ≤ q) (t8 : q ≤ 2147483647) (b9 : (-2147483648) ≤ u) (t9 : u ≤ 2147483647) (b10 : (-2147483648) ≤ v) (t10 : v ≤ 2147483647) (f0 : 0 ≤ (ma - a - 1)) (f1 : 0 ≤ (mb - b - 1)) (f2 : 0 ≤ (md - d - 1)) (k0 : ly_hv cst h 18688 0 = some (a)) (k1 : ly_hv cst h 18688 1 = some (b)) (k2 : ly_hv cst h 18688 2 = some (d)) (k3 : ly_hv cst h 18432 (121 * a + 11 * b + d + 133) = some (y)) (k4 : ly_hv cst h 18176 (a) = some (u)) (k5 : ly_hv cst h 18176 (b + 10) = some (v)) (k6 : ly_hv cst h 18176 (d + 20) = some (u)) (k7 : ly_hv cst h 61000 (v - u) = some 1) (k8 : ly_hv cst h 62010 (v) = some (q)) (k9 : ly_hv cst h 62010 (u) = some (p)) (k10 : ly_hv cst h 61000 (q - p) = some 1) (l0 : hp_a l 0 85) (l1 : hp_i l 1 7) (r0 : ∀ (h' : am_H) (y0 : Int32), y0.toInt = (y + 8) → ly_hy m_tt ly_TH h' → ly_fr cst [] h h' → h.length ≤ h'.length → Φ (some (.int y0), h', 0, 0)) : hp_F cst strs Φ D M 0 l [] h := by
  refine hq_arc c hM cb7e_k hD [a, b, d, ma, mb, md, y, p, q, u, v] rfl hy (hp_Bc (z := a) rfl b0 t0 (hp_Bc (z := b) rfl b1 t1 (hp_Bc (z := d) rfl b2 t2 (hp_Bc (z := ma) rfl b3 t3 (hp_Bc (z := mb) rfl b4 t4 (hp_Bc (z := md) rfl b5 t5 (hp_Bc (z := y) rfl b6 t6 (hp_Bc (z := p) rfl b7 t7 (hp_Bc (z := q) rfl b8 t8 (hp_Bc (z := u) rfl b9 t9 (hp_Bc (z := v) rfl b10 t10 hp_Bn))))))))))) (hp_Fc (z := ((-1) + ((-1) * a + (1 * ma + 0)))) rfl (by omega) (hp_Fc (z := ((-1) + ((-1) * b + (1 * mb + 0)))) rfl (by omega) (hp_Fc (z := ((-1) + ((-1) * d + (1 * md + 0)))) rfl (by omega) hp_Fn))) (hp_Kc (zi := (0 + 0)) (zv := (0 + (1 * a + 0))) k0 rfl rfl (by omega) (by omega) (hp_Kc (zi := (1 + 0)) (zv := (0 + (1 * b + 0))) k1 rfl rfl (by omega) (by omega) (hp_Kc (zi := (2 + 0)) (zv := (0 + (1 * d + 0))) k2 rfl rfl (by omega) (by omega) (hp_Kc (zi := (133 + (121 * a + (11 * b + (1 * d + 0))))) (zv := (0 + (1 * y + 0))) k3 rfl rfl (by omega) (by omega) (hp_Kc (zi := (0 + (1 * a + 0))) (zv := (0 + (1 * u + 0))) k4 rfl rfl (by omega) (by omega) (hp_Kc (zi := (10 + (1 * b + 0))) (zv := (0 + (1 * v + 0))) k5 rfl rfl (by omega) (by omega) (hp_Kc (zi := (20 + (1 * d + 0))) (zv := (0 + (1 * u + 0))) k6 rfl rfl (by omega) (by omega) (hp_Kc (zi := (0 + ((-1) * u + (1 * v + 0)))) (zv := (1 + 0)) k7 rfl rfl (by omega) (by omega) (hp_Kc (zi := (0 + (1 * v + 0))) (zv := (0 + (1 * q + 0))) k8 rfl rfl (by omega) (by omega) (hp_Kc (zi := (0 + (1 * u + 0))) (zv := (0 + (1 * p + 0))) k9 rfl rfl (by omega) (by omega) (hp_Kc (zi := (0 + ((-1) * p + (1 * q + 0)))) (zv := (1 + 0)) k10 rfl rfl (by omega) (by omega) hp_Kn))))))))))) (hp_La l0 (hp_Li (z := (7 + 0)) l1 rfl (by omega) hp_Ln)) trivial ?_ ?_
  · intro p hp ys l' st' h' hys a1 a2 a3 gZ gL gS
    cases hp
  · intro p hp ys v h' hys a1 a2 a3 gZ gS
    rcases List.mem_cons.mp hp with rfl | hp
    · obtain rfl := hp_y0 hys
      cases v with
      | none => cases gS
      | some w =>
        obtain ⟨y0, t0, s0, q0, -⟩ := hp_gSi (z := (8 + (1 * y + 0))) gS rfl
        cases s0
        exact r0 h' y0 (by omega) a1 a2 a3
    cases hp
theorem cb7f_k : hq_chk [252, 119] 250 0 10 [(0, 0, 10), (1, 0, 10), (2, 0, 10), (3, 0, 10), (4, 0, 10), (5, 0, 10), (6, 0, 360), (7, (-2147483648), 2147483647), (8, (-2147483648), 2147483647), (9, (-2147483648), 2147483647)] [((-1), [(0, (-1)), (3, 1)]), ((-1), [(1, (-1)), (4, 1)]), ((-1), [(2, (-1)), (5, 1)])] [(0, .inr (.inr (.inl (some 85)))), (1, .inl (7, []))] [] [(18688, (0, []), (0, [(0, 1)])), (18688, (1, []), (0, [(1, 1)])), (18688, (2, []), (0, [(2, 1)])), (18432, (133, [(0, 121), (1, 11), (2, 1)]), (0, [(6, 1)])), (18176, (0, [(0, 1)]), (0, [(8, 1)])), (18176, (10, [(1, 1)]), (0, [(9, 1)])), (18176, (20, [(2, 1)]), (0, [(9, 1)])), (61000, (0, [(8, (-1)), (9, 1)]), (1, [])), (62010, (0, [(9, 1)]), (0, [(7, 1)])), (62010, (0, [(8, 1)]), (0, [(7, 1)]))] [] 5 [] [([], 10, [(0, 0, 10), (1, 0, 10), (2, 0, 10), (3, 0, 10), (4, 0, 10), (5, 0, 10), (6, 0, 360), (7, (-2147483648), 2147483647), (8, (-2147483648), 2147483647), (9, (-2147483648), 2147483647)], [], [], [.inl (2, [(6, 1)])], [])] = true := by decide +kernel
theorem cb7f {cst : am_K} {strs : List Nat} {Φ : am_Q → Prop} {D : Nat} {M : am_M} {h : am_H} {l : am_L} (c : hp_C cst strs D) (hM : m_P[250]? = some M) (hD : (5 : Int) ≤ (D : Int) + 1) (hy : ly_hy m_tt ly_TH h) (a b d ma mb md y q u v : Int) (b0 : 0 ≤ a) (t0 : a ≤ 10) (b1 : 0 ≤ b) (t1 : b ≤ 10) (b2 : 0 ≤ d) (t2 : d ≤ 10) (b3 : 0 ≤ ma) (t3 : ma ≤ 10) (b4 : 0 ≤ mb) (t4 : mb ≤ 10) (b5 : 0 ≤ md) (t5 : md ≤ 10) (b6 : 0 ≤ y) (t6 : y ≤ 360) (b7 : (-2147483648) ≤ q) (t7 : q ≤ 2147483647) (b8 : (-2147483648) ≤ u) (t8 : u ≤ 2147483647) (b9 : (-2147483648) ≤ v) (t9 : v ≤ 2147483647) (f0 : 0 ≤ (ma - a - 1)) (f1 : 0 ≤ (mb - b - 1)) (f2 : 0 ≤ (md - d - 1)) (k0 : ly_hv cst h 18688 0 = some (a)) (k1 : ly_hv cst h 18688 1 = some (b)) (k2 : ly_hv cst h 18688 2 = some (d)) (k3 : ly_hv cst h 18432 (121 * a + 11 * b + d + 133) = some (y)) (k4 : ly_hv cst h 18176 (a) = some (u)) (k5 : ly_hv cst h 18176 (b + 10) = some (v)) (k6 : ly_hv cst h 18176 (d + 20) = some (v)) (k7 : ly_hv cst h 61000 (v - u) = some 1) (k8 : ly_hv cst h 62010 (v) = some (q)) (k9 : ly_hv cst h 62010 (u) = some (q)) (l0 : hp_a l 0 85) (l1 : hp_i l 1 7) (r0 : ∀ (h' : am_H) (y0 : Int32), y0.toInt = (y + 2) → ly_hy m_tt ly_TH h' → ly_fr cst [] h h' → h.length ≤ h'.length → Φ (some (.int y0), h', 0, 0)) : hp_F cst strs Φ D M 0 l [] h := by
  refine hq_arc c hM cb7f_k hD [a, b, d, ma, mb, md, y, q, u, v] rfl hy (hp_Bc (z := a) rfl b0 t0 (hp_Bc (z := b) rfl b1 t1 (hp_Bc (z := d) rfl b2 t2 (hp_Bc (z := ma) rfl b3 t3 (hp_Bc (z := mb) rfl b4 t4 (hp_Bc (z := md) rfl b5 t5 (hp_Bc (z := y) rfl b6 t6 (hp_Bc (z := q) rfl b7 t7 (hp_Bc (z := u) rfl b8 t8 (hp_Bc (z := v) rfl b9 t9 hp_Bn)))))))))) (hp_Fc (z := ((-1) + ((-1) * a + (1 * ma + 0)))) rfl (by omega) (hp_Fc (z := ((-1) + ((-1) * b + (1 * mb + 0)))) rfl (by omega) (hp_Fc (z := ((-1) + ((-1) * d + (1 * md + 0)))) rfl (by omega) hp_Fn))) (hp_Kc (zi := (0 + 0)) (zv := (0 + (1 * a + 0))) k0 rfl rfl (by omega) (by omega) (hp_Kc (zi := (1 + 0)) (zv := (0 + (1 * b + 0))) k1 rfl rfl (by omega) (by omega) (hp_Kc (zi := (2 + 0)) (zv := (0 + (1 * d + 0))) k2 rfl rfl (by omega) (by omega) (hp_Kc (zi := (133 + (121 * a + (11 * b + (1 * d + 0))))) (zv := (0 + (1 * y + 0))) k3 rfl rfl (by omega) (by omega) (hp_Kc (zi := (0 + (1 * a + 0))) (zv := (0 + (1 * u + 0))) k4 rfl rfl (by omega) (by omega) (hp_Kc (zi := (10 + (1 * b + 0))) (zv := (0 + (1 * v + 0))) k5 rfl rfl (by omega) (by omega) (hp_Kc (zi := (20 + (1 * d + 0))) (zv := (0 + (1 * v + 0))) k6 rfl rfl (by omega) (by omega) (hp_Kc (zi := (0 + ((-1) * u + (1 * v + 0)))) (zv := (1 + 0)) k7 rfl rfl (by omega) (by omega) (hp_Kc (zi := (0 + (1 * v + 0))) (zv := (0 + (1 * q + 0))) k8 rfl rfl (by omega) (by omega) (hp_Kc (zi := (0 + (1 * u + 0))) (zv := (0 + (1 * q + 0))) k9 rfl rfl (by omega) (by omega) hp_Kn)))))))))) (hp_La l0 (hp_Li (z := (7 + 0)) l1 rfl (by omega) hp_Ln)) trivial ?_ ?_
  · intro p hp ys l' st' h' hys a1 a2 a3 gZ gL gS
    cases hp
  · intro p hp ys v h' hys a1 a2 a3 gZ gS
    rcases List.mem_cons.mp hp with rfl | hp
    · obtain rfl := hp_y0 hys
      cases v with
      | none => cases gS
      | some w =>
        obtain ⟨y0, t0, s0, q0, -⟩ := hp_gSi (z := (2 + (1 * y + 0))) gS rfl
        cases s0
        exact r0 h' y0 (by omega) a1 a2 a3
    cases hp
theorem cb7g_k : hq_chk [252, 119] 250 0 11 [(0, 0, 10), (1, 0, 10), (2, 0, 10), (3, 0, 10), (4, 0, 10), (5, 0, 10), (6, 0, 360), (7, (-2147483648), 2147483647), (8, (-2147483648), 2147483647), (9, (-2147483648), 2147483647), (10, (-2147483648), 2147483647)] [((-1), [(0, (-1)), (3, 1)]), ((-1), [(1, (-1)), (4, 1)]), ((-1), [(2, (-1)), (5, 1)])] [(0, .inr (.inr (.inl (some 85)))), (1, .inl (7, []))] [] [(18688, (0, []), (0, [(0, 1)])), (18688, (1, []), (0, [(1, 1)])), (18688, (2, []), (0, [(2, 1)])), (18432, (133, [(0, 121), (1, 11), (2, 1)]), (0, [(6, 1)])), (18176, (0, [(0, 1)]), (0, [(9, 1)])), (18176, (10, [(1, 1)]), (0, [(10, 1)])), (18176, (20, [(2, 1)]), (0, [(10, 1)])), (61000, (0, [(9, (-1)), (10, 1)]), (1, [])), (62010, (0, [(10, 1)]), (0, [(8, 1)])), (62010, (0, [(9, 1)]), (0, [(7, 1)])), (61000, (0, [(7, (-1)), (8, 1)]), (1, []))] [] 5 [] [([], 11, [(0, 0, 10), (1, 0, 10), (2, 0, 10), (3, 0, 10), (4, 0, 10), (5, 0, 10), (6, 0, 360), (7, (-2147483648), 2147483647), (8, (-2147483648), 2147483647), (9, (-2147483648), 2147483647), (10, (-2147483648), 2147483647)], [], [], [.inl (8, [(6, 1)])], [])] = true := by decide +kernel
theorem cb7g {cst : am_K} {strs : List Nat} {Φ : am_Q → Prop} {D : Nat} {M : am_M} {h : am_H} {l : am_L} (c : hp_C cst strs D) (hM : m_P[250]? = some M) (hD : (5 : Int) ≤ (D : Int) + 1) (hy : ly_hy m_tt ly_TH h) (a b d ma mb md y p q u v : Int) (b0 : 0 ≤ a) (t0 : a ≤ 10) (b1 : 0 ≤ b) (t1 : b ≤ 10) (b2 : 0 ≤ d) (t2 : d ≤ 10) (b3 : 0 ≤ ma) (t3 : ma ≤ 10) (b4 : 0 ≤ mb) (t4 : mb ≤ 10) (b5 : 0 ≤ md) (t5 : md ≤ 10) (b6 : 0 ≤ y) (t6 : y ≤ 360) (b7 : (-2147483648) ≤ p) (t7 : p ≤ 2147483647) (b8 : (-2147483648) ≤ q) (t8 : q ≤ 2147483647) (b9 : (-2147483648) ≤ u) (t9 : u ≤ 2147483647) (b10 : (-2147483648) ≤ v) (t10 : v ≤ 2147483647) (f0 : 0 ≤ (ma - a - 1)) (f1 : 0 ≤ (mb - b - 1)) (f2 : 0 ≤ (md - d - 1)) (k0 : ly_hv cst h 18688 0 = some (a)) (k1 : ly_hv cst h 18688 1 = some (b)) (k2 : ly_hv cst h 18688 2 = some (d)) (k3 : ly_hv cst h 18432 (121 * a + 11 * b + d + 133) = some (y)) (k4 : ly_hv cst h 18176 (a) = some (u)) (k5 : ly_hv cst h 18176 (b + 10) = some (v)) (k6 : ly_hv cst h 18176 (d + 20) = some (v)) (k7 : ly_hv cst h 61000 (v - u) = some 1) (k8 : ly_hv cst h 62010 (v) = some (q)) (k9 : ly_hv cst h 62010 (u) = some (p)) (k10 : ly_hv cst h 61000 (q - p) = some 1) (l0 : hp_a l 0 85) (l1 : hp_i l 1 7) (r0 : ∀ (h' : am_H) (y0 : Int32), y0.toInt = (y + 8) → ly_hy m_tt ly_TH h' → ly_fr cst [] h h' → h.length ≤ h'.length → Φ (some (.int y0), h', 0, 0)) : hp_F cst strs Φ D M 0 l [] h := by
  refine hq_arc c hM cb7g_k hD [a, b, d, ma, mb, md, y, p, q, u, v] rfl hy (hp_Bc (z := a) rfl b0 t0 (hp_Bc (z := b) rfl b1 t1 (hp_Bc (z := d) rfl b2 t2 (hp_Bc (z := ma) rfl b3 t3 (hp_Bc (z := mb) rfl b4 t4 (hp_Bc (z := md) rfl b5 t5 (hp_Bc (z := y) rfl b6 t6 (hp_Bc (z := p) rfl b7 t7 (hp_Bc (z := q) rfl b8 t8 (hp_Bc (z := u) rfl b9 t9 (hp_Bc (z := v) rfl b10 t10 hp_Bn))))))))))) (hp_Fc (z := ((-1) + ((-1) * a + (1 * ma + 0)))) rfl (by omega) (hp_Fc (z := ((-1) + ((-1) * b + (1 * mb + 0)))) rfl (by omega) (hp_Fc (z := ((-1) + ((-1) * d + (1 * md + 0)))) rfl (by omega) hp_Fn))) (hp_Kc (zi := (0 + 0)) (zv := (0 + (1 * a + 0))) k0 rfl rfl (by omega) (by omega) (hp_Kc (zi := (1 + 0)) (zv := (0 + (1 * b + 0))) k1 rfl rfl (by omega) (by omega) (hp_Kc (zi := (2 + 0)) (zv := (0 + (1 * d + 0))) k2 rfl rfl (by omega) (by omega) (hp_Kc (zi := (133 + (121 * a + (11 * b + (1 * d + 0))))) (zv := (0 + (1 * y + 0))) k3 rfl rfl (by omega) (by omega) (hp_Kc (zi := (0 + (1 * a + 0))) (zv := (0 + (1 * u + 0))) k4 rfl rfl (by omega) (by omega) (hp_Kc (zi := (10 + (1 * b + 0))) (zv := (0 + (1 * v + 0))) k5 rfl rfl (by omega) (by omega) (hp_Kc (zi := (20 + (1 * d + 0))) (zv := (0 + (1 * v + 0))) k6 rfl rfl (by omega) (by omega) (hp_Kc (zi := (0 + ((-1) * u + (1 * v + 0)))) (zv := (1 + 0)) k7 rfl rfl (by omega) (by omega) (hp_Kc (zi := (0 + (1 * v + 0))) (zv := (0 + (1 * q + 0))) k8 rfl rfl (by omega) (by omega) (hp_Kc (zi := (0 + (1 * u + 0))) (zv := (0 + (1 * p + 0))) k9 rfl rfl (by omega) (by omega) (hp_Kc (zi := (0 + ((-1) * p + (1 * q + 0)))) (zv := (1 + 0)) k10 rfl rfl (by omega) (by omega) hp_Kn))))))))))) (hp_La l0 (hp_Li (z := (7 + 0)) l1 rfl (by omega) hp_Ln)) trivial ?_ ?_
  · intro p hp ys l' st' h' hys a1 a2 a3 gZ gL gS
    cases hp
  · intro p hp ys v h' hys a1 a2 a3 gZ gS
    rcases List.mem_cons.mp hp with rfl | hp
    · obtain rfl := hp_y0 hys
      cases v with
      | none => cases gS
      | some w =>
        obtain ⟨y0, t0, s0, q0, -⟩ := hp_gSi (z := (8 + (1 * y + 0))) gS rfl
        cases s0
        exact r0 h' y0 (by omega) a1 a2 a3
    cases hp
theorem cb7h_k : hq_chk [252, 119] 250 0 11 [(0, 0, 10), (1, 0, 10), (2, 0, 10), (3, 0, 10), (4, 0, 10), (5, 0, 10), (6, 0, 360), (7, (-2147483648), 2147483647), (8, (-2147483648), 2147483647), (9, (-2147483648), 2147483647), (10, (-2147483648), 2147483647)] [((-1), [(0, (-1)), (3, 1)]), ((-1), [(1, (-1)), (4, 1)]), ((-1), [(2, (-1)), (5, 1)])] [(0, .inr (.inr (.inl (some 85)))), (1, .inl (7, []))] [] [(18688, (0, []), (0, [(0, 1)])), (18688, (1, []), (0, [(1, 1)])), (18688, (2, []), (0, [(2, 1)])), (18432, (133, [(0, 121), (1, 11), (2, 1)]), (0, [(6, 1)])), (18176, (0, [(0, 1)]), (0, [(8, 1)])), (18176, (10, [(1, 1)]), (0, [(9, 1)])), (18176, (20, [(2, 1)]), (0, [(10, 1)])), (61000, (0, [(8, (-1)), (9, 1)]), (1, [])), (61000, (0, [(8, (-1)), (10, 1)]), (1, [])), (61000, (0, [(9, (-1)), (10, 1)]), (1, [])), (62010, (0, [(8, 1)]), (0, [(7, 1)])), (62010, (0, [(9, 1)]), (0, [(7, 1)])), (62010, (0, [(10, 1)]), (0, [(7, 1)]))] [] 5 [] [([], 11, [(0, 0, 10), (1, 0, 10), (2, 0, 10), (3, 0, 10), (4, 0, 10), (5, 0, 10), (6, 0, 360), (7, (-2147483648), 2147483647), (8, (-2147483648), 2147483647), (9, (-2147483648), 2147483647), (10, (-2147483648), 2147483647)], [], [], [.inl (3, [(6, 1)])], [])] = true := by decide +kernel
theorem cb7h {cst : am_K} {strs : List Nat} {Φ : am_Q → Prop} {D : Nat} {M : am_M} {h : am_H} {l : am_L} (c : hp_C cst strs D) (hM : m_P[250]? = some M) (hD : (5 : Int) ≤ (D : Int) + 1) (hy : ly_hy m_tt ly_TH h) (a b d ma mb md y p u v w : Int) (b0 : 0 ≤ a) (t0 : a ≤ 10) (b1 : 0 ≤ b) (t1 : b ≤ 10) (b2 : 0 ≤ d) (t2 : d ≤ 10) (b3 : 0 ≤ ma) (t3 : ma ≤ 10) (b4 : 0 ≤ mb) (t4 : mb ≤ 10) (b5 : 0 ≤ md) (t5 : md ≤ 10) (b6 : 0 ≤ y) (t6 : y ≤ 360) (b7 : (-2147483648) ≤ p) (t7 : p ≤ 2147483647) (b8 : (-2147483648) ≤ u) (t8 : u ≤ 2147483647) (b9 : (-2147483648) ≤ v) (t9 : v ≤ 2147483647) (b10 : (-2147483648) ≤ w) (t10 : w ≤ 2147483647) (f0 : 0 ≤ (ma - a - 1)) (f1 : 0 ≤ (mb - b - 1)) (f2 : 0 ≤ (md - d - 1)) (k0 : ly_hv cst h 18688 0 = some (a)) (k1 : ly_hv cst h 18688 1 = some (b)) (k2 : ly_hv cst h 18688 2 = some (d)) (k3 : ly_hv cst h 18432 (121 * a + 11 * b + d + 133) = some (y)) (k4 : ly_hv cst h 18176 (a) = some (u)) (k5 : ly_hv cst h 18176 (b + 10) = some (v)) (k6 : ly_hv cst h 18176 (d + 20) = some (w)) (k7 : ly_hv cst h 61000 (v - u) = some 1) (k8 : ly_hv cst h 61000 (w - u) = some 1) (k9 : ly_hv cst h 61000 (w - v) = some 1) (k10 : ly_hv cst h 62010 (u) = some (p)) (k11 : ly_hv cst h 62010 (v) = some (p)) (k12 : ly_hv cst h 62010 (w) = some (p)) (l0 : hp_a l 0 85) (l1 : hp_i l 1 7) (r0 : ∀ (h' : am_H) (y0 : Int32), y0.toInt = (y + 3) → ly_hy m_tt ly_TH h' → ly_fr cst [] h h' → h.length ≤ h'.length → Φ (some (.int y0), h', 0, 0)) : hp_F cst strs Φ D M 0 l [] h := by
  refine hq_arc c hM cb7h_k hD [a, b, d, ma, mb, md, y, p, u, v, w] rfl hy (hp_Bc (z := a) rfl b0 t0 (hp_Bc (z := b) rfl b1 t1 (hp_Bc (z := d) rfl b2 t2 (hp_Bc (z := ma) rfl b3 t3 (hp_Bc (z := mb) rfl b4 t4 (hp_Bc (z := md) rfl b5 t5 (hp_Bc (z := y) rfl b6 t6 (hp_Bc (z := p) rfl b7 t7 (hp_Bc (z := u) rfl b8 t8 (hp_Bc (z := v) rfl b9 t9 (hp_Bc (z := w) rfl b10 t10 hp_Bn))))))))))) (hp_Fc (z := ((-1) + ((-1) * a + (1 * ma + 0)))) rfl (by omega) (hp_Fc (z := ((-1) + ((-1) * b + (1 * mb + 0)))) rfl (by omega) (hp_Fc (z := ((-1) + ((-1) * d + (1 * md + 0)))) rfl (by omega) hp_Fn))) (hp_Kc (zi := (0 + 0)) (zv := (0 + (1 * a + 0))) k0 rfl rfl (by omega) (by omega) (hp_Kc (zi := (1 + 0)) (zv := (0 + (1 * b + 0))) k1 rfl rfl (by omega) (by omega) (hp_Kc (zi := (2 + 0)) (zv := (0 + (1 * d + 0))) k2 rfl rfl (by omega) (by omega) (hp_Kc (zi := (133 + (121 * a + (11 * b + (1 * d + 0))))) (zv := (0 + (1 * y + 0))) k3 rfl rfl (by omega) (by omega) (hp_Kc (zi := (0 + (1 * a + 0))) (zv := (0 + (1 * u + 0))) k4 rfl rfl (by omega) (by omega) (hp_Kc (zi := (10 + (1 * b + 0))) (zv := (0 + (1 * v + 0))) k5 rfl rfl (by omega) (by omega) (hp_Kc (zi := (20 + (1 * d + 0))) (zv := (0 + (1 * w + 0))) k6 rfl rfl (by omega) (by omega) (hp_Kc (zi := (0 + ((-1) * u + (1 * v + 0)))) (zv := (1 + 0)) k7 rfl rfl (by omega) (by omega) (hp_Kc (zi := (0 + ((-1) * u + (1 * w + 0)))) (zv := (1 + 0)) k8 rfl rfl (by omega) (by omega) (hp_Kc (zi := (0 + ((-1) * v + (1 * w + 0)))) (zv := (1 + 0)) k9 rfl rfl (by omega) (by omega) (hp_Kc (zi := (0 + (1 * u + 0))) (zv := (0 + (1 * p + 0))) k10 rfl rfl (by omega) (by omega) (hp_Kc (zi := (0 + (1 * v + 0))) (zv := (0 + (1 * p + 0))) k11 rfl rfl (by omega) (by omega) (hp_Kc (zi := (0 + (1 * w + 0))) (zv := (0 + (1 * p + 0))) k12 rfl rfl (by omega) (by omega) hp_Kn))))))))))))) (hp_La l0 (hp_Li (z := (7 + 0)) l1 rfl (by omega) hp_Ln)) trivial ?_ ?_
  · intro p hp ys l' st' h' hys a1 a2 a3 gZ gL gS
    cases hp
  · intro p hp ys v h' hys a1 a2 a3 gZ gS
    rcases List.mem_cons.mp hp with rfl | hp
    · obtain rfl := hp_y0 hys
      cases v with
      | none => cases gS
      | some w =>
        obtain ⟨y0, t0, s0, q0, -⟩ := hp_gSi (z := (3 + (1 * y + 0))) gS rfl
        cases s0
        exact r0 h' y0 (by omega) a1 a2 a3
    cases hp
theorem cb7i_k : hq_chk [252, 119] 250 0 12 [(0, 0, 10), (1, 0, 10), (2, 0, 10), (3, 0, 10), (4, 0, 10), (5, 0, 10), (6, 0, 360), (7, (-2147483648), 2147483647), (8, (-2147483648), 2147483647), (9, (-2147483648), 2147483647), (10, (-2147483648), 2147483647), (11, (-2147483648), 2147483647)] [((-1), [(0, (-1)), (3, 1)]), ((-1), [(1, (-1)), (4, 1)]), ((-1), [(2, (-1)), (5, 1)])] [(0, .inr (.inr (.inl (some 85)))), (1, .inl (7, []))] [] [(18688, (0, []), (0, [(0, 1)])), (18688, (1, []), (0, [(1, 1)])), (18688, (2, []), (0, [(2, 1)])), (18432, (133, [(0, 121), (1, 11), (2, 1)]), (0, [(6, 1)])), (18176, (0, [(0, 1)]), (0, [(9, 1)])), (18176, (10, [(1, 1)]), (0, [(10, 1)])), (18176, (20, [(2, 1)]), (0, [(11, 1)])), (61000, (0, [(9, (-1)), (10, 1)]), (1, [])), (61000, (0, [(9, (-1)), (11, 1)]), (1, [])), (61000, (0, [(10, (-1)), (11, 1)]), (1, [])), (62010, (0, [(9, 1)]), (0, [(7, 1)])), (62010, (0, [(10, 1)]), (0, [(7, 1)])), (62010, (0, [(11, 1)]), (0, [(8, 1)])), (61000, (0, [(7, (-1)), (8, 1)]), (1, []))] [] 5 [] [([], 12, [(0, 0, 10), (1, 0, 10), (2, 0, 10), (3, 0, 10), (4, 0, 10), (5, 0, 10), (6, 0, 360), (7, (-2147483648), 2147483647), (8, (-2147483648), 2147483647), (9, (-2147483648), 2147483647), (10, (-2147483648), 2147483647), (11, (-2147483648), 2147483647)], [], [], [.inl (9, [(6, 1)])], [])] = true := by decide +kernel
theorem cb7i {cst : am_K} {strs : List Nat} {Φ : am_Q → Prop} {D : Nat} {M : am_M} {h : am_H} {l : am_L} (c : hp_C cst strs D) (hM : m_P[250]? = some M) (hD : (5 : Int) ≤ (D : Int) + 1) (hy : ly_hy m_tt ly_TH h) (a b d ma mb md y p r u v w : Int) (b0 : 0 ≤ a) (t0 : a ≤ 10) (b1 : 0 ≤ b) (t1 : b ≤ 10) (b2 : 0 ≤ d) (t2 : d ≤ 10) (b3 : 0 ≤ ma) (t3 : ma ≤ 10) (b4 : 0 ≤ mb) (t4 : mb ≤ 10) (b5 : 0 ≤ md) (t5 : md ≤ 10) (b6 : 0 ≤ y) (t6 : y ≤ 360) (b7 : (-2147483648) ≤ p) (t7 : p ≤ 2147483647) (b8 : (-2147483648) ≤ r) (t8 : r ≤ 2147483647) (b9 : (-2147483648) ≤ u) (t9 : u ≤ 2147483647) (b10 : (-2147483648) ≤ v) (t10 : v ≤ 2147483647) (b11 : (-2147483648) ≤ w) (t11 : w ≤ 2147483647) (f0 : 0 ≤ (ma - a - 1)) (f1 : 0 ≤ (mb - b - 1)) (f2 : 0 ≤ (md - d - 1)) (k0 : ly_hv cst h 18688 0 = some (a)) (k1 : ly_hv cst h 18688 1 = some (b)) (k2 : ly_hv cst h 18688 2 = some (d)) (k3 : ly_hv cst h 18432 (121 * a + 11 * b + d + 133) = some (y)) (k4 : ly_hv cst h 18176 (a) = some (u)) (k5 : ly_hv cst h 18176 (b + 10) = some (v)) (k6 : ly_hv cst h 18176 (d + 20) = some (w)) (k7 : ly_hv cst h 61000 (v - u) = some 1) (k8 : ly_hv cst h 61000 (w - u) = some 1) (k9 : ly_hv cst h 61000 (w - v) = some 1) (k10 : ly_hv cst h 62010 (u) = some (p)) (k11 : ly_hv cst h 62010 (v) = some (p)) (k12 : ly_hv cst h 62010 (w) = some (r)) (k13 : ly_hv cst h 61000 (r - p) = some 1) (l0 : hp_a l 0 85) (l1 : hp_i l 1 7) (r0 : ∀ (h' : am_H) (y0 : Int32), y0.toInt = (y + 9) → ly_hy m_tt ly_TH h' → ly_fr cst [] h h' → h.length ≤ h'.length → Φ (some (.int y0), h', 0, 0)) : hp_F cst strs Φ D M 0 l [] h := by
  refine hq_arc c hM cb7i_k hD [a, b, d, ma, mb, md, y, p, r, u, v, w] rfl hy (hp_Bc (z := a) rfl b0 t0 (hp_Bc (z := b) rfl b1 t1 (hp_Bc (z := d) rfl b2 t2 (hp_Bc (z := ma) rfl b3 t3 (hp_Bc (z := mb) rfl b4 t4 (hp_Bc (z := md) rfl b5 t5 (hp_Bc (z := y) rfl b6 t6 (hp_Bc (z := p) rfl b7 t7 (hp_Bc (z := r) rfl b8 t8 (hp_Bc (z := u) rfl b9 t9 (hp_Bc (z := v) rfl b10 t10 (hp_Bc (z := w) rfl b11 t11 hp_Bn)))))))))))) (hp_Fc (z := ((-1) + ((-1) * a + (1 * ma + 0)))) rfl (by omega) (hp_Fc (z := ((-1) + ((-1) * b + (1 * mb + 0)))) rfl (by omega) (hp_Fc (z := ((-1) + ((-1) * d + (1 * md + 0)))) rfl (by omega) hp_Fn))) (hp_Kc (zi := (0 + 0)) (zv := (0 + (1 * a + 0))) k0 rfl rfl (by omega) (by omega) (hp_Kc (zi := (1 + 0)) (zv := (0 + (1 * b + 0))) k1 rfl rfl (by omega) (by omega) (hp_Kc (zi := (2 + 0)) (zv := (0 + (1 * d + 0))) k2 rfl rfl (by omega) (by omega) (hp_Kc (zi := (133 + (121 * a + (11 * b + (1 * d + 0))))) (zv := (0 + (1 * y + 0))) k3 rfl rfl (by omega) (by omega) (hp_Kc (zi := (0 + (1 * a + 0))) (zv := (0 + (1 * u + 0))) k4 rfl rfl (by omega) (by omega) (hp_Kc (zi := (10 + (1 * b + 0))) (zv := (0 + (1 * v + 0))) k5 rfl rfl (by omega) (by omega) (hp_Kc (zi := (20 + (1 * d + 0))) (zv := (0 + (1 * w + 0))) k6 rfl rfl (by omega) (by omega) (hp_Kc (zi := (0 + ((-1) * u + (1 * v + 0)))) (zv := (1 + 0)) k7 rfl rfl (by omega) (by omega) (hp_Kc (zi := (0 + ((-1) * u + (1 * w + 0)))) (zv := (1 + 0)) k8 rfl rfl (by omega) (by omega) (hp_Kc (zi := (0 + ((-1) * v + (1 * w + 0)))) (zv := (1 + 0)) k9 rfl rfl (by omega) (by omega) (hp_Kc (zi := (0 + (1 * u + 0))) (zv := (0 + (1 * p + 0))) k10 rfl rfl (by omega) (by omega) (hp_Kc (zi := (0 + (1 * v + 0))) (zv := (0 + (1 * p + 0))) k11 rfl rfl (by omega) (by omega) (hp_Kc (zi := (0 + (1 * w + 0))) (zv := (0 + (1 * r + 0))) k12 rfl rfl (by omega) (by omega) (hp_Kc (zi := (0 + ((-1) * p + (1 * r + 0)))) (zv := (1 + 0)) k13 rfl rfl (by omega) (by omega) hp_Kn)))))))))))))) (hp_La l0 (hp_Li (z := (7 + 0)) l1 rfl (by omega) hp_Ln)) trivial ?_ ?_
  · intro p hp ys l' st' h' hys a1 a2 a3 gZ gL gS
    cases hp
  · intro p hp ys v h' hys a1 a2 a3 gZ gS
    rcases List.mem_cons.mp hp with rfl | hp
    · obtain rfl := hp_y0 hys
      cases v with
      | none => cases gS
      | some w =>
        obtain ⟨y0, t0, s0, q0, -⟩ := hp_gSi (z := (9 + (1 * y + 0))) gS rfl
        cases s0
        exact r0 h' y0 (by omega) a1 a2 a3
    cases hp
theorem cb7j_k : hq_chk [252, 119] 250 0 12 [(0, 0, 10), (1, 0, 10), (2, 0, 10), (3, 0, 10), (4, 0, 10), (5, 0, 10), (6, 0, 360), (7, (-2147483648), 2147483647), (8, (-2147483648), 2147483647), (9, (-2147483648), 2147483647), (10, (-2147483648), 2147483647), (11, (-2147483648), 2147483647)] [((-1), [(0, (-1)), (3, 1)]), ((-1), [(1, (-1)), (4, 1)]), ((-1), [(2, (-1)), (5, 1)])] [(0, .inr (.inr (.inl (some 85)))), (1, .inl (7, []))] [] [(18688, (0, []), (0, [(0, 1)])), (18688, (1, []), (0, [(1, 1)])), (18688, (2, []), (0, [(2, 1)])), (18432, (133, [(0, 121), (1, 11), (2, 1)]), (0, [(6, 1)])), (18176, (0, [(0, 1)]), (0, [(9, 1)])), (18176, (10, [(1, 1)]), (0, [(10, 1)])), (18176, (20, [(2, 1)]), (0, [(11, 1)])), (61000, (0, [(9, (-1)), (10, 1)]), (1, [])), (61000, (0, [(9, (-1)), (11, 1)]), (1, [])), (61000, (0, [(10, (-1)), (11, 1)]), (1, [])), (62010, (0, [(9, 1)]), (0, [(7, 1)])), (62010, (0, [(10, 1)]), (0, [(8, 1)])), (62010, (0, [(11, 1)]), (0, [(7, 1)])), (61000, (0, [(7, (-1)), (8, 1)]), (1, []))] [] 5 [] [([], 12, [(0, 0, 10), (1, 0, 10), (2, 0, 10), (3, 0, 10), (4, 0, 10), (5, 0, 10), (6, 0, 360), (7, (-2147483648), 2147483647), (8, (-2147483648), 2147483647), (9, (-2147483648), 2147483647), (10, (-2147483648), 2147483647), (11, (-2147483648), 2147483647)], [], [], [.inl (9, [(6, 1)])], [])] = true := by decide +kernel
theorem cb7j {cst : am_K} {strs : List Nat} {Φ : am_Q → Prop} {D : Nat} {M : am_M} {h : am_H} {l : am_L} (c : hp_C cst strs D) (hM : m_P[250]? = some M) (hD : (5 : Int) ≤ (D : Int) + 1) (hy : ly_hy m_tt ly_TH h) (a b d ma mb md y p q u v w : Int) (b0 : 0 ≤ a) (t0 : a ≤ 10) (b1 : 0 ≤ b) (t1 : b ≤ 10) (b2 : 0 ≤ d) (t2 : d ≤ 10) (b3 : 0 ≤ ma) (t3 : ma ≤ 10) (b4 : 0 ≤ mb) (t4 : mb ≤ 10) (b5 : 0 ≤ md) (t5 : md ≤ 10) (b6 : 0 ≤ y) (t6 : y ≤ 360) (b7 : (-2147483648) ≤ p) (t7 : p ≤ 2147483647) (b8 : (-2147483648) ≤ q) (t8 : q ≤ 2147483647) (b9 : (-2147483648) ≤ u) (t9 : u ≤ 2147483647) (b10 : (-2147483648) ≤ v) (t10 : v ≤ 2147483647) (b11 : (-2147483648) ≤ w) (t11 : w ≤ 2147483647) (f0 : 0 ≤ (ma - a - 1)) (f1 : 0 ≤ (mb - b - 1)) (f2 : 0 ≤ (md - d - 1)) (k0 : ly_hv cst h 18688 0 = some (a)) (k1 : ly_hv cst h 18688 1 = some (b)) (k2 : ly_hv cst h 18688 2 = some (d)) (k3 : ly_hv cst h 18432 (121 * a + 11 * b + d + 133) = some (y)) (k4 : ly_hv cst h 18176 (a) = some (u)) (k5 : ly_hv cst h 18176 (b + 10) = some (v)) (k6 : ly_hv cst h 18176 (d + 20) = some (w)) (k7 : ly_hv cst h 61000 (v - u) = some 1) (k8 : ly_hv cst h 61000 (w - u) = some 1) (k9 : ly_hv cst h 61000 (w - v) = some 1) (k10 : ly_hv cst h 62010 (u) = some (p)) (k11 : ly_hv cst h 62010 (v) = some (q)) (k12 : ly_hv cst h 62010 (w) = some (p)) (k13 : ly_hv cst h 61000 (q - p) = some 1) (l0 : hp_a l 0 85) (l1 : hp_i l 1 7) (r0 : ∀ (h' : am_H) (y0 : Int32), y0.toInt = (y + 9) → ly_hy m_tt ly_TH h' → ly_fr cst [] h h' → h.length ≤ h'.length → Φ (some (.int y0), h', 0, 0)) : hp_F cst strs Φ D M 0 l [] h := by
  refine hq_arc c hM cb7j_k hD [a, b, d, ma, mb, md, y, p, q, u, v, w] rfl hy (hp_Bc (z := a) rfl b0 t0 (hp_Bc (z := b) rfl b1 t1 (hp_Bc (z := d) rfl b2 t2 (hp_Bc (z := ma) rfl b3 t3 (hp_Bc (z := mb) rfl b4 t4 (hp_Bc (z := md) rfl b5 t5 (hp_Bc (z := y) rfl b6 t6 (hp_Bc (z := p) rfl b7 t7 (hp_Bc (z := q) rfl b8 t8 (hp_Bc (z := u) rfl b9 t9 (hp_Bc (z := v) rfl b10 t10 (hp_Bc (z := w) rfl b11 t11 hp_Bn)))))))))))) (hp_Fc (z := ((-1) + ((-1) * a + (1 * ma + 0)))) rfl (by omega) (hp_Fc (z := ((-1) + ((-1) * b + (1 * mb + 0)))) rfl (by omega) (hp_Fc (z := ((-1) + ((-1) * d + (1 * md + 0)))) rfl (by omega) hp_Fn))) (hp_Kc (zi := (0 + 0)) (zv := (0 + (1 * a + 0))) k0 rfl rfl (by omega) (by omega) (hp_Kc (zi := (1 + 0)) (zv := (0 + (1 * b + 0))) k1 rfl rfl (by omega) (by omega) (hp_Kc (zi := (2 + 0)) (zv := (0 + (1 * d + 0))) k2 rfl rfl (by omega) (by omega) (hp_Kc (zi := (133 + (121 * a + (11 * b + (1 * d + 0))))) (zv := (0 + (1 * y + 0))) k3 rfl rfl (by omega) (by omega) (hp_Kc (zi := (0 + (1 * a + 0))) (zv := (0 + (1 * u + 0))) k4 rfl rfl (by omega) (by omega) (hp_Kc (zi := (10 + (1 * b + 0))) (zv := (0 + (1 * v + 0))) k5 rfl rfl (by omega) (by omega) (hp_Kc (zi := (20 + (1 * d + 0))) (zv := (0 + (1 * w + 0))) k6 rfl rfl (by omega) (by omega) (hp_Kc (zi := (0 + ((-1) * u + (1 * v + 0)))) (zv := (1 + 0)) k7 rfl rfl (by omega) (by omega) (hp_Kc (zi := (0 + ((-1) * u + (1 * w + 0)))) (zv := (1 + 0)) k8 rfl rfl (by omega) (by omega) (hp_Kc (zi := (0 + ((-1) * v + (1 * w + 0)))) (zv := (1 + 0)) k9 rfl rfl (by omega) (by omega) (hp_Kc (zi := (0 + (1 * u + 0))) (zv := (0 + (1 * p + 0))) k10 rfl rfl (by omega) (by omega) (hp_Kc (zi := (0 + (1 * v + 0))) (zv := (0 + (1 * q + 0))) k11 rfl rfl (by omega) (by omega) (hp_Kc (zi := (0 + (1 * w + 0))) (zv := (0 + (1 * p + 0))) k12 rfl rfl (by omega) (by omega) (hp_Kc (zi := (0 + ((-1) * p + (1 * q + 0)))) (zv := (1 + 0)) k13 rfl rfl (by omega) (by omega) hp_Kn)))))))))))))) (hp_La l0 (hp_Li (z := (7 + 0)) l1 rfl (by omega) hp_Ln)) trivial ?_ ?_
  · intro p hp ys l' st' h' hys a1 a2 a3 gZ gL gS
    cases hp
  · intro p hp ys v h' hys a1 a2 a3 gZ gS
    rcases List.mem_cons.mp hp with rfl | hp
    · obtain rfl := hp_y0 hys
      cases v with
      | none => cases gS
      | some w =>
        obtain ⟨y0, t0, s0, q0, -⟩ := hp_gSi (z := (9 + (1 * y + 0))) gS rfl
        cases s0
        exact r0 h' y0 (by omega) a1 a2 a3
    cases hp
theorem cb7k_k : hq_chk [252, 119] 250 0 12 [(0, 0, 10), (1, 0, 10), (2, 0, 10), (3, 0, 10), (4, 0, 10), (5, 0, 10), (6, 0, 360), (7, (-2147483648), 2147483647), (8, (-2147483648), 2147483647), (9, (-2147483648), 2147483647), (10, (-2147483648), 2147483647), (11, (-2147483648), 2147483647)] [((-1), [(0, (-1)), (3, 1)]), ((-1), [(1, (-1)), (4, 1)]), ((-1), [(2, (-1)), (5, 1)])] [(0, .inr (.inr (.inl (some 85)))), (1, .inl (7, []))] [] [(18688, (0, []), (0, [(0, 1)])), (18688, (1, []), (0, [(1, 1)])), (18688, (2, []), (0, [(2, 1)])), (18432, (133, [(0, 121), (1, 11), (2, 1)]), (0, [(6, 1)])), (18176, (0, [(0, 1)]), (0, [(9, 1)])), (18176, (10, [(1, 1)]), (0, [(10, 1)])), (18176, (20, [(2, 1)]), (0, [(11, 1)])), (61000, (0, [(9, (-1)), (10, 1)]), (1, [])), (61000, (0, [(9, (-1)), (11, 1)]), (1, [])), (61000, (0, [(10, (-1)), (11, 1)]), (1, [])), (62010, (0, [(9, 1)]), (0, [(7, 1)])), (62010, (0, [(10, 1)]), (0, [(8, 1)])), (62010, (0, [(11, 1)]), (0, [(8, 1)])), (61000, (0, [(7, (-1)), (8, 1)]), (1, []))] [] 5 [] [([], 12, [(0, 0, 10), (1, 0, 10), (2, 0, 10), (3, 0, 10), (4, 0, 10), (5, 0, 10), (6, 0, 360), (7, (-2147483648), 2147483647), (8, (-2147483648), 2147483647), (9, (-2147483648), 2147483647), (10, (-2147483648), 2147483647), (11, (-2147483648), 2147483647)], [], [], [.inl (9, [(6, 1)])], [])] = true := by decide +kernel
theorem cb7k {cst : am_K} {strs : List Nat} {Φ : am_Q → Prop} {D : Nat} {M : am_M} {h : am_H} {l : am_L} (c : hp_C cst strs D) (hM : m_P[250]? = some M) (hD : (5 : Int) ≤ (D : Int) + 1) (hy : ly_hy m_tt ly_TH h) (a b d ma mb md y p q u v w : Int) (b0 : 0 ≤ a) (t0 : a ≤ 10) (b1 : 0 ≤ b) (t1 : b ≤ 10) (b2 : 0 ≤ d) (t2 : d ≤ 10) (b3 : 0 ≤ ma) (t3 : ma ≤ 10) (b4 : 0 ≤ mb) (t4 : mb ≤ 10) (b5 : 0 ≤ md) (t5 : md ≤ 10) (b6 : 0 ≤ y) (t6 : y ≤ 360) (b7 : (-2147483648) ≤ p) (t7 : p ≤ 2147483647) (b8 : (-2147483648) ≤ q) (t8 : q ≤ 2147483647) (b9 : (-2147483648) ≤ u) (t9 : u ≤ 2147483647) (b10 : (-2147483648) ≤ v) (t10 : v ≤ 2147483647) (b11 : (-2147483648) ≤ w) (t11 : w ≤ 2147483647) (f0 : 0 ≤ (ma - a - 1)) (f1 : 0 ≤ (mb - b - 1)) (f2 : 0 ≤ (md - d - 1)) (k0 : ly_hv cst h 18688 0 = some (a)) (k1 : ly_hv cst h 18688 1 = some (b)) (k2 : ly_hv cst h 18688 2 = some (d)) (k3 : ly_hv cst h 18432 (121 * a + 11 * b + d + 133) = some (y)) (k4 : ly_hv cst h 18176 (a) = some (u)) (k5 : ly_hv cst h 18176 (b + 10) = some (v)) (k6 : ly_hv cst h 18176 (d + 20) = some (w)) (k7 : ly_hv cst h 61000 (v - u) = some 1) (k8 : ly_hv cst h 61000 (w - u) = some 1) (k9 : ly_hv cst h 61000 (w - v) = some 1) (k10 : ly_hv cst h 62010 (u) = some (p)) (k11 : ly_hv cst h 62010 (v) = some (q)) (k12 : ly_hv cst h 62010 (w) = some (q)) (k13 : ly_hv cst h 61000 (q - p) = some 1) (l0 : hp_a l 0 85) (l1 : hp_i l 1 7) (r0 : ∀ (h' : am_H) (y0 : Int32), y0.toInt = (y + 9) → ly_hy m_tt ly_TH h' → ly_fr cst [] h h' → h.length ≤ h'.length → Φ (some (.int y0), h', 0, 0)) : hp_F cst strs Φ D M 0 l [] h := by
  refine hq_arc c hM cb7k_k hD [a, b, d, ma, mb, md, y, p, q, u, v, w] rfl hy (hp_Bc (z := a) rfl b0 t0 (hp_Bc (z := b) rfl b1 t1 (hp_Bc (z := d) rfl b2 t2 (hp_Bc (z := ma) rfl b3 t3 (hp_Bc (z := mb) rfl b4 t4 (hp_Bc (z := md) rfl b5 t5 (hp_Bc (z := y) rfl b6 t6 (hp_Bc (z := p) rfl b7 t7 (hp_Bc (z := q) rfl b8 t8 (hp_Bc (z := u) rfl b9 t9 (hp_Bc (z := v) rfl b10 t10 (hp_Bc (z := w) rfl b11 t11 hp_Bn)))))))))))) (hp_Fc (z := ((-1) + ((-1) * a + (1 * ma + 0)))) rfl (by omega) (hp_Fc (z := ((-1) + ((-1) * b + (1 * mb + 0)))) rfl (by omega) (hp_Fc (z := ((-1) + ((-1) * d + (1 * md + 0)))) rfl (by omega) hp_Fn))) (hp_Kc (zi := (0 + 0)) (zv := (0 + (1 * a + 0))) k0 rfl rfl (by omega) (by omega) (hp_Kc (zi := (1 + 0)) (zv := (0 + (1 * b + 0))) k1 rfl rfl (by omega) (by omega) (hp_Kc (zi := (2 + 0)) (zv := (0 + (1 * d + 0))) k2 rfl rfl (by omega) (by omega) (hp_Kc (zi := (133 + (121 * a + (11 * b + (1 * d + 0))))) (zv := (0 + (1 * y + 0))) k3 rfl rfl (by omega) (by omega) (hp_Kc (zi := (0 + (1 * a + 0))) (zv := (0 + (1 * u + 0))) k4 rfl rfl (by omega) (by omega) (hp_Kc (zi := (10 + (1 * b + 0))) (zv := (0 + (1 * v + 0))) k5 rfl rfl (by omega) (by omega) (hp_Kc (zi := (20 + (1 * d + 0))) (zv := (0 + (1 * w + 0))) k6 rfl rfl (by omega) (by omega) (hp_Kc (zi := (0 + ((-1) * u + (1 * v + 0)))) (zv := (1 + 0)) k7 rfl rfl (by omega) (by omega) (hp_Kc (zi := (0 + ((-1) * u + (1 * w + 0)))) (zv := (1 + 0)) k8 rfl rfl (by omega) (by omega) (hp_Kc (zi := (0 + ((-1) * v + (1 * w + 0)))) (zv := (1 + 0)) k9 rfl rfl (by omega) (by omega) (hp_Kc (zi := (0 + (1 * u + 0))) (zv := (0 + (1 * p + 0))) k10 rfl rfl (by omega) (by omega) (hp_Kc (zi := (0 + (1 * v + 0))) (zv := (0 + (1 * q + 0))) k11 rfl rfl (by omega) (by omega) (hp_Kc (zi := (0 + (1 * w + 0))) (zv := (0 + (1 * q + 0))) k12 rfl rfl (by omega) (by omega) (hp_Kc (zi := (0 + ((-1) * p + (1 * q + 0)))) (zv := (1 + 0)) k13 rfl rfl (by omega) (by omega) hp_Kn)))))))))))))) (hp_La l0 (hp_Li (z := (7 + 0)) l1 rfl (by omega) hp_Ln)) trivial ?_ ?_
  · intro p hp ys l' st' h' hys a1 a2 a3 gZ gL gS
    cases hp
  · intro p hp ys v h' hys a1 a2 a3 gZ gS
    rcases List.mem_cons.mp hp with rfl | hp
    · obtain rfl := hp_y0 hys
      cases v with
      | none => cases gS
      | some w =>
        obtain ⟨y0, t0, s0, q0, -⟩ := hp_gSi (z := (9 + (1 * y + 0))) gS rfl
        cases s0
        exact r0 h' y0 (by omega) a1 a2 a3
    cases hp
theorem cb7l_k : hq_chk [252, 119] 250 0 13 [(0, 0, 10), (1, 0, 10), (2, 0, 10), (3, 0, 10), (4, 0, 10), (5, 0, 10), (6, 0, 360), (7, (-2147483648), 2147483647), (8, (-2147483648), 2147483647), (9, (-2147483648), 2147483647), (10, (-2147483648), 2147483647), (11, (-2147483648), 2147483647), (12, (-2147483648), 2147483647)] [((-1), [(0, (-1)), (3, 1)]), ((-1), [(1, (-1)), (4, 1)]), ((-1), [(2, (-1)), (5, 1)])] [(0, .inr (.inr (.inl (some 85)))), (1, .inl (7, []))] [] [(18688, (0, []), (0, [(0, 1)])), (18688, (1, []), (0, [(1, 1)])), (18688, (2, []), (0, [(2, 1)])), (18432, (133, [(0, 121), (1, 11), (2, 1)]), (0, [(6, 1)])), (18176, (0, [(0, 1)]), (0, [(10, 1)])), (18176, (10, [(1, 1)]), (0, [(11, 1)])), (18176, (20, [(2, 1)]), (0, [(12, 1)])), (61000, (0, [(10, (-1)), (11, 1)]), (1, [])), (61000, (0, [(10, (-1)), (12, 1)]), (1, [])), (61000, (0, [(11, (-1)), (12, 1)]), (1, [])), (62010, (0, [(10, 1)]), (0, [(7, 1)])), (62010, (0, [(11, 1)]), (0, [(8, 1)])), (62010, (0, [(12, 1)]), (0, [(9, 1)])), (61000, (0, [(7, (-1)), (8, 1)]), (1, [])), (61000, (0, [(7, (-1)), (9, 1)]), (1, [])), (61000, (0, [(8, (-1)), (9, 1)]), (1, []))] [] 5 [] [([], 13, [(0, 0, 10), (1, 0, 10), (2, 0, 10), (3, 0, 10), (4, 0, 10), (5, 0, 10), (6, 0, 360), (7, (-2147483648), 2147483647), (8, (-2147483648), 2147483647), (9, (-2147483648), 2147483647), (10, (-2147483648), 2147483647), (11, (-2147483648), 2147483647), (12, (-2147483648), 2147483647)], [], [], [.inl (12, [(6, 1)])], [])] = true := by decide +kernel
theorem cb7l {cst : am_K} {strs : List Nat} {Φ : am_Q → Prop} {D : Nat} {M : am_M} {h : am_H} {l : am_L} (c : hp_C cst strs D) (hM : m_P[250]? = some M) (hD : (5 : Int) ≤ (D : Int) + 1) (hy : ly_hy m_tt ly_TH h) (a b d ma mb md y p q r u v w : Int) (b0 : 0 ≤ a) (t0 : a ≤ 10) (b1 : 0 ≤ b) (t1 : b ≤ 10) (b2 : 0 ≤ d) (t2 : d ≤ 10) (b3 : 0 ≤ ma) (t3 : ma ≤ 10) (b4 : 0 ≤ mb) (t4 : mb ≤ 10) (b5 : 0 ≤ md) (t5 : md ≤ 10) (b6 : 0 ≤ y) (t6 : y ≤ 360) (b7 : (-2147483648) ≤ p) (t7 : p ≤ 2147483647) (b8 : (-2147483648) ≤ q) (t8 : q ≤ 2147483647) (b9 : (-2147483648) ≤ r) (t9 : r ≤ 2147483647) (b10 : (-2147483648) ≤ u) (t10 : u ≤ 2147483647) (b11 : (-2147483648) ≤ v) (t11 : v ≤ 2147483647) (b12 : (-2147483648) ≤ w) (t12 : w ≤ 2147483647) (f0 : 0 ≤ (ma - a - 1)) (f1 : 0 ≤ (mb - b - 1)) (f2 : 0 ≤ (md - d - 1)) (k0 : ly_hv cst h 18688 0 = some (a)) (k1 : ly_hv cst h 18688 1 = some (b)) (k2 : ly_hv cst h 18688 2 = some (d)) (k3 : ly_hv cst h 18432 (121 * a + 11 * b + d + 133) = some (y)) (k4 : ly_hv cst h 18176 (a) = some (u)) (k5 : ly_hv cst h 18176 (b + 10) = some (v)) (k6 : ly_hv cst h 18176 (d + 20) = some (w)) (k7 : ly_hv cst h 61000 (v - u) = some 1) (k8 : ly_hv cst h 61000 (w - u) = some 1) (k9 : ly_hv cst h 61000 (w - v) = some 1) (k10 : ly_hv cst h 62010 (u) = some (p)) (k11 : ly_hv cst h 62010 (v) = some (q)) (k12 : ly_hv cst h 62010 (w) = some (r)) (k13 : ly_hv cst h 61000 (q - p) = some 1) (k14 : ly_hv cst h 61000 (r - p) = some 1) (k15 : ly_hv cst h 61000 (r - q) = some 1) (l0 : hp_a l 0 85) (l1 : hp_i l 1 7) (r0 : ∀ (h' : am_H) (y0 : Int32), y0.toInt = (y + 12) → ly_hy m_tt ly_TH h' → ly_fr cst [] h h' → h.length ≤ h'.length → Φ (some (.int y0), h', 0, 0)) : hp_F cst strs Φ D M 0 l [] h := by
  refine hq_arc c hM cb7l_k hD [a, b, d, ma, mb, md, y, p, q, r, u, v, w] rfl hy (hp_Bc (z := a) rfl b0 t0 (hp_Bc (z := b) rfl b1 t1 (hp_Bc (z := d) rfl b2 t2 (hp_Bc (z := ma) rfl b3 t3 (hp_Bc (z := mb) rfl b4 t4 (hp_Bc (z := md) rfl b5 t5 (hp_Bc (z := y) rfl b6 t6 (hp_Bc (z := p) rfl b7 t7 (hp_Bc (z := q) rfl b8 t8 (hp_Bc (z := r) rfl b9 t9 (hp_Bc (z := u) rfl b10 t10 (hp_Bc (z := v) rfl b11 t11 (hp_Bc (z := w) rfl b12 t12 hp_Bn))))))))))))) (hp_Fc (z := ((-1) + ((-1) * a + (1 * ma + 0)))) rfl (by omega) (hp_Fc (z := ((-1) + ((-1) * b + (1 * mb + 0)))) rfl (by omega) (hp_Fc (z := ((-1) + ((-1) * d + (1 * md + 0)))) rfl (by omega) hp_Fn))) (hp_Kc (zi := (0 + 0)) (zv := (0 + (1 * a + 0))) k0 rfl rfl (by omega) (by omega) (hp_Kc (zi := (1 + 0)) (zv := (0 + (1 * b + 0))) k1 rfl rfl (by omega) (by omega) (hp_Kc (zi := (2 + 0)) (zv := (0 + (1 * d + 0))) k2 rfl rfl (by omega) (by omega) (hp_Kc (zi := (133 + (121 * a + (11 * b + (1 * d + 0))))) (zv := (0 + (1 * y + 0))) k3 rfl rfl (by omega) (by omega) (hp_Kc (zi := (0 + (1 * a + 0))) (zv := (0 + (1 * u + 0))) k4 rfl rfl (by omega) (by omega) (hp_Kc (zi := (10 + (1 * b + 0))) (zv := (0 + (1 * v + 0))) k5 rfl rfl (by omega) (by omega) (hp_Kc (zi := (20 + (1 * d + 0))) (zv := (0 + (1 * w + 0))) k6 rfl rfl (by omega) (by omega) (hp_Kc (zi := (0 + ((-1) * u + (1 * v + 0)))) (zv := (1 + 0)) k7 rfl rfl (by omega) (by omega) (hp_Kc (zi := (0 + ((-1) * u + (1 * w + 0)))) (zv := (1 + 0)) k8 rfl rfl (by omega) (by omega) (hp_Kc (zi := (0 + ((-1) * v + (1 * w + 0)))) (zv := (1 + 0)) k9 rfl rfl (by omega) (by omega) (hp_Kc (zi := (0 + (1 * u + 0))) (zv := (0 + (1 * p + 0))) k10 rfl rfl (by omega) (by omega) (hp_Kc (zi := (0 + (1 * v + 0))) (zv := (0 + (1 * q + 0))) k11 rfl rfl (by omega) (by omega) (hp_Kc (zi := (0 + (1 * w + 0))) (zv := (0 + (1 * r + 0))) k12 rfl rfl (by omega) (by omega) (hp_Kc (zi := (0 + ((-1) * p + (1 * q + 0)))) (zv := (1 + 0)) k13 rfl rfl (by omega) (by omega) (hp_Kc (zi := (0 + ((-1) * p + (1 * r + 0)))) (zv := (1 + 0)) k14 rfl rfl (by omega) (by omega) (hp_Kc (zi := (0 + ((-1) * q + (1 * r + 0)))) (zv := (1 + 0)) k15 rfl rfl (by omega) (by omega) hp_Kn)))))))))))))))) (hp_La l0 (hp_Li (z := (7 + 0)) l1 rfl (by omega) hp_Ln)) trivial ?_ ?_
  · intro p hp ys l' st' h' hys a1 a2 a3 gZ gL gS
    cases hp
  · intro p hp ys v h' hys a1 a2 a3 gZ gS
    rcases List.mem_cons.mp hp with rfl | hp
    · obtain rfl := hp_y0 hys
      cases v with
      | none => cases gS
      | some w =>
        obtain ⟨y0, t0, s0, q0, -⟩ := hp_gSi (z := (12 + (1 * y + 0))) gS rfl
        cases s0
        exact r0 h' y0 (by omega) a1 a2 a3
    cases hp
theorem cb3a_k : hq_chk [252, 119] 250 0 8 [(0, 0, 10), (1, 0, 10), (2, 0, 10), (3, 0, 10), (4, 0, 10), (5, 0, 10), (6, 0, 360), (7, (-2147483648), 2147483647)] [((-1), [(0, (-1)), (3, 1)]), ((-1), [(1, (-1)), (4, 1)])] [(0, .inr (.inr (.inl (some 85)))), (1, .inl (3, []))] [] [(18688, (0, []), (0, [(0, 1)])), (18688, (1, []), (0, [(1, 1)])), (18688, (2, []), (0, [(2, 1)])), (18432, (132, [(0, 121), (1, 11), (2, 1)]), (0, [(6, 1)])), (18176, (0, [(0, 1)]), (0, [(7, 1)])), (18176, (10, [(1, 1)]), (0, [(7, 1)]))] [] 5 [] [([], 8, [(0, 0, 10), (1, 0, 10), (2, 0, 10), (3, 0, 10), (4, 0, 10), (5, 0, 10), (6, 0, 360), (7, (-2147483648), 2147483647)], [], [], [.inl (1, [(6, 1)])], [])] = true := by decide +kernel
theorem cb3a {cst : am_K} {strs : List Nat} {Φ : am_Q → Prop} {D : Nat} {M : am_M} {h : am_H} {l : am_L} (c : hp_C cst strs D) (hM : m_P[250]? = some M) (hD : (5 : Int) ≤ (D : Int) + 1) (hy : ly_hy m_tt ly_TH h) (a b d ma mb md y u : Int) (b0 : 0 ≤ a) (t0 : a ≤ 10) (b1 : 0 ≤ b) (t1 : b ≤ 10) (b2 : 0 ≤ d) (t2 : d ≤ 10) (b3 : 0 ≤ ma) (t3 : ma ≤ 10) (b4 : 0 ≤ mb) (t4 : mb ≤ 10) (b5 : 0 ≤ md) (t5 : md ≤ 10) (b6 : 0 ≤ y) (t6 : y ≤ 360) (b7 : (-2147483648) ≤ u) (t7 : u ≤ 2147483647) (f0 : 0 ≤ (ma - a - 1)) (f1 : 0 ≤ (mb - b - 1)) (k0 : ly_hv cst h 18688 0 = some (a)) (k1 : ly_hv cst h 18688 1 = some (b)) (k2 : ly_hv cst h 18688 2 = some (d)) (k3 : ly_hv cst h 18432 (121 * a + 11 * b + d + 132) = some (y)) (k4 : ly_hv cst h 18176 (a) = some (u)) (k5 : ly_hv cst h 18176 (b + 10) = some (u)) (l0 : hp_a l 0 85) (l1 : hp_i l 1 3) (r0 : ∀ (h' : am_H) (y0 : Int32), y0.toInt = (y + 1) → ly_hy m_tt ly_TH h' → ly_fr cst [] h h' → h.length ≤ h'.length → Φ (some (.int y0), h', 0, 0)) : hp_F cst strs Φ D M 0 l [] h := by
  refine hq_arc c hM cb3a_k hD [a, b, d, ma, mb, md, y, u] rfl hy (hp_Bc (z := a) rfl b0 t0 (hp_Bc (z := b) rfl b1 t1 (hp_Bc (z := d) rfl b2 t2 (hp_Bc (z := ma) rfl b3 t3 (hp_Bc (z := mb) rfl b4 t4 (hp_Bc (z := md) rfl b5 t5 (hp_Bc (z := y) rfl b6 t6 (hp_Bc (z := u) rfl b7 t7 hp_Bn)))))))) (hp_Fc (z := ((-1) + ((-1) * a + (1 * ma + 0)))) rfl (by omega) (hp_Fc (z := ((-1) + ((-1) * b + (1 * mb + 0)))) rfl (by omega) hp_Fn)) (hp_Kc (zi := (0 + 0)) (zv := (0 + (1 * a + 0))) k0 rfl rfl (by omega) (by omega) (hp_Kc (zi := (1 + 0)) (zv := (0 + (1 * b + 0))) k1 rfl rfl (by omega) (by omega) (hp_Kc (zi := (2 + 0)) (zv := (0 + (1 * d + 0))) k2 rfl rfl (by omega) (by omega) (hp_Kc (zi := (132 + (121 * a + (11 * b + (1 * d + 0))))) (zv := (0 + (1 * y + 0))) k3 rfl rfl (by omega) (by omega) (hp_Kc (zi := (0 + (1 * a + 0))) (zv := (0 + (1 * u + 0))) k4 rfl rfl (by omega) (by omega) (hp_Kc (zi := (10 + (1 * b + 0))) (zv := (0 + (1 * u + 0))) k5 rfl rfl (by omega) (by omega) hp_Kn)))))) (hp_La l0 (hp_Li (z := (3 + 0)) l1 rfl (by omega) hp_Ln)) trivial ?_ ?_
  · intro p hp ys l' st' h' hys a1 a2 a3 gZ gL gS
    cases hp
  · intro p hp ys v h' hys a1 a2 a3 gZ gS
    rcases List.mem_cons.mp hp with rfl | hp
    · obtain rfl := hp_y0 hys
      cases v with
      | none => cases gS
      | some w =>
        obtain ⟨y0, t0, s0, q0, -⟩ := hp_gSi (z := (1 + (1 * y + 0))) gS rfl
        cases s0
        exact r0 h' y0 (by omega) a1 a2 a3
    cases hp
theorem cb3b_k : hq_chk [252, 119] 250 0 10 [(0, 0, 10), (1, 0, 10), (2, 0, 10), (3, 0, 10), (4, 0, 10), (5, 0, 10), (6, 0, 360), (7, (-2147483648), 2147483647), (8, (-2147483648), 2147483647), (9, (-2147483648), 2147483647)] [((-1), [(0, (-1)), (3, 1)]), ((-1), [(1, (-1)), (4, 1)])] [(0, .inr (.inr (.inl (some 85)))), (1, .inl (3, []))] [] [(18688, (0, []), (0, [(0, 1)])), (18688, (1, []), (0, [(1, 1)])), (18688, (2, []), (0, [(2, 1)])), (18432, (132, [(0, 121), (1, 11), (2, 1)]), (0, [(6, 1)])), (18176, (0, [(0, 1)]), (0, [(8, 1)])), (18176, (10, [(1, 1)]), (0, [(9, 1)])), (61000, (0, [(8, (-1)), (9, 1)]), (1, [])), (62010, (0, [(9, 1)]), (0, [(7, 1)])), (62010, (0, [(8, 1)]), (0, [(7, 1)]))] [] 5 [] [([], 10, [(0, 0, 10), (1, 0, 10), (2, 0, 10), (3, 0, 10), (4, 0, 10), (5, 0, 10), (6, 0, 360), (7, (-2147483648), 2147483647), (8, (-2147483648), 2147483647), (9, (-2147483648), 2147483647)], [], [], [.inl (2, [(6, 1)])], [])] = true := by decide +kernel
theorem cb3b {cst : am_K} {strs : List Nat} {Φ : am_Q → Prop} {D : Nat} {M : am_M} {h : am_H} {l : am_L} (c : hp_C cst strs D) (hM : m_P[250]? = some M) (hD : (5 : Int) ≤ (D : Int) + 1) (hy : ly_hy m_tt ly_TH h) (a b d ma mb md y q u v : Int) (b0 : 0 ≤ a) (t0 : a ≤ 10) (b1 : 0 ≤ b) (t1 : b ≤ 10) (b2 : 0 ≤ d) (t2 : d ≤ 10) (b3 : 0 ≤ ma) (t3 : ma ≤ 10) (b4 : 0 ≤ mb) (t4 : mb ≤ 10) (b5 : 0 ≤ md) (t5 : md ≤ 10) (b6 : 0 ≤ y) (t6 : y ≤ 360) (b7 : (-2147483648) ≤ q) (t7 : q ≤ 2147483647) (b8 : (-2147483648) ≤ u) (t8 : u ≤ 2147483647) (b9 : (-2147483648) ≤ v) (t9 : v ≤ 2147483647) (f0 : 0 ≤ (ma - a - 1)) (f1 : 0 ≤ (mb - b - 1)) (k0 : ly_hv cst h 18688 0 = some (a)) (k1 : ly_hv cst h 18688 1 = some (b)) (k2 : ly_hv cst h 18688 2 = some (d)) (k3 : ly_hv cst h 18432 (121 * a + 11 * b + d + 132) = some (y)) (k4 : ly_hv cst h 18176 (a) = some (u)) (k5 : ly_hv cst h 18176 (b + 10) = some (v)) (k6 : ly_hv cst h 61000 (v - u) = some 1) (k7 : ly_hv cst h 62010 (v) = some (q)) (k8 : ly_hv cst h 62010 (u) = some (q)) (l0 : hp_a l 0 85) (l1 : hp_i l 1 3) (r0 : ∀ (h' : am_H) (y0 : Int32), y0.toInt = (y + 2) → ly_hy m_tt ly_TH h' → ly_fr cst [] h h' → h.length ≤ h'.length → Φ (some (.int y0), h', 0, 0)) : hp_F cst strs Φ D M 0 l [] h := by
  refine hq_arc c hM cb3b_k hD [a, b, d, ma, mb, md, y, q, u, v] rfl hy (hp_Bc (z := a) rfl b0 t0 (hp_Bc (z := b) rfl b1 t1 (hp_Bc (z := d) rfl b2 t2 (hp_Bc (z := ma) rfl b3 t3 (hp_Bc (z := mb) rfl b4 t4 (hp_Bc (z := md) rfl b5 t5 (hp_Bc (z := y) rfl b6 t6 (hp_Bc (z := q) rfl b7 t7 (hp_Bc (z := u) rfl b8 t8 (hp_Bc (z := v) rfl b9 t9 hp_Bn)))))))))) (hp_Fc (z := ((-1) + ((-1) * a + (1 * ma + 0)))) rfl (by omega) (hp_Fc (z := ((-1) + ((-1) * b + (1 * mb + 0)))) rfl (by omega) hp_Fn)) (hp_Kc (zi := (0 + 0)) (zv := (0 + (1 * a + 0))) k0 rfl rfl (by omega) (by omega) (hp_Kc (zi := (1 + 0)) (zv := (0 + (1 * b + 0))) k1 rfl rfl (by omega) (by omega) (hp_Kc (zi := (2 + 0)) (zv := (0 + (1 * d + 0))) k2 rfl rfl (by omega) (by omega) (hp_Kc (zi := (132 + (121 * a + (11 * b + (1 * d + 0))))) (zv := (0 + (1 * y + 0))) k3 rfl rfl (by omega) (by omega) (hp_Kc (zi := (0 + (1 * a + 0))) (zv := (0 + (1 * u + 0))) k4 rfl rfl (by omega) (by omega) (hp_Kc (zi := (10 + (1 * b + 0))) (zv := (0 + (1 * v + 0))) k5 rfl rfl (by omega) (by omega) (hp_Kc (zi := (0 + ((-1) * u + (1 * v + 0)))) (zv := (1 + 0)) k6 rfl rfl (by omega) (by omega) (hp_Kc (zi := (0 + (1 * v + 0))) (zv := (0 + (1 * q + 0))) k7 rfl rfl (by omega) (by omega) (hp_Kc (zi := (0 + (1 * u + 0))) (zv := (0 + (1 * q + 0))) k8 rfl rfl (by omega) (by omega) hp_Kn))))))))) (hp_La l0 (hp_Li (z := (3 + 0)) l1 rfl (by omega) hp_Ln)) trivial ?_ ?_
  · intro p hp ys l' st' h' hys a1 a2 a3 gZ gL gS
    cases hp
  · intro p hp ys v h' hys a1 a2 a3 gZ gS
    rcases List.mem_cons.mp hp with rfl | hp
    · obtain rfl := hp_y0 hys
      cases v with
      | none => cases gS
      | some w =>
        obtain ⟨y0, t0, s0, q0, -⟩ := hp_gSi (z := (2 + (1 * y + 0))) gS rfl
        cases s0
        exact r0 h' y0 (by omega) a1 a2 a3
    cases hp
theorem cb3c_k : hq_chk [252, 119] 250 0 11 [(0, 0, 10), (1, 0, 10), (2, 0, 10), (3, 0, 10), (4, 0, 10), (5, 0, 10), (6, 0, 360), (7, (-2147483648), 2147483647), (8, (-2147483648), 2147483647), (9, (-2147483648), 2147483647), (10, (-2147483648), 2147483647)] [((-1), [(0, (-1)), (3, 1)]), ((-1), [(1, (-1)), (4, 1)])] [(0, .inr (.inr (.inl (some 85)))), (1, .inl (3, []))] [] [(18688, (0, []), (0, [(0, 1)])), (18688, (1, []), (0, [(1, 1)])), (18688, (2, []), (0, [(2, 1)])), (18432, (132, [(0, 121), (1, 11), (2, 1)]), (0, [(6, 1)])), (18176, (0, [(0, 1)]), (0, [(9, 1)])), (18176, (10, [(1, 1)]), (0, [(10, 1)])), (61000, (0, [(9, (-1)), (10, 1)]), (1, [])), (62010, (0, [(10, 1)]), (0, [(8, 1)])), (62010, (0, [(9, 1)]), (0, [(7, 1)])), (61000, (0, [(7, (-1)), (8, 1)]), (1, []))] [] 5 [] [([], 11, [(0, 0, 10), (1, 0, 10), (2, 0, 10), (3, 0, 10), (4, 0, 10), (5, 0, 10), (6, 0, 360), (7, (-2147483648), 2147483647), (8, (-2147483648), 2147483647), (9, (-2147483648), 2147483647), (10, (-2147483648), 2147483647)], [], [], [.inl (5, [(6, 1)])], [])] = true := by decide +kernel
theorem cb3c {cst : am_K} {strs : List Nat} {Φ : am_Q → Prop} {D : Nat} {M : am_M} {h : am_H} {l : am_L} (c : hp_C cst strs D) (hM : m_P[250]? = some M) (hD : (5 : Int) ≤ (D : Int) + 1) (hy : ly_hy m_tt ly_TH h) (a b d ma mb md y p q u v : Int) (b0 : 0 ≤ a) (t0 : a ≤ 10) (b1 : 0 ≤ b) (t1 : b ≤ 10) (b2 : 0 ≤ d) (t2 : d ≤ 10) (b3 : 0 ≤ ma) (t3 : ma ≤ 10) (b4 : 0 ≤ mb) (t4 : mb ≤ 10) (b5 : 0 ≤ md) (t5 : md ≤ 10) (b6 : 0 ≤ y) (t6 : y ≤ 360) (b7 : (-2147483648) ≤ p) (t7 : p ≤ 2147483647) (b8 : (-2147483648) ≤ q) (t8 : q ≤ 2147483647) (b9 : (-2147483648) ≤ u) (t9 : u ≤ 2147483647) (b10 : (-2147483648) ≤ v) (t10 : v ≤ 2147483647) (f0 : 0 ≤ (ma - a - 1)) (f1 : 0 ≤ (mb - b - 1)) (k0 : ly_hv cst h 18688 0 = some (a)) (k1 : ly_hv cst h 18688 1 = some (b)) (k2 : ly_hv cst h 18688 2 = some (d)) (k3 : ly_hv cst h 18432 (121 * a + 11 * b + d + 132) = some (y)) (k4 : ly_hv cst h 18176 (a) = some (u)) (k5 : ly_hv cst h 18176 (b + 10) = some (v)) (k6 : ly_hv cst h 61000 (v - u) = some 1) (k7 : ly_hv cst h 62010 (v) = some (q)) (k8 : ly_hv cst h 62010 (u) = some (p)) (k9 : ly_hv cst h 61000 (q - p) = some 1) (l0 : hp_a l 0 85) (l1 : hp_i l 1 3) (r0 : ∀ (h' : am_H) (y0 : Int32), y0.toInt = (y + 5) → ly_hy m_tt ly_TH h' → ly_fr cst [] h h' → h.length ≤ h'.length → Φ (some (.int y0), h', 0, 0)) : hp_F cst strs Φ D M 0 l [] h := by
  refine hq_arc c hM cb3c_k hD [a, b, d, ma, mb, md, y, p, q, u, v] rfl hy (hp_Bc (z := a) rfl b0 t0 (hp_Bc (z := b) rfl b1 t1 (hp_Bc (z := d) rfl b2 t2 (hp_Bc (z := ma) rfl b3 t3 (hp_Bc (z := mb) rfl b4 t4 (hp_Bc (z := md) rfl b5 t5 (hp_Bc (z := y) rfl b6 t6 (hp_Bc (z := p) rfl b7 t7 (hp_Bc (z := q) rfl b8 t8 (hp_Bc (z := u) rfl b9 t9 (hp_Bc (z := v) rfl b10 t10 hp_Bn))))))))))) (hp_Fc (z := ((-1) + ((-1) * a + (1 * ma + 0)))) rfl (by omega) (hp_Fc (z := ((-1) + ((-1) * b + (1 * mb + 0)))) rfl (by omega) hp_Fn)) (hp_Kc (zi := (0 + 0)) (zv := (0 + (1 * a + 0))) k0 rfl rfl (by omega) (by omega) (hp_Kc (zi := (1 + 0)) (zv := (0 + (1 * b + 0))) k1 rfl rfl (by omega) (by omega) (hp_Kc (zi := (2 + 0)) (zv := (0 + (1 * d + 0))) k2 rfl rfl (by omega) (by omega) (hp_Kc (zi := (132 + (121 * a + (11 * b + (1 * d + 0))))) (zv := (0 + (1 * y + 0))) k3 rfl rfl (by omega) (by omega) (hp_Kc (zi := (0 + (1 * a + 0))) (zv := (0 + (1 * u + 0))) k4 rfl rfl (by omega) (by omega) (hp_Kc (zi := (10 + (1 * b + 0))) (zv := (0 + (1 * v + 0))) k5 rfl rfl (by omega) (by omega) (hp_Kc (zi := (0 + ((-1) * u + (1 * v + 0)))) (zv := (1 + 0)) k6 rfl rfl (by omega) (by omega) (hp_Kc (zi := (0 + (1 * v + 0))) (zv := (0 + (1 * q + 0))) k7 rfl rfl (by omega) (by omega) (hp_Kc (zi := (0 + (1 * u + 0))) (zv := (0 + (1 * p + 0))) k8 rfl rfl (by omega) (by omega) (hp_Kc (zi := (0 + ((-1) * p + (1 * q + 0)))) (zv := (1 + 0)) k9 rfl rfl (by omega) (by omega) hp_Kn)))))))))) (hp_La l0 (hp_Li (z := (3 + 0)) l1 rfl (by omega) hp_Ln)) trivial ?_ ?_
  · intro p hp ys l' st' h' hys a1 a2 a3 gZ gL gS
    cases hp
  · intro p hp ys v h' hys a1 a2 a3 gZ gS
    rcases List.mem_cons.mp hp with rfl | hp
    · obtain rfl := hp_y0 hys
      cases v with
      | none => cases gS
      | some w =>
        obtain ⟨y0, t0, s0, q0, -⟩ := hp_gSi (z := (5 + (1 * y + 0))) gS rfl
        cases s0
        exact r0 h' y0 (by omega) a1 a2 a3
    cases hp
theorem cb5a_k : hq_chk [252, 119] 250 0 8 [(0, 0, 10), (1, 0, 10), (2, 0, 10), (3, 0, 10), (4, 0, 10), (5, 0, 10), (6, 0, 360), (7, (-2147483648), 2147483647)] [((-1), [(0, (-1)), (3, 1)]), ((-1), [(2, (-1)), (5, 1)])] [(0, .inr (.inr (.inl (some 85)))), (1, .inl (5, []))] [] [(18688, (0, []), (0, [(0, 1)])), (18688, (1, []), (0, [(1, 1)])), (18688, (2, []), (0, [(2, 1)])), (18432, (122, [(0, 121), (1, 11), (2, 1)]), (0, [(6, 1)])), (18176, (0, [(0, 1)]), (0, [(7, 1)])), (18176, (20, [(2, 1)]), (0, [(7, 1)]))] [] 5 [] [([], 8, [(0, 0, 10), (1, 0, 10), (2, 0, 10), (3, 0, 10), (4, 0, 10), (5, 0, 10), (6, 0, 360), (7, (-2147483648), 2147483647)], [], [], [.inl (1, [(6, 1)])], [])] = true := by decide +kernel
theorem cb5a {cst : am_K} {strs : List Nat} {Φ : am_Q → Prop} {D : Nat} {M : am_M} {h : am_H} {l : am_L} (c : hp_C cst strs D) (hM : m_P[250]? = some M) (hD : (5 : Int) ≤ (D : Int) + 1) (hy : ly_hy m_tt ly_TH h) (a b d ma mb md y u : Int) (b0 : 0 ≤ a) (t0 : a ≤ 10) (b1 : 0 ≤ b) (t1 : b ≤ 10) (b2 : 0 ≤ d) (t2 : d ≤ 10) (b3 : 0 ≤ ma) (t3 : ma ≤ 10) (b4 : 0 ≤ mb) (t4 : mb ≤ 10) (b5 : 0 ≤ md) (t5 : md ≤ 10) (b6 : 0 ≤ y) (t6 : y ≤ 360) (b7 : (-2147483648) ≤ u) (t7 : u ≤ 2147483647) (f0 : 0 ≤ (ma - a - 1)) (f1 : 0 ≤ (md - d - 1)) (k0 : ly_hv cst h 18688 0 = some (a)) (k1 : ly_hv cst h 18688 1 = some (b)) (k2 : ly_hv cst h 18688 2 = some (d)) (k3 : ly_hv cst h 18432 (121 * a + 11 * b + d + 122) = some (y)) (k4 : ly_hv cst h 18176 (a) = some (u)) (k5 : ly_hv cst h 18176 (d + 20) = some (u)) (l0 : hp_a l 0 85) (l1 : hp_i l 1 5) (r0 : ∀ (h' : am_H) (y0 : Int32), y0.toInt = (y + 1) → ly_hy m_tt ly_TH h' → ly_fr cst [] h h' → h.length ≤ h'.length → Φ (some (.int y0), h', 0, 0)) : hp_F cst strs Φ D M 0 l [] h := by
  refine hq_arc c hM cb5a_k hD [a, b, d, ma, mb, md, y, u] rfl hy (hp_Bc (z := a) rfl b0 t0 (hp_Bc (z := b) rfl b1 t1 (hp_Bc (z := d) rfl b2 t2 (hp_Bc (z := ma) rfl b3 t3 (hp_Bc (z := mb) rfl b4 t4 (hp_Bc (z := md) rfl b5 t5 (hp_Bc (z := y) rfl b6 t6 (hp_Bc (z := u) rfl b7 t7 hp_Bn)))))))) (hp_Fc (z := ((-1) + ((-1) * a + (1 * ma + 0)))) rfl (by omega) (hp_Fc (z := ((-1) + ((-1) * d + (1 * md + 0)))) rfl (by omega) hp_Fn)) (hp_Kc (zi := (0 + 0)) (zv := (0 + (1 * a + 0))) k0 rfl rfl (by omega) (by omega) (hp_Kc (zi := (1 + 0)) (zv := (0 + (1 * b + 0))) k1 rfl rfl (by omega) (by omega) (hp_Kc (zi := (2 + 0)) (zv := (0 + (1 * d + 0))) k2 rfl rfl (by omega) (by omega) (hp_Kc (zi := (122 + (121 * a + (11 * b + (1 * d + 0))))) (zv := (0 + (1 * y + 0))) k3 rfl rfl (by omega) (by omega) (hp_Kc (zi := (0 + (1 * a + 0))) (zv := (0 + (1 * u + 0))) k4 rfl rfl (by omega) (by omega) (hp_Kc (zi := (20 + (1 * d + 0))) (zv := (0 + (1 * u + 0))) k5 rfl rfl (by omega) (by omega) hp_Kn)))))) (hp_La l0 (hp_Li (z := (5 + 0)) l1 rfl (by omega) hp_Ln)) trivial ?_ ?_
  · intro p hp ys l' st' h' hys a1 a2 a3 gZ gL gS
    cases hp
  · intro p hp ys v h' hys a1 a2 a3 gZ gS
    rcases List.mem_cons.mp hp with rfl | hp
    · obtain rfl := hp_y0 hys
      cases v with
      | none => cases gS
      | some w =>
        obtain ⟨y0, t0, s0, q0, -⟩ := hp_gSi (z := (1 + (1 * y + 0))) gS rfl
        cases s0
        exact r0 h' y0 (by omega) a1 a2 a3
    cases hp
theorem cb5b_k : hq_chk [252, 119] 250 0 10 [(0, 0, 10), (1, 0, 10), (2, 0, 10), (3, 0, 10), (4, 0, 10), (5, 0, 10), (6, 0, 360), (7, (-2147483648), 2147483647), (8, (-2147483648), 2147483647), (9, (-2147483648), 2147483647)] [((-1), [(0, (-1)), (3, 1)]), ((-1), [(2, (-1)), (5, 1)])] [(0, .inr (.inr (.inl (some 85)))), (1, .inl (5, []))] [] [(18688, (0, []), (0, [(0, 1)])), (18688, (1, []), (0, [(1, 1)])), (18688, (2, []), (0, [(2, 1)])), (18432, (122, [(0, 121), (1, 11), (2, 1)]), (0, [(6, 1)])), (18176, (0, [(0, 1)]), (0, [(8, 1)])), (18176, (20, [(2, 1)]), (0, [(9, 1)])), (61000, (0, [(8, (-1)), (9, 1)]), (1, [])), (62010, (0, [(9, 1)]), (0, [(7, 1)])), (62010, (0, [(8, 1)]), (0, [(7, 1)]))] [] 5 [] [([], 10, [(0, 0, 10), (1, 0, 10), (2, 0, 10), (3, 0, 10), (4, 0, 10), (5, 0, 10), (6, 0, 360), (7, (-2147483648), 2147483647), (8, (-2147483648), 2147483647), (9, (-2147483648), 2147483647)], [], [], [.inl (2, [(6, 1)])], [])] = true := by decide +kernel
theorem cb5b {cst : am_K} {strs : List Nat} {Φ : am_Q → Prop} {D : Nat} {M : am_M} {h : am_H} {l : am_L} (c : hp_C cst strs D) (hM : m_P[250]? = some M) (hD : (5 : Int) ≤ (D : Int) + 1) (hy : ly_hy m_tt ly_TH h) (a b d ma mb md y q u v : Int) (b0 : 0 ≤ a) (t0 : a ≤ 10) (b1 : 0 ≤ b) (t1 : b ≤ 10) (b2 : 0 ≤ d) (t2 : d ≤ 10) (b3 : 0 ≤ ma) (t3 : ma ≤ 10) (b4 : 0 ≤ mb) (t4 : mb ≤ 10) (b5 : 0 ≤ md) (t5 : md ≤ 10) (b6 : 0 ≤ y) (t6 : y ≤ 360) (b7 : (-2147483648) ≤ q) (t7 : q ≤ 2147483647) (b8 : (-2147483648) ≤ u) (t8 : u ≤ 2147483647) (b9 : (-2147483648) ≤ v) (t9 : v ≤ 2147483647) (f0 : 0 ≤ (ma - a - 1)) (f1 : 0 ≤ (md - d - 1)) (k0 : ly_hv cst h 18688 0 = some (a)) (k1 : ly_hv cst h 18688 1 = some (b)) (k2 : ly_hv cst h 18688 2 = some (d)) (k3 : ly_hv cst h 18432 (121 * a + 11 * b + d + 122) = some (y)) (k4 : ly_hv cst h 18176 (a) = some (u)) (k5 : ly_hv cst h 18176 (d + 20) = some (v)) (k6 : ly_hv cst h 61000 (v - u) = some 1) (k7 : ly_hv cst h 62010 (v) = some (q)) (k8 : ly_hv cst h 62010 (u) = some (q)) (l0 : hp_a l 0 85) (l1 : hp_i l 1 5) (r0 : ∀ (h' : am_H) (y0 : Int32), y0.toInt = (y + 2) → ly_hy m_tt ly_TH h' → ly_fr cst [] h h' → h.length ≤ h'.length → Φ (some (.int y0), h', 0, 0)) : hp_F cst strs Φ D M 0 l [] h := by
  refine hq_arc c hM cb5b_k hD [a, b, d, ma, mb, md, y, q, u, v] rfl hy (hp_Bc (z := a) rfl b0 t0 (hp_Bc (z := b) rfl b1 t1 (hp_Bc (z := d) rfl b2 t2 (hp_Bc (z := ma) rfl b3 t3 (hp_Bc (z := mb) rfl b4 t4 (hp_Bc (z := md) rfl b5 t5 (hp_Bc (z := y) rfl b6 t6 (hp_Bc (z := q) rfl b7 t7 (hp_Bc (z := u) rfl b8 t8 (hp_Bc (z := v) rfl b9 t9 hp_Bn)))))))))) (hp_Fc (z := ((-1) + ((-1) * a + (1 * ma + 0)))) rfl (by omega) (hp_Fc (z := ((-1) + ((-1) * d + (1 * md + 0)))) rfl (by omega) hp_Fn)) (hp_Kc (zi := (0 + 0)) (zv := (0 + (1 * a + 0))) k0 rfl rfl (by omega) (by omega) (hp_Kc (zi := (1 + 0)) (zv := (0 + (1 * b + 0))) k1 rfl rfl (by omega) (by omega) (hp_Kc (zi := (2 + 0)) (zv := (0 + (1 * d + 0))) k2 rfl rfl (by omega) (by omega) (hp_Kc (zi := (122 + (121 * a + (11 * b + (1 * d + 0))))) (zv := (0 + (1 * y + 0))) k3 rfl rfl (by omega) (by omega) (hp_Kc (zi := (0 + (1 * a + 0))) (zv := (0 + (1 * u + 0))) k4 rfl rfl (by omega) (by omega) (hp_Kc (zi := (20 + (1 * d + 0))) (zv := (0 + (1 * v + 0))) k5 rfl rfl (by omega) (by omega) (hp_Kc (zi := (0 + ((-1) * u + (1 * v + 0)))) (zv := (1 + 0)) k6 rfl rfl (by omega) (by omega) (hp_Kc (zi := (0 + (1 * v + 0))) (zv := (0 + (1 * q + 0))) k7 rfl rfl (by omega) (by omega) (hp_Kc (zi := (0 + (1 * u + 0))) (zv := (0 + (1 * q + 0))) k8 rfl rfl (by omega) (by omega) hp_Kn))))))))) (hp_La l0 (hp_Li (z := (5 + 0)) l1 rfl (by omega) hp_Ln)) trivial ?_ ?_
  · intro p hp ys l' st' h' hys a1 a2 a3 gZ gL gS
    cases hp
  · intro p hp ys v h' hys a1 a2 a3 gZ gS
    rcases List.mem_cons.mp hp with rfl | hp
    · obtain rfl := hp_y0 hys
      cases v with
      | none => cases gS
      | some w =>
        obtain ⟨y0, t0, s0, q0, -⟩ := hp_gSi (z := (2 + (1 * y + 0))) gS rfl
        cases s0
        exact r0 h' y0 (by omega) a1 a2 a3
    cases hp
theorem cb5c_k : hq_chk [252, 119] 250 0 11 [(0, 0, 10), (1, 0, 10), (2, 0, 10), (3, 0, 10), (4, 0, 10), (5, 0, 10), (6, 0, 360), (7, (-2147483648), 2147483647), (8, (-2147483648), 2147483647), (9, (-2147483648), 2147483647), (10, (-2147483648), 2147483647)] [((-1), [(0, (-1)), (3, 1)]), ((-1), [(2, (-1)), (5, 1)])] [(0, .inr (.inr (.inl (some 85)))), (1, .inl (5, []))] [] [(18688, (0, []), (0, [(0, 1)])), (18688, (1, []), (0, [(1, 1)])), (18688, (2, []), (0, [(2, 1)])), (18432, (122, [(0, 121), (1, 11), (2, 1)]), (0, [(6, 1)])), (18176, (0, [(0, 1)]), (0, [(9, 1)])), (18176, (20, [(2, 1)]), (0, [(10, 1)])), (61000, (0, [(9, (-1)), (10, 1)]), (1, [])), (62010, (0, [(10, 1)]), (0, [(8, 1)])), (62010, (0, [(9, 1)]), (0, [(7, 1)])), (61000, (0, [(7, (-1)), (8, 1)]), (1, []))] [] 5 [] [([], 11, [(0, 0, 10), (1, 0, 10), (2, 0, 10), (3, 0, 10), (4, 0, 10), (5, 0, 10), (6, 0, 360), (7, (-2147483648), 2147483647), (8, (-2147483648), 2147483647), (9, (-2147483648), 2147483647), (10, (-2147483648), 2147483647)], [], [], [.inl (5, [(6, 1)])], [])] = true := by decide +kernel
theorem cb5c {cst : am_K} {strs : List Nat} {Φ : am_Q → Prop} {D : Nat} {M : am_M} {h : am_H} {l : am_L} (c : hp_C cst strs D) (hM : m_P[250]? = some M) (hD : (5 : Int) ≤ (D : Int) + 1) (hy : ly_hy m_tt ly_TH h) (a b d ma mb md y p q u v : Int) (b0 : 0 ≤ a) (t0 : a ≤ 10) (b1 : 0 ≤ b) (t1 : b ≤ 10) (b2 : 0 ≤ d) (t2 : d ≤ 10) (b3 : 0 ≤ ma) (t3 : ma ≤ 10) (b4 : 0 ≤ mb) (t4 : mb ≤ 10) (b5 : 0 ≤ md) (t5 : md ≤ 10) (b6 : 0 ≤ y) (t6 : y ≤ 360) (b7 : (-2147483648) ≤ p) (t7 : p ≤ 2147483647) (b8 : (-2147483648) ≤ q) (t8 : q ≤ 2147483647) (b9 : (-2147483648) ≤ u) (t9 : u ≤ 2147483647) (b10 : (-2147483648) ≤ v) (t10 : v ≤ 2147483647) (f0 : 0 ≤ (ma - a - 1)) (f1 : 0 ≤ (md - d - 1)) (k0 : ly_hv cst h 18688 0 = some (a)) (k1 : ly_hv cst h 18688 1 = some (b)) (k2 : ly_hv cst h 18688 2 = some (d)) (k3 : ly_hv cst h 18432 (121 * a + 11 * b + d + 122) = some (y)) (k4 : ly_hv cst h 18176 (a) = some (u)) (k5 : ly_hv cst h 18176 (d + 20) = some (v)) (k6 : ly_hv cst h 61000 (v - u) = some 1) (k7 : ly_hv cst h 62010 (v) = some (q)) (k8 : ly_hv cst h 62010 (u) = some (p)) (k9 : ly_hv cst h 61000 (q - p) = some 1) (l0 : hp_a l 0 85) (l1 : hp_i l 1 5) (r0 : ∀ (h' : am_H) (y0 : Int32), y0.toInt = (y + 5) → ly_hy m_tt ly_TH h' → ly_fr cst [] h h' → h.length ≤ h'.length → Φ (some (.int y0), h', 0, 0)) : hp_F cst strs Φ D M 0 l [] h := by
  refine hq_arc c hM cb5c_k hD [a, b, d, ma, mb, md, y, p, q, u, v] rfl hy (hp_Bc (z := a) rfl b0 t0 (hp_Bc (z := b) rfl b1 t1 (hp_Bc (z := d) rfl b2 t2 (hp_Bc (z := ma) rfl b3 t3 (hp_Bc (z := mb) rfl b4 t4 (hp_Bc (z := md) rfl b5 t5 (hp_Bc (z := y) rfl b6 t6 (hp_Bc (z := p) rfl b7 t7 (hp_Bc (z := q) rfl b8 t8 (hp_Bc (z := u) rfl b9 t9 (hp_Bc (z := v) rfl b10 t10 hp_Bn))))))))))) (hp_Fc (z := ((-1) + ((-1) * a + (1 * ma + 0)))) rfl (by omega) (hp_Fc (z := ((-1) + ((-1) * d + (1 * md + 0)))) rfl (by omega) hp_Fn)) (hp_Kc (zi := (0 + 0)) (zv := (0 + (1 * a + 0))) k0 rfl rfl (by omega) (by omega) (hp_Kc (zi := (1 + 0)) (zv := (0 + (1 * b + 0))) k1 rfl rfl (by omega) (by omega) (hp_Kc (zi := (2 + 0)) (zv := (0 + (1 * d + 0))) k2 rfl rfl (by omega) (by omega) (hp_Kc (zi := (122 + (121 * a + (11 * b + (1 * d + 0))))) (zv := (0 + (1 * y + 0))) k3 rfl rfl (by omega) (by omega) (hp_Kc (zi := (0 + (1 * a + 0))) (zv := (0 + (1 * u + 0))) k4 rfl rfl (by omega) (by omega) (hp_Kc (zi := (20 + (1 * d + 0))) (zv := (0 + (1 * v + 0))) k5 rfl rfl (by omega) (by omega) (hp_Kc (zi := (0 + ((-1) * u + (1 * v + 0)))) (zv := (1 + 0)) k6 rfl rfl (by omega) (by omega) (hp_Kc (zi := (0 + (1 * v + 0))) (zv := (0 + (1 * q + 0))) k7 rfl rfl (by omega) (by omega) (hp_Kc (zi := (0 + (1 * u + 0))) (zv := (0 + (1 * p + 0))) k8 rfl rfl (by omega) (by omega) (hp_Kc (zi := (0 + ((-1) * p + (1 * q + 0)))) (zv := (1 + 0)) k9 rfl rfl (by omega) (by omega) hp_Kn)))))))))) (hp_La l0 (hp_Li (z := (5 + 0)) l1 rfl (by omega) hp_Ln)) trivial ?_ ?_
  · intro p hp ys l' st' h' hys a1 a2 a3 gZ gL gS
    cases hp
  · intro p hp ys v h' hys a1 a2 a3 gZ gS
    rcases List.mem_cons.mp hp with rfl | hp
    · obtain rfl := hp_y0 hys
      cases v with
      | none => cases gS
      | some w =>
        obtain ⟨y0, t0, s0, q0, -⟩ := hp_gSi (z := (5 + (1 * y + 0))) gS rfl
        cases s0
        exact r0 h' y0 (by omega) a1 a2 a3
    cases hp
theorem cb6a_k : hq_chk [252, 119] 250 0 8 [(0, 0, 10), (1, 0, 10), (2, 0, 10), (3, 0, 10), (4, 0, 10), (5, 0, 10), (6, 0, 360), (7, (-2147483648), 2147483647)] [((-1), [(1, (-1)), (4, 1)]), ((-1), [(2, (-1)), (5, 1)])] [(0, .inr (.inr (.inl (some 85)))), (1, .inl (6, []))] [] [(18688, (0, []), (0, [(0, 1)])), (18688, (1, []), (0, [(1, 1)])), (18688, (2, []), (0, [(2, 1)])), (18432, (12, [(0, 121), (1, 11), (2, 1)]), (0, [(6, 1)])), (18176, (10, [(1, 1)]), (0, [(7, 1)])), (18176, (20, [(2, 1)]), (0, [(7, 1)]))] [] 5 [] [([], 8, [(0, 0, 10), (1, 0, 10), (2, 0, 10), (3, 0, 10), (4, 0, 10), (5, 0, 10), (6, 0, 360), (7, (-2147483648), 2147483647)], [], [], [.inl (1, [(6, 1)])], [])] = true := by decide +kernel
theorem cb6a {cst : am_K} {strs : List Nat} {Φ : am_Q → Prop} {D : Nat} {M : am_M} {h : am_H} {l : am_L} (c : hp_C cst strs D) (hM : m_P[250]? = some M) (hD : (5 : Int) ≤ (D : Int) + 1) (hy : ly_hy m_tt ly_TH h) (a b d ma mb md y u : Int) (b0 : 0 ≤ a) (t0 : a ≤ 10) (b1 : 0 ≤ b) (t1 : b ≤ 10) (b2 : 0 ≤ d) (t2 : d ≤ 10) (b3 : 0 ≤ ma) (t3 : ma ≤ 10) (b4 : 0 ≤ mb) (t4 : mb ≤ 10) (b5 : 0 ≤ md) (t5 : md ≤ 10) (b6 : 0 ≤ y) (t6 : y ≤ 360) (b7 : (-2147483648) ≤ u) (t7 : u ≤ 2147483647) (f0 : 0 ≤ (mb - b - 1)) (f1 : 0 ≤ (md - d - 1)) (k0 : ly_hv cst h 18688 0 = some (a)) (k1 : ly_hv cst h 18688 1 = some (b)) (k2 : ly_hv cst h 18688 2 = some (d)) (k3 : ly_hv cst h 18432 (121 * a + 11 * b + d + 12) = some (y)) (k4 : ly_hv cst h 18176 (b + 10) = some (u)) (k5 : ly_hv cst h 18176 (d + 20) = some (u)) (l0 : hp_a l 0 85) (l1 : hp_i l 1 6) (r0 : ∀ (h' : am_H) (y0 : Int32), y0.toInt = (y + 1) → ly_hy m_tt ly_TH h' → ly_fr cst [] h h' → h.length ≤ h'.length → Φ (some (.int y0), h', 0, 0)) : hp_F cst strs Φ D M 0 l [] h := by
  refine hq_arc c hM cb6a_k hD [a, b, d, ma, mb, md, y, u] rfl hy (hp_Bc (z := a) rfl b0 t0 (hp_Bc (z := b) rfl b1 t1 (hp_Bc (z := d) rfl b2 t2 (hp_Bc (z := ma) rfl b3 t3 (hp_Bc (z := mb) rfl b4 t4 (hp_Bc (z := md) rfl b5 t5 (hp_Bc (z := y) rfl b6 t6 (hp_Bc (z := u) rfl b7 t7 hp_Bn)))))))) (hp_Fc (z := ((-1) + ((-1) * b + (1 * mb + 0)))) rfl (by omega) (hp_Fc (z := ((-1) + ((-1) * d + (1 * md + 0)))) rfl (by omega) hp_Fn)) (hp_Kc (zi := (0 + 0)) (zv := (0 + (1 * a + 0))) k0 rfl rfl (by omega) (by omega) (hp_Kc (zi := (1 + 0)) (zv := (0 + (1 * b + 0))) k1 rfl rfl (by omega) (by omega) (hp_Kc (zi := (2 + 0)) (zv := (0 + (1 * d + 0))) k2 rfl rfl (by omega) (by omega) (hp_Kc (zi := (12 + (121 * a + (11 * b + (1 * d + 0))))) (zv := (0 + (1 * y + 0))) k3 rfl rfl (by omega) (by omega) (hp_Kc (zi := (10 + (1 * b + 0))) (zv := (0 + (1 * u + 0))) k4 rfl rfl (by omega) (by omega) (hp_Kc (zi := (20 + (1 * d + 0))) (zv := (0 + (1 * u + 0))) k5 rfl rfl (by omega) (by omega) hp_Kn)))))) (hp_La l0 (hp_Li (z := (6 + 0)) l1 rfl (by omega) hp_Ln)) trivial ?_ ?_
  · intro p hp ys l' st' h' hys a1 a2 a3 gZ gL gS
    cases hp
  · intro p hp ys v h' hys a1 a2 a3 gZ gS
    rcases List.mem_cons.mp hp with rfl | hp
    · obtain rfl := hp_y0 hys
      cases v with
      | none => cases gS
      | some w =>
        obtain ⟨y0, t0, s0, q0, -⟩ := hp_gSi (z := (1 + (1 * y + 0))) gS rfl
        cases s0
        exact r0 h' y0 (by omega) a1 a2 a3
    cases hp
theorem cb6b_k : hq_chk [252, 119] 250 0 10 [(0, 0, 10), (1, 0, 10), (2, 0, 10), (3, 0, 10), (4, 0, 10), (5, 0, 10), (6, 0, 360), (7, (-2147483648), 2147483647), (8, (-2147483648), 2147483647), (9, (-2147483648), 2147483647)] [((-1), [(1, (-1)), (4, 1)]), ((-1), [(2, (-1)), (5, 1)])] [(0, .inr (.inr (.inl (some 85)))), (1, .inl (6, []))] [] [(18688, (0, []), (0, [(0, 1)])), (18688, (1, []), (0, [(1, 1)])), (18688, (2, []), (0, [(2, 1)])), (18432, (12, [(0, 121), (1, 11), (2, 1)]), (0, [(6, 1)])), (18176, (10, [(1, 1)]), (0, [(8, 1)])), (18176, (20, [(2, 1)]), (0, [(9, 1)])), (61000, (0, [(8, (-1)), (9, 1)]), (1, [])), (62010, (0, [(9, 1)]), (0, [(7, 1)])), (62010, (0, [(8, 1)]), (0, [(7, 1)]))] [] 5 [] [([], 10, [(0, 0, 10), (1, 0, 10), (2, 0, 10), (3, 0, 10), (4, 0, 10), (5, 0, 10), (6, 0, 360), (7, (-2147483648), 2147483647), (8, (-2147483648), 2147483647), (9, (-2147483648), 2147483647)], [], [], [.inl (2, [(6, 1)])], [])] = true := by decide +kernel
theorem cb6b {cst : am_K} {strs : List Nat} {Φ : am_Q → Prop} {D : Nat} {M : am_M} {h : am_H} {l : am_L} (c : hp_C cst strs D) (hM : m_P[250]? = some M) (hD : (5 : Int) ≤ (D : Int) + 1) (hy : ly_hy m_tt ly_TH h) (a b d ma mb md y q u v : Int) (b0 : 0 ≤ a) (t0 : a ≤ 10) (b1 : 0 ≤ b) (t1 : b ≤ 10) (b2 : 0 ≤ d) (t2 : d ≤ 10) (b3 : 0 ≤ ma) (t3 : ma ≤ 10) (b4 : 0 ≤ mb) (t4 : mb ≤ 10) (b5 : 0 ≤ md) (t5 : md ≤ 10) (b6 : 0 ≤ y) (t6 : y ≤ 360) (b7 : (-2147483648) ≤ q) (t7 : q ≤ 2147483647) (b8 : (-2147483648) ≤ u) (t8 : u ≤ 2147483647) (b9 : (-2147483648) ≤ v) (t9 : v ≤ 2147483647) (f0 : 0 ≤ (mb - b - 1)) (f1 : 0 ≤ (md - d - 1)) (k0 : ly_hv cst h 18688 0 = some (a)) (k1 : ly_hv cst h 18688 1 = some (b)) (k2 : ly_hv cst h 18688 2 = some (d)) (k3 : ly_hv cst h 18432 (121 * a + 11 * b + d + 12) = some (y)) (k4 : ly_hv cst h 18176 (b + 10) = some (u)) (k5 : ly_hv cst h 18176 (d + 20) = some (v)) (k6 : ly_hv cst h 61000 (v - u) = some 1) (k7 : ly_hv cst h 62010 (v) = some (q)) (k8 : ly_hv cst h 62010 (u) = some (q)) (l0 : hp_a l 0 85) (l1 : hp_i l 1 6) (r0 : ∀ (h' : am_H) (y0 : Int32), y0.toInt = (y + 2) → ly_hy m_tt ly_TH h' → ly_fr cst [] h h' → h.length ≤ h'.length → Φ (some (.int y0), h', 0, 0)) : hp_F cst strs Φ D M 0 l [] h := by
  refine hq_arc c hM cb6b_k hD [a, b, d, ma, mb, md, y, q, u, v] rfl hy (hp_Bc (z := a) rfl b0 t0 (hp_Bc (z := b) rfl b1 t1 (hp_Bc (z := d) rfl b2 t2 (hp_Bc (z := ma) rfl b3 t3 (hp_Bc (z := mb) rfl b4 t4 (hp_Bc (z := md) rfl b5 t5 (hp_Bc (z := y) rfl b6 t6 (hp_Bc (z := q) rfl b7 t7 (hp_Bc (z := u) rfl b8 t8 (hp_Bc (z := v) rfl b9 t9 hp_Bn)))))))))) (hp_Fc (z := ((-1) + ((-1) * b + (1 * mb + 0)))) rfl (by omega) (hp_Fc (z := ((-1) + ((-1) * d + (1 * md + 0)))) rfl (by omega) hp_Fn)) (hp_Kc (zi := (0 + 0)) (zv := (0 + (1 * a + 0))) k0 rfl rfl (by omega) (by omega) (hp_Kc (zi := (1 + 0)) (zv := (0 + (1 * b + 0))) k1 rfl rfl (by omega) (by omega) (hp_Kc (zi := (2 + 0)) (zv := (0 + (1 * d + 0))) k2 rfl rfl (by omega) (by omega) (hp_Kc (zi := (12 + (121 * a + (11 * b + (1 * d + 0))))) (zv := (0 + (1 * y + 0))) k3 rfl rfl (by omega) (by omega) (hp_Kc (zi := (10 + (1 * b + 0))) (zv := (0 + (1 * u + 0))) k4 rfl rfl (by omega) (by omega) (hp_Kc (zi := (20 + (1 * d + 0))) (zv := (0 + (1 * v + 0))) k5 rfl rfl (by omega) (by omega) (hp_Kc (zi := (0 + ((-1) * u + (1 * v + 0)))) (zv := (1 + 0)) k6 rfl rfl (by omega) (by omega) (hp_Kc (zi := (0 + (1 * v + 0))) (zv := (0 + (1 * q + 0))) k7 rfl rfl (by omega) (by omega) (hp_Kc (zi := (0 + (1 * u + 0))) (zv := (0 + (1 * q + 0))) k8 rfl rfl (by omega) (by omega) hp_Kn))))))))) (hp_La l0 (hp_Li (z := (6 + 0)) l1 rfl (by omega) hp_Ln)) trivial ?_ ?_
  · intro p hp ys l' st' h' hys a1 a2 a3 gZ gL gS
    cases hp
  · intro p hp ys v h' hys a1 a2 a3 gZ gS
    rcases List.mem_cons.mp hp with rfl | hp
    · obtain rfl := hp_y0 hys
      cases v with
      | none => cases gS
      | some w =>
        obtain ⟨y0, t0, s0, q0, -⟩ := hp_gSi (z := (2 + (1 * y + 0))) gS rfl
        cases s0
        exact r0 h' y0 (by omega) a1 a2 a3
    cases hp
theorem cb6c_k : hq_chk [252, 119] 250 0 11 [(0, 0, 10), (1, 0, 10), (2, 0, 10), (3, 0, 10), (4, 0, 10), (5, 0, 10), (6, 0, 360), (7, (-2147483648), 2147483647), (8, (-2147483648), 2147483647), (9, (-2147483648), 2147483647), (10, (-2147483648), 2147483647)] [((-1), [(1, (-1)), (4, 1)]), ((-1), [(2, (-1)), (5, 1)])] [(0, .inr (.inr (.inl (some 85)))), (1, .inl (6, []))] [] [(18688, (0, []), (0, [(0, 1)])), (18688, (1, []), (0, [(1, 1)])), (18688, (2, []), (0, [(2, 1)])), (18432, (12, [(0, 121), (1, 11), (2, 1)]), (0, [(6, 1)])), (18176, (10, [(1, 1)]), (0, [(9, 1)])), (18176, (20, [(2, 1)]), (0, [(10, 1)])), (61000, (0, [(9, (-1)), (10, 1)]), (1, [])), (62010, (0, [(10, 1)]), (0, [(8, 1)])), (62010, (0, [(9, 1)]), (0, [(7, 1)])), (61000, (0, [(7, (-1)), (8, 1)]), (1, []))] [] 5 [] [([], 11, [(0, 0, 10), (1, 0, 10), (2, 0, 10), (3, 0, 10), (4, 0, 10), (5, 0, 10), (6, 0, 360), (7, (-2147483648), 2147483647), (8, (-2147483648), 2147483647), (9, (-2147483648), 2147483647), (10, (-2147483648), 2147483647)], [], [], [.inl (5, [(6, 1)])], [])] = true := by decide +kernel
theorem cb6c {cst : am_K} {strs : List Nat} {Φ : am_Q → Prop} {D : Nat} {M : am_M} {h : am_H} {l : am_L} (c : hp_C cst strs D) (hM : m_P[250]? = some M) (hD : (5 : Int) ≤ (D : Int) + 1) (hy : ly_hy m_tt ly_TH h) (a b d ma mb md y p q u v : Int) (b0 : 0 ≤ a) (t0 : a ≤ 10) (b1 : 0 ≤ b) (t1 : b ≤ 10) (b2 : 0 ≤ d) (t2 : d ≤ 10) (b3 : 0 ≤ ma) (t3 : ma ≤ 10) (b4 : 0 ≤ mb) (t4 : mb ≤ 10) (b5 : 0 ≤ md) (t5 : md ≤ 10) (b6 : 0 ≤ y) (t6 : y ≤ 360) (b7 : (-2147483648) ≤ p) (t7 : p ≤ 2147483647) (b8 : (-2147483648) ≤ q) (t8 : q ≤ 2147483647) (b9 : (-2147483648) ≤ u) (t9 : u ≤ 2147483647) (b10 : (-2147483648) ≤ v) (t10 : v ≤ 2147483647) (f0 : 0 ≤ (mb - b - 1)) (f1 : 0 ≤ (md - d - 1)) (k0 : ly_hv cst h 18688 0 = some (a)) (k1 : ly_hv cst h 18688 1 = some (b)) (k2 : ly_hv cst h 18688 2 = some (d)) (k3 : ly_hv cst h 18432 (121 * a + 11 * b + d + 12) = some (y)) (k4 : ly_hv cst h 18176 (b + 10) = some (u)) (k5 : ly_hv cst h 18176 (d + 20) = some (v)) (k6 : ly_hv cst h 61000 (v - u) = some 1) (k7 : ly_hv cst h 62010 (v) = some (q)) (k8 : ly_hv cst h 62010 (u) = some (p)) (k9 : ly_hv cst h 61000 (q - p) = some 1) (l0 : hp_a l 0 85) (l1 : hp_i l 1 6) (r0 : ∀ (h' : am_H) (y0 : Int32), y0.toInt = (y + 5) → ly_hy m_tt ly_TH h' → ly_fr cst [] h h' → h.length ≤ h'.length → Φ (some (.int y0), h', 0, 0)) : hp_F cst strs Φ D M 0 l [] h := by
  refine hq_arc c hM cb6c_k hD [a, b, d, ma, mb, md, y, p, q, u, v] rfl hy (hp_Bc (z := a) rfl b0 t0 (hp_Bc (z := b) rfl b1 t1 (hp_Bc (z := d) rfl b2 t2 (hp_Bc (z := ma) rfl b3 t3 (hp_Bc (z := mb) rfl b4 t4 (hp_Bc (z := md) rfl b5 t5 (hp_Bc (z := y) rfl b6 t6 (hp_Bc (z := p) rfl b7 t7 (hp_Bc (z := q) rfl b8 t8 (hp_Bc (z := u) rfl b9 t9 (hp_Bc (z := v) rfl b10 t10 hp_Bn))))))))))) (hp_Fc (z := ((-1) + ((-1) * b + (1 * mb + 0)))) rfl (by omega) (hp_Fc (z := ((-1) + ((-1) * d + (1 * md + 0)))) rfl (by omega) hp_Fn)) (hp_Kc (zi := (0 + 0)) (zv := (0 + (1 * a + 0))) k0 rfl rfl (by omega) (by omega) (hp_Kc (zi := (1 + 0)) (zv := (0 + (1 * b + 0))) k1 rfl rfl (by omega) (by omega) (hp_Kc (zi := (2 + 0)) (zv := (0 + (1 * d + 0))) k2 rfl rfl (by omega) (by omega) (hp_Kc (zi := (12 + (121 * a + (11 * b + (1 * d + 0))))) (zv := (0 + (1 * y + 0))) k3 rfl rfl (by omega) (by omega) (hp_Kc (zi := (10 + (1 * b + 0))) (zv := (0 + (1 * u + 0))) k4 rfl rfl (by omega) (by omega) (hp_Kc (zi := (20 + (1 * d + 0))) (zv := (0 + (1 * v + 0))) k5 rfl rfl (by omega) (by omega) (hp_Kc (zi := (0 + ((-1) * u + (1 * v + 0)))) (zv := (1 + 0)) k6 rfl rfl (by omega) (by omega) (hp_Kc (zi := (0 + (1 * v + 0))) (zv := (0 + (1 * q + 0))) k7 rfl rfl (by omega) (by omega) (hp_Kc (zi := (0 + (1 * u + 0))) (zv := (0 + (1 * p + 0))) k8 rfl rfl (by omega) (by omega) (hp_Kc (zi := (0 + ((-1) * p + (1 * q + 0)))) (zv := (1 + 0)) k9 rfl rfl (by omega) (by omega) hp_Kn)))))))))) (hp_La l0 (hp_Li (z := (6 + 0)) l1 rfl (by omega) hp_Ln)) trivial ?_ ?_
  · intro p hp ys l' st' h' hys a1 a2 a3 gZ gL gS
    cases hp
  · intro p hp ys v h' hys a1 a2 a3 gZ gS
    rcases List.mem_cons.mp hp with rfl | hp
    · obtain rfl := hp_y0 hys
      cases v with
      | none => cases gS
      | some w =>
        obtain ⟨y0, t0, s0, q0, -⟩ := hp_gSi (z := (5 + (1 * y + 0))) gS rfl
        cases s0
        exact r0 h' y0 (by omega) a1 a2 a3
    cases hp
theorem cb1_k : hq_chk [252, 119] 250 0 7 [(0, 0, 10), (1, 0, 10), (2, 0, 10), (3, 0, 10), (4, 0, 10), (5, 0, 10), (6, 0, 360)] [((-1), [(0, (-1)), (3, 1)])] [(0, .inr (.inr (.inl (some 85)))), (1, .inl (1, []))] [] [(18688, (0, []), (0, [(0, 1)])), (18688, (1, []), (0, [(1, 1)])), (18688, (2, []), (0, [(2, 1)])), (18432, (121, [(0, 121), (1, 11), (2, 1)]), (0, [(6, 1)]))] [] 5 [] [([], 7, [(0, 0, 10), (1, 0, 10), (2, 0, 10), (3, 0, 10), (4, 0, 10), (5, 0, 10), (6, 0, 360)], [], [], [.inl (2, [(6, 1)])], [])] = true := by decide +kernel
theorem cb1 {cst : am_K} {strs : List Nat} {Φ : am_Q → Prop} {D : Nat} {M : am_M} {h : am_H} {l : am_L} (c : hp_C cst strs D) (hM : m_P[250]? = some M) (hD : (5 : Int) ≤ (D : Int) + 1) (hy : ly_hy m_tt ly_TH h) (a b d ma mb md y : Int) (b0 : 0 ≤ a) (t0 : a ≤ 10) (b1 : 0 ≤ b) (t1 : b ≤ 10) (b2 : 0 ≤ d) (t2 : d ≤ 10) (b3 : 0 ≤ ma) (t3 : ma ≤ 10) (b4 : 0 ≤ mb) (t4 : mb ≤ 10) (b5 : 0 ≤ md) (t5 : md ≤ 10) (b6 : 0 ≤ y) (t6 : y ≤ 360) (f0 : 0 ≤ (ma - a - 1)) (k0 : ly_hv cst h 18688 0 = some (a)) (k1 : ly_hv cst h 18688 1 = some (b)) (k2 : ly_hv cst h 18688 2 = some (d)) (k3 : ly_hv cst h 18432 (121 * a + 11 * b + d + 121) = some (y)) (l0 : hp_a l 0 85) (l1 : hp_i l 1 1) (r0 : ∀ (h' : am_H) (y0 : Int32), y0.toInt = (y + 2) → ly_hy m_tt ly_TH h' → ly_fr cst [] h h' → h.length ≤ h'.length → Φ (some (.int y0), h', 0, 0)) : hp_F cst strs Φ D M 0 l [] h := by
  refine hq_arc c hM cb1_k hD [a, b, d, ma, mb, md, y] rfl hy (hp_Bc (z := a) rfl b0 t0 (hp_Bc (z := b) rfl b1 t1 (hp_Bc (z := d) rfl b2 t2 (hp_Bc (z := ma) rfl b3 t3 (hp_Bc (z := mb) rfl b4 t4 (hp_Bc (z := md) rfl b5 t5 (hp_Bc (z := y) rfl b6 t6 hp_Bn))))))) (hp_Fc (z := ((-1) + ((-1) * a + (1 * ma + 0)))) rfl (by omega) hp_Fn) (hp_Kc (zi := (0 + 0)) (zv := (0 + (1 * a + 0))) k0 rfl rfl (by omega) (by omega) (hp_Kc (zi := (1 + 0)) (zv := (0 + (1 * b + 0))) k1 rfl rfl (by omega) (by omega) (hp_Kc (zi := (2 + 0)) (zv := (0 + (1 * d + 0))) k2 rfl rfl (by omega) (by omega) (hp_Kc (zi := (121 + (121 * a + (11 * b + (1 * d + 0))))) (zv := (0 + (1 * y + 0))) k3 rfl rfl (by omega) (by omega) hp_Kn)))) (hp_La l0 (hp_Li (z := (1 + 0)) l1 rfl (by omega) hp_Ln)) trivial ?_ ?_
  · intro p hp ys l' st' h' hys a1 a2 a3 gZ gL gS
    cases hp
  · intro p hp ys v h' hys a1 a2 a3 gZ gS
    rcases List.mem_cons.mp hp with rfl | hp
    · obtain rfl := hp_y0 hys
      cases v with
      | none => cases gS
      | some w =>
        obtain ⟨y0, t0, s0, q0, -⟩ := hp_gSi (z := (2 + (1 * y + 0))) gS rfl
        cases s0
        exact r0 h' y0 (by omega) a1 a2 a3
    cases hp
theorem cb2_k : hq_chk [252, 119] 250 0 7 [(0, 0, 10), (1, 0, 10), (2, 0, 10), (3, 0, 10), (4, 0, 10), (5, 0, 10), (6, 0, 360)] [((-1), [(1, (-1)), (4, 1)])] [(0, .inr (.inr (.inl (some 85)))), (1, .inl (2, []))] [] [(18688, (0, []), (0, [(0, 1)])), (18688, (1, []), (0, [(1, 1)])), (18688, (2, []), (0, [(2, 1)])), (18432, (11, [(0, 121), (1, 11), (2, 1)]), (0, [(6, 1)]))] [] 5 [] [([], 7, [(0, 0, 10), (1, 0, 10), (2, 0, 10), (3, 0, 10), (4, 0, 10), (5, 0, 10), (6, 0, 360)], [], [], [.inl (2, [(6, 1)])], [])] = true := by decide +kernel
theorem cb2 {cst : am_K} {strs : List Nat} {Φ : am_Q → Prop} {D : Nat} {M : am_M} {h : am_H} {l : am_L} (c : hp_C cst strs D) (hM : m_P[250]? = some M) (hD : (5 : Int) ≤ (D : Int) + 1) (hy : ly_hy m_tt ly_TH h) (a b d ma mb md y : Int) (b0 : 0 ≤ a) (t0 : a ≤ 10) (b1 : 0 ≤ b) (t1 : b ≤ 10) (b2 : 0 ≤ d) (t2 : d ≤ 10) (b3 : 0 ≤ ma) (t3 : ma ≤ 10) (b4 : 0 ≤ mb) (t4 : mb ≤ 10) (b5 : 0 ≤ md) (t5 : md ≤ 10) (b6 : 0 ≤ y) (t6 : y ≤ 360) (f0 : 0 ≤ (mb - b - 1)) (k0 : ly_hv cst h 18688 0 = some (a)) (k1 : ly_hv cst h 18688 1 = some (b)) (k2 : ly_hv cst h 18688 2 = some (d)) (k3 : ly_hv cst h 18432 (121 * a + 11 * b + d + 11) = some (y)) (l0 : hp_a l 0 85) (l1 : hp_i l 1 2) (r0 : ∀ (h' : am_H) (y0 : Int32), y0.toInt = (y + 2) → ly_hy m_tt ly_TH h' → ly_fr cst [] h h' → h.length ≤ h'.length → Φ (some (.int y0), h', 0, 0)) : hp_F cst strs Φ D M 0 l [] h := by
  refine hq_arc c hM cb2_k hD [a, b, d, ma, mb, md, y] rfl hy (hp_Bc (z := a) rfl b0 t0 (hp_Bc (z := b) rfl b1 t1 (hp_Bc (z := d) rfl b2 t2 (hp_Bc (z := ma) rfl b3 t3 (hp_Bc (z := mb) rfl b4 t4 (hp_Bc (z := md) rfl b5 t5 (hp_Bc (z := y) rfl b6 t6 hp_Bn))))))) (hp_Fc (z := ((-1) + ((-1) * b + (1 * mb + 0)))) rfl (by omega) hp_Fn) (hp_Kc (zi := (0 + 0)) (zv := (0 + (1 * a + 0))) k0 rfl rfl (by omega) (by omega) (hp_Kc (zi := (1 + 0)) (zv := (0 + (1 * b + 0))) k1 rfl rfl (by omega) (by omega) (hp_Kc (zi := (2 + 0)) (zv := (0 + (1 * d + 0))) k2 rfl rfl (by omega) (by omega) (hp_Kc (zi := (11 + (121 * a + (11 * b + (1 * d + 0))))) (zv := (0 + (1 * y + 0))) k3 rfl rfl (by omega) (by omega) hp_Kn)))) (hp_La l0 (hp_Li (z := (2 + 0)) l1 rfl (by omega) hp_Ln)) trivial ?_ ?_
  · intro p hp ys l' st' h' hys a1 a2 a3 gZ gL gS
    cases hp
  · intro p hp ys v h' hys a1 a2 a3 gZ gS
    rcases List.mem_cons.mp hp with rfl | hp
    · obtain rfl := hp_y0 hys
      cases v with
      | none => cases gS
      | some w =>
        obtain ⟨y0, t0, s0, q0, -⟩ := hp_gSi (z := (2 + (1 * y + 0))) gS rfl
        cases s0
        exact r0 h' y0 (by omega) a1 a2 a3
    cases hp
theorem cb4_k : hq_chk [252, 119] 250 0 7 [(0, 0, 10), (1, 0, 10), (2, 0, 10), (3, 0, 10), (4, 0, 10), (5, 0, 10), (6, 0, 360)] [((-1), [(2, (-1)), (5, 1)])] [(0, .inr (.inr (.inl (some 85)))), (1, .inl (4, []))] [] [(18688, (0, []), (0, [(0, 1)])), (18688, (1, []), (0, [(1, 1)])), (18688, (2, []), (0, [(2, 1)])), (18432, (1, [(0, 121), (1, 11), (2, 1)]), (0, [(6, 1)]))] [] 5 [] [([], 7, [(0, 0, 10), (1, 0, 10), (2, 0, 10), (3, 0, 10), (4, 0, 10), (5, 0, 10), (6, 0, 360)], [], [], [.inl (2, [(6, 1)])], [])] = true := by decide +kernel
theorem cb4 {cst : am_K} {strs : List Nat} {Φ : am_Q → Prop} {D : Nat} {M : am_M} {h : am_H} {l : am_L} (c : hp_C cst strs D) (hM : m_P[250]? = some M) (hD : (5 : Int) ≤ (D : Int) + 1) (hy : ly_hy m_tt ly_TH h) (a b d ma mb md y : Int) (b0 : 0 ≤ a) (t0 : a ≤ 10) (b1 : 0 ≤ b) (t1 : b ≤ 10) (b2 : 0 ≤ d) (t2 : d ≤ 10) (b3 : 0 ≤ ma) (t3 : ma ≤ 10) (b4 : 0 ≤ mb) (t4 : mb ≤ 10) (b5 : 0 ≤ md) (t5 : md ≤ 10) (b6 : 0 ≤ y) (t6 : y ≤ 360) (f0 : 0 ≤ (md - d - 1)) (k0 : ly_hv cst h 18688 0 = some (a)) (k1 : ly_hv cst h 18688 1 = some (b)) (k2 : ly_hv cst h 18688 2 = some (d)) (k3 : ly_hv cst h 18432 (121 * a + 11 * b + d + 1) = some (y)) (l0 : hp_a l 0 85) (l1 : hp_i l 1 4) (r0 : ∀ (h' : am_H) (y0 : Int32), y0.toInt = (y + 2) → ly_hy m_tt ly_TH h' → ly_fr cst [] h h' → h.length ≤ h'.length → Φ (some (.int y0), h', 0, 0)) : hp_F cst strs Φ D M 0 l [] h := by
  refine hq_arc c hM cb4_k hD [a, b, d, ma, mb, md, y] rfl hy (hp_Bc (z := a) rfl b0 t0 (hp_Bc (z := b) rfl b1 t1 (hp_Bc (z := d) rfl b2 t2 (hp_Bc (z := ma) rfl b3 t3 (hp_Bc (z := mb) rfl b4 t4 (hp_Bc (z := md) rfl b5 t5 (hp_Bc (z := y) rfl b6 t6 hp_Bn))))))) (hp_Fc (z := ((-1) + ((-1) * d + (1 * md + 0)))) rfl (by omega) hp_Fn) (hp_Kc (zi := (0 + 0)) (zv := (0 + (1 * a + 0))) k0 rfl rfl (by omega) (by omega) (hp_Kc (zi := (1 + 0)) (zv := (0 + (1 * b + 0))) k1 rfl rfl (by omega) (by omega) (hp_Kc (zi := (2 + 0)) (zv := (0 + (1 * d + 0))) k2 rfl rfl (by omega) (by omega) (hp_Kc (zi := (1 + (121 * a + (11 * b + (1 * d + 0))))) (zv := (0 + (1 * y + 0))) k3 rfl rfl (by omega) (by omega) hp_Kn)))) (hp_La l0 (hp_Li (z := (4 + 0)) l1 rfl (by omega) hp_Ln)) trivial ?_ ?_
  · intro p hp ys l' st' h' hys a1 a2 a3 gZ gL gS
    cases hp
  · intro p hp ys v h' hys a1 a2 a3 gZ gS
    rcases List.mem_cons.mp hp with rfl | hp
    · obtain rfl := hp_y0 hys
      cases v with
      | none => cases gS
      | some w =>
        obtain ⟨y0, t0, s0, q0, -⟩ := hp_gSi (z := (2 + (1 * y + 0))) gS rfl
        cases s0
        exact r0 h' y0 (by omega) a1 a2 a3
    cases hp
theorem bt_0_k : hp_chk 248 0 0 [] [] [(0, .inr (.inr (.inl (some 85))))] [] [] [] 2 [(6, ([], 0, [], [], [(0, .inr (.inr (.inl (some 85)))), (1, .inl (0, [])), (2, .inl (0, [])), (3, .inl (0, []))], [], []))] [] = true := by decide +kernel
theorem bt_0 {cst : am_K} {strs : List Nat} {Φ : am_Q → Prop} {D : Nat} {M : am_M} {h : am_H} {l : am_L} (c : hp_C cst strs D) (hM : m_P[248]? = some M) (hD : (2 : Int) ≤ (D : Int) + 1) (hy : ly_hy m_tt ly_TH h) (l0 : hp_a l 0 85) (e0 : ∀ (l' : am_L) (h' : am_H), ly_hy m_tt ly_TH h' → ly_fr cst [] h h' → h.length ≤ h'.length → hp_a l' 0 85 → hp_i l' 1 0 → hp_i l' 2 0 → hp_i l' 3 0 → hp_F cst strs Φ D M 6 l' [] h') : hp_F cst strs Φ D M 0 l [] h := by
  refine hp_arc c hM bt_0_k hD [] rfl hy hp_Bn hp_Fn hp_Kn (hp_La l0 hp_Ln) trivial ?_ ?_
  · intro p hp ys l' st' h' hys a1 a2 a3 gZ gL gS
    rcases List.mem_cons.mp hp with rfl | hp
    · obtain rfl := hp_y0 hys
      cases hp_gSn gS
      exact e0 l' h' a1 a2 a3 (hp_gLa gL (List.mem_of_getElem? (i := 0) rfl) (by decide)) (hp_gLi (z := (0 + 0)) gL (List.mem_of_getElem? (i := 1) rfl) rfl (by omega)) (hp_gLi (z := (0 + 0)) gL (List.mem_of_getElem? (i := 2) rfl) rfl (by omega)) (hp_gLi (z := (0 + 0)) gL (List.mem_of_getElem? (i := 3) rfl) rfl (by omega))
    cases hp
  · intro p hp ys v h' hys a1 a2 a3 gZ gS
    cases hp
theorem bt0n0_k : hp_chk 248 6 8 [(0, 0, 10), (1, 0, 10), (2, 0, 10), (3, 0, 10), (4, 0, 10), (5, 0, 10), (6, 0, 7), (7, 0, 400)] [(0, [(0, 1), (3, (-1))])] [(0, .inr (.inr (.inl (some 85)))), (1, .inl (0, [(6, 1)])), (2, .inl (0, [(7, 1)])), (3, .inl (0, []))] [] [(18688, (0, []), (0, [(0, 1)])), (18688, (1, []), (0, [(1, 1)])), (18688, (2, []), (0, [(2, 1)])), (17920, (0, []), (0, [(3, 1)])), (17920, (1, []), (0, [(4, 1)])), (17920, (2, []), (0, [(5, 1)]))] [] 5 [(6, ([], 8, [(0, 0, 10), (1, 0, 10), (2, 0, 10), (3, 0, 10), (4, 0, 10), (5, 0, 10), (6, 0, 7), (7, 0, 400)], [], [(0, .inr (.inr (.inl (some 85)))), (1, .inl (0, [(6, 1)])), (2, .inl (0, [(7, 1)])), (3, .inl (1, []))], [], []))] [] = true := by decide +kernel
theorem bt0n0 {cst : am_K} {strs : List Nat} {Φ : am_Q → Prop} {D : Nat} {M : am_M} {h : am_H} {l : am_L} (c : hp_C cst strs D) (hM : m_P[248]? = some M) (hD : (5 : Int) ≤ (D : Int) + 1) (hy : ly_hy m_tt ly_TH h) (a b d ma mb md t e : Int) (b0 : 0 ≤ a) (t0 : a ≤ 10) (b1 : 0 ≤ b) (t1 : b ≤ 10) (b2 : 0 ≤ d) (t2 : d ≤ 10) (b3 : 0 ≤ ma) (t3 : ma ≤ 10) (b4 : 0 ≤ mb) (t4 : mb ≤ 10) (b5 : 0 ≤ md) (t5 : md ≤ 10) (b6 : 0 ≤ t) (t6 : t ≤ 7) (b7 : 0 ≤ e) (t7 : e ≤ 400) (f0 : 0 ≤ (a - ma)) (k0 : ly_hv cst h 18688 0 = some (a)) (k1 : ly_hv cst h 18688 1 = some (b)) (k2 : ly_hv cst h 18688 2 = some (d)) (k3 : ly_hv cst h 17920 0 = some (ma)) (k4 : ly_hv cst h 17920 1 = some (mb)) (k5 : ly_hv cst h 17920 2 = some (md)) (l0 : hp_a l 0 85) (l1 : hp_i l 1 (t)) (l2 : hp_i l 2 (e)) (l3 : hp_i l 3 0) (e0 : ∀ (l' : am_L) (h' : am_H), ly_hy m_tt ly_TH h' → ly_fr cst [] h h' → h.length ≤ h'.length → hp_a l' 0 85 → hp_i l' 1 (t) → hp_i l' 2 (e) → hp_i l' 3 1 → hp_F cst strs Φ D M 6 l' [] h') : hp_F cst strs Φ D M 6 l [] h := by
  refine hp_arc c hM bt0n0_k hD [a, b, d, ma, mb, md, t, e] rfl hy (hp_Bc (z := a) rfl b0 t0 (hp_Bc (z := b) rfl b1 t1 (hp_Bc (z := d) rfl b2 t2 (hp_Bc (z := ma) rfl b3 t3 (hp_Bc (z := mb) rfl b4 t4 (hp_Bc (z := md) rfl b5 t5 (hp_Bc (z := t) rfl b6 t6 (hp_Bc (z := e) rfl b7 t7 hp_Bn)))))))) (hp_Fc (z := (0 + (1 * a + ((-1) * ma + 0)))) rfl (by omega) hp_Fn) (hp_Kc (zi := (0 + 0)) (zv := (0 + (1 * a + 0))) k0 rfl rfl (by omega) (by omega) (hp_Kc (zi := (1 + 0)) (zv := (0 + (1 * b + 0))) k1 rfl rfl (by omega) (by omega) (hp_Kc (zi := (2 + 0)) (zv := (0 + (1 * d + 0))) k2 rfl rfl (by omega) (by omega) (hp_Kc (zi := (0 + 0)) (zv := (0 + (1 * ma + 0))) k3 rfl rfl (by omega) (by omega) (hp_Kc (zi := (1 + 0)) (zv := (0 + (1 * mb + 0))) k4 rfl rfl (by omega) (by omega) (hp_Kc (zi := (2 + 0)) (zv := (0 + (1 * md + 0))) k5 rfl rfl (by omega) (by omega) hp_Kn)))))) (hp_La l0 (hp_Li (z := (0 + (1 * t + 0))) l1 rfl (by omega) (hp_Li (z := (0 + (1 * e + 0))) l2 rfl (by omega) (hp_Li (z := (0 + 0)) l3 rfl (by omega) hp_Ln)))) trivial ?_ ?_
  · intro p hp ys l' st' h' hys a1 a2 a3 gZ gL gS
    rcases List.mem_cons.mp hp with rfl | hp
    · obtain rfl := hp_y0 hys
      cases hp_gSn gS
      exact e0 l' h' a1 a2 a3 (hp_gLa gL (List.mem_of_getElem? (i := 0) rfl) (by decide)) (hp_gLi (z := (0 + (1 * t + 0))) gL (List.mem_of_getElem? (i := 1) rfl) rfl (by omega)) (hp_gLi (z := (0 + (1 * e + 0))) gL (List.mem_of_getElem? (i := 2) rfl) rfl (by omega)) (hp_gLi (z := (1 + 0)) gL (List.mem_of_getElem? (i := 3) rfl) rfl (by omega))
    cases hp
  · intro p hp ys v h' hys a1 a2 a3 gZ gS
    cases hp
theorem bt0n1_k : hp_chk 248 6 8 [(0, 0, 10), (1, 0, 10), (2, 0, 10), (3, 0, 10), (4, 0, 10), (5, 0, 10), (6, 0, 7), (7, 0, 400)] [((-1), [(0, (-1)), (3, 1)]), (0, [(1, 1), (4, (-1))])] [(0, .inr (.inr (.inl (some 85)))), (1, .inl (0, [(6, 1)])), (2, .inl (0, [(7, 1)])), (3, .inl (0, []))] [] [(18688, (0, []), (0, [(0, 1)])), (18688, (1, []), (0, [(1, 1)])), (18688, (2, []), (0, [(2, 1)])), (17920, (0, []), (0, [(3, 1)])), (17920, (1, []), (0, [(4, 1)])), (17920, (2, []), (0, [(5, 1)]))] [] 5 [(6, ([], 8, [(0, 0, 10), (1, 0, 10), (2, 0, 10), (3, 0, 10), (4, 0, 10), (5, 0, 10), (6, 0, 7), (7, 0, 400)], [], [(0, .inr (.inr (.inl (some 85)))), (1, .inl (0, [(6, 1)])), (2, .inl (0, [(7, 1)])), (3, .inl (1, []))], [], []))] [] = true := by decide +kernel
theorem bt0n1 {cst : am_K} {strs : List Nat} {Φ : am_Q → Prop} {D : Nat} {M : am_M} {h : am_H} {l : am_L} (c : hp_C cst strs D) (hM : m_P[248]? = some M) (hD : (5 : Int) ≤ (D : Int) + 1) (hy : ly_hy m_tt ly_TH h) (a b d ma mb md t e : Int) (b0 : 0 ≤ a) (t0 : a ≤ 10) (b1 : 0 ≤ b) (t1 : b ≤ 10) (b2 : 0 ≤ d) (t2 : d ≤ 10) (b3 : 0 ≤ ma) (t3 : ma ≤ 10) (b4 : 0 ≤ mb) (t4 : mb ≤ 10) (b5 : 0 ≤ md) (t5 : md ≤ 10) (b6 : 0 ≤ t) (t6 : t ≤ 7) (b7 : 0 ≤ e) (t7 : e ≤ 400) (f0 : 0 ≤ (ma - a - 1)) (f1 : 0 ≤ (b - mb)) (k0 : ly_hv cst h 18688 0 = some (a)) (k1 : ly_hv cst h 18688 1 = some (b)) (k2 : ly_hv cst h 18688 2 = some (d)) (k3 : ly_hv cst h 17920 0 = some (ma)) (k4 : ly_hv cst h 17920 1 = some (mb)) (k5 : ly_hv cst h 17920 2 = some (md)) (l0 : hp_a l 0 85) (l1 : hp_i l 1 (t)) (l2 : hp_i l 2 (e)) (l3 : hp_i l 3 0) (e0 : ∀ (l' : am_L) (h' : am_H), ly_hy m_tt ly_TH h' → ly_fr cst [] h h' → h.length ≤ h'.length → hp_a l' 0 85 → hp_i l' 1 (t) → hp_i l' 2 (e) → hp_i l' 3 1 → hp_F cst strs Φ D M 6 l' [] h') : hp_F cst strs Φ D M 6 l [] h := by
  refine hp_arc c hM bt0n1_k hD [a, b, d, ma, mb, md, t, e] rfl hy (hp_Bc (z := a) rfl b0 t0 (hp_Bc (z := b) rfl b1 t1 (hp_Bc (z := d) rfl b2 t2 (hp_Bc (z := ma) rfl b3 t3 (hp_Bc (z := mb) rfl b4 t4 (hp_Bc (z := md) rfl b5 t5 (hp_Bc (z := t) rfl b6 t6 (hp_Bc (z := e) rfl b7 t7 hp_Bn)))))))) (hp_Fc (z := ((-1) + ((-1) * a + (1 * ma + 0)))) rfl (by omega) (hp_Fc (z := (0 + (1 * b + ((-1) * mb + 0)))) rfl (by omega) hp_Fn)) (hp_Kc (zi := (0 + 0)) (zv := (0 + (1 * a + 0))) k0 rfl rfl (by omega) (by omega) (hp_Kc (zi := (1 + 0)) (zv := (0 + (1 * b + 0))) k1 rfl rfl (by omega) (by omega) (hp_Kc (zi := (2 + 0)) (zv := (0 + (1 * d + 0))) k2 rfl rfl (by omega) (by omega) (hp_Kc (zi := (0 + 0)) (zv := (0 + (1 * ma + 0))) k3 rfl rfl (by omega) (by omega) (hp_Kc (zi := (1 + 0)) (zv := (0 + (1 * mb + 0))) k4 rfl rfl (by omega) (by omega) (hp_Kc (zi := (2 + 0)) (zv := (0 + (1 * md + 0))) k5 rfl rfl (by omega) (by omega) hp_Kn)))))) (hp_La l0 (hp_Li (z := (0 + (1 * t + 0))) l1 rfl (by omega) (hp_Li (z := (0 + (1 * e + 0))) l2 rfl (by omega) (hp_Li (z := (0 + 0)) l3 rfl (by omega) hp_Ln)))) trivial ?_ ?_
  · intro p hp ys l' st' h' hys a1 a2 a3 gZ gL gS
    rcases List.mem_cons.mp hp with rfl | hp
    · obtain rfl := hp_y0 hys
      cases hp_gSn gS
      exact e0 l' h' a1 a2 a3 (hp_gLa gL (List.mem_of_getElem? (i := 0) rfl) (by decide)) (hp_gLi (z := (0 + (1 * t + 0))) gL (List.mem_of_getElem? (i := 1) rfl) rfl (by omega)) (hp_gLi (z := (0 + (1 * e + 0))) gL (List.mem_of_getElem? (i := 2) rfl) rfl (by omega)) (hp_gLi (z := (1 + 0)) gL (List.mem_of_getElem? (i := 3) rfl) rfl (by omega))
    cases hp
  · intro p hp ys v h' hys a1 a2 a3 gZ gS
    cases hp
theorem bt0n2_k : hp_chk 248 6 8 [(0, 0, 10), (1, 0, 10), (2, 0, 10), (3, 0, 10), (4, 0, 10), (5, 0, 10), (6, 0, 7), (7, 0, 400)] [((-1), [(0, (-1)), (3, 1)]), ((-1), [(1, (-1)), (4, 1)]), (0, [(2, 1), (5, (-1))])] [(0, .inr (.inr (.inl (some 85)))), (1, .inl (0, [(6, 1)])), (2, .inl (0, [(7, 1)])), (3, .inl (0, []))] [] [(18688, (0, []), (0, [(0, 1)])), (18688, (1, []), (0, [(1, 1)])), (18688, (2, []), (0, [(2, 1)])), (17920, (0, []), (0, [(3, 1)])), (17920, (1, []), (0, [(4, 1)])), (17920, (2, []), (0, [(5, 1)]))] [] 5 [(6, ([], 8, [(0, 0, 10), (1, 0, 10), (2, 0, 10), (3, 0, 10), (4, 0, 10), (5, 0, 10), (6, 0, 7), (7, 0, 400)], [], [(0, .inr (.inr (.inl (some 85)))), (1, .inl (0, [(6, 1)])), (2, .inl (0, [(7, 1)])), (3, .inl (1, []))], [], []))] [] = true := by decide +kernel
theorem bt0n2 {cst : am_K} {strs : List Nat} {Φ : am_Q → Prop} {D : Nat} {M : am_M} {h : am_H} {l : am_L} (c : hp_C cst strs D) (hM : m_P[248]? = some M) (hD : (5 : Int) ≤ (D : Int) + 1) (hy : ly_hy m_tt ly_TH h) (a b d ma mb md t e : Int) (b0 : 0 ≤ a) (t0 : a ≤ 10) (b1 : 0 ≤ b) (t1 : b ≤ 10) (b2 : 0 ≤ d) (t2 : d ≤ 10) (b3 : 0 ≤ ma) (t3 : ma ≤ 10) (b4 : 0 ≤ mb) (t4 : mb ≤ 10) (b5 : 0 ≤ md) (t5 : md ≤ 10) (b6 : 0 ≤ t) (t6 : t ≤ 7) (b7 : 0 ≤ e) (t7 : e ≤ 400) (f0 : 0 ≤ (ma - a - 1)) (f1 : 0 ≤ (mb - b - 1)) (f2 : 0 ≤ (d - md)) (k0 : ly_hv cst h 18688 0 = some (a)) (k1 : ly_hv cst h 18688 1 = some (b)) (k2 : ly_hv cst h 18688 2 = some (d)) (k3 : ly_hv cst h 17920 0 = some (ma)) (k4 : ly_hv cst h 17920 1 = some (mb)) (k5 : ly_hv cst h 17920 2 = some (md)) (l0 : hp_a l 0 85) (l1 : hp_i l 1 (t)) (l2 : hp_i l 2 (e)) (l3 : hp_i l 3 0) (e0 : ∀ (l' : am_L) (h' : am_H), ly_hy m_tt ly_TH h' → ly_fr cst [] h h' → h.length ≤ h'.length → hp_a l' 0 85 → hp_i l' 1 (t) → hp_i l' 2 (e) → hp_i l' 3 1 → hp_F cst strs Φ D M 6 l' [] h') : hp_F cst strs Φ D M 6 l [] h := by
  refine hp_arc c hM bt0n2_k hD [a, b, d, ma, mb, md, t, e] rfl hy (hp_Bc (z := a) rfl b0 t0 (hp_Bc (z := b) rfl b1 t1 (hp_Bc (z := d) rfl b2 t2 (hp_Bc (z := ma) rfl b3 t3 (hp_Bc (z := mb) rfl b4 t4 (hp_Bc (z := md) rfl b5 t5 (hp_Bc (z := t) rfl b6 t6 (hp_Bc (z := e) rfl b7 t7 hp_Bn)))))))) (hp_Fc (z := ((-1) + ((-1) * a + (1 * ma + 0)))) rfl (by omega) (hp_Fc (z := ((-1) + ((-1) * b + (1 * mb + 0)))) rfl (by omega) (hp_Fc (z := (0 + (1 * d + ((-1) * md + 0)))) rfl (by omega) hp_Fn))) (hp_Kc (zi := (0 + 0)) (zv := (0 + (1 * a + 0))) k0 rfl rfl (by omega) (by omega) (hp_Kc (zi := (1 + 0)) (zv := (0 + (1 * b + 0))) k1 rfl rfl (by omega) (by omega) (hp_Kc (zi := (2 + 0)) (zv := (0 + (1 * d + 0))) k2 rfl rfl (by omega) (by omega) (hp_Kc (zi := (0 + 0)) (zv := (0 + (1 * ma + 0))) k3 rfl rfl (by omega) (by omega) (hp_Kc (zi := (1 + 0)) (zv := (0 + (1 * mb + 0))) k4 rfl rfl (by omega) (by omega) (hp_Kc (zi := (2 + 0)) (zv := (0 + (1 * md + 0))) k5 rfl rfl (by omega) (by omega) hp_Kn)))))) (hp_La l0 (hp_Li (z := (0 + (1 * t + 0))) l1 rfl (by omega) (hp_Li (z := (0 + (1 * e + 0))) l2 rfl (by omega) (hp_Li (z := (0 + 0)) l3 rfl (by omega) hp_Ln)))) trivial ?_ ?_
  · intro p hp ys l' st' h' hys a1 a2 a3 gZ gL gS
    rcases List.mem_cons.mp hp with rfl | hp
    · obtain rfl := hp_y0 hys
      cases hp_gSn gS
      exact e0 l' h' a1 a2 a3 (hp_gLa gL (List.mem_of_getElem? (i := 0) rfl) (by decide)) (hp_gLi (z := (0 + (1 * t + 0))) gL (List.mem_of_getElem? (i := 1) rfl) rfl (by omega)) (hp_gLi (z := (0 + (1 * e + 0))) gL (List.mem_of_getElem? (i := 2) rfl) rfl (by omega)) (hp_gLi (z := (1 + 0)) gL (List.mem_of_getElem? (i := 3) rfl) rfl (by omega))
    cases hp
  · intro p hp ys v h' hys a1 a2 a3 gZ gS
    cases hp
theorem bt0v_k : hp_chk 248 6 8 [(0, 0, 10), (1, 0, 10), (2, 0, 10), (3, 0, 10), (4, 0, 10), (5, 0, 10), (6, 0, 7), (7, 0, 400)] [((-1), [(0, (-1)), (3, 1)]), ((-1), [(1, (-1)), (4, 1)]), ((-1), [(2, (-1)), (5, 1)])] [(0, .inr (.inr (.inl (some 85)))), (1, .inl (0, [(6, 1)])), (2, .inl (0, [(7, 1)])), (3, .inl (0, []))] [] [(18688, (0, []), (0, [(0, 1)])), (18688, (1, []), (0, [(1, 1)])), (18688, (2, []), (0, [(2, 1)])), (17920, (0, []), (0, [(3, 1)])), (17920, (1, []), (0, [(4, 1)])), (17920, (2, []), (0, [(5, 1)]))] [] 5 [(32, ([], 8, [(0, 0, 10), (1, 0, 10), (2, 0, 10), (3, 0, 10), (4, 0, 10), (5, 0, 10), (6, 0, 7), (7, 0, 400)], [], [(0, .inr (.inr (.inl (some 85)))), (1, .inl (0, [(6, 1)])), (2, .inl (0, [(7, 1)])), (3, .inl (0, []))], [.inl (7, []), .inr (.inr (.inl (some 85)))], []))] [] = true := by decide +kernel
theorem bt0v {cst : am_K} {strs : List Nat} {Φ : am_Q → Prop} {D : Nat} {M : am_M} {h : am_H} {l : am_L} (c : hp_C cst strs D) (hM : m_P[248]? = some M) (hD : (5 : Int) ≤ (D : Int) + 1) (hy : ly_hy m_tt ly_TH h) (a b d ma mb md t e : Int) (b0 : 0 ≤ a) (t0 : a ≤ 10) (b1 : 0 ≤ b) (t1 : b ≤ 10) (b2 : 0 ≤ d) (t2 : d ≤ 10) (b3 : 0 ≤ ma) (t3 : ma ≤ 10) (b4 : 0 ≤ mb) (t4 : mb ≤ 10) (b5 : 0 ≤ md) (t5 : md ≤ 10) (b6 : 0 ≤ t) (t6 : t ≤ 7) (b7 : 0 ≤ e) (t7 : e ≤ 400) (f0 : 0 ≤ (ma - a - 1)) (f1 : 0 ≤ (mb - b - 1)) (f2 : 0 ≤ (md - d - 1)) (k0 : ly_hv cst h 18688 0 = some (a)) (k1 : ly_hv cst h 18688 1 = some (b)) (k2 : ly_hv cst h 18688 2 = some (d)) (k3 : ly_hv cst h 17920 0 = some (ma)) (k4 : ly_hv cst h 17920 1 = some (mb)) (k5 : ly_hv cst h 17920 2 = some (md)) (l0 : hp_a l 0 85) (l1 : hp_i l 1 (t)) (l2 : hp_i l 2 (e)) (l3 : hp_i l 3 0) (e0 : ∀ (l' : am_L) (h' : am_H) (y0 : Int32), y0.toInt = 7 → ly_hy m_tt ly_TH h' → ly_fr cst [] h h' → h.length ≤ h'.length → hp_a l' 0 85 → hp_i l' 1 (t) → hp_i l' 2 (e) → hp_i l' 3 0 → hp_F cst strs Φ D M 32 l' [.int y0, .ref 85] h') : hp_F cst strs Φ D M 6 l [] h := by
  refine hp_arc c hM bt0v_k hD [a, b, d, ma, mb, md, t, e] rfl hy (hp_Bc (z := a) rfl b0 t0 (hp_Bc (z := b) rfl b1 t1 (hp_Bc (z := d) rfl b2 t2 (hp_Bc (z := ma) rfl b3 t3 (hp_Bc (z := mb) rfl b4 t4 (hp_Bc (z := md) rfl b5 t5 (hp_Bc (z := t) rfl b6 t6 (hp_Bc (z := e) rfl b7 t7 hp_Bn)))))))) (hp_Fc (z := ((-1) + ((-1) * a + (1 * ma + 0)))) rfl (by omega) (hp_Fc (z := ((-1) + ((-1) * b + (1 * mb + 0)))) rfl (by omega) (hp_Fc (z := ((-1) + ((-1) * d + (1 * md + 0)))) rfl (by omega) hp_Fn))) (hp_Kc (zi := (0 + 0)) (zv := (0 + (1 * a + 0))) k0 rfl rfl (by omega) (by omega) (hp_Kc (zi := (1 + 0)) (zv := (0 + (1 * b + 0))) k1 rfl rfl (by omega) (by omega) (hp_Kc (zi := (2 + 0)) (zv := (0 + (1 * d + 0))) k2 rfl rfl (by omega) (by omega) (hp_Kc (zi := (0 + 0)) (zv := (0 + (1 * ma + 0))) k3 rfl rfl (by omega) (by omega) (hp_Kc (zi := (1 + 0)) (zv := (0 + (1 * mb + 0))) k4 rfl rfl (by omega) (by omega) (hp_Kc (zi := (2 + 0)) (zv := (0 + (1 * md + 0))) k5 rfl rfl (by omega) (by omega) hp_Kn)))))) (hp_La l0 (hp_Li (z := (0 + (1 * t + 0))) l1 rfl (by omega) (hp_Li (z := (0 + (1 * e + 0))) l2 rfl (by omega) (hp_Li (z := (0 + 0)) l3 rfl (by omega) hp_Ln)))) trivial ?_ ?_
  · intro p hp ys l' st' h' hys a1 a2 a3 gZ gL gS
    rcases List.mem_cons.mp hp with rfl | hp
    · obtain rfl := hp_y0 hys
      obtain ⟨y0, t0, rfl, q0, g0⟩ := hp_gSi (z := (7 + 0)) gS rfl
      obtain ⟨t1, rfl, g1⟩ := hp_gSa g0 (by decide)
      cases hp_gSn g1
      exact e0 l' h' y0 (by omega) a1 a2 a3 (hp_gLa gL (List.mem_of_getElem? (i := 0) rfl) (by decide)) (hp_gLi (z := (0 + (1 * t + 0))) gL (List.mem_of_getElem? (i := 1) rfl) rfl (by omega)) (hp_gLi (z := (0 + (1 * e + 0))) gL (List.mem_of_getElem? (i := 2) rfl) rfl (by omega)) (hp_gLi (z := (0 + 0)) gL (List.mem_of_getElem? (i := 3) rfl) rfl (by omega))
    cases hp
  · intro p hp ys v h' hys a1 a2 a3 gZ gS
    cases hp
theorem bt0a_k : hp_chk 248 35 1 [(0, 0, 400)] [] [(0, .inr (.inr (.inl (some 85)))), (1, .inl (0, [])), (2, .inl (0, [])), (3, .inl (0, []))] [.inl (0, [(0, 1)])] [] [] 5 [(6, ([], 1, [(0, 0, 400)], [], [(0, .inr (.inr (.inl (some 85)))), (1, .inl (7, [])), (2, .inl (0, [(0, 1)])), (3, .inl (1, []))], [], []))] [] = true := by decide +kernel
theorem bt0a {cst : am_K} {strs : List Nat} {Φ : am_Q → Prop} {D : Nat} {M : am_M} {h : am_H} {l : am_L} (c : hp_C cst strs D) (hM : m_P[248]? = some M) (hD : (5 : Int) ≤ (D : Int) + 1) (hy : ly_hy m_tt ly_TH h) (k : Int) (x0 : Int32) (hx0 : x0.toInt = (k)) (b0 : 0 ≤ k) (t0 : k ≤ 400) (l0 : hp_a l 0 85) (l1 : hp_i l 1 0) (l2 : hp_i l 2 0) (l3 : hp_i l 3 0) (e0 : ∀ (l' : am_L) (h' : am_H), ly_hy m_tt ly_TH h' → ly_fr cst [] h h' → h.length ≤ h'.length → hp_a l' 0 85 → hp_i l' 1 7 → hp_i l' 2 (k) → hp_i l' 3 1 → hp_F cst strs Φ D M 6 l' [] h') : hp_F cst strs Φ D M 35 l [.int x0] h := by
  refine hp_arc c hM bt0a_k hD [k] rfl hy (hp_Bc (z := k) rfl b0 t0 hp_Bn) hp_Fn hp_Kn (hp_La l0 (hp_Li (z := (0 + 0)) l1 rfl (by omega) (hp_Li (z := (0 + 0)) l2 rfl (by omega) (hp_Li (z := (0 + 0)) l3 rfl (by omega) hp_Ln)))) (hp_Si (z := (0 + (1 * k + 0))) rfl (by omega) trivial) ?_ ?_
  · intro p hp ys l' st' h' hys a1 a2 a3 gZ gL gS
    rcases List.mem_cons.mp hp with rfl | hp
    · obtain rfl := hp_y0 hys
      cases hp_gSn gS
      exact e0 l' h' a1 a2 a3 (hp_gLa gL (List.mem_of_getElem? (i := 0) rfl) (by decide)) (hp_gLi (z := (7 + 0)) gL (List.mem_of_getElem? (i := 1) rfl) rfl (by omega)) (hp_gLi (z := (0 + (1 * k + 0))) gL (List.mem_of_getElem? (i := 2) rfl) rfl (by omega)) (hp_gLi (z := (1 + 0)) gL (List.mem_of_getElem? (i := 3) rfl) rfl (by omega))
    cases hp
  · intro p hp ys v h' hys a1 a2 a3 gZ gS
    cases hp
theorem bt0b_k : hp_chk 248 35 3 [(0, 1, 7), (1, 0, 400), (2, 0, 400)] [((-1), [(1, 1), (2, (-1))])] [(0, .inr (.inr (.inl (some 85)))), (1, .inl (0, [(0, 1)])), (2, .inl (0, [(1, 1)])), (3, .inl (0, []))] [.inl (0, [(2, 1)])] [] [] 5 [(6, ([], 3, [(0, 1, 7), (1, 0, 400), (2, 0, 400)], [], [(0, .inr (.inr (.inl (some 85)))), (1, .inl (7, [])), (2, .inl (0, [(2, 1)])), (3, .inl (1, []))], [], []))] [] = true := by decide +kernel
theorem bt0b {cst : am_K} {strs : List Nat} {Φ : am_Q → Prop} {D : Nat} {M : am_M} {h : am_H} {l : am_L} (c : hp_C cst strs D) (hM : m_P[248]? = some M) (hD : (5 : Int) ≤ (D : Int) + 1) (hy : ly_hy m_tt ly_TH h) (t e k : Int) (x0 : Int32) (hx0 : x0.toInt = (k)) (b0 : 1 ≤ t) (t0 : t ≤ 7) (b1 : 0 ≤ e) (t1 : e ≤ 400) (b2 : 0 ≤ k) (t2 : k ≤ 400) (f0 : 0 ≤ (e - k - 1)) (l0 : hp_a l 0 85) (l1 : hp_i l 1 (t)) (l2 : hp_i l 2 (e)) (l3 : hp_i l 3 0) (e0 : ∀ (l' : am_L) (h' : am_H), ly_hy m_tt ly_TH h' → ly_fr cst [] h h' → h.length ≤ h'.length → hp_a l' 0 85 → hp_i l' 1 7 → hp_i l' 2 (k) → hp_i l' 3 1 → hp_F cst strs Φ D M 6 l' [] h') : hp_F cst strs Φ D M 35 l [.int x0] h := by
  refine hp_arc c hM bt0b_k hD [t, e, k] rfl hy (hp_Bc (z := t) rfl b0 t0 (hp_Bc (z := e) rfl b1 t1 (hp_Bc (z := k) rfl b2 t2 hp_Bn))) (hp_Fc (z := ((-1) + (1 * e + ((-1) * k + 0)))) rfl (by omega) hp_Fn) hp_Kn (hp_La l0 (hp_Li (z := (0 + (1 * t + 0))) l1 rfl (by omega) (hp_Li (z := (0 + (1 * e + 0))) l2 rfl (by omega) (hp_Li (z := (0 + 0)) l3 rfl (by omega) hp_Ln)))) (hp_Si (z := (0 + (1 * k + 0))) rfl (by omega) trivial) ?_ ?_
  · intro p hp ys l' st' h' hys a1 a2 a3 gZ gL gS
    rcases List.mem_cons.mp hp with rfl | hp
    · obtain rfl := hp_y0 hys
      cases hp_gSn gS
      exact e0 l' h' a1 a2 a3 (hp_gLa gL (List.mem_of_getElem? (i := 0) rfl) (by decide)) (hp_gLi (z := (7 + 0)) gL (List.mem_of_getElem? (i := 1) rfl) rfl (by omega)) (hp_gLi (z := (0 + (1 * k + 0))) gL (List.mem_of_getElem? (i := 2) rfl) rfl (by omega)) (hp_gLi (z := (1 + 0)) gL (List.mem_of_getElem? (i := 3) rfl) rfl (by omega))
    cases hp
  · intro p hp ys v h' hys a1 a2 a3 gZ gS
    cases hp
theorem bt0c_k : hp_chk 248 35 3 [(0, 1, 7), (1, 0, 400), (2, 0, 400)] [(0, [(1, (-1)), (2, 1)])] [(0, .inr (.inr (.inl (some 85)))), (1, .inl (0, [(0, 1)])), (2, .inl (0, [(1, 1)])), (3, .inl (0, []))] [.inl (0, [(2, 1)])] [] [] 5 [(6, ([], 3, [(0, 1, 7), (1, 0, 400), (2, 0, 400)], [], [(0, .inr (.inr (.inl (some 85)))), (1, .inl (0, [(0, 1)])), (2, .inl (0, [(1, 1)])), (3, .inl (1, []))], [], []))] [] = true := by decide +kernel
theorem bt0c {cst : am_K} {strs : List Nat} {Φ : am_Q → Prop} {D : Nat} {M : am_M} {h : am_H} {l : am_L} (c : hp_C cst strs D) (hM : m_P[248]? = some M) (hD : (5 : Int) ≤ (D : Int) + 1) (hy : ly_hy m_tt ly_TH h) (t e k : Int) (x0 : Int32) (hx0 : x0.toInt = (k)) (b0 : 1 ≤ t) (t0 : t ≤ 7) (b1 : 0 ≤ e) (t1 : e ≤ 400) (b2 : 0 ≤ k) (t2 : k ≤ 400) (f0 : 0 ≤ (k - e)) (l0 : hp_a l 0 85) (l1 : hp_i l 1 (t)) (l2 : hp_i l 2 (e)) (l3 : hp_i l 3 0) (e0 : ∀ (l' : am_L) (h' : am_H), ly_hy m_tt ly_TH h' → ly_fr cst [] h h' → h.length ≤ h'.length → hp_a l' 0 85 → hp_i l' 1 (t) → hp_i l' 2 (e) → hp_i l' 3 1 → hp_F cst strs Φ D M 6 l' [] h') : hp_F cst strs Φ D M 35 l [.int x0] h := by
  refine hp_arc c hM bt0c_k hD [t, e, k] rfl hy (hp_Bc (z := t) rfl b0 t0 (hp_Bc (z := e) rfl b1 t1 (hp_Bc (z := k) rfl b2 t2 hp_Bn))) (hp_Fc (z := (0 + ((-1) * e + (1 * k + 0)))) rfl (by omega) hp_Fn) hp_Kn (hp_La l0 (hp_Li (z := (0 + (1 * t + 0))) l1 rfl (by omega) (hp_Li (z := (0 + (1 * e + 0))) l2 rfl (by omega) (hp_Li (z := (0 + 0)) l3 rfl (by omega) hp_Ln)))) (hp_Si (z := (0 + (1 * k + 0))) rfl (by omega) trivial) ?_ ?_
  · intro p hp ys l' st' h' hys a1 a2 a3 gZ gL gS
    rcases List.mem_cons.mp hp with rfl | hp
    · obtain rfl := hp_y0 hys
      cases hp_gSn gS
      exact e0 l' h' a1 a2 a3 (hp_gLa gL (List.mem_of_getElem? (i := 0) rfl) (by decide)) (hp_gLi (z := (0 + (1 * t + 0))) gL (List.mem_of_getElem? (i := 1) rfl) rfl (by omega)) (hp_gLi (z := (0 + (1 * e + 0))) gL (List.mem_of_getElem? (i := 2) rfl) rfl (by omega)) (hp_gLi (z := (1 + 0)) gL (List.mem_of_getElem? (i := 3) rfl) rfl (by omega))
    cases hp
  · intro p hp ys v h' hys a1 a2 a3 gZ gS
    cases hp
theorem bt1n0_k : hp_chk 248 6 8 [(0, 0, 10), (1, 0, 10), (2, 0, 10), (3, 0, 10), (4, 0, 10), (5, 0, 10), (6, 0, 7), (7, 0, 400)] [(0, [(0, 1), (3, (-1))])] [(0, .inr (.inr (.inl (some 85)))), (1, .inl (0, [(6, 1)])), (2, .inl (0, [(7, 1)])), (3, .inl (1, []))] [] [(18688, (0, []), (0, [(0, 1)])), (18688, (1, []), (0, [(1, 1)])), (18688, (2, []), (0, [(2, 1)])), (17920, (0, []), (0, [(3, 1)])), (17920, (1, []), (0, [(4, 1)])), (17920, (2, []), (0, [(5, 1)]))] [] 5 [(6, ([], 8, [(0, 0, 10), (1, 0, 10), (2, 0, 10), (3, 0, 10), (4, 0, 10), (5, 0, 10), (6, 0, 7), (7, 0, 400)], [], [(0, .inr (.inr (.inl (some 85)))), (1, .inl (0, [(6, 1)])), (2, .inl (0, [(7, 1)])), (3, .inl (2, []))], [], []))] [] = true := by decide +kernel
theorem bt1n0 {cst : am_K} {strs : List Nat} {Φ : am_Q → Prop} {D : Nat} {M : am_M} {h : am_H} {l : am_L} (c : hp_C cst strs D) (hM : m_P[248]? = some M) (hD : (5 : Int) ≤ (D : Int) + 1) (hy : ly_hy m_tt ly_TH h) (a b d ma mb md t e : Int) (b0 : 0 ≤ a) (t0 : a ≤ 10) (b1 : 0 ≤ b) (t1 : b ≤ 10) (b2 : 0 ≤ d) (t2 : d ≤ 10) (b3 : 0 ≤ ma) (t3 : ma ≤ 10) (b4 : 0 ≤ mb) (t4 : mb ≤ 10) (b5 : 0 ≤ md) (t5 : md ≤ 10) (b6 : 0 ≤ t) (t6 : t ≤ 7) (b7 : 0 ≤ e) (t7 : e ≤ 400) (f0 : 0 ≤ (a - ma)) (k0 : ly_hv cst h 18688 0 = some (a)) (k1 : ly_hv cst h 18688 1 = some (b)) (k2 : ly_hv cst h 18688 2 = some (d)) (k3 : ly_hv cst h 17920 0 = some (ma)) (k4 : ly_hv cst h 17920 1 = some (mb)) (k5 : ly_hv cst h 17920 2 = some (md)) (l0 : hp_a l 0 85) (l1 : hp_i l 1 (t)) (l2 : hp_i l 2 (e)) (l3 : hp_i l 3 1) (e0 : ∀ (l' : am_L) (h' : am_H), ly_hy m_tt ly_TH h' → ly_fr cst [] h h' → h.length ≤ h'.length → hp_a l' 0 85 → hp_i l' 1 (t) → hp_i l' 2 (e) → hp_i l' 3 2 → hp_F cst strs Φ D M 6 l' [] h') : hp_F cst strs Φ D M 6 l [] h := by
  refine hp_arc c hM bt1n0_k hD [a, b, d, ma, mb, md, t, e] rfl hy (hp_Bc (z := a) rfl b0 t0 (hp_Bc (z := b) rfl b1 t1 (hp_Bc (z := d) rfl b2 t2 (hp_Bc (z := ma) rfl b3 t3 (hp_Bc (z := mb) rfl b4 t4 (hp_Bc (z := md) rfl b5 t5 (hp_Bc (z := t) rfl b6 t6 (hp_Bc (z := e) rfl b7 t7 hp_Bn)))))))) (hp_Fc (z := (0 + (1 * a + ((-1) * ma + 0)))) rfl (by omega) hp_Fn) (hp_Kc (zi := (0 + 0)) (zv := (0 + (1 * a + 0))) k0 rfl rfl (by omega) (by omega) (hp_Kc (zi := (1 + 0)) (zv := (0 + (1 * b + 0))) k1 rfl rfl (by omega) (by omega) (hp_Kc (zi := (2 + 0)) (zv := (0 + (1 * d + 0))) k2 rfl rfl (by omega) (by omega) (hp_Kc (zi := (0 + 0)) (zv := (0 + (1 * ma + 0))) k3 rfl rfl (by omega) (by omega) (hp_Kc (zi := (1 + 0)) (zv := (0 + (1 * mb + 0))) k4 rfl rfl (by omega) (by omega) (hp_Kc (zi := (2 + 0)) (zv := (0 + (1 * md + 0))) k5 rfl rfl (by omega) (by omega) hp_Kn)))))) (hp_La l0 (hp_Li (z := (0 + (1 * t + 0))) l1 rfl (by omega) (hp_Li (z := (0 + (1 * e + 0))) l2 rfl (by omega) (hp_Li (z := (1 + 0)) l3 rfl (by omega) hp_Ln)))) trivial ?_ ?_
  · intro p hp ys l' st' h' hys a1 a2 a3 gZ gL gS
    rcases List.mem_cons.mp hp with rfl | hp
    · obtain rfl := hp_y0 hys
      cases hp_gSn gS
      exact e0 l' h' a1 a2 a3 (hp_gLa gL (List.mem_of_getElem? (i := 0) rfl) (by decide)) (hp_gLi (z := (0 + (1 * t + 0))) gL (List.mem_of_getElem? (i := 1) rfl) rfl (by omega)) (hp_gLi (z := (0 + (1 * e + 0))) gL (List.mem_of_getElem? (i := 2) rfl) rfl (by omega)) (hp_gLi (z := (2 + 0)) gL (List.mem_of_getElem? (i := 3) rfl) rfl (by omega))
    cases hp
  · intro p hp ys v h' hys a1 a2 a3 gZ gS
    cases hp
theorem bt1n1_k : hp_chk 248 6 8 [(0, 0, 10), (1, 0, 10), (2, 0, 10), (3, 0, 10), (4, 0, 10), (5, 0, 10), (6, 0, 7), (7, 0, 400)] [((-1), [(0, (-1)), (3, 1)]), (0, [(1, 1), (4, (-1))])] [(0, .inr (.inr (.inl (some 85)))), (1, .inl (0, [(6, 1)])), (2, .inl (0, [(7, 1)])), (3, .inl (1, []))] [] [(18688, (0, []), (0, [(0, 1)])), (18688, (1, []), (0, [(1, 1)])), (18688, (2, []), (0, [(2, 1)])), (17920, (0, []), (0, [(3, 1)])), (17920, (1, []), (0, [(4, 1)])), (17920, (2, []), (0, [(5, 1)]))] [] 5 [(6, ([], 8, [(0, 0, 10), (1, 0, 10), (2, 0, 10), (3, 0, 10), (4, 0, 10), (5, 0, 10), (6, 0, 7), (7, 0, 400)], [], [(0, .inr (.inr (.inl (some 85)))), (1, .inl (0, [(6, 1)])), (2, .inl (0, [(7, 1)])), (3, .inl (2, []))], [], []))] [] = true := by decide +kernel
theorem bt1n1 {cst : am_K} {strs : List Nat} {Φ : am_Q → Prop} {D : Nat} {M : am_M} {h : am_H} {l : am_L} (c : hp_C cst strs D) (hM : m_P[248]? = some M) (hD : (5 : Int) ≤ (D : Int) + 1) (hy : ly_hy m_tt ly_TH h) (a b d ma mb md t e : Int) (b0 : 0 ≤ a) (t0 : a ≤ 10) (b1 : 0 ≤ b) (t1 : b ≤ 10) (b2 : 0 ≤ d) (t2 : d ≤ 10) (b3 : 0 ≤ ma) (t3 : ma ≤ 10) (b4 : 0 ≤ mb) (t4 : mb ≤ 10) (b5 : 0 ≤ md) (t5 : md ≤ 10) (b6 : 0 ≤ t) (t6 : t ≤ 7) (b7 : 0 ≤ e) (t7 : e ≤ 400) (f0 : 0 ≤ (ma - a - 1)) (f1 : 0 ≤ (b - mb)) (k0 : ly_hv cst h 18688 0 = some (a)) (k1 : ly_hv cst h 18688 1 = some (b)) (k2 : ly_hv cst h 18688 2 = some (d)) (k3 : ly_hv cst h 17920 0 = some (ma)) (k4 : ly_hv cst h 17920 1 = some (mb)) (k5 : ly_hv cst h 17920 2 = some (md)) (l0 : hp_a l 0 85) (l1 : hp_i l 1 (t)) (l2 : hp_i l 2 (e)) (l3 : hp_i l 3 1) (e0 : ∀ (l' : am_L) (h' : am_H), ly_hy m_tt ly_TH h' → ly_fr cst [] h h' → h.length ≤ h'.length → hp_a l' 0 85 → hp_i l' 1 (t) → hp_i l' 2 (e) → hp_i l' 3 2 → hp_F cst strs Φ D M 6 l' [] h') : hp_F cst strs Φ D M 6 l [] h := by
  refine hp_arc c hM bt1n1_k hD [a, b, d, ma, mb, md, t, e] rfl hy (hp_Bc (z := a) rfl b0 t0 (hp_Bc (z := b) rfl b1 t1 (hp_Bc (z := d) rfl b2 t2 (hp_Bc (z := ma) rfl b3 t3 (hp_Bc (z := mb) rfl b4 t4 (hp_Bc (z := md) rfl b5 t5 (hp_Bc (z := t) rfl b6 t6 (hp_Bc (z := e) rfl b7 t7 hp_Bn)))))))) (hp_Fc (z := ((-1) + ((-1) * a + (1 * ma + 0)))) rfl (by omega) (hp_Fc (z := (0 + (1 * b + ((-1) * mb + 0)))) rfl (by omega) hp_Fn)) (hp_Kc (zi := (0 + 0)) (zv := (0 + (1 * a + 0))) k0 rfl rfl (by omega) (by omega) (hp_Kc (zi := (1 + 0)) (zv := (0 + (1 * b + 0))) k1 rfl rfl (by omega) (by omega) (hp_Kc (zi := (2 + 0)) (zv := (0 + (1 * d + 0))) k2 rfl rfl (by omega) (by omega) (hp_Kc (zi := (0 + 0)) (zv := (0 + (1 * ma + 0))) k3 rfl rfl (by omega) (by omega) (hp_Kc (zi := (1 + 0)) (zv := (0 + (1 * mb + 0))) k4 rfl rfl (by omega) (by omega) (hp_Kc (zi := (2 + 0)) (zv := (0 + (1 * md + 0))) k5 rfl rfl (by omega) (by omega) hp_Kn)))))) (hp_La l0 (hp_Li (z := (0 + (1 * t + 0))) l1 rfl (by omega) (hp_Li (z := (0 + (1 * e + 0))) l2 rfl (by omega) (hp_Li (z := (1 + 0)) l3 rfl (by omega) hp_Ln)))) trivial ?_ ?_
  · intro p hp ys l' st' h' hys a1 a2 a3 gZ gL gS
    rcases List.mem_cons.mp hp with rfl | hp
    · obtain rfl := hp_y0 hys
      cases hp_gSn gS
      exact e0 l' h' a1 a2 a3 (hp_gLa gL (List.mem_of_getElem? (i := 0) rfl) (by decide)) (hp_gLi (z := (0 + (1 * t + 0))) gL (List.mem_of_getElem? (i := 1) rfl) rfl (by omega)) (hp_gLi (z := (0 + (1 * e + 0))) gL (List.mem_of_getElem? (i := 2) rfl) rfl (by omega)) (hp_gLi (z := (2 + 0)) gL (List.mem_of_getElem? (i := 3) rfl) rfl (by omega))
    cases hp
  · intro p hp ys v h' hys a1 a2 a3 gZ gS
    cases hp
theorem bt1v_k : hp_chk 248 6 8 [(0, 0, 10), (1, 0, 10), (2, 0, 10), (3, 0, 10), (4, 0, 10), (5, 0, 10), (6, 0, 7), (7, 0, 400)] [((-1), [(0, (-1)), (3, 1)]), ((-1), [(1, (-1)), (4, 1)])] [(0, .inr (.inr (.inl (some 85)))), (1, .inl (0, [(6, 1)])), (2, .inl (0, [(7, 1)])), (3, .inl (1, []))] [] [(18688, (0, []), (0, [(0, 1)])), (18688, (1, []), (0, [(1, 1)])), (18688, (2, []), (0, [(2, 1)])), (17920, (0, []), (0, [(3, 1)])), (17920, (1, []), (0, [(4, 1)])), (17920, (2, []), (0, [(5, 1)]))] [] 5 [(32, ([], 8, [(0, 0, 10), (1, 0, 10), (2, 0, 10), (3, 0, 10), (4, 0, 10), (5, 0, 10), (6, 0, 7), (7, 0, 400)], [], [(0, .inr (.inr (.inl (some 85)))), (1, .inl (0, [(6, 1)])), (2, .inl (0, [(7, 1)])), (3, .inl (1, []))], [.inl (3, []), .inr (.inr (.inl (some 85)))], []))] [] = true := by decide +kernel
theorem bt1v {cst : am_K} {strs : List Nat} {Φ : am_Q → Prop} {D : Nat} {M : am_M} {h : am_H} {l : am_L} (c : hp_C cst strs D) (hM : m_P[248]? = some M) (hD : (5 : Int) ≤ (D : Int) + 1) (hy : ly_hy m_tt ly_TH h) (a b d ma mb md t e : Int) (b0 : 0 ≤ a) (t0 : a ≤ 10) (b1 : 0 ≤ b) (t1 : b ≤ 10) (b2 : 0 ≤ d) (t2 : d ≤ 10) (b3 : 0 ≤ ma) (t3 : ma ≤ 10) (b4 : 0 ≤ mb) (t4 : mb ≤ 10) (b5 : 0 ≤ md) (t5 : md ≤ 10) (b6 : 0 ≤ t) (t6 : t ≤ 7) (b7 : 0 ≤ e) (t7 : e ≤ 400) (f0 : 0 ≤ (ma - a - 1)) (f1 : 0 ≤ (mb - b - 1)) (k0 : ly_hv cst h 18688 0 = some (a)) (k1 : ly_hv cst h 18688 1 = some (b)) (k2 : ly_hv cst h 18688 2 = some (d)) (k3 : ly_hv cst h 17920 0 = some (ma)) (k4 : ly_hv cst h 17920 1 = some (mb)) (k5 : ly_hv cst h 17920 2 = some (md)) (l0 : hp_a l 0 85) (l1 : hp_i l 1 (t)) (l2 : hp_i l 2 (e)) (l3 : hp_i l 3 1) (e0 : ∀ (l' : am_L) (h' : am_H) (y0 : Int32), y0.toInt = 3 → ly_hy m_tt ly_TH h' → ly_fr cst [] h h' → h.length ≤ h'.length → hp_a l' 0 85 → hp_i l' 1 (t) → hp_i l' 2 (e) → hp_i l' 3 1 → hp_F cst strs Φ D M 32 l' [.int y0, .ref 85] h') : hp_F cst strs Φ D M 6 l [] h := by
  refine hp_arc c hM bt1v_k hD [a, b, d, ma, mb, md, t, e] rfl hy (hp_Bc (z := a) rfl b0 t0 (hp_Bc (z := b) rfl b1 t1 (hp_Bc (z := d) rfl b2 t2 (hp_Bc (z := ma) rfl b3 t3 (hp_Bc (z := mb) rfl b4 t4 (hp_Bc (z := md) rfl b5 t5 (hp_Bc (z := t) rfl b6 t6 (hp_Bc (z := e) rfl b7 t7 hp_Bn)))))))) (hp_Fc (z := ((-1) + ((-1) * a + (1 * ma + 0)))) rfl (by omega) (hp_Fc (z := ((-1) + ((-1) * b + (1 * mb + 0)))) rfl (by omega) hp_Fn)) (hp_Kc (zi := (0 + 0)) (zv := (0 + (1 * a + 0))) k0 rfl rfl (by omega) (by omega) (hp_Kc (zi := (1 + 0)) (zv := (0 + (1 * b + 0))) k1 rfl rfl (by omega) (by omega) (hp_Kc (zi := (2 + 0)) (zv := (0 + (1 * d + 0))) k2 rfl rfl (by omega) (by omega) (hp_Kc (zi := (0 + 0)) (zv := (0 + (1 * ma + 0))) k3 rfl rfl (by omega) (by omega) (hp_Kc (zi := (1 + 0)) (zv := (0 + (1 * mb + 0))) k4 rfl rfl (by omega) (by omega) (hp_Kc (zi := (2 + 0)) (zv := (0 + (1 * md + 0))) k5 rfl rfl (by omega) (by omega) hp_Kn)))))) (hp_La l0 (hp_Li (z := (0 + (1 * t + 0))) l1 rfl (by omega) (hp_Li (z := (0 + (1 * e + 0))) l2 rfl (by omega) (hp_Li (z := (1 + 0)) l3 rfl (by omega) hp_Ln)))) trivial ?_ ?_
  · intro p hp ys l' st' h' hys a1 a2 a3 gZ gL gS
    rcases List.mem_cons.mp hp with rfl | hp
    · obtain rfl := hp_y0 hys
      obtain ⟨y0, t0, rfl, q0, g0⟩ := hp_gSi (z := (3 + 0)) gS rfl
      obtain ⟨t1, rfl, g1⟩ := hp_gSa g0 (by decide)
      cases hp_gSn g1
      exact e0 l' h' y0 (by omega) a1 a2 a3 (hp_gLa gL (List.mem_of_getElem? (i := 0) rfl) (by decide)) (hp_gLi (z := (0 + (1 * t + 0))) gL (List.mem_of_getElem? (i := 1) rfl) rfl (by omega)) (hp_gLi (z := (0 + (1 * e + 0))) gL (List.mem_of_getElem? (i := 2) rfl) rfl (by omega)) (hp_gLi (z := (1 + 0)) gL (List.mem_of_getElem? (i := 3) rfl) rfl (by omega))
    cases hp
  · intro p hp ys v h' hys a1 a2 a3 gZ gS
    cases hp
theorem bt1a_k : hp_chk 248 35 1 [(0, 0, 400)] [] [(0, .inr (.inr (.inl (some 85)))), (1, .inl (0, [])), (2, .inl (0, [])), (3, .inl (1, []))] [.inl (0, [(0, 1)])] [] [] 5 [(6, ([], 1, [(0, 0, 400)], [], [(0, .inr (.inr (.inl (some 85)))), (1, .inl (3, [])), (2, .inl (0, [(0, 1)])), (3, .inl (2, []))], [], []))] [] = true := by decide +kernel
theorem bt1a {cst : am_K} {strs : List Nat} {Φ : am_Q → Prop} {D : Nat} {M : am_M} {h : am_H} {l : am_L} (c : hp_C cst strs D) (hM : m_P[248]? = some M) (hD : (5 : Int) ≤ (D : Int) + 1) (hy : ly_hy m_tt ly_TH h) (k : Int) (x0 : Int32) (hx0 : x0.toInt = (k)) (b0 : 0 ≤ k) (t0 : k ≤ 400) (l0 : hp_a l 0 85) (l1 : hp_i l 1 0) (l2 : hp_i l 2 0) (l3 : hp_i l 3 1) (e0 : ∀ (l' : am_L) (h' : am_H), ly_hy m_tt ly_TH h' → ly_fr cst [] h h' → h.length ≤ h'.length → hp_a l' 0 85 → hp_i l' 1 3 → hp_i l' 2 (k) → hp_i l' 3 2 → hp_F cst strs Φ D M 6 l' [] h') : hp_F cst strs Φ D M 35 l [.int x0] h := by
  refine hp_arc c hM bt1a_k hD [k] rfl hy (hp_Bc (z := k) rfl b0 t0 hp_Bn) hp_Fn hp_Kn (hp_La l0 (hp_Li (z := (0 + 0)) l1 rfl (by omega) (hp_Li (z := (0 + 0)) l2 rfl (by omega) (hp_Li (z := (1 + 0)) l3 rfl (by omega) hp_Ln)))) (hp_Si (z := (0 + (1 * k + 0))) rfl (by omega) trivial) ?_ ?_
  · intro p hp ys l' st' h' hys a1 a2 a3 gZ gL gS
    rcases List.mem_cons.mp hp with rfl | hp
    · obtain rfl := hp_y0 hys
      cases hp_gSn gS
      exact e0 l' h' a1 a2 a3 (hp_gLa gL (List.mem_of_getElem? (i := 0) rfl) (by decide)) (hp_gLi (z := (3 + 0)) gL (List.mem_of_getElem? (i := 1) rfl) rfl (by omega)) (hp_gLi (z := (0 + (1 * k + 0))) gL (List.mem_of_getElem? (i := 2) rfl) rfl (by omega)) (hp_gLi (z := (2 + 0)) gL (List.mem_of_getElem? (i := 3) rfl) rfl (by omega))
    cases hp
  · intro p hp ys v h' hys a1 a2 a3 gZ gS
    cases hp
theorem bt1b_k : hp_chk 248 35 3 [(0, 1, 7), (1, 0, 400), (2, 0, 400)] [((-1), [(1, 1), (2, (-1))])] [(0, .inr (.inr (.inl (some 85)))), (1, .inl (0, [(0, 1)])), (2, .inl (0, [(1, 1)])), (3, .inl (1, []))] [.inl (0, [(2, 1)])] [] [] 5 [(6, ([], 3, [(0, 1, 7), (1, 0, 400), (2, 0, 400)], [], [(0, .inr (.inr (.inl (some 85)))), (1, .inl (3, [])), (2, .inl (0, [(2, 1)])), (3, .inl (2, []))], [], []))] [] = true := by decide +kernel
theorem bt1b {cst : am_K} {strs : List Nat} {Φ : am_Q → Prop} {D : Nat} {M : am_M} {h : am_H} {l : am_L} (c : hp_C cst strs D) (hM : m_P[248]? = some M) (hD : (5 : Int) ≤ (D : Int) + 1) (hy : ly_hy m_tt ly_TH h) (t e k : Int) (x0 : Int32) (hx0 : x0.toInt = (k)) (b0 : 1 ≤ t) (t0 : t ≤ 7) (b1 : 0 ≤ e) (t1 : e ≤ 400) (b2 : 0 ≤ k) (t2 : k ≤ 400) (f0 : 0 ≤ (e - k - 1)) (l0 : hp_a l 0 85) (l1 : hp_i l 1 (t)) (l2 : hp_i l 2 (e)) (l3 : hp_i l 3 1) (e0 : ∀ (l' : am_L) (h' : am_H), ly_hy m_tt ly_TH h' → ly_fr cst [] h h' → h.length ≤ h'.length → hp_a l' 0 85 → hp_i l' 1 3 → hp_i l' 2 (k) → hp_i l' 3 2 → hp_F cst strs Φ D M 6 l' [] h') : hp_F cst strs Φ D M 35 l [.int x0] h := by
  refine hp_arc c hM bt1b_k hD [t, e, k] rfl hy (hp_Bc (z := t) rfl b0 t0 (hp_Bc (z := e) rfl b1 t1 (hp_Bc (z := k) rfl b2 t2 hp_Bn))) (hp_Fc (z := ((-1) + (1 * e + ((-1) * k + 0)))) rfl (by omega) hp_Fn) hp_Kn (hp_La l0 (hp_Li (z := (0 + (1 * t + 0))) l1 rfl (by omega) (hp_Li (z := (0 + (1 * e + 0))) l2 rfl (by omega) (hp_Li (z := (1 + 0)) l3 rfl (by omega) hp_Ln)))) (hp_Si (z := (0 + (1 * k + 0))) rfl (by omega) trivial) ?_ ?_
  · intro p hp ys l' st' h' hys a1 a2 a3 gZ gL gS
    rcases List.mem_cons.mp hp with rfl | hp
    · obtain rfl := hp_y0 hys
      cases hp_gSn gS
      exact e0 l' h' a1 a2 a3 (hp_gLa gL (List.mem_of_getElem? (i := 0) rfl) (by decide)) (hp_gLi (z := (3 + 0)) gL (List.mem_of_getElem? (i := 1) rfl) rfl (by omega)) (hp_gLi (z := (0 + (1 * k + 0))) gL (List.mem_of_getElem? (i := 2) rfl) rfl (by omega)) (hp_gLi (z := (2 + 0)) gL (List.mem_of_getElem? (i := 3) rfl) rfl (by omega))
    cases hp
  · intro p hp ys v h' hys a1 a2 a3 gZ gS
    cases hp
theorem bt1c_k : hp_chk 248 35 3 [(0, 1, 7), (1, 0, 400), (2, 0, 400)] [(0, [(1, (-1)), (2, 1)])] [(0, .inr (.inr (.inl (some 85)))), (1, .inl (0, [(0, 1)])), (2, .inl (0, [(1, 1)])), (3, .inl (1, []))] [.inl (0, [(2, 1)])] [] [] 5 [(6, ([], 3, [(0, 1, 7), (1, 0, 400), (2, 0, 400)], [], [(0, .inr (.inr (.inl (some 85)))), (1, .inl (0, [(0, 1)])), (2, .inl (0, [(1, 1)])), (3, .inl (2, []))], [], []))] [] = true := by decide +kernel
theorem bt1c {cst : am_K} {strs : List Nat} {Φ : am_Q → Prop} {D : Nat} {M : am_M} {h : am_H} {l : am_L} (c : hp_C cst strs D) (hM : m_P[248]? = some M) (hD : (5 : Int) ≤ (D : Int) + 1) (hy : ly_hy m_tt ly_TH h) (t e k : Int) (x0 : Int32) (hx0 : x0.toInt = (k)) (b0 : 1 ≤ t) (t0 : t ≤ 7) (b1 : 0 ≤ e) (t1 : e ≤ 400) (b2 : 0 ≤ k) (t2 : k ≤ 400) (f0 : 0 ≤ (k - e)) (l0 : hp_a l 0 85) (l1 : hp_i l 1 (t)) (l2 : hp_i l 2 (e)) (l3 : hp_i l 3 1) (e0 : ∀ (l' : am_L) (h' : am_H), ly_hy m_tt ly_TH h' → ly_fr cst [] h h' → h.length ≤ h'.length → hp_a l' 0 85 → hp_i l' 1 (t) → hp_i l' 2 (e) → hp_i l' 3 2 → hp_F cst strs Φ D M 6 l' [] h') : hp_F cst strs Φ D M 35 l [.int x0] h := by
  refine hp_arc c hM bt1c_k hD [t, e, k] rfl hy (hp_Bc (z := t) rfl b0 t0 (hp_Bc (z := e) rfl b1 t1 (hp_Bc (z := k) rfl b2 t2 hp_Bn))) (hp_Fc (z := (0 + ((-1) * e + (1 * k + 0)))) rfl (by omega) hp_Fn) hp_Kn (hp_La l0 (hp_Li (z := (0 + (1 * t + 0))) l1 rfl (by omega) (hp_Li (z := (0 + (1 * e + 0))) l2 rfl (by omega) (hp_Li (z := (1 + 0)) l3 rfl (by omega) hp_Ln)))) (hp_Si (z := (0 + (1 * k + 0))) rfl (by omega) trivial) ?_ ?_
  · intro p hp ys l' st' h' hys a1 a2 a3 gZ gL gS
    rcases List.mem_cons.mp hp with rfl | hp
    · obtain rfl := hp_y0 hys
      cases hp_gSn gS
      exact e0 l' h' a1 a2 a3 (hp_gLa gL (List.mem_of_getElem? (i := 0) rfl) (by decide)) (hp_gLi (z := (0 + (1 * t + 0))) gL (List.mem_of_getElem? (i := 1) rfl) rfl (by omega)) (hp_gLi (z := (0 + (1 * e + 0))) gL (List.mem_of_getElem? (i := 2) rfl) rfl (by omega)) (hp_gLi (z := (2 + 0)) gL (List.mem_of_getElem? (i := 3) rfl) rfl (by omega))
    cases hp
  · intro p hp ys v h' hys a1 a2 a3 gZ gS
    cases hp
theorem bt2n0_k : hp_chk 248 6 8 [(0, 0, 10), (1, 0, 10), (2, 0, 10), (3, 0, 10), (4, 0, 10), (5, 0, 10), (6, 0, 7), (7, 0, 400)] [(0, [(0, 1), (3, (-1))])] [(0, .inr (.inr (.inl (some 85)))), (1, .inl (0, [(6, 1)])), (2, .inl (0, [(7, 1)])), (3, .inl (2, []))] [] [(18688, (0, []), (0, [(0, 1)])), (18688, (1, []), (0, [(1, 1)])), (18688, (2, []), (0, [(2, 1)])), (17920, (0, []), (0, [(3, 1)])), (17920, (1, []), (0, [(4, 1)])), (17920, (2, []), (0, [(5, 1)]))] [] 5 [(6, ([], 8, [(0, 0, 10), (1, 0, 10), (2, 0, 10), (3, 0, 10), (4, 0, 10), (5, 0, 10), (6, 0, 7), (7, 0, 400)], [], [(0, .inr (.inr (.inl (some 85)))), (1, .inl (0, [(6, 1)])), (2, .inl (0, [(7, 1)])), (3, .inl (3, []))], [], []))] [] = true := by decide +kernel
theorem bt2n0 {cst : am_K} {strs : List Nat} {Φ : am_Q → Prop} {D : Nat} {M : am_M} {h : am_H} {l : am_L} (c : hp_C cst strs D) (hM : m_P[248]? = some M) (hD : (5 : Int) ≤ (D : Int) + 1) (hy : ly_hy m_tt ly_TH h) (a b d ma mb md t e : Int) (b0 : 0 ≤ a) (t0 : a ≤ 10) (b1 : 0 ≤ b) (t1 : b ≤ 10) (b2 : 0 ≤ d) (t2 : d ≤ 10) (b3 : 0 ≤ ma) (t3 : ma ≤ 10) (b4 : 0 ≤ mb) (t4 : mb ≤ 10) (b5 : 0 ≤ md) (t5 : md ≤ 10) (b6 : 0 ≤ t) (t6 : t ≤ 7) (b7 : 0 ≤ e) (t7 : e ≤ 400) (f0 : 0 ≤ (a - ma)) (k0 : ly_hv cst h 18688 0 = some (a)) (k1 : ly_hv cst h 18688 1 = some (b)) (k2 : ly_hv cst h 18688 2 = some (d)) (k3 : ly_hv cst h 17920 0 = some (ma)) (k4 : ly_hv cst h 17920 1 = some (mb)) (k5 : ly_hv cst h 17920 2 = some (md)) (l0 : hp_a l 0 85) (l1 : hp_i l 1 (t)) (l2 : hp_i l 2 (e)) (l3 : hp_i l 3 2) (e0 : ∀ (l' : am_L) (h' : am_H), ly_hy m_tt ly_TH h' → ly_fr cst [] h h' → h.length ≤ h'.length → hp_a l' 0 85 → hp_i l' 1 (t) → hp_i l' 2 (e) → hp_i l' 3 3 → hp_F cst strs Φ D M 6 l' [] h') : hp_F cst strs Φ D M 6 l [] h := by
  refine hp_arc c hM bt2n0_k hD [a, b, d, ma, mb, md, t, e] rfl hy (hp_Bc (z := a) rfl b0 t0 (hp_Bc (z := b) rfl b1 t1 (hp_Bc (z := d) rfl b2 t2 (hp_Bc (z := ma) rfl b3 t3 (hp_Bc (z := mb) rfl b4 t4 (hp_Bc (z := md) rfl b5 t5 (hp_Bc (z := t) rfl b6 t6 (hp_Bc (z := e) rfl b7 t7 hp_Bn)))))))) (hp_Fc (z := (0 + (1 * a + ((-1) * ma + 0)))) rfl (by omega) hp_Fn) (hp_Kc (zi := (0 + 0)) (zv := (0 + (1 * a + 0))) k0 rfl rfl (by omega) (by omega) (hp_Kc (zi := (1 + 0)) (zv := (0 + (1 * b + 0))) k1 rfl rfl (by omega) (by omega) (hp_Kc (zi := (2 + 0)) (zv := (0 + (1 * d + 0))) k2 rfl rfl (by omega) (by omega) (hp_Kc (zi := (0 + 0)) (zv := (0 + (1 * ma + 0))) k3 rfl rfl (by omega) (by omega) (hp_Kc (zi := (1 + 0)) (zv := (0 + (1 * mb + 0))) k4 rfl rfl (by omega) (by omega) (hp_Kc (zi := (2 + 0)) (zv := (0 + (1 * md + 0))) k5 rfl rfl (by omega) (by omega) hp_Kn)))))) (hp_La l0 (hp_Li (z := (0 + (1 * t + 0))) l1 rfl (by omega) (hp_Li (z := (0 + (1 * e + 0))) l2 rfl (by omega) (hp_Li (z := (2 + 0)) l3 rfl (by omega) hp_Ln)))) trivial ?_ ?_
  · intro p hp ys l' st' h' hys a1 a2 a3 gZ gL gS
    rcases List.mem_cons.mp hp with rfl | hp
    · obtain rfl := hp_y0 hys
      cases hp_gSn gS
      exact e0 l' h' a1 a2 a3 (hp_gLa gL (List.mem_of_getElem? (i := 0) rfl) (by decide)) (hp_gLi (z := (0 + (1 * t + 0))) gL (List.mem_of_getElem? (i := 1) rfl) rfl (by omega)) (hp_gLi (z := (0 + (1 * e + 0))) gL (List.mem_of_getElem? (i := 2) rfl) rfl (by omega)) (hp_gLi (z := (3 + 0)) gL (List.mem_of_getElem? (i := 3) rfl) rfl (by omega))
    cases hp
  · intro p hp ys v h' hys a1 a2 a3 gZ gS
    cases hp
theorem bt2n1_k : hp_chk 248 6 8 [(0, 0, 10), (1, 0, 10), (2, 0, 10), (3, 0, 10), (4, 0, 10), (5, 0, 10), (6, 0, 7), (7, 0, 400)] [((-1), [(0, (-1)), (3, 1)]), (0, [(2, 1), (5, (-1))])] [(0, .inr (.inr (.inl (some 85)))), (1, .inl (0, [(6, 1)])), (2, .inl (0, [(7, 1)])), (3, .inl (2, []))] [] [(18688, (0, []), (0, [(0, 1)])), (18688, (1, []), (0, [(1, 1)])), (18688, (2, []), (0, [(2, 1)])), (17920, (0, []), (0, [(3, 1)])), (17920, (1, []), (0, [(4, 1)])), (17920, (2, []), (0, [(5, 1)]))] [] 5 [(6, ([], 8, [(0, 0, 10), (1, 0, 10), (2, 0, 10), (3, 0, 10), (4, 0, 10), (5, 0, 10), (6, 0, 7), (7, 0, 400)], [], [(0, .inr (.inr (.inl (some 85)))), (1, .inl (0, [(6, 1)])), (2, .inl (0, [(7, 1)])), (3, .inl (3, []))], [], []))] [] = true := by decide +kernel
theorem bt2n1 {cst : am_K} {strs : List Nat} {Φ : am_Q → Prop} {D : Nat} {M : am_M} {h : am_H} {l : am_L} (c : hp_C cst strs D) (hM : m_P[248]? = some M) (hD : (5 : Int) ≤ (D : Int) + 1) (hy : ly_hy m_tt ly_TH h) (a b d ma mb md t e : Int) (b0 : 0 ≤ a) (t0 : a ≤ 10) (b1 : 0 ≤ b) (t1 : b ≤ 10) (b2 : 0 ≤ d) (t2 : d ≤ 10) (b3 : 0 ≤ ma) (t3 : ma ≤ 10) (b4 : 0 ≤ mb) (t4 : mb ≤ 10) (b5 : 0 ≤ md) (t5 : md ≤ 10) (b6 : 0 ≤ t) (t6 : t ≤ 7) (b7 : 0 ≤ e) (t7 : e ≤ 400) (f0 : 0 ≤ (ma - a - 1)) (f1 : 0 ≤ (d - md)) (k0 : ly_hv cst h 18688 0 = some (a)) (k1 : ly_hv cst h 18688 1 = some (b)) (k2 : ly_hv cst h 18688 2 = some (d)) (k3 : ly_hv cst h 17920 0 = some (ma)) (k4 : ly_hv cst h 17920 1 = some (mb)) (k5 : ly_hv cst h 17920 2 = some (md)) (l0 : hp_a l 0 85) (l1 : hp_i l 1 (t)) (l2 : hp_i l 2 (e)) (l3 : hp_i l 3 2) (e0 : ∀ (l' : am_L) (h' : am_H), ly_hy m_tt ly_TH h' → ly_fr cst [] h h' → h.length ≤ h'.length → hp_a l' 0 85 → hp_i l' 1 (t) → hp_i l' 2 (e) → hp_i l' 3 3 → hp_F cst strs Φ D M 6 l' [] h') : hp_F cst strs Φ D M 6 l [] h := by
  refine hp_arc c hM bt2n1_k hD [a, b, d, ma, mb, md, t, e] rfl hy (hp_Bc (z := a) rfl b0 t0 (hp_Bc (z := b) rfl b1 t1 (hp_Bc (z := d) rfl b2 t2 (hp_Bc (z := ma) rfl b3 t3 (hp_Bc (z := mb) rfl b4 t4 (hp_Bc (z := md) rfl b5 t5 (hp_Bc (z := t) rfl b6 t6 (hp_Bc (z := e) rfl b7 t7 hp_Bn)))))))) (hp_Fc (z := ((-1) + ((-1) * a + (1 * ma + 0)))) rfl (by omega) (hp_Fc (z := (0 + (1 * d + ((-1) * md + 0)))) rfl (by omega) hp_Fn)) (hp_Kc (zi := (0 + 0)) (zv := (0 + (1 * a + 0))) k0 rfl rfl (by omega) (by omega) (hp_Kc (zi := (1 + 0)) (zv := (0 + (1 * b + 0))) k1 rfl rfl (by omega) (by omega) (hp_Kc (zi := (2 + 0)) (zv := (0 + (1 * d + 0))) k2 rfl rfl (by omega) (by omega) (hp_Kc (zi := (0 + 0)) (zv := (0 + (1 * ma + 0))) k3 rfl rfl (by omega) (by omega) (hp_Kc (zi := (1 + 0)) (zv := (0 + (1 * mb + 0))) k4 rfl rfl (by omega) (by omega) (hp_Kc (zi := (2 + 0)) (zv := (0 + (1 * md + 0))) k5 rfl rfl (by omega) (by omega) hp_Kn)))))) (hp_La l0 (hp_Li (z := (0 + (1 * t + 0))) l1 rfl (by omega) (hp_Li (z := (0 + (1 * e + 0))) l2 rfl (by omega) (hp_Li (z := (2 + 0)) l3 rfl (by omega) hp_Ln)))) trivial ?_ ?_
  · intro p hp ys l' st' h' hys a1 a2 a3 gZ gL gS
    rcases List.mem_cons.mp hp with rfl | hp
    · obtain rfl := hp_y0 hys
      cases hp_gSn gS
      exact e0 l' h' a1 a2 a3 (hp_gLa gL (List.mem_of_getElem? (i := 0) rfl) (by decide)) (hp_gLi (z := (0 + (1 * t + 0))) gL (List.mem_of_getElem? (i := 1) rfl) rfl (by omega)) (hp_gLi (z := (0 + (1 * e + 0))) gL (List.mem_of_getElem? (i := 2) rfl) rfl (by omega)) (hp_gLi (z := (3 + 0)) gL (List.mem_of_getElem? (i := 3) rfl) rfl (by omega))
    cases hp
  · intro p hp ys v h' hys a1 a2 a3 gZ gS
    cases hp
theorem bt2v_k : hp_chk 248 6 8 [(0, 0, 10), (1, 0, 10), (2, 0, 10), (3, 0, 10), (4, 0, 10), (5, 0, 10), (6, 0, 7), (7, 0, 400)] [((-1), [(0, (-1)), (3, 1)]), ((-1), [(2, (-1)), (5, 1)])] [(0, .inr (.inr (.inl (some 85)))), (1, .inl (0, [(6, 1)])), (2, .inl (0, [(7, 1)])), (3, .inl (2, []))] [] [(18688, (0, []), (0, [(0, 1)])), (18688, (1, []), (0, [(1, 1)])), (18688, (2, []), (0, [(2, 1)])), (17920, (0, []), (0, [(3, 1)])), (17920, (1, []), (0, [(4, 1)])), (17920, (2, []), (0, [(5, 1)]))] [] 5 [(32, ([], 8, [(0, 0, 10), (1, 0, 10), (2, 0, 10), (3, 0, 10), (4, 0, 10), (5, 0, 10), (6, 0, 7), (7, 0, 400)], [], [(0, .inr (.inr (.inl (some 85)))), (1, .inl (0, [(6, 1)])), (2, .inl (0, [(7, 1)])), (3, .inl (2, []))], [.inl (5, []), .inr (.inr (.inl (some 85)))], []))] [] = true := by decide +kernel
theorem bt2v {cst : am_K} {strs : List Nat} {Φ : am_Q → Prop} {D : Nat} {M : am_M} {h : am_H} {l : am_L} (c : hp_C cst strs D) (hM : m_P[248]? = some M) (hD : (5 : Int) ≤ (D : Int) + 1) (hy : ly_hy m_tt ly_TH h) (a b d ma mb md t e : Int) (b0 : 0 ≤ a) (t0 : a ≤ 10) (b1 : 0 ≤ b) (t1 : b ≤ 10) (b2 : 0 ≤ d) (t2 : d ≤ 10) (b3 : 0 ≤ ma) (t3 : ma ≤ 10) (b4 : 0 ≤ mb) (t4 : mb ≤ 10) (b5 : 0 ≤ md) (t5 : md ≤ 10) (b6 : 0 ≤ t) (t6 : t ≤ 7) (b7 : 0 ≤ e) (t7 : e ≤ 400) (f0 : 0 ≤ (ma - a - 1)) (f1 : 0 ≤ (md - d - 1)) (k0 : ly_hv cst h 18688 0 = some (a)) (k1 : ly_hv cst h 18688 1 = some (b)) (k2 : ly_hv cst h 18688 2 = some (d)) (k3 : ly_hv cst h 17920 0 = some (ma)) (k4 : ly_hv cst h 17920 1 = some (mb)) (k5 : ly_hv cst h 17920 2 = some (md)) (l0 : hp_a l 0 85) (l1 : hp_i l 1 (t)) (l2 : hp_i l 2 (e)) (l3 : hp_i l 3 2) (e0 : ∀ (l' : am_L) (h' : am_H) (y0 : Int32), y0.toInt = 5 → ly_hy m_tt ly_TH h' → ly_fr cst [] h h' → h.length ≤ h'.length → hp_a l' 0 85 → hp_i l' 1 (t) → hp_i l' 2 (e) → hp_i l' 3 2 → hp_F cst strs Φ D M 32 l' [.int y0, .ref 85] h') : hp_F cst strs Φ D M 6 l [] h := by
  refine hp_arc c hM bt2v_k hD [a, b, d, ma, mb, md, t, e] rfl hy (hp_Bc (z := a) rfl b0 t0 (hp_Bc (z := b) rfl b1 t1 (hp_Bc (z := d) rfl b2 t2 (hp_Bc (z := ma) rfl b3 t3 (hp_Bc (z := mb) rfl b4 t4 (hp_Bc (z := md) rfl b5 t5 (hp_Bc (z := t) rfl b6 t6 (hp_Bc (z := e) rfl b7 t7 hp_Bn)))))))) (hp_Fc (z := ((-1) + ((-1) * a + (1 * ma + 0)))) rfl (by omega) (hp_Fc (z := ((-1) + ((-1) * d + (1 * md + 0)))) rfl (by omega) hp_Fn)) (hp_Kc (zi := (0 + 0)) (zv := (0 + (1 * a + 0))) k0 rfl rfl (by omega) (by omega) (hp_Kc (zi := (1 + 0)) (zv := (0 + (1 * b + 0))) k1 rfl rfl (by omega) (by omega) (hp_Kc (zi := (2 + 0)) (zv := (0 + (1 * d + 0))) k2 rfl rfl (by omega) (by omega) (hp_Kc (zi := (0 + 0)) (zv := (0 + (1 * ma + 0))) k3 rfl rfl (by omega) (by omega) (hp_Kc (zi := (1 + 0)) (zv := (0 + (1 * mb + 0))) k4 rfl rfl (by omega) (by omega) (hp_Kc (zi := (2 + 0)) (zv := (0 + (1 * md + 0))) k5 rfl rfl (by omega) (by omega) hp_Kn)))))) (hp_La l0 (hp_Li (z := (0 + (1 * t + 0))) l1 rfl (by omega) (hp_Li (z := (0 + (1 * e + 0))) l2 rfl (by omega) (hp_Li (z := (2 + 0)) l3 rfl (by omega) hp_Ln)))) trivial ?_ ?_
  · intro p hp ys l' st' h' hys a1 a2 a3 gZ gL gS
    rcases List.mem_cons.mp hp with rfl | hp
    · obtain rfl := hp_y0 hys
      obtain ⟨y0, t0, rfl, q0, g0⟩ := hp_gSi (z := (5 + 0)) gS rfl
      obtain ⟨t1, rfl, g1⟩ := hp_gSa g0 (by decide)
      cases hp_gSn g1
      exact e0 l' h' y0 (by omega) a1 a2 a3 (hp_gLa gL (List.mem_of_getElem? (i := 0) rfl) (by decide)) (hp_gLi (z := (0 + (1 * t + 0))) gL (List.mem_of_getElem? (i := 1) rfl) rfl (by omega)) (hp_gLi (z := (0 + (1 * e + 0))) gL (List.mem_of_getElem? (i := 2) rfl) rfl (by omega)) (hp_gLi (z := (2 + 0)) gL (List.mem_of_getElem? (i := 3) rfl) rfl (by omega))
    cases hp
  · intro p hp ys v h' hys a1 a2 a3 gZ gS
    cases hp
theorem bt2a_k : hp_chk 248 35 1 [(0, 0, 400)] [] [(0, .inr (.inr (.inl (some 85)))), (1, .inl (0, [])), (2, .inl (0, [])), (3, .inl (2, []))] [.inl (0, [(0, 1)])] [] [] 5 [(6, ([], 1, [(0, 0, 400)], [], [(0, .inr (.inr (.inl (some 85)))), (1, .inl (5, [])), (2, .inl (0, [(0, 1)])), (3, .inl (3, []))], [], []))] [] = true := by decide +kernel
theorem bt2a {cst : am_K} {strs : List Nat} {Φ : am_Q → Prop} {D : Nat} {M : am_M} {h : am_H} {l : am_L} (c : hp_C cst strs D) (hM : m_P[248]? = some M) (hD : (5 : Int) ≤ (D : Int) + 1) (hy : ly_hy m_tt ly_TH h) (k : Int) (x0 : Int32) (hx0 : x0.toInt = (k)) (b0 : 0 ≤ k) (t0 : k ≤ 400) (l0 : hp_a l 0 85) (l1 : hp_i l 1 0) (l2 : hp_i l 2 0) (l3 : hp_i l 3 2) (e0 : ∀ (l' : am_L) (h' : am_H), ly_hy m_tt ly_TH h' → ly_fr cst [] h h' → h.length ≤ h'.length → hp_a l' 0 85 → hp_i l' 1 5 → hp_i l' 2 (k) → hp_i l' 3 3 → hp_F cst strs Φ D M 6 l' [] h') : hp_F cst strs Φ D M 35 l [.int x0] h := by
  refine hp_arc c hM bt2a_k hD [k] rfl hy (hp_Bc (z := k) rfl b0 t0 hp_Bn) hp_Fn hp_Kn (hp_La l0 (hp_Li (z := (0 + 0)) l1 rfl (by omega) (hp_Li (z := (0 + 0)) l2 rfl (by omega) (hp_Li (z := (2 + 0)) l3 rfl (by omega) hp_Ln)))) (hp_Si (z := (0 + (1 * k + 0))) rfl (by omega) trivial) ?_ ?_
  · intro p hp ys l' st' h' hys a1 a2 a3 gZ gL gS
    rcases List.mem_cons.mp hp with rfl | hp
    · obtain rfl := hp_y0 hys
      cases hp_gSn gS
      exact e0 l' h' a1 a2 a3 (hp_gLa gL (List.mem_of_getElem? (i := 0) rfl) (by decide)) (hp_gLi (z := (5 + 0)) gL (List.mem_of_getElem? (i := 1) rfl) rfl (by omega)) (hp_gLi (z := (0 + (1 * k + 0))) gL (List.mem_of_getElem? (i := 2) rfl) rfl (by omega)) (hp_gLi (z := (3 + 0)) gL (List.mem_of_getElem? (i := 3) rfl) rfl (by omega))
    cases hp
  · intro p hp ys v h' hys a1 a2 a3 gZ gS
    cases hp
theorem bt2b_k : hp_chk 248 35 3 [(0, 1, 7), (1, 0, 400), (2, 0, 400)] [((-1), [(1, 1), (2, (-1))])] [(0, .inr (.inr (.inl (some 85)))), (1, .inl (0, [(0, 1)])), (2, .inl (0, [(1, 1)])), (3, .inl (2, []))] [.inl (0, [(2, 1)])] [] [] 5 [(6, ([], 3, [(0, 1, 7), (1, 0, 400), (2, 0, 400)], [], [(0, .inr (.inr (.inl (some 85)))), (1, .inl (5, [])), (2, .inl (0, [(2, 1)])), (3, .inl (3, []))], [], []))] [] = true := by decide +kernel
theorem bt2b {cst : am_K} {strs : List Nat} {Φ : am_Q → Prop} {D : Nat} {M : am_M} {h : am_H} {l : am_L} (c : hp_C cst strs D) (hM : m_P[248]? = some M) (hD : (5 : Int) ≤ (D : Int) + 1) (hy : ly_hy m_tt ly_TH h) (t e k : Int) (x0 : Int32) (hx0 : x0.toInt = (k)) (b0 : 1 ≤ t) (t0 : t ≤ 7) (b1 : 0 ≤ e) (t1 : e ≤ 400) (b2 : 0 ≤ k) (t2 : k ≤ 400) (f0 : 0 ≤ (e - k - 1)) (l0 : hp_a l 0 85) (l1 : hp_i l 1 (t)) (l2 : hp_i l 2 (e)) (l3 : hp_i l 3 2) (e0 : ∀ (l' : am_L) (h' : am_H), ly_hy m_tt ly_TH h' → ly_fr cst [] h h' → h.length ≤ h'.length → hp_a l' 0 85 → hp_i l' 1 5 → hp_i l' 2 (k) → hp_i l' 3 3 → hp_F cst strs Φ D M 6 l' [] h') : hp_F cst strs Φ D M 35 l [.int x0] h := by
  refine hp_arc c hM bt2b_k hD [t, e, k] rfl hy (hp_Bc (z := t) rfl b0 t0 (hp_Bc (z := e) rfl b1 t1 (hp_Bc (z := k) rfl b2 t2 hp_Bn))) (hp_Fc (z := ((-1) + (1 * e + ((-1) * k + 0)))) rfl (by omega) hp_Fn) hp_Kn (hp_La l0 (hp_Li (z := (0 + (1 * t + 0))) l1 rfl (by omega) (hp_Li (z := (0 + (1 * e + 0))) l2 rfl (by omega) (hp_Li (z := (2 + 0)) l3 rfl (by omega) hp_Ln)))) (hp_Si (z := (0 + (1 * k + 0))) rfl (by omega) trivial) ?_ ?_
  · intro p hp ys l' st' h' hys a1 a2 a3 gZ gL gS
    rcases List.mem_cons.mp hp with rfl | hp
    · obtain rfl := hp_y0 hys
      cases hp_gSn gS
      exact e0 l' h' a1 a2 a3 (hp_gLa gL (List.mem_of_getElem? (i := 0) rfl) (by decide)) (hp_gLi (z := (5 + 0)) gL (List.mem_of_getElem? (i := 1) rfl) rfl (by omega)) (hp_gLi (z := (0 + (1 * k + 0))) gL (List.mem_of_getElem? (i := 2) rfl) rfl (by omega)) (hp_gLi (z := (3 + 0)) gL (List.mem_of_getElem? (i := 3) rfl) rfl (by omega))
    cases hp
  · intro p hp ys v h' hys a1 a2 a3 gZ gS
    cases hp
theorem bt2c_k : hp_chk 248 35 3 [(0, 1, 7), (1, 0, 400), (2, 0, 400)] [(0, [(1, (-1)), (2, 1)])] [(0, .inr (.inr (.inl (some 85)))), (1, .inl (0, [(0, 1)])), (2, .inl (0, [(1, 1)])), (3, .inl (2, []))] [.inl (0, [(2, 1)])] [] [] 5 [(6, ([], 3, [(0, 1, 7), (1, 0, 400), (2, 0, 400)], [], [(0, .inr (.inr (.inl (some 85)))), (1, .inl (0, [(0, 1)])), (2, .inl (0, [(1, 1)])), (3, .inl (3, []))], [], []))] [] = true := by decide +kernel
theorem bt2c {cst : am_K} {strs : List Nat} {Φ : am_Q → Prop} {D : Nat} {M : am_M} {h : am_H} {l : am_L} (c : hp_C cst strs D) (hM : m_P[248]? = some M) (hD : (5 : Int) ≤ (D : Int) + 1) (hy : ly_hy m_tt ly_TH h) (t e k : Int) (x0 : Int32) (hx0 : x0.toInt = (k)) (b0 : 1 ≤ t) (t0 : t ≤ 7) (b1 : 0 ≤ e) (t1 : e ≤ 400) (b2 : 0 ≤ k) (t2 : k ≤ 400) (f0 : 0 ≤ (k - e)) (l0 : hp_a l 0 85) (l1 : hp_i l 1 (t)) (l2 : hp_i l 2 (e)) (l3 : hp_i l 3 2) (e0 : ∀ (l' : am_L) (h' : am_H), ly_hy m_tt ly_TH h' → ly_fr cst [] h h' → h.length ≤ h'.length → hp_a l' 0 85 → hp_i l' 1 (t) → hp_i l' 2 (e) → hp_i l' 3 3 → hp_F cst strs Φ D M 6 l' [] h') : hp_F cst strs Φ D M 35 l [.int x0] h := by
  refine hp_arc c hM bt2c_k hD [t, e, k] rfl hy (hp_Bc (z := t) rfl b0 t0 (hp_Bc (z := e) rfl b1 t1 (hp_Bc (z := k) rfl b2 t2 hp_Bn))) (hp_Fc (z := (0 + ((-1) * e + (1 * k + 0)))) rfl (by omega) hp_Fn) hp_Kn (hp_La l0 (hp_Li (z := (0 + (1 * t + 0))) l1 rfl (by omega) (hp_Li (z := (0 + (1 * e + 0))) l2 rfl (by omega) (hp_Li (z := (2 + 0)) l3 rfl (by omega) hp_Ln)))) (hp_Si (z := (0 + (1 * k + 0))) rfl (by omega) trivial) ?_ ?_
  · intro p hp ys l' st' h' hys a1 a2 a3 gZ gL gS
    rcases List.mem_cons.mp hp with rfl | hp
    · obtain rfl := hp_y0 hys
      cases hp_gSn gS
      exact e0 l' h' a1 a2 a3 (hp_gLa gL (List.mem_of_getElem? (i := 0) rfl) (by decide)) (hp_gLi (z := (0 + (1 * t + 0))) gL (List.mem_of_getElem? (i := 1) rfl) rfl (by omega)) (hp_gLi (z := (0 + (1 * e + 0))) gL (List.mem_of_getElem? (i := 2) rfl) rfl (by omega)) (hp_gLi (z := (3 + 0)) gL (List.mem_of_getElem? (i := 3) rfl) rfl (by omega))
    cases hp
  · intro p hp ys v h' hys a1 a2 a3 gZ gS
    cases hp
theorem bt3n0_k : hp_chk 248 6 8 [(0, 0, 10), (1, 0, 10), (2, 0, 10), (3, 0, 10), (4, 0, 10), (5, 0, 10), (6, 0, 7), (7, 0, 400)] [(0, [(1, 1), (4, (-1))])] [(0, .inr (.inr (.inl (some 85)))), (1, .inl (0, [(6, 1)])), (2, .inl (0, [(7, 1)])), (3, .inl (3, []))] [] [(18688, (0, []), (0, [(0, 1)])), (18688, (1, []), (0, [(1, 1)])), (18688, (2, []), (0, [(2, 1)])), (17920, (0, []), (0, [(3, 1)])), (17920, (1, []), (0, [(4, 1)])), (17920, (2, []), (0, [(5, 1)]))] [] 5 [(6, ([], 8, [(0, 0, 10), (1, 0, 10), (2, 0, 10), (3, 0, 10), (4, 0, 10), (5, 0, 10), (6, 0, 7), (7, 0, 400)], [], [(0, .inr (.inr (.inl (some 85)))), (1, .inl (0, [(6, 1)])), (2, .inl (0, [(7, 1)])), (3, .inl (4, []))], [], []))] [] = true := by decide +kernel
theorem bt3n0 {cst : am_K} {strs : List Nat} {Φ : am_Q → Prop} {D : Nat} {M : am_M} {h : am_H} {l : am_L} (c : hp_C cst strs D) (hM : m_P[248]? = some M) (hD : (5 : Int) ≤ (D : Int) + 1) (hy : ly_hy m_tt ly_TH h) (a b d ma mb md t e : Int) (b0 : 0 ≤ a) (t0 : a ≤ 10) (b1 : 0 ≤ b) (t1 : b ≤ 10) (b2 : 0 ≤ d) (t2 : d ≤ 10) (b3 : 0 ≤ ma) (t3 : ma ≤ 10) (b4 : 0 ≤ mb) (t4 : mb ≤ 10) (b5 : 0 ≤ md) (t5 : md ≤ 10) (b6 : 0 ≤ t) (t6 : t ≤ 7) (b7 : 0 ≤ e) (t7 : e ≤ 400) (f0 : 0 ≤ (b - mb)) (k0 : ly_hv cst h 18688 0 = some (a)) (k1 : ly_hv cst h 18688 1 = some (b)) (k2 : ly_hv cst h 18688 2 = some (d)) (k3 : ly_hv cst h 17920 0 = some (ma)) (k4 : ly_hv cst h 17920 1 = some (mb)) (k5 : ly_hv cst h 17920 2 = some (md)) (l0 : hp_a l 0 85) (l1 : hp_i l 1 (t)) (l2 : hp_i l 2 (e)) (l3 : hp_i l 3 3) (e0 : ∀ (l' : am_L) (h' : am_H), ly_hy m_tt ly_TH h' → ly_fr cst [] h h' → h.length ≤ h'.length → hp_a l' 0 85 → hp_i l' 1 (t) → hp_i l' 2 (e) → hp_i l' 3 4 → hp_F cst strs Φ D M 6 l' [] h') : hp_F cst strs Φ D M 6 l [] h := by
  refine hp_arc c hM bt3n0_k hD [a, b, d, ma, mb, md, t, e] rfl hy (hp_Bc (z := a) rfl b0 t0 (hp_Bc (z := b) rfl b1 t1 (hp_Bc (z := d) rfl b2 t2 (hp_Bc (z := ma) rfl b3 t3 (hp_Bc (z := mb) rfl b4 t4 (hp_Bc (z := md) rfl b5 t5 (hp_Bc (z := t) rfl b6 t6 (hp_Bc (z := e) rfl b7 t7 hp_Bn)))))))) (hp_Fc (z := (0 + (1 * b + ((-1) * mb + 0)))) rfl (by omega) hp_Fn) (hp_Kc (zi := (0 + 0)) (zv := (0 + (1 * a + 0))) k0 rfl rfl (by omega) (by omega) (hp_Kc (zi := (1 + 0)) (zv := (0 + (1 * b + 0))) k1 rfl rfl (by omega) (by omega) (hp_Kc (zi := (2 + 0)) (zv := (0 + (1 * d + 0))) k2 rfl rfl (by omega) (by omega) (hp_Kc (zi := (0 + 0)) (zv := (0 + (1 * ma + 0))) k3 rfl rfl (by omega) (by omega) (hp_Kc (zi := (1 + 0)) (zv := (0 + (1 * mb + 0))) k4 rfl rfl (by omega) (by omega) (hp_Kc (zi := (2 + 0)) (zv := (0 + (1 * md + 0))) k5 rfl rfl (by omega) (by omega) hp_Kn)))))) (hp_La l0 (hp_Li (z := (0 + (1 * t + 0))) l1 rfl (by omega) (hp_Li (z := (0 + (1 * e + 0))) l2 rfl (by omega) (hp_Li (z := (3 + 0)) l3 rfl (by omega) hp_Ln)))) trivial ?_ ?_
  · intro p hp ys l' st' h' hys a1 a2 a3 gZ gL gS
    rcases List.mem_cons.mp hp with rfl | hp
    · obtain rfl := hp_y0 hys
      cases hp_gSn gS
      exact e0 l' h' a1 a2 a3 (hp_gLa gL (List.mem_of_getElem? (i := 0) rfl) (by decide)) (hp_gLi (z := (0 + (1 * t + 0))) gL (List.mem_of_getElem? (i := 1) rfl) rfl (by omega)) (hp_gLi (z := (0 + (1 * e + 0))) gL (List.mem_of_getElem? (i := 2) rfl) rfl (by omega)) (hp_gLi (z := (4 + 0)) gL (List.mem_of_getElem? (i := 3) rfl) rfl (by omega))
    cases hp
  · intro p hp ys v h' hys a1 a2 a3 gZ gS
    cases hp
theorem bt3n1_k : hp_chk 248 6 8 [(0, 0, 10), (1, 0, 10), (2, 0, 10), (3, 0, 10), (4, 0, 10), (5, 0, 10), (6, 0, 7), (7, 0, 400)] [((-1), [(1, (-1)), (4, 1)]), (0, [(2, 1), (5, (-1))])] [(0, .inr (.inr (.inl (some 85)))), (1, .inl (0, [(6, 1)])), (2, .inl (0, [(7, 1)])), (3, .inl (3, []))] [] [(18688, (0, []), (0, [(0, 1)])), (18688, (1, []), (0, [(1, 1)])), (18688, (2, []), (0, [(2, 1)])), (17920, (0, []), (0, [(3, 1)])), (17920, (1, []), (0, [(4, 1)])), (17920, (2, []), (0, [(5, 1)]))] [] 5 [(6, ([], 8, [(0, 0, 10), (1, 0, 10), (2, 0, 10), (3, 0, 10), (4, 0, 10), (5, 0, 10), (6, 0, 7), (7, 0, 400)], [], [(0, .inr (.inr (.inl (some 85)))), (1, .inl (0, [(6, 1)])), (2, .inl (0, [(7, 1)])), (3, .inl (4, []))], [], []))] [] = true := by decide +kernel
theorem bt3n1 {cst : am_K} {strs : List Nat} {Φ : am_Q → Prop} {D : Nat} {M : am_M} {h : am_H} {l : am_L} (c : hp_C cst strs D) (hM : m_P[248]? = some M) (hD : (5 : Int) ≤ (D : Int) + 1) (hy : ly_hy m_tt ly_TH h) (a b d ma mb md t e : Int) (b0 : 0 ≤ a) (t0 : a ≤ 10) (b1 : 0 ≤ b) (t1 : b ≤ 10) (b2 : 0 ≤ d) (t2 : d ≤ 10) (b3 : 0 ≤ ma) (t3 : ma ≤ 10) (b4 : 0 ≤ mb) (t4 : mb ≤ 10) (b5 : 0 ≤ md) (t5 : md ≤ 10) (b6 : 0 ≤ t) (t6 : t ≤ 7) (b7 : 0 ≤ e) (t7 : e ≤ 400) (f0 : 0 ≤ (mb - b - 1)) (f1 : 0 ≤ (d - md)) (k0 : ly_hv cst h 18688 0 = some (a)) (k1 : ly_hv cst h 18688 1 = some (b)) (k2 : ly_hv cst h 18688 2 = some (d)) (k3 : ly_hv cst h 17920 0 = some (ma)) (k4 : ly_hv cst h 17920 1 = some (mb)) (k5 : ly_hv cst h 17920 2 = some (md)) (l0 : hp_a l 0 85) (l1 : hp_i l 1 (t)) (l2 : hp_i l 2 (e)) (l3 : hp_i l 3 3) (e0 : ∀ (l' : am_L) (h' : am_H), ly_hy m_tt ly_TH h' → ly_fr cst [] h h' → h.length ≤ h'.length → hp_a l' 0 85 → hp_i l' 1 (t) → hp_i l' 2 (e) → hp_i l' 3 4 → hp_F cst strs Φ D M 6 l' [] h') : hp_F cst strs Φ D M 6 l [] h := by
  refine hp_arc c hM bt3n1_k hD [a, b, d, ma, mb, md, t, e] rfl hy (hp_Bc (z := a) rfl b0 t0 (hp_Bc (z := b) rfl b1 t1 (hp_Bc (z := d) rfl b2 t2 (hp_Bc (z := ma) rfl b3 t3 (hp_Bc (z := mb) rfl b4 t4 (hp_Bc (z := md) rfl b5 t5 (hp_Bc (z := t) rfl b6 t6 (hp_Bc (z := e) rfl b7 t7 hp_Bn)))))))) (hp_Fc (z := ((-1) + ((-1) * b + (1 * mb + 0)))) rfl (by omega) (hp_Fc (z := (0 + (1 * d + ((-1) * md + 0)))) rfl (by omega) hp_Fn)) (hp_Kc (zi := (0 + 0)) (zv := (0 + (1 * a + 0))) k0 rfl rfl (by omega) (by omega) (hp_Kc (zi := (1 + 0)) (zv := (0 + (1 * b + 0))) k1 rfl rfl (by omega) (by omega) (hp_Kc (zi := (2 + 0)) (zv := (0 + (1 * d + 0))) k2 rfl rfl (by omega) (by omega) (hp_Kc (zi := (0 + 0)) (zv := (0 + (1 * ma + 0))) k3 rfl rfl (by omega) (by omega) (hp_Kc (zi := (1 + 0)) (zv := (0 + (1 * mb + 0))) k4 rfl rfl (by omega) (by omega) (hp_Kc (zi := (2 + 0)) (zv := (0 + (1 * md + 0))) k5 rfl rfl (by omega) (by omega) hp_Kn)))))) (hp_La l0 (hp_Li (z := (0 + (1 * t + 0))) l1 rfl (by omega) (hp_Li (z := (0 + (1 * e + 0))) l2 rfl (by omega) (hp_Li (z := (3 + 0)) l3 rfl (by omega) hp_Ln)))) trivial ?_ ?_
  · intro p hp ys l' st' h' hys a1 a2 a3 gZ gL gS
    rcases List.mem_cons.mp hp with rfl | hp
    · obtain rfl := hp_y0 hys
      cases hp_gSn gS
      exact e0 l' h' a1 a2 a3 (hp_gLa gL (List.mem_of_getElem? (i := 0) rfl) (by decide)) (hp_gLi (z := (0 + (1 * t + 0))) gL (List.mem_of_getElem? (i := 1) rfl) rfl (by omega)) (hp_gLi (z := (0 + (1 * e + 0))) gL (List.mem_of_getElem? (i := 2) rfl) rfl (by omega)) (hp_gLi (z := (4 + 0)) gL (List.mem_of_getElem? (i := 3) rfl) rfl (by omega))
    cases hp
  · intro p hp ys v h' hys a1 a2 a3 gZ gS
    cases hp
theorem bt3v_k : hp_chk 248 6 8 [(0, 0, 10), (1, 0, 10), (2, 0, 10), (3, 0, 10), (4, 0, 10), (5, 0, 10), (6, 0, 7), (7, 0, 400)] [((-1), [(1, (-1)), (4, 1)]), ((-1), [(2, (-1)), (5, 1)])] [(0, .inr (.inr (.inl (some 85)))), (1, .inl (0, [(6, 1)])), (2, .inl (0, [(7, 1)])), (3, .inl (3, []))] [] [(18688, (0, []), (0, [(0, 1)])), (18688, (1, []), (0, [(1, 1)])), (18688, (2, []), (0, [(2, 1)])), (17920, (0, []), (0, [(3, 1)])), (17920, (1, []), (0, [(4, 1)])), (17920, (2, []), (0, [(5, 1)]))] [] 5 [(32, ([], 8, [(0, 0, 10), (1, 0, 10), (2, 0, 10), (3, 0, 10), (4, 0, 10), (5, 0, 10), (6, 0, 7), (7, 0, 400)], [], [(0, .inr (.inr (.inl (some 85)))), (1, .inl (0, [(6, 1)])), (2, .inl (0, [(7, 1)])), (3, .inl (3, []))], [.inl (6, []), .inr (.inr (.inl (some 85)))], []))] [] = true := by decide +kernel
theorem bt3v {cst : am_K} {strs : List Nat} {Φ : am_Q → Prop} {D : Nat} {M : am_M} {h : am_H} {l : am_L} (c : hp_C cst strs D) (hM : m_P[248]? = some M) (hD : (5 : Int) ≤ (D : Int) + 1) (hy : ly_hy m_tt ly_TH h) (a b d ma mb md t e : Int) (b0 : 0 ≤ a) (t0 : a ≤ 10) (b1 : 0 ≤ b) (t1 : b ≤ 10) (b2 : 0 ≤ d) (t2 : d ≤ 10) (b3 : 0 ≤ ma) (t3 : ma ≤ 10) (b4 : 0 ≤ mb) (t4 : mb ≤ 10) (b5 : 0 ≤ md) (t5 : md ≤ 10) (b6 : 0 ≤ t) (t6 : t ≤ 7) (b7 : 0 ≤ e) (t7 : e ≤ 400) (f0 : 0 ≤ (mb - b - 1)) (f1 : 0 ≤ (md - d - 1)) (k0 : ly_hv cst h 18688 0 = some (a)) (k1 : ly_hv cst h 18688 1 = some (b)) (k2 : ly_hv cst h 18688 2 = some (d)) (k3 : ly_hv cst h 17920 0 = some (ma)) (k4 : ly_hv cst h 17920 1 = some (mb)) (k5 : ly_hv cst h 17920 2 = some (md)) (l0 : hp_a l 0 85) (l1 : hp_i l 1 (t)) (l2 : hp_i l 2 (e)) (l3 : hp_i l 3 3) (e0 : ∀ (l' : am_L) (h' : am_H) (y0 : Int32), y0.toInt = 6 → ly_hy m_tt ly_TH h' → ly_fr cst [] h h' → h.length ≤ h'.length → hp_a l' 0 85 → hp_i l' 1 (t) → hp_i l' 2 (e) → hp_i l' 3 3 → hp_F cst strs Φ D M 32 l' [.int y0, .ref 85] h') : hp_F cst strs Φ D M 6 l [] h := by
  refine hp_arc c hM bt3v_k hD [a, b, d, ma, mb, md, t, e] rfl hy (hp_Bc (z := a) rfl b0 t0 (hp_Bc (z := b) rfl b1 t1 (hp_Bc (z := d) rfl b2 t2 (hp_Bc (z := ma) rfl b3 t3 (hp_Bc (z := mb) rfl b4 t4 (hp_Bc (z := md) rfl b5 t5 (hp_Bc (z := t) rfl b6 t6 (hp_Bc (z := e) rfl b7 t7 hp_Bn)))))))) (hp_Fc (z := ((-1) + ((-1) * b + (1 * mb + 0)))) rfl (by omega) (hp_Fc (z := ((-1) + ((-1) * d + (1 * md + 0)))) rfl (by omega) hp_Fn)) (hp_Kc (zi := (0 + 0)) (zv := (0 + (1 * a + 0))) k0 rfl rfl (by omega) (by omega) (hp_Kc (zi := (1 + 0)) (zv := (0 + (1 * b + 0))) k1 rfl rfl (by omega) (by omega) (hp_Kc (zi := (2 + 0)) (zv := (0 + (1 * d + 0))) k2 rfl rfl (by omega) (by omega) (hp_Kc (zi := (0 + 0)) (zv := (0 + (1 * ma + 0))) k3 rfl rfl (by omega) (by omega) (hp_Kc (zi := (1 + 0)) (zv := (0 + (1 * mb + 0))) k4 rfl rfl (by omega) (by omega) (hp_Kc (zi := (2 + 0)) (zv := (0 + (1 * md + 0))) k5 rfl rfl (by omega) (by omega) hp_Kn)))))) (hp_La l0 (hp_Li (z := (0 + (1 * t + 0))) l1 rfl (by omega) (hp_Li (z := (0 + (1 * e + 0))) l2 rfl (by omega) (hp_Li (z := (3 + 0)) l3 rfl (by omega) hp_Ln)))) trivial ?_ ?_
  · intro p hp ys l' st' h' hys a1 a2 a3 gZ gL gS
    rcases List.mem_cons.mp hp with rfl | hp
    · obtain rfl := hp_y0 hys
      obtain ⟨y0, t0, rfl, q0, g0⟩ := hp_gSi (z := (6 + 0)) gS rfl
      obtain ⟨t1, rfl, g1⟩ := hp_gSa g0 (by decide)
      cases hp_gSn g1
      exact e0 l' h' y0 (by omega) a1 a2 a3 (hp_gLa gL (List.mem_of_getElem? (i := 0) rfl) (by decide)) (hp_gLi (z := (0 + (1 * t + 0))) gL (List.mem_of_getElem? (i := 1) rfl) rfl (by omega)) (hp_gLi (z := (0 + (1 * e + 0))) gL (List.mem_of_getElem? (i := 2) rfl) rfl (by omega)) (hp_gLi (z := (3 + 0)) gL (List.mem_of_getElem? (i := 3) rfl) rfl (by omega))
    cases hp
  · intro p hp ys v h' hys a1 a2 a3 gZ gS
    cases hp
theorem bt3a_k : hp_chk 248 35 1 [(0, 0, 400)] [] [(0, .inr (.inr (.inl (some 85)))), (1, .inl (0, [])), (2, .inl (0, [])), (3, .inl (3, []))] [.inl (0, [(0, 1)])] [] [] 5 [(6, ([], 1, [(0, 0, 400)], [], [(0, .inr (.inr (.inl (some 85)))), (1, .inl (6, [])), (2, .inl (0, [(0, 1)])), (3, .inl (4, []))], [], []))] [] = true := by decide +kernel
theorem bt3a {cst : am_K} {strs : List Nat} {Φ : am_Q → Prop} {D : Nat} {M : am_M} {h : am_H} {l : am_L} (c : hp_C cst strs D) (hM : m_P[248]? = some M) (hD : (5 : Int) ≤ (D : Int) + 1) (hy : ly_hy m_tt ly_TH h) (k : Int) (x0 : Int32) (hx0 : x0.toInt = (k)) (b0 : 0 ≤ k) (t0 : k ≤ 400) (l0 : hp_a l 0 85) (l1 : hp_i l 1 0) (l2 : hp_i l 2 0) (l3 : hp_i l 3 3) (e0 : ∀ (l' : am_L) (h' : am_H), ly_hy m_tt ly_TH h' → ly_fr cst [] h h' → h.length ≤ h'.length → hp_a l' 0 85 → hp_i l' 1 6 → hp_i l' 2 (k) → hp_i l' 3 4 → hp_F cst strs Φ D M 6 l' [] h') : hp_F cst strs Φ D M 35 l [.int x0] h := by
  refine hp_arc c hM bt3a_k hD [k] rfl hy (hp_Bc (z := k) rfl b0 t0 hp_Bn) hp_Fn hp_Kn (hp_La l0 (hp_Li (z := (0 + 0)) l1 rfl (by omega) (hp_Li (z := (0 + 0)) l2 rfl (by omega) (hp_Li (z := (3 + 0)) l3 rfl (by omega) hp_Ln)))) (hp_Si (z := (0 + (1 * k + 0))) rfl (by omega) trivial) ?_ ?_
  · intro p hp ys l' st' h' hys a1 a2 a3 gZ gL gS
    rcases List.mem_cons.mp hp with rfl | hp
    · obtain rfl := hp_y0 hys
      cases hp_gSn gS
      exact e0 l' h' a1 a2 a3 (hp_gLa gL (List.mem_of_getElem? (i := 0) rfl) (by decide)) (hp_gLi (z := (6 + 0)) gL (List.mem_of_getElem? (i := 1) rfl) rfl (by omega)) (hp_gLi (z := (0 + (1 * k + 0))) gL (List.mem_of_getElem? (i := 2) rfl) rfl (by omega)) (hp_gLi (z := (4 + 0)) gL (List.mem_of_getElem? (i := 3) rfl) rfl (by omega))
    cases hp
  · intro p hp ys v h' hys a1 a2 a3 gZ gS
    cases hp
theorem bt3b_k : hp_chk 248 35 3 [(0, 1, 7), (1, 0, 400), (2, 0, 400)] [((-1), [(1, 1), (2, (-1))])] [(0, .inr (.inr (.inl (some 85)))), (1, .inl (0, [(0, 1)])), (2, .inl (0, [(1, 1)])), (3, .inl (3, []))] [.inl (0, [(2, 1)])] [] [] 5 [(6, ([], 3, [(0, 1, 7), (1, 0, 400), (2, 0, 400)], [], [(0, .inr (.inr (.inl (some 85)))), (1, .inl (6, [])), (2, .inl (0, [(2, 1)])), (3, .inl (4, []))], [], []))] [] = true := by decide +kernel
theorem bt3b {cst : am_K} {strs : List Nat} {Φ : am_Q → Prop} {D : Nat} {M : am_M} {h : am_H} {l : am_L} (c : hp_C cst strs D) (hM : m_P[248]? = some M) (hD : (5 : Int) ≤ (D : Int) + 1) (hy : ly_hy m_tt ly_TH h) (t e k : Int) (x0 : Int32) (hx0 : x0.toInt = (k)) (b0 : 1 ≤ t) (t0 : t ≤ 7) (b1 : 0 ≤ e) (t1 : e ≤ 400) (b2 : 0 ≤ k) (t2 : k ≤ 400) (f0 : 0 ≤ (e - k - 1)) (l0 : hp_a l 0 85) (l1 : hp_i l 1 (t)) (l2 : hp_i l 2 (e)) (l3 : hp_i l 3 3) (e0 : ∀ (l' : am_L) (h' : am_H), ly_hy m_tt ly_TH h' → ly_fr cst [] h h' → h.length ≤ h'.length → hp_a l' 0 85 → hp_i l' 1 6 → hp_i l' 2 (k) → hp_i l' 3 4 → hp_F cst strs Φ D M 6 l' [] h') : hp_F cst strs Φ D M 35 l [.int x0] h := by
  refine hp_arc c hM bt3b_k hD [t, e, k] rfl hy (hp_Bc (z := t) rfl b0 t0 (hp_Bc (z := e) rfl b1 t1 (hp_Bc (z := k) rfl b2 t2 hp_Bn))) (hp_Fc (z := ((-1) + (1 * e + ((-1) * k + 0)))) rfl (by omega) hp_Fn) hp_Kn (hp_La l0 (hp_Li (z := (0 + (1 * t + 0))) l1 rfl (by omega) (hp_Li (z := (0 + (1 * e + 0))) l2 rfl (by omega) (hp_Li (z := (3 + 0)) l3 rfl (by omega) hp_Ln)))) (hp_Si (z := (0 + (1 * k + 0))) rfl (by omega) trivial) ?_ ?_
  · intro p hp ys l' st' h' hys a1 a2 a3 gZ gL gS
    rcases List.mem_cons.mp hp with rfl | hp
    · obtain rfl := hp_y0 hys
      cases hp_gSn gS
      exact e0 l' h' a1 a2 a3 (hp_gLa gL (List.mem_of_getElem? (i := 0) rfl) (by decide)) (hp_gLi (z := (6 + 0)) gL (List.mem_of_getElem? (i := 1) rfl) rfl (by omega)) (hp_gLi (z := (0 + (1 * k + 0))) gL (List.mem_of_getElem? (i := 2) rfl) rfl (by omega)) (hp_gLi (z := (4 + 0)) gL (List.mem_of_getElem? (i := 3) rfl) rfl (by omega))
    cases hp
  · intro p hp ys v h' hys a1 a2 a3 gZ gS
    cases hp
theorem bt3c_k : hp_chk 248 35 3 [(0, 1, 7), (1, 0, 400), (2, 0, 400)] [(0, [(1, (-1)), (2, 1)])] [(0, .inr (.inr (.inl (some 85)))), (1, .inl (0, [(0, 1)])), (2, .inl (0, [(1, 1)])), (3, .inl (3, []))] [.inl (0, [(2, 1)])] [] [] 5 [(6, ([], 3, [(0, 1, 7), (1, 0, 400), (2, 0, 400)], [], [(0, .inr (.inr (.inl (some 85)))), (1, .inl (0, [(0, 1)])), (2, .inl (0, [(1, 1)])), (3, .inl (4, []))], [], []))] [] = true := by decide +kernel
theorem bt3c {cst : am_K} {strs : List Nat} {Φ : am_Q → Prop} {D : Nat} {M : am_M} {h : am_H} {l : am_L} (c : hp_C cst strs D) (hM : m_P[248]? = some M) (hD : (5 : Int) ≤ (D : Int) + 1) (hy : ly_hy m_tt ly_TH h) (t e k : Int) (x0 : Int32) (hx0 : x0.toInt = (k)) (b0 : 1 ≤ t) (t0 : t ≤ 7) (b1 : 0 ≤ e) (t1 : e ≤ 400) (b2 : 0 ≤ k) (t2 : k ≤ 400) (f0 : 0 ≤ (k - e)) (l0 : hp_a l 0 85) (l1 : hp_i l 1 (t)) (l2 : hp_i l 2 (e)) (l3 : hp_i l 3 3) (e0 : ∀ (l' : am_L) (h' : am_H), ly_hy m_tt ly_TH h' → ly_fr cst [] h h' → h.length ≤ h'.length → hp_a l' 0 85 → hp_i l' 1 (t) → hp_i l' 2 (e) → hp_i l' 3 4 → hp_F cst strs Φ D M 6 l' [] h') : hp_F cst strs Φ D M 35 l [.int x0] h := by
  refine hp_arc c hM bt3c_k hD [t, e, k] rfl hy (hp_Bc (z := t) rfl b0 t0 (hp_Bc (z := e) rfl b1 t1 (hp_Bc (z := k) rfl b2 t2 hp_Bn))) (hp_Fc (z := (0 + ((-1) * e + (1 * k + 0)))) rfl (by omega) hp_Fn) hp_Kn (hp_La l0 (hp_Li (z := (0 + (1 * t + 0))) l1 rfl (by omega) (hp_Li (z := (0 + (1 * e + 0))) l2 rfl (by omega) (hp_Li (z := (3 + 0)) l3 rfl (by omega) hp_Ln)))) (hp_Si (z := (0 + (1 * k + 0))) rfl (by omega) trivial) ?_ ?_
  · intro p hp ys l' st' h' hys a1 a2 a3 gZ gL gS
    rcases List.mem_cons.mp hp with rfl | hp
    · obtain rfl := hp_y0 hys
      cases hp_gSn gS
      exact e0 l' h' a1 a2 a3 (hp_gLa gL (List.mem_of_getElem? (i := 0) rfl) (by decide)) (hp_gLi (z := (0 + (1 * t + 0))) gL (List.mem_of_getElem? (i := 1) rfl) rfl (by omega)) (hp_gLi (z := (0 + (1 * e + 0))) gL (List.mem_of_getElem? (i := 2) rfl) rfl (by omega)) (hp_gLi (z := (4 + 0)) gL (List.mem_of_getElem? (i := 3) rfl) rfl (by omega))
    cases hp
  · intro p hp ys v h' hys a1 a2 a3 gZ gS
    cases hp
theorem bt4n0_k : hp_chk 248 6 8 [(0, 0, 10), (1, 0, 10), (2, 0, 10), (3, 0, 10), (4, 0, 10), (5, 0, 10), (6, 0, 7), (7, 0, 400)] [(0, [(0, 1), (3, (-1))])] [(0, .inr (.inr (.inl (some 85)))), (1, .inl (0, [(6, 1)])), (2, .inl (0, [(7, 1)])), (3, .inl (4, []))] [] [(18688, (0, []), (0, [(0, 1)])), (18688, (1, []), (0, [(1, 1)])), (18688, (2, []), (0, [(2, 1)])), (17920, (0, []), (0, [(3, 1)])), (17920, (1, []), (0, [(4, 1)])), (17920, (2, []), (0, [(5, 1)]))] [] 5 [(6, ([], 8, [(0, 0, 10), (1, 0, 10), (2, 0, 10), (3, 0, 10), (4, 0, 10), (5, 0, 10), (6, 0, 7), (7, 0, 400)], [], [(0, .inr (.inr (.inl (some 85)))), (1, .inl (0, [(6, 1)])), (2, .inl (0, [(7, 1)])), (3, .inl (5, []))], [], []))] [] = true := by decide +kernel
theorem bt4n0 {cst : am_K} {strs : List Nat} {Φ : am_Q → Prop} {D : Nat} {M : am_M} {h : am_H} {l : am_L} (c : hp_C cst strs D) (hM : m_P[248]? = some M) (hD : (5 : Int) ≤ (D : Int) + 1) (hy : ly_hy m_tt ly_TH h) (a b d ma mb md t e : Int) (b0 : 0 ≤ a) (t0 : a ≤ 10) (b1 : 0 ≤ b) (t1 : b ≤ 10) (b2 : 0 ≤ d) (t2 : d ≤ 10) (b3 : 0 ≤ ma) (t3 : ma ≤ 10) (b4 : 0 ≤ mb) (t4 : mb ≤ 10) (b5 : 0 ≤ md) (t5 : md ≤ 10) (b6 : 0 ≤ t) (t6 : t ≤ 7) (b7 : 0 ≤ e) (t7 : e ≤ 400) (f0 : 0 ≤ (a - ma)) (k0 : ly_hv cst h 18688 0 = some (a)) (k1 : ly_hv cst h 18688 1 = some (b)) (k2 : ly_hv cst h 18688 2 = some (d)) (k3 : ly_hv cst h 17920 0 = some (ma)) (k4 : ly_hv cst h 17920 1 = some (mb)) (k5 : ly_hv cst h 17920 2 = some (md)) (l0 : hp_a l 0 85) (l1 : hp_i l 1 (t)) (l2 : hp_i l 2 (e)) (l3 : hp_i l 3 4) (e0 : ∀ (l' : am_L) (h' : am_H), ly_hy m_tt ly_TH h' → ly_fr cst [] h h' → h.length ≤ h'.length → hp_a l' 0 85 → hp_i l' 1 (t) → hp_i l' 2 (e) → hp_i l' 3 5 → hp_F cst strs Φ D M 6 l' [] h') : hp_F cst strs Φ D M 6 l [] h := by
  refine hp_arc c hM bt4n0_k hD [a, b, d, ma, mb, md, t, e] rfl hy (hp_Bc (z := a) rfl b0 t0 (hp_Bc (z := b) rfl b1 t1 (hp_Bc (z := d) rfl b2 t2 (hp_Bc (z := ma) rfl b3 t3 (hp_Bc (z := mb) rfl b4 t4 (hp_Bc (z := md) rfl b5 t5 (hp_Bc (z := t) rfl b6 t6 (hp_Bc (z := e) rfl b7 t7 hp_Bn)))))))) (hp_Fc (z := (0 + (1 * a + ((-1) * ma + 0)))) rfl (by omega) hp_Fn) (hp_Kc (zi := (0 + 0)) (zv := (0 + (1 * a + 0))) k0 rfl rfl (by omega) (by omega) (hp_Kc (zi := (1 + 0)) (zv := (0 + (1 * b + 0))) k1 rfl rfl (by omega) (by omega) (hp_Kc (zi := (2 + 0)) (zv := (0 + (1 * d + 0))) k2 rfl rfl (by omega) (by omega) (hp_Kc (zi := (0 + 0)) (zv := (0 + (1 * ma + 0))) k3 rfl rfl (by omega) (by omega) (hp_Kc (zi := (1 + 0)) (zv := (0 + (1 * mb + 0))) k4 rfl rfl (by omega) (by omega) (hp_Kc (zi := (2 + 0)) (zv := (0 + (1 * md + 0))) k5 rfl rfl (by omega) (by omega) hp_Kn)))))) (hp_La l0 (hp_Li (z := (0 + (1 * t + 0))) l1 rfl (by omega) (hp_Li (z := (0 + (1 * e + 0))) l2 rfl (by omega) (hp_Li (z := (4 + 0)) l3 rfl (by omega) hp_Ln)))) trivial ?_ ?_
  · intro p hp ys l' st' h' hys a1 a2 a3 gZ gL gS
    rcases List.mem_cons.mp hp with rfl | hp
    · obtain rfl := hp_y0 hys
      cases hp_gSn gS
      exact e0 l' h' a1 a2 a3 (hp_gLa gL (List.mem_of_getElem? (i := 0) rfl) (by decide)) (hp_gLi (z := (0 + (1 * t + 0))) gL (List.mem_of_getElem? (i := 1) rfl) rfl (by omega)) (hp_gLi (z := (0 + (1 * e + 0))) gL (List.mem_of_getElem? (i := 2) rfl) rfl (by omega)) (hp_gLi (z := (5 + 0)) gL (List.mem_of_getElem? (i := 3) rfl) rfl (by omega))
    cases hp
  · intro p hp ys v h' hys a1 a2 a3 gZ gS
    cases hp
theorem bt4v_k : hp_chk 248 6 8 [(0, 0, 10), (1, 0, 10), (2, 0, 10), (3, 0, 10), (4, 0, 10), (5, 0, 10), (6, 0, 7), (7, 0, 400)] [((-1), [(0, (-1)), (3, 1)])] [(0, .inr (.inr (.inl (some 85)))), (1, .inl (0, [(6, 1)])), (2, .inl (0, [(7, 1)])), (3, .inl (4, []))] [] [(18688, (0, []), (0, [(0, 1)])), (18688, (1, []), (0, [(1, 1)])), (18688, (2, []), (0, [(2, 1)])), (17920, (0, []), (0, [(3, 1)])), (17920, (1, []), (0, [(4, 1)])), (17920, (2, []), (0, [(5, 1)]))] [] 5 [(32, ([], 8, [(0, 0, 10), (1, 0, 10), (2, 0, 10), (3, 0, 10), (4, 0, 10), (5, 0, 10), (6, 0, 7), (7, 0, 400)], [], [(0, .inr (.inr (.inl (some 85)))), (1, .inl (0, [(6, 1)])), (2, .inl (0, [(7, 1)])), (3, .inl (4, []))], [.inl (1, []), .inr (.inr (.inl (some 85)))], []))] [] = true := by decide +kernel
theorem bt4v {cst : am_K} {strs : List Nat} {Φ : am_Q → Prop} {D : Nat} {M : am_M} {h : am_H} {l : am_L} (c : hp_C cst strs D) (hM : m_P[248]? = some M) (hD : (5 : Int) ≤ (D : Int) + 1) (hy : ly_hy m_tt ly_TH h) (a b d ma mb md t e : Int) (b0 : 0 ≤ a) (t0 : a ≤ 10) (b1 : 0 ≤ b) (t1 : b ≤ 10) (b2 : 0 ≤ d) (t2 : d ≤ 10) (b3 : 0 ≤ ma) (t3 : ma ≤ 10) (b4 : 0 ≤ mb) (t4 : mb ≤ 10) (b5 : 0 ≤ md) (t5 : md ≤ 10) (b6 : 0 ≤ t) (t6 : t ≤ 7) (b7 : 0 ≤ e) (t7 : e ≤ 400) (f0 : 0 ≤ (ma - a - 1)) (k0 : ly_hv cst h 18688 0 = some (a)) (k1 : ly_hv cst h 18688 1 = some (b)) (k2 : ly_hv cst h 18688 2 = some (d)) (k3 : ly_hv cst h 17920 0 = some (ma)) (k4 : ly_hv cst h 17920 1 = some (mb)) (k5 : ly_hv cst h 17920 2 = some (md)) (l0 : hp_a l 0 85) (l1 : hp_i l 1 (t)) (l2 : hp_i l 2 (e)) (l3 : hp_i l 3 4) (e0 : ∀ (l' : am_L) (h' : am_H) (y0 : Int32), y0.toInt = 1 → ly_hy m_tt ly_TH h' → ly_fr cst [] h h' → h.length ≤ h'.length → hp_a l' 0 85 → hp_i l' 1 (t) → hp_i l' 2 (e) → hp_i l' 3 4 → hp_F cst strs Φ D M 32 l' [.int y0, .ref 85] h') : hp_F cst strs Φ D M 6 l [] h := by
  refine hp_arc c hM bt4v_k hD [a, b, d, ma, mb, md, t, e] rfl hy (hp_Bc (z := a) rfl b0 t0 (hp_Bc (z := b) rfl b1 t1 (hp_Bc (z := d) rfl b2 t2 (hp_Bc (z := ma) rfl b3 t3 (hp_Bc (z := mb) rfl b4 t4 (hp_Bc (z := md) rfl b5 t5 (hp_Bc (z := t) rfl b6 t6 (hp_Bc (z := e) rfl b7 t7 hp_Bn)))))))) (hp_Fc (z := ((-1) + ((-1) * a + (1 * ma + 0)))) rfl (by omega) hp_Fn) (hp_Kc (zi := (0 + 0)) (zv := (0 + (1 * a + 0))) k0 rfl rfl (by omega) (by omega) (hp_Kc (zi := (1 + 0)) (zv := (0 + (1 * b + 0))) k1 rfl rfl (by omega) (by omega) (hp_Kc (zi := (2 + 0)) (zv := (0 + (1 * d + 0))) k2 rfl rfl (by omega) (by omega) (hp_Kc (zi := (0 + 0)) (zv := (0 + (1 * ma + 0))) k3 rfl rfl (by omega) (by omega) (hp_Kc (zi := (1 + 0)) (zv := (0 + (1 * mb + 0))) k4 rfl rfl (by omega) (by omega) (hp_Kc (zi := (2 + 0)) (zv := (0 + (1 * md + 0))) k5 rfl rfl (by omega) (by omega) hp_Kn)))))) (hp_La l0 (hp_Li (z := (0 + (1 * t + 0))) l1 rfl (by omega) (hp_Li (z := (0 + (1 * e + 0))) l2 rfl (by omega) (hp_Li (z := (4 + 0)) l3 rfl (by omega) hp_Ln)))) trivial ?_ ?_
  · intro p hp ys l' st' h' hys a1 a2 a3 gZ gL gS
    rcases List.mem_cons.mp hp with rfl | hp
    · obtain rfl := hp_y0 hys
      obtain ⟨y0, t0, rfl, q0, g0⟩ := hp_gSi (z := (1 + 0)) gS rfl
      obtain ⟨t1, rfl, g1⟩ := hp_gSa g0 (by decide)
      cases hp_gSn g1
      exact e0 l' h' y0 (by omega) a1 a2 a3 (hp_gLa gL (List.mem_of_getElem? (i := 0) rfl) (by decide)) (hp_gLi (z := (0 + (1 * t + 0))) gL (List.mem_of_getElem? (i := 1) rfl) rfl (by omega)) (hp_gLi (z := (0 + (1 * e + 0))) gL (List.mem_of_getElem? (i := 2) rfl) rfl (by omega)) (hp_gLi (z := (4 + 0)) gL (List.mem_of_getElem? (i := 3) rfl) rfl (by omega))
    cases hp
  · intro p hp ys v h' hys a1 a2 a3 gZ gS
    cases hp
theorem bt4a_k : hp_chk 248 35 1 [(0, 0, 400)] [] [(0, .inr (.inr (.inl (some 85)))), (1, .inl (0, [])), (2, .inl (0, [])), (3, .inl (4, []))] [.inl (0, [(0, 1)])] [] [] 5 [(6, ([], 1, [(0, 0, 400)], [], [(0, .inr (.inr (.inl (some 85)))), (1, .inl (1, [])), (2, .inl (0, [(0, 1)])), (3, .inl (5, []))], [], []))] [] = true := by decide +kernel
theorem bt4a {cst : am_K} {strs : List Nat} {Φ : am_Q → Prop} {D : Nat} {M : am_M} {h : am_H} {l : am_L} (c : hp_C cst strs D) (hM : m_P[248]? = some M) (hD : (5 : Int) ≤ (D : Int) + 1) (hy : ly_hy m_tt ly_TH h) (k : Int) (x0 : Int32) (hx0 : x0.toInt = (k)) (b0 : 0 ≤ k) (t0 : k ≤ 400) (l0 : hp_a l 0 85) (l1 : hp_i l 1 0) (l2 : hp_i l 2 0) (l3 : hp_i l 3 4) (e0 : ∀ (l' : am_L) (h' : am_H), ly_hy m_tt ly_TH h' → ly_fr cst [] h h' → h.length ≤ h'.length → hp_a l' 0 85 → hp_i l' 1 1 → hp_i l' 2 (k) → hp_i l' 3 5 → hp_F cst strs Φ D M 6 l' [] h') : hp_F cst strs Φ D M 35 l [.int x0] h := by
  refine hp_arc c hM bt4a_k hD [k] rfl hy (hp_Bc (z := k) rfl b0 t0 hp_Bn) hp_Fn hp_Kn (hp_La l0 (hp_Li (z := (0 + 0)) l1 rfl (by omega) (hp_Li (z := (0 + 0)) l2 rfl (by omega) (hp_Li (z := (4 + 0)) l3 rfl (by omega) hp_Ln)))) (hp_Si (z := (0 + (1 * k + 0))) rfl (by omega) trivial) ?_ ?_
  · intro p hp ys l' st' h' hys a1 a2 a3 gZ gL gS
    rcases List.mem_cons.mp hp with rfl | hp
    · obtain rfl := hp_y0 hys
      cases hp_gSn gS
      exact e0 l' h' a1 a2 a3 (hp_gLa gL (List.mem_of_getElem? (i := 0) rfl) (by decide)) (hp_gLi (z := (1 + 0)) gL (List.mem_of_getElem? (i := 1) rfl) rfl (by omega)) (hp_gLi (z := (0 + (1 * k + 0))) gL (List.mem_of_getElem? (i := 2) rfl) rfl (by omega)) (hp_gLi (z := (5 + 0)) gL (List.mem_of_getElem? (i := 3) rfl) rfl (by omega))
    cases hp
  · intro p hp ys v h' hys a1 a2 a3 gZ gS
    cases hp
theorem bt4b_k : hp_chk 248 35 3 [(0, 1, 7), (1, 0, 400), (2, 0, 400)] [((-1), [(1, 1), (2, (-1))])] [(0, .inr (.inr (.inl (some 85)))), (1, .inl (0, [(0, 1)])), (2, .inl (0, [(1, 1)])), (3, .inl (4, []))] [.inl (0, [(2, 1)])] [] [] 5 [(6, ([], 3, [(0, 1, 7), (1, 0, 400), (2, 0, 400)], [], [(0, .inr (.inr (.inl (some 85)))), (1, .inl (1, [])), (2, .inl (0, [(2, 1)])), (3, .inl (5, []))], [], []))] [] = true := by decide +kernel
theorem bt4b {cst : am_K} {strs : List Nat} {Φ : am_Q → Prop} {D : Nat} {M : am_M} {h : am_H} {l : am_L} (c : hp_C cst strs D) (hM : m_P[248]? = some M) (hD : (5 : Int) ≤ (D : Int) + 1) (hy : ly_hy m_tt ly_TH h) (t e k : Int) (x0 : Int32) (hx0 : x0.toInt = (k)) (b0 : 1 ≤ t) (t0 : t ≤ 7) (b1 : 0 ≤ e) (t1 : e ≤ 400) (b2 : 0 ≤ k) (t2 : k ≤ 400) (f0 : 0 ≤ (e - k - 1)) (l0 : hp_a l 0 85) (l1 : hp_i l 1 (t)) (l2 : hp_i l 2 (e)) (l3 : hp_i l 3 4) (e0 : ∀ (l' : am_L) (h' : am_H), ly_hy m_tt ly_TH h' → ly_fr cst [] h h' → h.length ≤ h'.length → hp_a l' 0 85 → hp_i l' 1 1 → hp_i l' 2 (k) → hp_i l' 3 5 → hp_F cst strs Φ D M 6 l' [] h') : hp_F cst strs Φ D M 35 l [.int x0] h := by
  refine hp_arc c hM bt4b_k hD [t, e, k] rfl hy (hp_Bc (z := t) rfl b0 t0 (hp_Bc (z := e) rfl b1 t1 (hp_Bc (z := k) rfl b2 t2 hp_Bn))) (hp_Fc (z := ((-1) + (1 * e + ((-1) * k + 0)))) rfl (by omega) hp_Fn) hp_Kn (hp_La l0 (hp_Li (z := (0 + (1 * t + 0))) l1 rfl (by omega) (hp_Li (z := (0 + (1 * e + 0))) l2 rfl (by omega) (hp_Li (z := (4 + 0)) l3 rfl (by omega) hp_Ln)))) (hp_Si (z := (0 + (1 * k + 0))) rfl (by omega) trivial) ?_ ?_
  · intro p hp ys l' st' h' hys a1 a2 a3 gZ gL gS
    rcases List.mem_cons.mp hp with rfl | hp
    · obtain rfl := hp_y0 hys
      cases hp_gSn gS
      exact e0 l' h' a1 a2 a3 (hp_gLa gL (List.mem_of_getElem? (i := 0) rfl) (by decide)) (hp_gLi (z := (1 + 0)) gL (List.mem_of_getElem? (i := 1) rfl) rfl (by omega)) (hp_gLi (z := (0 + (1 * k + 0))) gL (List.mem_of_getElem? (i := 2) rfl) rfl (by omega)) (hp_gLi (z := (5 + 0)) gL (List.mem_of_getElem? (i := 3) rfl) rfl (by omega))
    cases hp
  · intro p hp ys v h' hys a1 a2 a3 gZ gS
    cases hp
theorem bt4c_k : hp_chk 248 35 3 [(0, 1, 7), (1, 0, 400), (2, 0, 400)] [(0, [(1, (-1)), (2, 1)])] [(0, .inr (.inr (.inl (some 85)))), (1, .inl (0, [(0, 1)])), (2, .inl (0, [(1, 1)])), (3, .inl (4, []))] [.inl (0, [(2, 1)])] [] [] 5 [(6, ([], 3, [(0, 1, 7), (1, 0, 400), (2, 0, 400)], [], [(0, .inr (.inr (.inl (some 85)))), (1, .inl (0, [(0, 1)])), (2, .inl (0, [(1, 1)])), (3, .inl (5, []))], [], []))] [] = true := by decide +kernel
theorem bt4c {cst : am_K} {strs : List Nat} {Φ : am_Q → Prop} {D : Nat} {M : am_M} {h : am_H} {l : am_L} (c : hp_C cst strs D) (hM : m_P[248]? = some M) (hD : (5 : Int) ≤ (D : Int) + 1) (hy : ly_hy m_tt ly_TH h) (t e k : Int) (x0 : Int32) (hx0 : x0.toInt = (k)) (b0 : 1 ≤ t) (t0 : t ≤ 7) (b1 : 0 ≤ e) (t1 : e ≤ 400) (b2 : 0 ≤ k) (t2 : k ≤ 400) (f0 : 0 ≤ (k - e)) (l0 : hp_a l 0 85) (l1 : hp_i l 1 (t)) (l2 : hp_i l 2 (e)) (l3 : hp_i l 3 4) (e0 : ∀ (l' : am_L) (h' : am_H), ly_hy m_tt ly_TH h' → ly_fr cst [] h h' → h.length ≤ h'.length → hp_a l' 0 85 → hp_i l' 1 (t) → hp_i l' 2 (e) → hp_i l' 3 5 → hp_F cst strs Φ D M 6 l' [] h') : hp_F cst strs Φ D M 35 l [.int x0] h := by
  refine hp_arc c hM bt4c_k hD [t, e, k] rfl hy (hp_Bc (z := t) rfl b0 t0 (hp_Bc (z := e) rfl b1 t1 (hp_Bc (z := k) rfl b2 t2 hp_Bn))) (hp_Fc (z := (0 + ((-1) * e + (1 * k + 0)))) rfl (by omega) hp_Fn) hp_Kn (hp_La l0 (hp_Li (z := (0 + (1 * t + 0))) l1 rfl (by omega) (hp_Li (z := (0 + (1 * e + 0))) l2 rfl (by omega) (hp_Li (z := (4 + 0)) l3 rfl (by omega) hp_Ln)))) (hp_Si (z := (0 + (1 * k + 0))) rfl (by omega) trivial) ?_ ?_
  · intro p hp ys l' st' h' hys a1 a2 a3 gZ gL gS
    rcases List.mem_cons.mp hp with rfl | hp
    · obtain rfl := hp_y0 hys
      cases hp_gSn gS
      exact e0 l' h' a1 a2 a3 (hp_gLa gL (List.mem_of_getElem? (i := 0) rfl) (by decide)) (hp_gLi (z := (0 + (1 * t + 0))) gL (List.mem_of_getElem? (i := 1) rfl) rfl (by omega)) (hp_gLi (z := (0 + (1 * e + 0))) gL (List.mem_of_getElem? (i := 2) rfl) rfl (by omega)) (hp_gLi (z := (5 + 0)) gL (List.mem_of_getElem? (i := 3) rfl) rfl (by omega))
    cases hp
  · intro p hp ys v h' hys a1 a2 a3 gZ gS
    cases hp
theorem bt5n0_k : hp_chk 248 6 8 [(0, 0, 10), (1, 0, 10), (2, 0, 10), (3, 0, 10), (4, 0, 10), (5, 0, 10), (6, 0, 7), (7, 0, 400)] [(0, [(1, 1), (4, (-1))])] [(0, .inr (.inr (.inl (some 85)))), (1, .inl (0, [(6, 1)])), (2, .inl (0, [(7, 1)])), (3, .inl (5, []))] [] [(18688, (0, []), (0, [(0, 1)])), (18688, (1, []), (0, [(1, 1)])), (18688, (2, []), (0, [(2, 1)])), (17920, (0, []), (0, [(3, 1)])), (17920, (1, []), (0, [(4, 1)])), (17920, (2, []), (0, [(5, 1)]))] [] 5 [(6, ([], 8, [(0, 0, 10), (1, 0, 10), (2, 0, 10), (3, 0, 10), (4, 0, 10), (5, 0, 10), (6, 0, 7), (7, 0, 400)], [], [(0, .inr (.inr (.inl (some 85)))), (1, .inl (0, [(6, 1)])), (2, .inl (0, [(7, 1)])), (3, .inl (6, []))], [], []))] [] = true := by decide +kernel
theorem bt5n0 {cst : am_K} {strs : List Nat} {Φ : am_Q → Prop} {D : Nat} {M : am_M} {h : am_H} {l : am_L} (c : hp_C cst strs D) (hM : m_P[248]? = some M) (hD : (5 : Int) ≤ (D : Int) + 1) (hy : ly_hy m_tt ly_TH h) (a b d ma mb md t e : Int) (b0 : 0 ≤ a) (t0 : a ≤ 10) (b1 : 0 ≤ b) (t1 : b ≤ 10) (b2 : 0 ≤ d) (t2 : d ≤ 10) (b3 : 0 ≤ ma) (t3 : ma ≤ 10) (b4 : 0 ≤ mb) (t4 : mb ≤ 10) (b5 : 0 ≤ md) (t5 : md ≤ 10) (b6 : 0 ≤ t) (t6 : t ≤ 7) (b7 : 0 ≤ e) (t7 : e ≤ 400) (f0 : 0 ≤ (b - mb)) (k0 : ly_hv cst h 18688 0 = some (a)) (k1 : ly_hv cst h 18688 1 = some (b)) (k2 : ly_hv cst h 18688 2 = some (d)) (k3 : ly_hv cst h 17920 0 = some (ma)) (k4 : ly_hv cst h 17920 1 = some (mb)) (k5 : ly_hv cst h 17920 2 = some (md)) (l0 : hp_a l 0 85) (l1 : hp_i l 1 (t)) (l2 : hp_i l 2 (e)) (l3 : hp_i l 3 5) (e0 : ∀ (l' : am_L) (h' : am_H), ly_hy m_tt ly_TH h' → ly_fr cst [] h h' → h.length ≤ h'.length → hp_a l' 0 85 → hp_i l' 1 (t) → hp_i l' 2 (e) → hp_i l' 3 6 → hp_F cst strs Φ D M 6 l' [] h') : hp_F cst strs Φ D M 6 l [] h := by
  refine hp_arc c hM bt5n0_k hD [a, b, d, ma, mb, md, t, e] rfl hy (hp_Bc (z := a) rfl b0 t0 (hp_Bc (z := b) rfl b1 t1 (hp_Bc (z := d) rfl b2 t2 (hp_Bc (z := ma) rfl b3 t3 (hp_Bc (z := mb) rfl b4 t4 (hp_Bc (z := md) rfl b5 t5 (hp_Bc (z := t) rfl b6 t6 (hp_Bc (z := e) rfl b7 t7 hp_Bn)))))))) (hp_Fc (z := (0 + (1 * b + ((-1) * mb + 0)))) rfl (by omega) hp_Fn) (hp_Kc (zi := (0 + 0)) (zv := (0 + (1 * a + 0))) k0 rfl rfl (by omega) (by omega) (hp_Kc (zi := (1 + 0)) (zv := (0 + (1 * b + 0))) k1 rfl rfl (by omega) (by omega) (hp_Kc (zi := (2 + 0)) (zv := (0 + (1 * d + 0))) k2 rfl rfl (by omega) (by omega) (hp_Kc (zi := (0 + 0)) (zv := (0 + (1 * ma + 0))) k3 rfl rfl (by omega) (by omega) (hp_Kc (zi := (1 + 0)) (zv := (0 + (1 * mb + 0))) k4 rfl rfl (by omega) (by omega) (hp_Kc (zi := (2 + 0)) (zv := (0 + (1 * md + 0))) k5 rfl rfl (by omega) (by omega) hp_Kn)))))) (hp_La l0 (hp_Li (z := (0 + (1 * t + 0))) l1 rfl (by omega) (hp_Li (z := (0 + (1 * e + 0))) l2 rfl (by omega) (hp_Li (z := (5 + 0)) l3 rfl (by omega) hp_Ln)))) trivial ?_ ?_
  · intro p hp ys l' st' h' hys a1 a2 a3 gZ gL gS
    rcases List.mem_cons.mp hp with rfl | hp
    · obtain rfl := hp_y0 hys
      cases hp_gSn gS
      exact e0 l' h' a1 a2 a3 (hp_gLa gL (List.mem_of_getElem? (i := 0) rfl) (by decide)) (hp_gLi (z := (0 + (1 * t + 0))) gL (List.mem_of_getElem? (i := 1) rfl) rfl (by omega)) (hp_gLi (z := (0 + (1 * e + 0))) gL (List.mem_of_getElem? (i := 2) rfl) rfl (by omega)) (hp_gLi (z := (6 + 0)) gL (List.mem_of_getElem? (i := 3) rfl) rfl (by omega))
    cases hp
  · intro p hp ys v h' hys a1 a2 a3 gZ gS
    cases hp
theorem bt5v_k : hp_chk 248 6 8 [(0, 0, 10), (1, 0, 10), (2, 0, 10), (3, 0, 10), (4, 0, 10), (5, 0, 10), (6, 0, 7), (7, 0, 400)] [((-1), [(1, (-1)), (4, 1)])] [(0, .inr (.inr (.inl (some 85)))), (1, .inl (0, [(6, 1)])), (2, .inl (0, [(7, 1)])), (3, .inl (5, []))] [] [(18688, (0, []), (0, [(0, 1)])), (18688, (1, []), (0, [(1, 1)])), (18688, (2, []), (0, [(2, 1)])), (17920, (0, []), (0, [(3, 1)])), (17920, (1, []), (0, [(4, 1)])), (17920, (2, []), (0, [(5, 1)]))] [] 5 [(32, ([], 8, [(0, 0, 10), (1, 0, 10), (2, 0, 10), (3, 0, 10), (4, 0, 10), (5, 0, 10), (6, 0, 7), (7, 0, 400)], [], [(0, .inr (.inr (.inl (some 85)))), (1, .inl (0, [(6, 1)])), (2, .inl (0, [(7, 1)])), (3, .inl (5, []))], [.inl (2, []), .inr (.inr (.inl (some 85)))], []))] [] = true := by decide +kernel
theorem bt5v {cst : am_K} {strs : List Nat} {Φ : am_Q → Prop} {D : Nat} {M : am_M} {h : am_H} {l : am_L} (c : hp_C cst strs D) (hM : m_P[248]? = some M) (hD : (5 : Int) ≤ (D : Int) + 1) (hy : ly_hy m_tt ly_TH h) (a b d ma mb md t e : Int) (b0 : 0 ≤ a) (t0 : a ≤ 10) (b1 : 0 ≤ b) (t1 : b ≤ 10) (b2 : 0 ≤ d) (t2 : d ≤ 10) (b3 : 0 ≤ ma) (t3 : ma ≤ 10) (b4 : 0 ≤ mb) (t4 : mb ≤ 10) (b5 : 0 ≤ md) (t5 : md ≤ 10) (b6 : 0 ≤ t) (t6 : t ≤ 7) (b7 : 0 ≤ e) (t7 : e ≤ 400) (f0 : 0 ≤ (mb - b - 1)) (k0 : ly_hv cst h 18688 0 = some (a)) (k1 : ly_hv cst h 18688 1 = some (b)) (k2 : ly_hv cst h 18688 2 = some (d)) (k3 : ly_hv cst h 17920 0 = some (ma)) (k4 : ly_hv cst h 17920 1 = some (mb)) (k5 : ly_hv cst h 17920 2 = some (md)) (l0 : hp_a l 0 85) (l1 : hp_i l 1 (t)) (l2 : hp_i l 2 (e)) (l3 : hp_i l 3 5) (e0 : ∀ (l' : am_L) (h' : am_H) (y0 : Int32), y0.toInt = 2 → ly_hy m_tt ly_TH h' → ly_fr cst [] h h' → h.length ≤ h'.length → hp_a l' 0 85 → hp_i l' 1 (t) → hp_i l' 2 (e) → hp_i l' 3 5 → hp_F cst strs Φ D M 32 l' [.int y0, .ref 85] h') : hp_F cst strs Φ D M 6 l [] h := by
  refine hp_arc c hM bt5v_k hD [a, b, d, ma, mb, md, t, e] rfl hy (hp_Bc (z := a) rfl b0 t0 (hp_Bc (z := b) rfl b1 t1 (hp_Bc (z := d) rfl b2 t2 (hp_Bc (z := ma) rfl b3 t3 (hp_Bc (z := mb) rfl b4 t4 (hp_Bc (z := md) rfl b5 t5 (hp_Bc (z := t) rfl b6 t6 (hp_Bc (z := e) rfl b7 t7 hp_Bn)))))))) (hp_Fc (z := ((-1) + ((-1) * b + (1 * mb + 0)))) rfl (by omega) hp_Fn) (hp_Kc (zi := (0 + 0)) (zv := (0 + (1 * a + 0))) k0 rfl rfl (by omega) (by omega) (hp_Kc (zi := (1 + 0)) (zv := (0 + (1 * b + 0))) k1 rfl rfl (by omega) (by omega) (hp_Kc (zi := (2 + 0)) (zv := (0 + (1 * d + 0))) k2 rfl rfl (by omega) (by omega) (hp_Kc (zi := (0 + 0)) (zv := (0 + (1 * ma + 0))) k3 rfl rfl (by omega) (by omega) (hp_Kc (zi := (1 + 0)) (zv := (0 + (1 * mb + 0))) k4 rfl rfl (by omega) (by omega) (hp_Kc (zi := (2 + 0)) (zv := (0 + (1 * md + 0))) k5 rfl rfl (by omega) (by omega) hp_Kn)))))) (hp_La l0 (hp_Li (z := (0 + (1 * t + 0))) l1 rfl (by omega) (hp_Li (z := (0 + (1 * e + 0))) l2 rfl (by omega) (hp_Li (z := (5 + 0)) l3 rfl (by omega) hp_Ln)))) trivial ?_ ?_
  · intro p hp ys l' st' h' hys a1 a2 a3 gZ gL gS
    rcases List.mem_cons.mp hp with rfl | hp
    · obtain rfl := hp_y0 hys
      obtain ⟨y0, t0, rfl, q0, g0⟩ := hp_gSi (z := (2 + 0)) gS rfl
      obtain ⟨t1, rfl, g1⟩ := hp_gSa g0 (by decide)
      cases hp_gSn g1
      exact e0 l' h' y0 (by omega) a1 a2 a3 (hp_gLa gL (List.mem_of_getElem? (i := 0) rfl) (by decide)) (hp_gLi (z := (0 + (1 * t + 0))) gL (List.mem_of_getElem? (i := 1) rfl) rfl (by omega)) (hp_gLi (z := (0 + (1 * e + 0))) gL (List.mem_of_getElem? (i := 2) rfl) rfl (by omega)) (hp_gLi (z := (5 + 0)) gL (List.mem_of_getElem? (i := 3) rfl) rfl (by omega))
    cases hp
  · intro p hp ys v h' hys a1 a2 a3 gZ gS
    cases hp
theorem bt5a_k : hp_chk 248 35 1 [(0, 0, 400)] [] [(0, .inr (.inr (.inl (some 85)))), (1, .inl (0, [])), (2, .inl (0, [])), (3, .inl (5, []))] [.inl (0, [(0, 1)])] [] [] 5 [(6, ([], 1, [(0, 0, 400)], [], [(0, .inr (.inr (.inl (some 85)))), (1, .inl (2, [])), (2, .inl (0, [(0, 1)])), (3, .inl (6, []))], [], []))] [] = true := by decide +kernel
theorem bt5a {cst : am_K} {strs : List Nat} {Φ : am_Q → Prop} {D : Nat} {M : am_M} {h : am_H} {l : am_L} (c : hp_C cst strs D) (hM : m_P[248]? = some M) (hD : (5 : Int) ≤ (D : Int) + 1) (hy : ly_hy m_tt ly_TH h) (k : Int) (x0 : Int32) (hx0 : x0.toInt = (k)) (b0 : 0 ≤ k) (t0 : k ≤ 400) (l0 : hp_a l 0 85) (l1 : hp_i l 1 0) (l2 : hp_i l 2 0) (l3 : hp_i l 3 5) (e0 : ∀ (l' : am_L) (h' : am_H), ly_hy m_tt ly_TH h' → ly_fr cst [] h h' → h.length ≤ h'.length → hp_a l' 0 85 → hp_i l' 1 2 → hp_i l' 2 (k) → hp_i l' 3 6 → hp_F cst strs Φ D M 6 l' [] h') : hp_F cst strs Φ D M 35 l [.int x0] h := by
  refine hp_arc c hM bt5a_k hD [k] rfl hy (hp_Bc (z := k) rfl b0 t0 hp_Bn) hp_Fn hp_Kn (hp_La l0 (hp_Li (z := (0 + 0)) l1 rfl (by omega) (hp_Li (z := (0 + 0)) l2 rfl (by omega) (hp_Li (z := (5 + 0)) l3 rfl (by omega) hp_Ln)))) (hp_Si (z := (0 + (1 * k + 0))) rfl (by omega) trivial) ?_ ?_
  · intro p hp ys l' st' h' hys a1 a2 a3 gZ gL gS
    rcases List.mem_cons.mp hp with rfl | hp
    · obtain rfl := hp_y0 hys
      cases hp_gSn gS
      exact e0 l' h' a1 a2 a3 (hp_gLa gL (List.mem_of_getElem? (i := 0) rfl) (by decide)) (hp_gLi (z := (2 + 0)) gL (List.mem_of_getElem? (i := 1) rfl) rfl (by omega)) (hp_gLi (z := (0 + (1 * k + 0))) gL (List.mem_of_getElem? (i := 2) rfl) rfl (by omega)) (hp_gLi (z := (6 + 0)) gL (List.mem_of_getElem? (i := 3) rfl) rfl (by omega))
    cases hp
  · intro p hp ys v h' hys a1 a2 a3 gZ gS
    cases hp
theorem bt5b_k : hp_chk 248 35 3 [(0, 1, 7), (1, 0, 400), (2, 0, 400)] [((-1), [(1, 1), (2, (-1))])] [(0, .inr (.inr (.inl (some 85)))), (1, .inl (0, [(0, 1)])), (2, .inl (0, [(1, 1)])), (3, .inl (5, []))] [.inl (0, [(2, 1)])] [] [] 5 [(6, ([], 3, [(0, 1, 7), (1, 0, 400), (2, 0, 400)], [], [(0, .inr (.inr (.inl (some 85)))), (1, .inl (2, [])), (2, .inl (0, [(2, 1)])), (3, .inl (6, []))], [], []))] [] = true := by decide +kernel
theorem bt5b {cst : am_K} {strs : List Nat} {Φ : am_Q → Prop} {D : Nat} {M : am_M} {h : am_H} {l : am_L} (c : hp_C cst strs D) (hM : m_P[248]? = some M) (hD : (5 : Int) ≤ (D : Int) + 1) (hy : ly_hy m_tt ly_TH h) (t e k : Int) (x0 : Int32) (hx0 : x0.toInt = (k)) (b0 : 1 ≤ t) (t0 : t ≤ 7) (b1 : 0 ≤ e) (t1 : e ≤ 400) (b2 : 0 ≤ k) (t2 : k ≤ 400) (f0 : 0 ≤ (e - k - 1)) (l0 : hp_a l 0 85) (l1 : hp_i l 1 (t)) (l2 : hp_i l 2 (e)) (l3 : hp_i l 3 5) (e0 : ∀ (l' : am_L) (h' : am_H), ly_hy m_tt ly_TH h' → ly_fr cst [] h h' → h.length ≤ h'.length → hp_a l' 0 85 → hp_i l' 1 2 → hp_i l' 2 (k) → hp_i l' 3 6 → hp_F cst strs Φ D M 6 l' [] h') : hp_F cst strs Φ D M 35 l [.int x0] h := by
  refine hp_arc c hM bt5b_k hD [t, e, k] rfl hy (hp_Bc (z := t) rfl b0 t0 (hp_Bc (z := e) rfl b1 t1 (hp_Bc (z := k) rfl b2 t2 hp_Bn))) (hp_Fc (z := ((-1) + (1 * e + ((-1) * k + 0)))) rfl (by omega) hp_Fn) hp_Kn (hp_La l0 (hp_Li (z := (0 + (1 * t + 0))) l1 rfl (by omega) (hp_Li (z := (0 + (1 * e + 0))) l2 rfl (by omega) (hp_Li (z := (5 + 0)) l3 rfl (by omega) hp_Ln)))) (hp_Si (z := (0 + (1 * k + 0))) rfl (by omega) trivial) ?_ ?_
  · intro p hp ys l' st' h' hys a1 a2 a3 gZ gL gS
    rcases List.mem_cons.mp hp with rfl | hp
    · obtain rfl := hp_y0 hys
      cases hp_gSn gS
      exact e0 l' h' a1 a2 a3 (hp_gLa gL (List.mem_of_getElem? (i := 0) rfl) (by decide)) (hp_gLi (z := (2 + 0)) gL (List.mem_of_getElem? (i := 1) rfl) rfl (by omega)) (hp_gLi (z := (0 + (1 * k + 0))) gL (List.mem_of_getElem? (i := 2) rfl) rfl (by omega)) (hp_gLi (z := (6 + 0)) gL (List.mem_of_getElem? (i := 3) rfl) rfl (by omega))
    cases hp
  · intro p hp ys v h' hys a1 a2 a3 gZ gS
    cases hp
theorem bt5c_k : hp_chk 248 35 3 [(0, 1, 7), (1, 0, 400), (2, 0, 400)] [(0, [(1, (-1)), (2, 1)])] [(0, .inr (.inr (.inl (some 85)))), (1, .inl (0, [(0, 1)])), (2, .inl (0, [(1, 1)])), (3, .inl (5, []))] [.inl (0, [(2, 1)])] [] [] 5 [(6, ([], 3, [(0, 1, 7), (1, 0, 400), (2, 0, 400)], [], [(0, .inr (.inr (.inl (some 85)))), (1, .inl (0, [(0, 1)])), (2, .inl (0, [(1, 1)])), (3, .inl (6, []))], [], []))] [] = true := by decide +kernel
theorem bt5c {cst : am_K} {strs : List Nat} {Φ : am_Q → Prop} {D : Nat} {M : am_M} {h : am_H} {l : am_L} (c : hp_C cst strs D) (hM : m_P[248]? = some M) (hD : (5 : Int) ≤ (D : Int) + 1) (hy : ly_hy m_tt ly_TH h) (t e k : Int) (x0 : Int32) (hx0 : x0.toInt = (k)) (b0 : 1 ≤ t) (t0 : t ≤ 7) (b1 : 0 ≤ e) (t1 : e ≤ 400) (b2 : 0 ≤ k) (t2 : k ≤ 400) (f0 : 0 ≤ (k - e)) (l0 : hp_a l 0 85) (l1 : hp_i l 1 (t)) (l2 : hp_i l 2 (e)) (l3 : hp_i l 3 5) (e0 : ∀ (l' : am_L) (h' : am_H), ly_hy m_tt ly_TH h' → ly_fr cst [] h h' → h.length ≤ h'.length → hp_a l' 0 85 → hp_i l' 1 (t) → hp_i l' 2 (e) → hp_i l' 3 6 → hp_F cst strs Φ D M 6 l' [] h') : hp_F cst strs Φ D M 35 l [.int x0] h := by
  refine hp_arc c hM bt5c_k hD [t, e, k] rfl hy (hp_Bc (z := t) rfl b0 t0 (hp_Bc (z := e) rfl b1 t1 (hp_Bc (z := k) rfl b2 t2 hp_Bn))) (hp_Fc (z := (0 + ((-1) * e + (1 * k + 0)))) rfl (by omega) hp_Fn) hp_Kn (hp_La l0 (hp_Li (z := (0 + (1 * t + 0))) l1 rfl (by omega) (hp_Li (z := (0 + (1 * e + 0))) l2 rfl (by omega) (hp_Li (z := (5 + 0)) l3 rfl (by omega) hp_Ln)))) (hp_Si (z := (0 + (1 * k + 0))) rfl (by omega) trivial) ?_ ?_
  · intro p hp ys l' st' h' hys a1 a2 a3 gZ gL gS
    rcases List.mem_cons.mp hp with rfl | hp
    · obtain rfl := hp_y0 hys
      cases hp_gSn gS
      exact e0 l' h' a1 a2 a3 (hp_gLa gL (List.mem_of_getElem? (i := 0) rfl) (by decide)) (hp_gLi (z := (0 + (1 * t + 0))) gL (List.mem_of_getElem? (i := 1) rfl) rfl (by omega)) (hp_gLi (z := (0 + (1 * e + 0))) gL (List.mem_of_getElem? (i := 2) rfl) rfl (by omega)) (hp_gLi (z := (6 + 0)) gL (List.mem_of_getElem? (i := 3) rfl) rfl (by omega))
    cases hp
  · intro p hp ys v h' hys a1 a2 a3 gZ gS
    cases hp
theorem bt6n0_k : hp_chk 248 6 8 [(0, 0, 10), (1, 0, 10), (2, 0, 10), (3, 0, 10), (4, 0, 10), (5, 0, 10), (6, 0, 7), (7, 0, 400)] [(0, [(2, 1), (5, (-1))])] [(0, .inr (.inr (.inl (some 85)))), (1, .inl (0, [(6, 1)])), (2, .inl (0, [(7, 1)])), (3, .inl (6, []))] [] [(18688, (0, []), (0, [(0, 1)])), (18688, (1, []), (0, [(1, 1)])), (18688, (2, []), (0, [(2, 1)])), (17920, (0, []), (0, [(3, 1)])), (17920, (1, []), (0, [(4, 1)])), (17920, (2, []), (0, [(5, 1)]))] [] 5 [(6, ([], 8, [(0, 0, 10), (1, 0, 10), (2, 0, 10), (3, 0, 10), (4, 0, 10), (5, 0, 10), (6, 0, 7), (7, 0, 400)], [], [(0, .inr (.inr (.inl (some 85)))), (1, .inl (0, [(6, 1)])), (2, .inl (0, [(7, 1)])), (3, .inl (7, []))], [], []))] [] = true := by decide +kernel
theorem bt6n0 {cst : am_K} {strs : List Nat} {Φ : am_Q → Prop} {D : Nat} {M : am_M} {h : am_H} {l : am_L} (c : hp_C cst strs D) (hM : m_P[248]? = some M) (hD : (5 : Int) ≤ (D : Int) + 1) (hy : ly_hy m_tt ly_TH h) (a b d ma mb md t e : Int) (b0 : 0 ≤ a) (t0 : a ≤ 10) (b1 : 0 ≤ b) (t1 : b ≤ 10) (b2 : 0 ≤ d) (t2 : d ≤ 10) (b3 : 0 ≤ ma) (t3 : ma ≤ 10) (b4 : 0 ≤ mb) (t4 : mb ≤ 10) (b5 : 0 ≤ md) (t5 : md ≤ 10) (b6 : 0 ≤ t) (t6 : t ≤ 7) (b7 : 0 ≤ e) (t7 : e ≤ 400) (f0 : 0 ≤ (d - md)) (k0 : ly_hv cst h 18688 0 = some (a)) (k1 : ly_hv cst h 18688 1 = some (b)) (k2 : ly_hv cst h 18688 2 = some (d)) (k3 : ly_hv cst h 17920 0 = some (ma)) (k4 : ly_hv cst h 17920 1 = some (mb)) (k5 : ly_hv cst h 17920 2 = some (md)) (l0 : hp_a l 0 85) (l1 : hp_i l 1 (t)) (l2 : hp_i l 2 (e)) (l3 : hp_i l 3 6) (e0 : ∀ (l' : am_L) (h' : am_H), ly_hy m_tt ly_TH h' → ly_fr cst [] h h' → h.length ≤ h'.length → hp_a l' 0 85 → hp_i l' 1 (t) → hp_i l' 2 (e) → hp_i l' 3 7 → hp_F cst strs Φ D M 6 l' [] h') : hp_F cst strs Φ D M 6 l [] h := by
  refine hp_arc c hM bt6n0_k hD [a, b, d, ma, mb, md, t, e] rfl hy (hp_Bc (z := a) rfl b0 t0 (hp_Bc (z := b) rfl b1 t1 (hp_Bc (z := d) rfl b2 t2 (hp_Bc (z := ma) rfl b3 t3 (hp_Bc (z := mb) rfl b4 t4 (hp_Bc (z := md) rfl b5 t5 (hp_Bc (z := t) rfl b6 t6 (hp_Bc (z := e) rfl b7 t7 hp_Bn)))))))) (hp_Fc (z := (0 + (1 * d + ((-1) * md + 0)))) rfl (by omega) hp_Fn) (hp_Kc (zi := (0 + 0)) (zv := (0 + (1 * a + 0))) k0 rfl rfl (by omega) (by omega) (hp_Kc (zi := (1 + 0)) (zv := (0 + (1 * b + 0))) k1 rfl rfl (by omega) (by omega) (hp_Kc (zi := (2 + 0)) (zv := (0 + (1 * d + 0))) k2 rfl rfl (by omega) (by omega) (hp_Kc (zi := (0 + 0)) (zv := (0 + (1 * ma + 0))) k3 rfl rfl (by omega) (by omega) (hp_Kc (zi := (1 + 0)) (zv := (0 + (1 * mb + 0))) k4 rfl rfl (by omega) (by omega) (hp_Kc (zi := (2 + 0)) (zv := (0 + (1 * md + 0))) k5 rfl rfl (by omega) (by omega) hp_Kn)))))) (hp_La l0 (hp_Li (z := (0 + (1 * t + 0))) l1 rfl (by omega) (hp_Li (z := (0 + (1 * e + 0))) l2 rfl (by omega) (hp_Li (z := (6 + 0)) l3 rfl (by omega) hp_Ln)))) trivial ?_ ?_
  · intro p hp ys l' st' h' hys a1 a2 a3 gZ gL gS
    rcases List.mem_cons.mp hp with rfl | hp
    · obtain rfl := hp_y0 hys
      cases hp_gSn gS
      exact e0 l' h' a1 a2 a3 (hp_gLa gL (List.mem_of_getElem? (i := 0) rfl) (by decide)) (hp_gLi (z := (0 + (1 * t + 0))) gL (List.mem_of_getElem? (i := 1) rfl) rfl (by omega)) (hp_gLi (z := (0 + (1 * e + 0))) gL (List.mem_of_getElem? (i := 2) rfl) rfl (by omega)) (hp_gLi (z := (7 + 0)) gL (List.mem_of_getElem? (i := 3) rfl) rfl (by omega))
    cases hp
  · intro p hp ys v h' hys a1 a2 a3 gZ gS
    cases hp
theorem bt6v_k : hp_chk 248 6 8 [(0, 0, 10), (1, 0, 10), (2, 0, 10), (3, 0, 10), (4, 0, 10), (5, 0, 10), (6, 0, 7), (7, 0, 400)] [((-1), [(2, (-1)), (5, 1)])] [(0, .inr (.inr (.inl (some 85)))), (1, .inl (0, [(6, 1)])), (2, .inl (0, [(7, 1)])), (3, .inl (6, []))] [] [(18688, (0, []), (0, [(0, 1)])), (18688, (1, []), (0, [(1, 1)])), (18688, (2, []), (0, [(2, 1)])), (17920, (0, []), (0, [(3, 1)])), (17920, (1, []), (0, [(4, 1)])), (17920, (2, []), (0, [(5, 1)]))] [] 5 [(32, ([], 8, [(0, 0, 10), (1, 0, 10), (2, 0, 10), (3, 0, 10), (4, 0, 10), (5, 0, 10), (6, 0, 7), (7, 0, 400)], [], [(0, .inr (.inr (.inl (some 85)))), (1, .inl (0, [(6, 1)])), (2, .inl (0, [(7, 1)])), (3, .inl (6, []))], [.inl (4, []), .inr (.inr (.inl (some 85)))], []))] [] = true := by decide +kernel
theorem bt6v {cst : am_K} {strs : List Nat} {Φ : am_Q → Prop} {D : Nat} {M : am_M} {h : am_H} {l : am_L} (c : hp_C cst strs D) (hM : m_P[248]? = some M) (hD : (5 : Int) ≤ (D : Int) + 1) (hy : ly_hy m_tt ly_TH h) (a b d ma mb md t e : Int) (b0 : 0 ≤ a) (t0 : a ≤ 10) (b1 : 0 ≤ b) (t1 : b ≤ 10) (b2 : 0 ≤ d) (t2 : d ≤ 10) (b3 : 0 ≤ ma) (t3 : ma ≤ 10) (b4 : 0 ≤ mb) (t4 : mb ≤ 10) (b5 : 0 ≤ md) (t5 : md ≤ 10) (b6 : 0 ≤ t) (t6 : t ≤ 7) (b7 : 0 ≤ e) (t7 : e ≤ 400) (f0 : 0 ≤ (md - d - 1)) (k0 : ly_hv cst h 18688 0 = some (a)) (k1 : ly_hv cst h 18688 1 = some (b)) (k2 : ly_hv cst h 18688 2 = some (d)) (k3 : ly_hv cst h 17920 0 = some (ma)) (k4 : ly_hv cst h 17920 1 = some (mb)) (k5 : ly_hv cst h 17920 2 = some (md)) (l0 : hp_a l 0 85) (l1 : hp_i l 1 (t)) (l2 : hp_i l 2 (e)) (l3 : hp_i l 3 6) (e0 : ∀ (l' : am_L) (h' : am_H) (y0 : Int32), y0.toInt = 4 → ly_hy m_tt ly_TH h' → ly_fr cst [] h h' → h.length ≤ h'.length → hp_a l' 0 85 → hp_i l' 1 (t) → hp_i l' 2 (e) → hp_i l' 3 6 → hp_F cst strs Φ D M 32 l' [.int y0, .ref 85] h') : hp_F cst strs Φ D M 6 l [] h := by
  refine hp_arc c hM bt6v_k hD [a, b, d, ma, mb, md, t, e] rfl hy (hp_Bc (z := a) rfl b0 t0 (hp_Bc (z := b) rfl b1 t1 (hp_Bc (z := d) rfl b2 t2 (hp_Bc (z := ma) rfl b3 t3 (hp_Bc (z := mb) rfl b4 t4 (hp_Bc (z := md) rfl b5 t5 (hp_Bc (z := t) rfl b6 t6 (hp_Bc (z := e) rfl b7 t7 hp_Bn)))))))) (hp_Fc (z := ((-1) + ((-1) * d + (1 * md + 0)))) rfl (by omega) hp_Fn) (hp_Kc (zi := (0 + 0)) (zv := (0 + (1 * a + 0))) k0 rfl rfl (by omega) (by omega) (hp_Kc (zi := (1 + 0)) (zv := (0 + (1 * b + 0))) k1 rfl rfl (by omega) (by omega) (hp_Kc (zi := (2 + 0)) (zv := (0 + (1 * d + 0))) k2 rfl rfl (by omega) (by omega) (hp_Kc (zi := (0 + 0)) (zv := (0 + (1 * ma + 0))) k3 rfl rfl (by omega) (by omega) (hp_Kc (zi := (1 + 0)) (zv := (0 + (1 * mb + 0))) k4 rfl rfl (by omega) (by omega) (hp_Kc (zi := (2 + 0)) (zv := (0 + (1 * md + 0))) k5 rfl rfl (by omega) (by omega) hp_Kn)))))) (hp_La l0 (hp_Li (z := (0 + (1 * t + 0))) l1 rfl (by omega) (hp_Li (z := (0 + (1 * e + 0))) l2 rfl (by omega) (hp_Li (z := (6 + 0)) l3 rfl (by omega) hp_Ln)))) trivial ?_ ?_
  · intro p hp ys l' st' h' hys a1 a2 a3 gZ gL gS
    rcases List.mem_cons.mp hp with rfl | hp
    · obtain rfl := hp_y0 hys
      obtain ⟨y0, t0, rfl, q0, g0⟩ := hp_gSi (z := (4 + 0)) gS rfl
      obtain ⟨t1, rfl, g1⟩ := hp_gSa g0 (by decide)
      cases hp_gSn g1
      exact e0 l' h' y0 (by omega) a1 a2 a3 (hp_gLa gL (List.mem_of_getElem? (i := 0) rfl) (by decide)) (hp_gLi (z := (0 + (1 * t + 0))) gL (List.mem_of_getElem? (i := 1) rfl) rfl (by omega)) (hp_gLi (z := (0 + (1 * e + 0))) gL (List.mem_of_getElem? (i := 2) rfl) rfl (by omega)) (hp_gLi (z := (6 + 0)) gL (List.mem_of_getElem? (i := 3) rfl) rfl (by omega))
    cases hp
  · intro p hp ys v h' hys a1 a2 a3 gZ gS
    cases hp
theorem bt6a_k : hp_chk 248 35 1 [(0, 0, 400)] [] [(0, .inr (.inr (.inl (some 85)))), (1, .inl (0, [])), (2, .inl (0, [])), (3, .inl (6, []))] [.inl (0, [(0, 1)])] [] [] 5 [(6, ([], 1, [(0, 0, 400)], [], [(0, .inr (.inr (.inl (some 85)))), (1, .inl (4, [])), (2, .inl (0, [(0, 1)])), (3, .inl (7, []))], [], []))] [] = true := by decide +kernel
theorem bt6a {cst : am_K} {strs : List Nat} {Φ : am_Q → Prop} {D : Nat} {M : am_M} {h : am_H} {l : am_L} (c : hp_C cst strs D) (hM : m_P[248]? = some M) (hD : (5 : Int) ≤ (D : Int) + 1) (hy : ly_hy m_tt ly_TH h) (k : Int) (x0 : Int32) (hx0 : x0.toInt = (k)) (b0 : 0 ≤ k) (t0 : k ≤ 400) (l0 : hp_a l 0 85) (l1 : hp_i l 1 0) (l2 : hp_i l 2 0) (l3 : hp_i l 3 6) (e0 : ∀ (l' : am_L) (h' : am_H), ly_hy m_tt ly_TH h' → ly_fr cst [] h h' → h.length ≤ h'.length → hp_a l' 0 85 → hp_i l' 1 4 → hp_i l' 2 (k) → hp_i l' 3 7 → hp_F cst strs Φ D M 6 l' [] h') : hp_F cst strs Φ D M 35 l [.int x0] h := by
  refine hp_arc c hM bt6a_k hD [k] rfl hy (hp_Bc (z := k) rfl b0 t0 hp_Bn) hp_Fn hp_Kn (hp_La l0 (hp_Li (z := (0 + 0)) l1 rfl (by omega) (hp_Li (z := (0 + 0)) l2 rfl (by omega) (hp_Li (z := (6 + 0)) l3 rfl (by omega) hp_Ln)))) (hp_Si (z := (0 + (1 * k + 0))) rfl (by omega) trivial) ?_ ?_
  · intro p hp ys l' st' h' hys a1 a2 a3 gZ gL gS
    rcases List.mem_cons.mp hp with rfl | hp
    · obtain rfl := hp_y0 hys
      cases hp_gSn gS
      exact e0 l' h' a1 a2 a3 (hp_gLa gL (List.mem_of_getElem? (i := 0) rfl) (by decide)) (hp_gLi (z := (4 + 0)) gL (List.mem_of_getElem? (i := 1) rfl) rfl (by omega)) (hp_gLi (z := (0 + (1 * k + 0))) gL (List.mem_of_getElem? (i := 2) rfl) rfl (by omega)) (hp_gLi (z := (7 + 0)) gL (List.mem_of_getElem? (i := 3) rfl) rfl (by omega))
    cases hp
  · intro p hp ys v h' hys a1 a2 a3 gZ gS
    cases hp
theorem bt6b_k : hp_chk 248 35 3 [(0, 1, 7), (1, 0, 400), (2, 0, 400)] [((-1), [(1, 1), (2, (-1))])] [(0, .inr (.inr (.inl (some 85)))), (1, .inl (0, [(0, 1)])), (2, .inl (0, [(1, 1)])), (3, .inl (6, []))] [.inl (0, [(2, 1)])] [] [] 5 [(6, ([], 3, [(0, 1, 7), (1, 0, 400), (2, 0, 400)], [], [(0, .inr (.inr (.inl (some 85)))), (1, .inl (4, [])), (2, .inl (0, [(2, 1)])), (3, .inl (7, []))], [], []))] [] = true := by decide +kernel
theorem bt6b {cst : am_K} {strs : List Nat} {Φ : am_Q → Prop} {D : Nat} {M : am_M} {h : am_H} {l : am_L} (c : hp_C cst strs D) (hM : m_P[248]? = some M) (hD : (5 : Int) ≤ (D : Int) + 1) (hy : ly_hy m_tt ly_TH h) (t e k : Int) (x0 : Int32) (hx0 : x0.toInt = (k)) (b0 : 1 ≤ t) (t0 : t ≤ 7) (b1 : 0 ≤ e) (t1 : e ≤ 400) (b2 : 0 ≤ k) (t2 : k ≤ 400) (f0 : 0 ≤ (e - k - 1)) (l0 : hp_a l 0 85) (l1 : hp_i l 1 (t)) (l2 : hp_i l 2 (e)) (l3 : hp_i l 3 6) (e0 : ∀ (l' : am_L) (h' : am_H), ly_hy m_tt ly_TH h' → ly_fr cst [] h h' → h.length ≤ h'.length → hp_a l' 0 85 → hp_i l' 1 4 → hp_i l' 2 (k) → hp_i l' 3 7 → hp_F cst strs Φ D M 6 l' [] h') : hp_F cst strs Φ D M 35 l [.int x0] h := by
  refine hp_arc c hM bt6b_k hD [t, e, k] rfl hy (hp_Bc (z := t) rfl b0 t0 (hp_Bc (z := e) rfl b1 t1 (hp_Bc (z := k) rfl b2 t2 hp_Bn))) (hp_Fc (z := ((-1) + (1 * e + ((-1) * k + 0)))) rfl (by omega) hp_Fn) hp_Kn (hp_La l0 (hp_Li (z := (0 + (1 * t + 0))) l1 rfl (by omega) (hp_Li (z := (0 + (1 * e + 0))) l2 rfl (by omega) (hp_Li (z := (6 + 0)) l3 rfl (by omega) hp_Ln)))) (hp_Si (z := (0 + (1 * k + 0))) rfl (by omega) trivial) ?_ ?_
  · intro p hp ys l' st' h' hys a1 a2 a3 gZ gL gS
    rcases List.mem_cons.mp hp with rfl | hp
    · obtain rfl := hp_y0 hys
      cases hp_gSn gS
      exact e0 l' h' a1 a2 a3 (hp_gLa gL (List.mem_of_getElem? (i := 0) rfl) (by decide)) (hp_gLi (z := (4 + 0)) gL (List.mem_of_getElem? (i := 1) rfl) rfl (by omega)) (hp_gLi (z := (0 + (1 * k + 0))) gL (List.mem_of_getElem? (i := 2) rfl) rfl (by omega)) (hp_gLi (z := (7 + 0)) gL (List.mem_of_getElem? (i := 3) rfl) rfl (by omega))
    cases hp
  · intro p hp ys v h' hys a1 a2 a3 gZ gS
    cases hp
theorem bt6c_k : hp_chk 248 35 3 [(0, 1, 7), (1, 0, 400), (2, 0, 400)] [(0, [(1, (-1)), (2, 1)])] [(0, .inr (.inr (.inl (some 85)))), (1, .inl (0, [(0, 1)])), (2, .inl (0, [(1, 1)])), (3, .inl (6, []))] [.inl (0, [(2, 1)])] [] [] 5 [(6, ([], 3, [(0, 1, 7), (1, 0, 400), (2, 0, 400)], [], [(0, .inr (.inr (.inl (some 85)))), (1, .inl (0, [(0, 1)])), (2, .inl (0, [(1, 1)])), (3, .inl (7, []))], [], []))] [] = true := by decide +kernel
theorem bt6c {cst : am_K} {strs : List Nat} {Φ : am_Q → Prop} {D : Nat} {M : am_M} {h : am_H} {l : am_L} (c : hp_C cst strs D) (hM : m_P[248]? = some M) (hD : (5 : Int) ≤ (D : Int) + 1) (hy : ly_hy m_tt ly_TH h) (t e k : Int) (x0 : Int32) (hx0 : x0.toInt = (k)) (b0 : 1 ≤ t) (t0 : t ≤ 7) (b1 : 0 ≤ e) (t1 : e ≤ 400) (b2 : 0 ≤ k) (t2 : k ≤ 400) (f0 : 0 ≤ (k - e)) (l0 : hp_a l 0 85) (l1 : hp_i l 1 (t)) (l2 : hp_i l 2 (e)) (l3 : hp_i l 3 6) (e0 : ∀ (l' : am_L) (h' : am_H), ly_hy m_tt ly_TH h' → ly_fr cst [] h h' → h.length ≤ h'.length → hp_a l' 0 85 → hp_i l' 1 (t) → hp_i l' 2 (e) → hp_i l' 3 7 → hp_F cst strs Φ D M 6 l' [] h') : hp_F cst strs Φ D M 35 l [.int x0] h := by
  refine hp_arc c hM bt6c_k hD [t, e, k] rfl hy (hp_Bc (z := t) rfl b0 t0 (hp_Bc (z := e) rfl b1 t1 (hp_Bc (z := k) rfl b2 t2 hp_Bn))) (hp_Fc (z := (0 + ((-1) * e + (1 * k + 0)))) rfl (by omega) hp_Fn) hp_Kn (hp_La l0 (hp_Li (z := (0 + (1 * t + 0))) l1 rfl (by omega) (hp_Li (z := (0 + (1 * e + 0))) l2 rfl (by omega) (hp_Li (z := (6 + 0)) l3 rfl (by omega) hp_Ln)))) (hp_Si (z := (0 + (1 * k + 0))) rfl (by omega) trivial) ?_ ?_
  · intro p hp ys l' st' h' hys a1 a2 a3 gZ gL gS
    rcases List.mem_cons.mp hp with rfl | hp
    · obtain rfl := hp_y0 hys
      cases hp_gSn gS
      exact e0 l' h' a1 a2 a3 (hp_gLa gL (List.mem_of_getElem? (i := 0) rfl) (by decide)) (hp_gLi (z := (0 + (1 * t + 0))) gL (List.mem_of_getElem? (i := 1) rfl) rfl (by omega)) (hp_gLi (z := (0 + (1 * e + 0))) gL (List.mem_of_getElem? (i := 2) rfl) rfl (by omega)) (hp_gLi (z := (7 + 0)) gL (List.mem_of_getElem? (i := 3) rfl) rfl (by omega))
    cases hp
  · intro p hp ys v h' hys a1 a2 a3 gZ gS
    cases hp
theorem bt_e_k : hp_chk 248 6 2 [(0, 0, 7), (1, 0, 400)] [] [(0, .inr (.inr (.inl (some 85)))), (1, .inl (0, [(0, 1)])), (2, .inl (0, [(1, 1)])), (3, .inl (7, []))] [] [] [] 5 [] [([], 2, [(0, 0, 7), (1, 0, 400)], [], [], [.inl (0, [(0, 1)])], [])] = true := by decide +kernel
theorem bt_e {cst : am_K} {strs : List Nat} {Φ : am_Q → Prop} {D : Nat} {M : am_M} {h : am_H} {l : am_L} (c : hp_C cst strs D) (hM : m_P[248]? = some M) (hD : (5 : Int) ≤ (D : Int) + 1) (hy : ly_hy m_tt ly_TH h) (t e : Int) (b0 : 0 ≤ t) (t0 : t ≤ 7) (b1 : 0 ≤ e) (t1 : e ≤ 400) (l0 : hp_a l 0 85) (l1 : hp_i l 1 (t)) (l2 : hp_i l 2 (e)) (l3 : hp_i l 3 7) (r0 : ∀ (h' : am_H) (y0 : Int32), y0.toInt = (t) → ly_hy m_tt ly_TH h' → ly_fr cst [] h h' → h.length ≤ h'.length → Φ (some (.int y0), h', 0, 0)) : hp_F cst strs Φ D M 6 l [] h := by
  refine hp_arc c hM bt_e_k hD [t, e] rfl hy (hp_Bc (z := t) rfl b0 t0 (hp_Bc (z := e) rfl b1 t1 hp_Bn)) hp_Fn hp_Kn (hp_La l0 (hp_Li (z := (0 + (1 * t + 0))) l1 rfl (by omega) (hp_Li (z := (0 + (1 * e + 0))) l2 rfl (by omega) (hp_Li (z := (7 + 0)) l3 rfl (by omega) hp_Ln)))) trivial ?_ ?_
  · intro p hp ys l' st' h' hys a1 a2 a3 gZ gL gS
    cases hp
  · intro p hp ys v h' hys a1 a2 a3 gZ gS
    rcases List.mem_cons.mp hp with rfl | hp
    · obtain rfl := hp_y0 hys
      cases v with
      | none => cases gS
      | some w =>
        obtain ⟨y0, t0, s0, q0, -⟩ := hp_gSi (z := (0 + (1 * t + 0))) gS rfl
        cases s0
        exact r0 h' y0 (by omega) a1 a2 a3
    cases hp
theorem la0_k : hp_chk 247 0 3 [(0, 0, 10), (1, 0, 10), (2, 0, 10)] [] [(0, .inr (.inr (.inl (some 85))))] [] [(17920, (0, []), (0, [(0, 1)])), (17920, (1, []), (0, [(1, 1)])), (17920, (2, []), (0, [(2, 1)]))] [] 2 [(29, ([], 3, [(0, 0, 10), (1, 0, 10), (2, 0, 10)], [], [(0, .inr (.inr (.inl (some 85)))), (1, .inl (0, [(0, 1)])), (2, .inl (0, [(1, 1)])), (3, .inl (0, [(2, 1)]))], [], []))] [] = true := by decide +kernel
theorem la0 {cst : am_K} {strs : List Nat} {Φ : am_Q → Prop} {D : Nat} {M : am_M} {h : am_H} {l : am_L} (c : hp_C cst strs D) (hM : m_P[247]? = some M) (hD : (2 : Int) ≤ (D : Int) + 1) (hy : ly_hy m_tt ly_TH h) (ma mb md : Int) (b0 : 0 ≤ ma) (t0 : ma ≤ 10) (b1 : 0 ≤ mb) (t1 : mb ≤ 10) (b2 : 0 ≤ md) (t2 : md ≤ 10) (k0 : ly_hv cst h 17920 0 = some (ma)) (k1 : ly_hv cst h 17920 1 = some (mb)) (k2 : ly_hv cst h 17920 2 = some (md)) (l0 : hp_a l 0 85) (e0 : ∀ (l' : am_L) (h' : am_H), ly_hy m_tt ly_TH h' → ly_fr cst [] h h' → h.length ≤ h'.length → hp_a l' 0 85 → hp_i l' 1 (ma) → hp_i l' 2 (mb) → hp_i l' 3 (md) → hp_F cst strs Φ D M 29 l' [] h') : hp_F cst strs Φ D M 0 l [] h := by
  refine hp_arc c hM la0_k hD [ma, mb, md] rfl hy (hp_Bc (z := ma) rfl b0 t0 (hp_Bc (z := mb) rfl b1 t1 (hp_Bc (z := md) rfl b2 t2 hp_Bn))) hp_Fn (hp_Kc (zi := (0 + 0)) (zv := (0 + (1 * ma + 0))) k0 rfl rfl (by omega) (by omega) (hp_Kc (zi := (1 + 0)) (zv := (0 + (1 * mb + 0))) k1 rfl rfl (by omega) (by omega) (hp_Kc (zi := (2 + 0)) (zv := (0 + (1 * md + 0))) k2 rfl rfl (by omega) (by omega) hp_Kn))) (hp_La l0 hp_Ln) trivial ?_ ?_
  · intro p hp ys l' st' h' hys a1 a2 a3 gZ gL gS
    rcases List.mem_cons.mp hp with rfl | hp
    · obtain rfl := hp_y0 hys
      cases hp_gSn gS
      exact e0 l' h' a1 a2 a3 (hp_gLa gL (List.mem_of_getElem? (i := 0) rfl) (by decide)) (hp_gLi (z := (0 + (1 * ma + 0))) gL (List.mem_of_getElem? (i := 1) rfl) rfl (by omega)) (hp_gLi (z := (0 + (1 * mb + 0))) gL (List.mem_of_getElem? (i := 2) rfl) rfl (by omega)) (hp_gLi (z := (0 + (1 * md + 0))) gL (List.mem_of_getElem? (i := 3) rfl) rfl (by omega))
    cases hp
  · intro p hp ys v h' hys a1 a2 a3 gZ gS
    cases hp
theorem la1_k : hp_chk 247 29 3 [(0, 0, 10), (1, 0, 10), (2, 0, 10)] [] [(0, .inr (.inr (.inl (some 85)))), (1, .inl (0, [(0, 1)])), (2, .inl (0, [(1, 1)])), (3, .inl (0, [(2, 1)]))] [] [] [18688] 2 [(55, ([], 3, [(0, 0, 10), (1, 0, 10), (2, 0, 10)], [], [(0, .inr (.inr (.inl (some 85)))), (1, .inl (0, [(0, 1)])), (2, .inl (0, [(1, 1)])), (3, .inl (0, [(2, 1)]))], [.inr (.inr (.inl (some 85)))], [(18688, (0, []), (0, [(0, 1)])), (18688, (1, []), (0, [(1, 1)])), (18688, (2, []), (0, [(2, 1)]))]))] [] = true := by decide +kernel
theorem la1 {cst : am_K} {strs : List Nat} {Φ : am_Q → Prop} {D : Nat} {M : am_M} {h : am_H} {l : am_L} (c : hp_C cst strs D) (hM : m_P[247]? = some M) (hD : (2 : Int) ≤ (D : Int) + 1) (hy : ly_hy m_tt ly_TH h) (a b d : Int) (b0 : 0 ≤ a) (t0 : a ≤ 10) (b1 : 0 ≤ b) (t1 : b ≤ 10) (b2 : 0 ≤ d) (t2 : d ≤ 10) (l0 : hp_a l 0 85) (l1 : hp_i l 1 (a)) (l2 : hp_i l 2 (b)) (l3 : hp_i l 3 (d)) (e0 : ∀ (l' : am_L) (h' : am_H), ly_hy m_tt ly_TH h' → ly_fr cst [18688] h h' → h.length ≤ h'.length → ly_hv cst h' 18688 0 = some (a) → ly_hv cst h' 18688 1 = some (b) → ly_hv cst h' 18688 2 = some (d) → hp_a l' 0 85 → hp_i l' 1 (a) → hp_i l' 2 (b) → hp_i l' 3 (d) → hp_F cst strs Φ D M 55 l' [.ref 85] h') : hp_F cst strs Φ D M 29 l [] h := by
  refine hp_arc c hM la1_k hD [a, b, d] rfl hy (hp_Bc (z := a) rfl b0 t0 (hp_Bc (z := b) rfl b1 t1 (hp_Bc (z := d) rfl b2 t2 hp_Bn))) hp_Fn hp_Kn (hp_La l0 (hp_Li (z := (0 + (1 * a + 0))) l1 rfl (by omega) (hp_Li (z := (0 + (1 * b + 0))) l2 rfl (by omega) (hp_Li (z := (0 + (1 * d + 0))) l3 rfl (by omega) hp_Ln)))) trivial ?_ ?_
  · intro p hp ys l' st' h' hys a1 a2 a3 gZ gL gS
    rcases List.mem_cons.mp hp with rfl | hp
    · obtain rfl := hp_y0 hys
      obtain ⟨t0, rfl, g0⟩ := hp_gSa gS (by decide)
      cases hp_gSn g0
      exact e0 l' h' a1 a2 a3 (hp_gK (zi := (0 + 0)) (zv := (0 + (1 * a + 0))) gZ.2.2.2 (List.mem_of_getElem? (i := 0) rfl) rfl rfl (by omega) (by omega)) (hp_gK (zi := (1 + 0)) (zv := (0 + (1 * b + 0))) gZ.2.2.2 (List.mem_of_getElem? (i := 1) rfl) rfl rfl (by omega) (by omega)) (hp_gK (zi := (2 + 0)) (zv := (0 + (1 * d + 0))) gZ.2.2.2 (List.mem_of_getElem? (i := 2) rfl) rfl rfl (by omega) (by omega)) (hp_gLa gL (List.mem_of_getElem? (i := 0) rfl) (by decide)) (hp_gLi (z := (0 + (1 * a + 0))) gL (List.mem_of_getElem? (i := 1) rfl) rfl (by omega)) (hp_gLi (z := (0 + (1 * b + 0))) gL (List.mem_of_getElem? (i := 2) rfl) rfl (by omega)) (hp_gLi (z := (0 + (1 * d + 0))) gL (List.mem_of_getElem? (i := 3) rfl) rfl (by omega))
    cases hp
  · intro p hp ys v h' hys a1 a2 a3 gZ gS
    cases hp
theorem la2_k : hp_chk 247 58 3 [(0, 0, 10), (1, 0, 10), (2, 0, 10)] [] [(0, .inr (.inr (.inl (some 85)))), (1, .inl (0, [(0, 1)])), (2, .inl (0, [(1, 1)])), (3, .inl (0, [(2, 1)]))] [.inl (0, [])] [] [] 5 [(85, ([], 3, [(0, 0, 10), (1, 0, 10), (2, 0, 10)], [], [(0, .inr (.inr (.inl (some 85)))), (1, .inl (0, [(0, 1)])), (2, .inl (0, [(1, 1)])), (3, .inl (0, [(2, 1)]))], [.inl (0, []), .inl (0, [(0, 121), (1, 11), (2, 1)]), .inr (.inr (.inl (some 88)))], []))] [] = true := by decide +kernel
theorem la2 {cst : am_K} {strs : List Nat} {Φ : am_Q → Prop} {D : Nat} {M : am_M} {h : am_H} {l : am_L} (c : hp_C cst strs D) (hM : m_P[247]? = some M) (hD : (5 : Int) ≤ (D : Int) + 1) (hy : ly_hy m_tt ly_TH h) (a b d : Int) (x0 : Int32) (hx0 : x0.toInt = 0) (b0 : 0 ≤ a) (t0 : a ≤ 10) (b1 : 0 ≤ b) (t1 : b ≤ 10) (b2 : 0 ≤ d) (t2 : d ≤ 10) (l0 : hp_a l 0 85) (l1 : hp_i l 1 (a)) (l2 : hp_i l 2 (b)) (l3 : hp_i l 3 (d)) (e0 : ∀ (l' : am_L) (h' : am_H) (y0 : Int32) (y1 : Int32), y0.toInt = 0 → y1.toInt = (121 * a + 11 * b + d) → ly_hy m_tt ly_TH h' → ly_fr cst [] h h' → h.length ≤ h'.length → hp_a l' 0 85 → hp_i l' 1 (a) → hp_i l' 2 (b) → hp_i l' 3 (d) → hp_F cst strs Φ D M 85 l' [.int y0, .int y1, .ref 88] h') : hp_F cst strs Φ D M 58 l [.int x0] h := by
  refine hp_arc c hM la2_k hD [a, b, d] rfl hy (hp_Bc (z := a) rfl b0 t0 (hp_Bc (z := b) rfl b1 t1 (hp_Bc (z := d) rfl b2 t2 hp_Bn))) hp_Fn hp_Kn (hp_La l0 (hp_Li (z := (0 + (1 * a + 0))) l1 rfl (by omega) (hp_Li (z := (0 + (1 * b + 0))) l2 rfl (by omega) (hp_Li (z := (0 + (1 * d + 0))) l3 rfl (by omega) hp_Ln)))) (hp_Si (z := (0 + 0)) rfl (by omega) trivial) ?_ ?_
  · intro p hp ys l' st' h' hys a1 a2 a3 gZ gL gS
    rcases List.mem_cons.mp hp with rfl | hp
    · obtain rfl := hp_y0 hys
      obtain ⟨y0, t0, rfl, q0, g0⟩ := hp_gSi (z := (0 + 0)) gS rfl
      obtain ⟨y1, t1, rfl, q1, g1⟩ := hp_gSi (z := (0 + (121 * a + (11 * b + (1 * d + 0))))) g0 rfl
      obtain ⟨t2, rfl, g2⟩ := hp_gSa g1 (by decide)
      cases hp_gSn g2
      exact e0 l' h' y0 y1 (by omega) (by omega) a1 a2 a3 (hp_gLa gL (List.mem_of_getElem? (i := 0) rfl) (by decide)) (hp_gLi (z := (0 + (1 * a + 0))) gL (List.mem_of_getElem? (i := 1) rfl) rfl (by omega)) (hp_gLi (z := (0 + (1 * b + 0))) gL (List.mem_of_getElem? (i := 2) rfl) rfl (by omega)) (hp_gLi (z := (0 + (1 * d + 0))) gL (List.mem_of_getElem? (i := 3) rfl) rfl (by omega))
    cases hp
  · intro p hp ys v h' hys a1 a2 a3 gZ gS
    cases hp
theorem la3_7_k : hp_chk 247 58 3 [(0, 0, 10), (1, 0, 10), (2, 0, 10)] [] [(0, .inr (.inr (.inl (some 85)))), (1, .inl (0, [(0, 1)])), (2, .inl (0, [(1, 1)])), (3, .inl (0, [(2, 1)]))] [.inl (7, [])] [] [] 5 [(82, ([], 3, [(0, 0, 10), (1, 0, 10), (2, 0, 10)], [], [(0, .inr (.inr (.inl (some 85)))), (1, .inl (0, [(0, 1)])), (2, .inl (0, [(1, 1)])), (3, .inl (0, [(2, 1)]))], [.inl (7, []), .inr (.inr (.inl (some 85))), .inl (0, [(0, 121), (1, 11), (2, 1)]), .inr (.inr (.inl (some 88)))], []))] [] = true := by decide +kernel
theorem la3_7 {cst : am_K} {strs : List Nat} {Φ : am_Q → Prop} {D : Nat} {M : am_M} {h : am_H} {l : am_L} (c : hp_C cst strs D) (hM : m_P[247]? = some M) (hD : (5 : Int) ≤ (D : Int) + 1) (hy : ly_hy m_tt ly_TH h) (a b d : Int) (x0 : Int32) (hx0 : x0.toInt = 7) (b0 : 0 ≤ a) (t0 : a ≤ 10) (b1 : 0 ≤ b) (t1 : b ≤ 10) (b2 : 0 ≤ d) (t2 : d ≤ 10) (l0 : hp_a l 0 85) (l1 : hp_i l 1 (a)) (l2 : hp_i l 2 (b)) (l3 : hp_i l 3 (d)) (e0 : ∀ (l' : am_L) (h' : am_H) (y0 : Int32) (y2 : Int32), y0.toInt = 7 → y2.toInt = (121 * a + 11 * b + d) → ly_hy m_tt ly_TH h' → ly_fr cst [] h h' → h.length ≤ h'.length → hp_a l' 0 85 → hp_i l' 1 (a) → hp_i l' 2 (b) → hp_i l' 3 (d) → hp_F cst strs Φ D M 82 l' [.int y0, .ref 85, .int y2, .ref 88] h') : hp_F cst strs Φ D M 58 l [.int x0] h := by
  refine hp_arc c hM la3_7_k hD [a, b, d] rfl hy (hp_Bc (z := a) rfl b0 t0 (hp_Bc (z := b) rfl b1 t1 (hp_Bc (z := d) rfl b2 t2 hp_Bn))) hp_Fn hp_Kn (hp_La l0 (hp_Li (z := (0 + (1 * a + 0))) l1 rfl (by omega) (hp_Li (z := (0 + (1 * b + 0))) l2 rfl (by omega) (hp_Li (z := (0 + (1 * d + 0))) l3 rfl (by omega) hp_Ln)))) (hp_Si (z := (7 + 0)) rfl (by omega) trivial) ?_ ?_
  · intro p hp ys l' st' h' hys a1 a2 a3 gZ gL gS
    rcases List.mem_cons.mp hp with rfl | hp
    · obtain rfl := hp_y0 hys
      obtain ⟨y0, t0, rfl, q0, g0⟩ := hp_gSi (z := (7 + 0)) gS rfl
      obtain ⟨t1, rfl, g1⟩ := hp_gSa g0 (by decide)
      obtain ⟨y2, t2, rfl, q2, g2⟩ := hp_gSi (z := (0 + (121 * a + (11 * b + (1 * d + 0))))) g1 rfl
      obtain ⟨t3, rfl, g3⟩ := hp_gSa g2 (by decide)
      cases hp_gSn g3
      exact e0 l' h' y0 y2 (by omega) (by omega) a1 a2 a3 (hp_gLa gL (List.mem_of_getElem? (i := 0) rfl) (by decide)) (hp_gLi (z := (0 + (1 * a + 0))) gL (List.mem_of_getElem? (i := 1) rfl) rfl (by omega)) (hp_gLi (z := (0 + (1 * b + 0))) gL (List.mem_of_getElem? (i := 2) rfl) rfl (by omega)) (hp_gLi (z := (0 + (1 * d + 0))) gL (List.mem_of_getElem? (i := 3) rfl) rfl (by omega))
    cases hp
  · intro p hp ys v h' hys a1 a2 a3 gZ gS
    cases hp
theorem la3_3_k : hp_chk 247 58 3 [(0, 0, 10), (1, 0, 10), (2, 0, 10)] [] [(0, .inr (.inr (.inl (some 85)))), (1, .inl (0, [(0, 1)])), (2, .inl (0, [(1, 1)])), (3, .inl (0, [(2, 1)]))] [.inl (3, [])] [] [] 5 [(82, ([], 3, [(0, 0, 10), (1, 0, 10), (2, 0, 10)], [], [(0, .inr (.inr (.inl (some 85)))), (1, .inl (0, [(0, 1)])), (2, .inl (0, [(1, 1)])), (3, .inl (0, [(2, 1)]))], [.inl (3, []), .inr (.inr (.inl (some 85))), .inl (0, [(0, 121), (1, 11), (2, 1)]), .inr (.inr (.inl (some 88)))], []))] [] = true := by decide +kernel
theorem la3_3 {cst : am_K} {strs : List Nat} {Φ : am_Q → Prop} {D : Nat} {M : am_M} {h : am_H} {l : am_L} (c : hp_C cst strs D) (hM : m_P[247]? = some M) (hD : (5 : Int) ≤ (D : Int) + 1) (hy : ly_hy m_tt ly_TH h) (a b d : Int) (x0 : Int32) (hx0 : x0.toInt = 3) (b0 : 0 ≤ a) (t0 : a ≤ 10) (b1 : 0 ≤ b) (t1 : b ≤ 10) (b2 : 0 ≤ d) (t2 : d ≤ 10) (l0 : hp_a l 0 85) (l1 : hp_i l 1 (a)) (l2 : hp_i l 2 (b)) (l3 : hp_i l 3 (d)) (e0 : ∀ (l' : am_L) (h' : am_H) (y0 : Int32) (y2 : Int32), y0.toInt = 3 → y2.toInt = (121 * a + 11 * b + d) → ly_hy m_tt ly_TH h' → ly_fr cst [] h h' → h.length ≤ h'.length → hp_a l' 0 85 → hp_i l' 1 (a) → hp_i l' 2 (b) → hp_i l' 3 (d) → hp_F cst strs Φ D M 82 l' [.int y0, .ref 85, .int y2, .ref 88] h') : hp_F cst strs Φ D M 58 l [.int x0] h := by
  refine hp_arc c hM la3_3_k hD [a, b, d] rfl hy (hp_Bc (z := a) rfl b0 t0 (hp_Bc (z := b) rfl b1 t1 (hp_Bc (z := d) rfl b2 t2 hp_Bn))) hp_Fn hp_Kn (hp_La l0 (hp_Li (z := (0 + (1 * a + 0))) l1 rfl (by omega) (hp_Li (z := (0 + (1 * b + 0))) l2 rfl (by omega) (hp_Li (z := (0 + (1 * d + 0))) l3 rfl (by omega) hp_Ln)))) (hp_Si (z := (3 + 0)) rfl (by omega) trivial) ?_ ?_
  · intro p hp ys l' st' h' hys a1 a2 a3 gZ gL gS
    rcases List.mem_cons.mp hp with rfl | hp
    · obtain rfl := hp_y0 hys
      obtain ⟨y0, t0, rfl, q0, g0⟩ := hp_gSi (z := (3 + 0)) gS rfl
      obtain ⟨t1, rfl, g1⟩ := hp_gSa g0 (by decide)
      obtain ⟨y2, t2, rfl, q2, g2⟩ := hp_gSi (z := (0 + (121 * a + (11 * b + (1 * d + 0))))) g1 rfl
      obtain ⟨t3, rfl, g3⟩ := hp_gSa g2 (by decide)
      cases hp_gSn g3
      exact e0 l' h' y0 y2 (by omega) (by omega) a1 a2 a3 (hp_gLa gL (List.mem_of_getElem? (i := 0) rfl) (by decide)) (hp_gLi (z := (0 + (1 * a + 0))) gL (List.mem_of_getElem? (i := 1) rfl) rfl (by omega)) (hp_gLi (z := (0 + (1 * b + 0))) gL (List.mem_of_getElem? (i := 2) rfl) rfl (by omega)) (hp_gLi (z := (0 + (1 * d + 0))) gL (List.mem_of_getElem? (i := 3) rfl) rfl (by omega))
    cases hp
  · intro p hp ys v h' hys a1 a2 a3 gZ gS
    cases hp
theorem la3_5_k : hp_chk 247 58 3 [(0, 0, 10), (1, 0, 10), (2, 0, 10)] [] [(0, .inr (.inr (.inl (some 85)))), (1, .inl (0, [(0, 1)])), (2, .inl (0, [(1, 1)])), (3, .inl (0, [(2, 1)]))] [.inl (5, [])] [] [] 5 [(82, ([], 3, [(0, 0, 10), (1, 0, 10), (2, 0, 10)], [], [(0, .inr (.inr (.inl (some 85)))), (1, .inl (0, [(0, 1)])), (2, .inl (0, [(1, 1)])), (3, .inl (0, [(2, 1)]))], [.inl (5, []), .inr (.inr (.inl (some 85))), .inl (0, [(0, 121), (1, 11), (2, 1)]), .inr (.inr (.inl (some 88)))], []))] [] = true := by decide +kernel
theorem la3_5 {cst : am_K} {strs : List Nat} {Φ : am_Q → Prop} {D : Nat} {M : am_M} {h : am_H} {l : am_L} (c : hp_C cst strs D) (hM : m_P[247]? = some M) (hD : (5 : Int) ≤ (D : Int) + 1) (hy : ly_hy m_tt ly_TH h) (a b d : Int) (x0 : Int32) (hx0 : x0.toInt = 5) (b0 : 0 ≤ a) (t0 : a ≤ 10) (b1 : 0 ≤ b) (t1 : b ≤ 10) (b2 : 0 ≤ d) (t2 : d ≤ 10) (l0 : hp_a l 0 85) (l1 : hp_i l 1 (a)) (l2 : hp_i l 2 (b)) (l3 : hp_i l 3 (d)) (e0 : ∀ (l' : am_L) (h' : am_H) (y0 : Int32) (y2 : Int32), y0.toInt = 5 → y2.toInt = (121 * a + 11 * b + d) → ly_hy m_tt ly_TH h' → ly_fr cst [] h h' → h.length ≤ h'.length → hp_a l' 0 85 → hp_i l' 1 (a) → hp_i l' 2 (b) → hp_i l' 3 (d) → hp_F cst strs Φ D M 82 l' [.int y0, .ref 85, .int y2, .ref 88] h') : hp_F cst strs Φ D M 58 l [.int x0] h := by
  refine hp_arc c hM la3_5_k hD [a, b, d] rfl hy (hp_Bc (z := a) rfl b0 t0 (hp_Bc (z := b) rfl b1 t1 (hp_Bc (z := d) rfl b2 t2 hp_Bn))) hp_Fn hp_Kn (hp_La l0 (hp_Li (z := (0 + (1 * a + 0))) l1 rfl (by omega) (hp_Li (z := (0 + (1 * b + 0))) l2 rfl (by omega) (hp_Li (z := (0 + (1 * d + 0))) l3 rfl (by omega) hp_Ln)))) (hp_Si (z := (5 + 0)) rfl (by omega) trivial) ?_ ?_
  · intro p hp ys l' st' h' hys a1 a2 a3 gZ gL gS
    rcases List.mem_cons.mp hp with rfl | hp
    · obtain rfl := hp_y0 hys
      obtain ⟨y0, t0, rfl, q0, g0⟩ := hp_gSi (z := (5 + 0)) gS rfl
      obtain ⟨t1, rfl, g1⟩ := hp_gSa g0 (by decide)
      obtain ⟨y2, t2, rfl, q2, g2⟩ := hp_gSi (z := (0 + (121 * a + (11 * b + (1 * d + 0))))) g1 rfl
      obtain ⟨t3, rfl, g3⟩ := hp_gSa g2 (by decide)
      cases hp_gSn g3
      exact e0 l' h' y0 y2 (by omega) (by omega) a1 a2 a3 (hp_gLa gL (List.mem_of_getElem? (i := 0) rfl) (by decide)) (hp_gLi (z := (0 + (1 * a + 0))) gL (List.mem_of_getElem? (i := 1) rfl) rfl (by omega)) (hp_gLi (z := (0 + (1 * b + 0))) gL (List.mem_of_getElem? (i := 2) rfl) rfl (by omega)) (hp_gLi (z := (0 + (1 * d + 0))) gL (List.mem_of_getElem? (i := 3) rfl) rfl (by omega))
    cases hp
  · intro p hp ys v h' hys a1 a2 a3 gZ gS
    cases hp
theorem la3_6_k : hp_chk 247 58 3 [(0, 0, 10), (1, 0, 10), (2, 0, 10)] [] [(0, .inr (.inr (.inl (some 85)))), (1, .inl (0, [(0, 1)])), (2, .inl (0, [(1, 1)])), (3, .inl (0, [(2, 1)]))] [.inl (6, [])] [] [] 5 [(82, ([], 3, [(0, 0, 10), (1, 0, 10), (2, 0, 10)], [], [(0, .inr (.inr (.inl (some 85)))), (1, .inl (0, [(0, 1)])), (2, .inl (0, [(1, 1)])), (3, .inl (0, [(2, 1)]))], [.inl (6, []), .inr (.inr (.inl (some 85))), .inl (0, [(0, 121), (1, 11), (2, 1)]), .inr (.inr (.inl (some 88)))], []))] [] = true := by decide +kernel
theorem la3_6 {cst : am_K} {strs : List Nat} {Φ : am_Q → Prop} {D : Nat} {M : am_M} {h : am_H} {l : am_L} (c : hp_C cst strs D) (hM : m_P[247]? = some M) (hD : (5 : Int) ≤ (D : Int) + 1) (hy : ly_hy m_tt ly_TH h) (a b d : Int) (x0 : Int32) (hx0 : x0.toInt = 6) (b0 : 0 ≤ a) (t0 : a ≤ 10) (b1 : 0 ≤ b) (t1 : b ≤ 10) (b2 : 0 ≤ d) (t2 : d ≤ 10) (l0 : hp_a l 0 85) (l1 : hp_i l 1 (a)) (l2 : hp_i l 2 (b)) (l3 : hp_i l 3 (d)) (e0 : ∀ (l' : am_L) (h' : am_H) (y0 : Int32) (y2 : Int32), y0.toInt = 6 → y2.toInt = (121 * a + 11 * b + d) → ly_hy m_tt ly_TH h' → ly_fr cst [] h h' → h.length ≤ h'.length → hp_a l' 0 85 → hp_i l' 1 (a) → hp_i l' 2 (b) → hp_i l' 3 (d) → hp_F cst strs Φ D M 82 l' [.int y0, .ref 85, .int y2, .ref 88] h') : hp_F cst strs Φ D M 58 l [.int x0] h := by
  refine hp_arc c hM la3_6_k hD [a, b, d] rfl hy (hp_Bc (z := a) rfl b0 t0 (hp_Bc (z := b) rfl b1 t1 (hp_Bc (z := d) rfl b2 t2 hp_Bn))) hp_Fn hp_Kn (hp_La l0 (hp_Li (z := (0 + (1 * a + 0))) l1 rfl (by omega) (hp_Li (z := (0 + (1 * b + 0))) l2 rfl (by omega) (hp_Li (z := (0 + (1 * d + 0))) l3 rfl (by omega) hp_Ln)))) (hp_Si (z := (6 + 0)) rfl (by omega) trivial) ?_ ?_
  · intro p hp ys l' st' h' hys a1 a2 a3 gZ gL gS
    rcases List.mem_cons.mp hp with rfl | hp
    · obtain rfl := hp_y0 hys
      obtain ⟨y0, t0, rfl, q0, g0⟩ := hp_gSi (z := (6 + 0)) gS rfl
      obtain ⟨t1, rfl, g1⟩ := hp_gSa g0 (by decide)
      obtain ⟨y2, t2, rfl, q2, g2⟩ := hp_gSi (z := (0 + (121 * a + (11 * b + (1 * d + 0))))) g1 rfl
      obtain ⟨t3, rfl, g3⟩ := hp_gSa g2 (by decide)
      cases hp_gSn g3
      exact e0 l' h' y0 y2 (by omega) (by omega) a1 a2 a3 (hp_gLa gL (List.mem_of_getElem? (i := 0) rfl) (by decide)) (hp_gLi (z := (0 + (1 * a + 0))) gL (List.mem_of_getElem? (i := 1) rfl) rfl (by omega)) (hp_gLi (z := (0 + (1 * b + 0))) gL (List.mem_of_getElem? (i := 2) rfl) rfl (by omega)) (hp_gLi (z := (0 + (1 * d + 0))) gL (List.mem_of_getElem? (i := 3) rfl) rfl (by omega))
    cases hp
  · intro p hp ys v h' hys a1 a2 a3 gZ gS
    cases hp
theorem la3_1_k : hp_chk 247 58 3 [(0, 0, 10), (1, 0, 10), (2, 0, 10)] [] [(0, .inr (.inr (.inl (some 85)))), (1, .inl (0, [(0, 1)])), (2, .inl (0, [(1, 1)])), (3, .inl (0, [(2, 1)]))] [.inl (1, [])] [] [] 5 [(82, ([], 3, [(0, 0, 10), (1, 0, 10), (2, 0, 10)], [], [(0, .inr (.inr (.inl (some 85)))), (1, .inl (0, [(0, 1)])), (2, .inl (0, [(1, 1)])), (3, .inl (0, [(2, 1)]))], [.inl (1, []), .inr (.inr (.inl (some 85))), .inl (0, [(0, 121), (1, 11), (2, 1)]), .inr (.inr (.inl (some 88)))], []))] [] = true := by decide +kernel
theorem la3_1 {cst : am_K} {strs : List Nat} {Φ : am_Q → Prop} {D : Nat} {M : am_M} {h : am_H} {l : am_L} (c : hp_C cst strs D) (hM : m_P[247]? = some M) (hD : (5 : Int) ≤ (D : Int) + 1) (hy : ly_hy m_tt ly_TH h) (a b d : Int) (x0 : Int32) (hx0 : x0.toInt = 1) (b0 : 0 ≤ a) (t0 : a ≤ 10) (b1 : 0 ≤ b) (t1 : b ≤ 10) (b2 : 0 ≤ d) (t2 : d ≤ 10) (l0 : hp_a l 0 85) (l1 : hp_i l 1 (a)) (l2 : hp_i l 2 (b)) (l3 : hp_i l 3 (d)) (e0 : ∀ (l' : am_L) (h' : am_H) (y0 : Int32) (y2 : Int32), y0.toInt = 1 → y2.toInt = (121 * a + 11 * b + d) → ly_hy m_tt ly_TH h' → ly_fr cst [] h h' → h.length ≤ h'.length → hp_a l' 0 85 → hp_i l' 1 (a) → hp_i l' 2 (b) → hp_i l' 3 (d) → hp_F cst strs Φ D M 82 l' [.int y0, .ref 85, .int y2, .ref 88] h') : hp_F cst strs Φ D M 58 l [.int x0] h := by
  refine hp_arc c hM la3_1_k hD [a, b, d] rfl hy (hp_Bc (z := a) rfl b0 t0 (hp_Bc (z := b) rfl b1 t1 (hp_Bc (z := d) rfl b2 t2 hp_Bn))) hp_Fn hp_Kn (hp_La l0 (hp_Li (z := (0 + (1 * a + 0))) l1 rfl (by omega) (hp_Li (z := (0 + (1 * b + 0))) l2 rfl (by omega) (hp_Li (z := (0 + (1 * d + 0))) l3 rfl (by omega) hp_Ln)))) (hp_Si (z := (1 + 0)) rfl (by omega) trivial) ?_ ?_
  · intro p hp ys l' st' h' hys a1 a2 a3 gZ gL gS
    rcases List.mem_cons.mp hp with rfl | hp
    · obtain rfl := hp_y0 hys
      obtain ⟨y0, t0, rfl, q0, g0⟩ := hp_gSi (z := (1 + 0)) gS rfl
      obtain ⟨t1, rfl, g1⟩ := hp_gSa g0 (by decide)
      obtain ⟨y2, t2, rfl, q2, g2⟩ := hp_gSi (z := (0 + (121 * a + (11 * b + (1 * d + 0))))) g1 rfl
      obtain ⟨t3, rfl, g3⟩ := hp_gSa g2 (by decide)
      cases hp_gSn g3
      exact e0 l' h' y0 y2 (by omega) (by omega) a1 a2 a3 (hp_gLa gL (List.mem_of_getElem? (i := 0) rfl) (by decide)) (hp_gLi (z := (0 + (1 * a + 0))) gL (List.mem_of_getElem? (i := 1) rfl) rfl (by omega)) (hp_gLi (z := (0 + (1 * b + 0))) gL (List.mem_of_getElem? (i := 2) rfl) rfl (by omega)) (hp_gLi (z := (0 + (1 * d + 0))) gL (List.mem_of_getElem? (i := 3) rfl) rfl (by omega))
    cases hp
  · intro p hp ys v h' hys a1 a2 a3 gZ gS
    cases hp
theorem la3_2_k : hp_chk 247 58 3 [(0, 0, 10), (1, 0, 10), (2, 0, 10)] [] [(0, .inr (.inr (.inl (some 85)))), (1, .inl (0, [(0, 1)])), (2, .inl (0, [(1, 1)])), (3, .inl (0, [(2, 1)]))] [.inl (2, [])] [] [] 5 [(82, ([], 3, [(0, 0, 10), (1, 0, 10), (2, 0, 10)], [], [(0, .inr (.inr (.inl (some 85)))), (1, .inl (0, [(0, 1)])), (2, .inl (0, [(1, 1)])), (3, .inl (0, [(2, 1)]))], [.inl (2, []), .inr (.inr (.inl (some 85))), .inl (0, [(0, 121), (1, 11), (2, 1)]), .inr (.inr (.inl (some 88)))], []))] [] = true := by decide +kernel
theorem la3_2 {cst : am_K} {strs : List Nat} {Φ : am_Q → Prop} {D : Nat} {M : am_M} {h : am_H} {l : am_L} (c : hp_C cst strs D) (hM : m_P[247]? = some M) (hD : (5 : Int) ≤ (D : Int) + 1) (hy : ly_hy m_tt ly_TH h) (a b d : Int) (x0 : Int32) (hx0 : x0.toInt = 2) (b0 : 0 ≤ a) (t0 : a ≤ 10) (b1 : 0 ≤ b) (t1 : b ≤ 10) (b2 : 0 ≤ d) (t2 : d ≤ 10) (l0 : hp_a l 0 85) (l1 : hp_i l 1 (a)) (l2 : hp_i l 2 (b)) (l3 : hp_i l 3 (d)) (e0 : ∀ (l' : am_L) (h' : am_H) (y0 : Int32) (y2 : Int32), y0.toInt = 2 → y2.toInt = (121 * a + 11 * b + d) → ly_hy m_tt ly_TH h' → ly_fr cst [] h h' → h.length ≤ h'.length → hp_a l' 0 85 → hp_i l' 1 (a) → hp_i l' 2 (b) → hp_i l' 3 (d) → hp_F cst strs Φ D M 82 l' [.int y0, .ref 85, .int y2, .ref 88] h') : hp_F cst strs Φ D M 58 l [.int x0] h := by
  refine hp_arc c hM la3_2_k hD [a, b, d] rfl hy (hp_Bc (z := a) rfl b0 t0 (hp_Bc (z := b) rfl b1 t1 (hp_Bc (z := d) rfl b2 t2 hp_Bn))) hp_Fn hp_Kn (hp_La l0 (hp_Li (z := (0 + (1 * a + 0))) l1 rfl (by omega) (hp_Li (z := (0 + (1 * b + 0))) l2 rfl (by omega) (hp_Li (z := (0 + (1 * d + 0))) l3 rfl (by omega) hp_Ln)))) (hp_Si (z := (2 + 0)) rfl (by omega) trivial) ?_ ?_
  · intro p hp ys l' st' h' hys a1 a2 a3 gZ gL gS
    rcases List.mem_cons.mp hp with rfl | hp
    · obtain rfl := hp_y0 hys
      obtain ⟨y0, t0, rfl, q0, g0⟩ := hp_gSi (z := (2 + 0)) gS rfl
      obtain ⟨t1, rfl, g1⟩ := hp_gSa g0 (by decide)
      obtain ⟨y2, t2, rfl, q2, g2⟩ := hp_gSi (z := (0 + (121 * a + (11 * b + (1 * d + 0))))) g1 rfl
      obtain ⟨t3, rfl, g3⟩ := hp_gSa g2 (by decide)
      cases hp_gSn g3
      exact e0 l' h' y0 y2 (by omega) (by omega) a1 a2 a3 (hp_gLa gL (List.mem_of_getElem? (i := 0) rfl) (by decide)) (hp_gLi (z := (0 + (1 * a + 0))) gL (List.mem_of_getElem? (i := 1) rfl) rfl (by omega)) (hp_gLi (z := (0 + (1 * b + 0))) gL (List.mem_of_getElem? (i := 2) rfl) rfl (by omega)) (hp_gLi (z := (0 + (1 * d + 0))) gL (List.mem_of_getElem? (i := 3) rfl) rfl (by omega))
    cases hp
  · intro p hp ys v h' hys a1 a2 a3 gZ gS
    cases hp
theorem la3_4_k : hp_chk 247 58 3 [(0, 0, 10), (1, 0, 10), (2, 0, 10)] [] [(0, .inr (.inr (.inl (some 85)))), (1, .inl (0, [(0, 1)])), (2, .inl (0, [(1, 1)])), (3, .inl (0, [(2, 1)]))] [.inl (4, [])] [] [] 5 [(82, ([], 3, [(0, 0, 10), (1, 0, 10), (2, 0, 10)], [], [(0, .inr (.inr (.inl (some 85)))), (1, .inl (0, [(0, 1)])), (2, .inl (0, [(1, 1)])), (3, .inl (0, [(2, 1)]))], [.inl (4, []), .inr (.inr (.inl (some 85))), .inl (0, [(0, 121), (1, 11), (2, 1)]), .inr (.inr (.inl (some 88)))], []))] [] = true := by decide +kernel
theorem la3_4 {cst : am_K} {strs : List Nat} {Φ : am_Q → Prop} {D : Nat} {M : am_M} {h : am_H} {l : am_L} (c : hp_C cst strs D) (hM : m_P[247]? = some M) (hD : (5 : Int) ≤ (D : Int) + 1) (hy : ly_hy m_tt ly_TH h) (a b d : Int) (x0 : Int32) (hx0 : x0.toInt = 4) (b0 : 0 ≤ a) (t0 : a ≤ 10) (b1 : 0 ≤ b) (t1 : b ≤ 10) (b2 : 0 ≤ d) (t2 : d ≤ 10) (l0 : hp_a l 0 85) (l1 : hp_i l 1 (a)) (l2 : hp_i l 2 (b)) (l3 : hp_i l 3 (d)) (e0 : ∀ (l' : am_L) (h' : am_H) (y0 : Int32) (y2 : Int32), y0.toInt = 4 → y2.toInt = (121 * a + 11 * b + d) → ly_hy m_tt ly_TH h' → ly_fr cst [] h h' → h.length ≤ h'.length → hp_a l' 0 85 → hp_i l' 1 (a) → hp_i l' 2 (b) → hp_i l' 3 (d) → hp_F cst strs Φ D M 82 l' [.int y0, .ref 85, .int y2, .ref 88] h') : hp_F cst strs Φ D M 58 l [.int x0] h := by
  refine hp_arc c hM la3_4_k hD [a, b, d] rfl hy (hp_Bc (z := a) rfl b0 t0 (hp_Bc (z := b) rfl b1 t1 (hp_Bc (z := d) rfl b2 t2 hp_Bn))) hp_Fn hp_Kn (hp_La l0 (hp_Li (z := (0 + (1 * a + 0))) l1 rfl (by omega) (hp_Li (z := (0 + (1 * b + 0))) l2 rfl (by omega) (hp_Li (z := (0 + (1 * d + 0))) l3 rfl (by omega) hp_Ln)))) (hp_Si (z := (4 + 0)) rfl (by omega) trivial) ?_ ?_
  · intro p hp ys l' st' h' hys a1 a2 a3 gZ gL gS
    rcases List.mem_cons.mp hp with rfl | hp
    · obtain rfl := hp_y0 hys
      obtain ⟨y0, t0, rfl, q0, g0⟩ := hp_gSi (z := (4 + 0)) gS rfl
      obtain ⟨t1, rfl, g1⟩ := hp_gSa g0 (by decide)
      obtain ⟨y2, t2, rfl, q2, g2⟩ := hp_gSi (z := (0 + (121 * a + (11 * b + (1 * d + 0))))) g1 rfl
      obtain ⟨t3, rfl, g3⟩ := hp_gSa g2 (by decide)
      cases hp_gSn g3
      exact e0 l' h' y0 y2 (by omega) (by omega) a1 a2 a3 (hp_gLa gL (List.mem_of_getElem? (i := 0) rfl) (by decide)) (hp_gLi (z := (0 + (1 * a + 0))) gL (List.mem_of_getElem? (i := 1) rfl) rfl (by omega)) (hp_gLi (z := (0 + (1 * b + 0))) gL (List.mem_of_getElem? (i := 2) rfl) rfl (by omega)) (hp_gLi (z := (0 + (1 * d + 0))) gL (List.mem_of_getElem? (i := 3) rfl) rfl (by omega))
    cases hp
  · intro p hp ys v h' hys a1 a2 a3 gZ gS
    cases hp
theorem la5_k : hp_chk 247 86 3 [(0, 0, 10), (1, 0, 10), (2, 0, 10)] [] [(0, .inr (.inr (.inl (some 85)))), (1, .inl (0, [(0, 1)])), (2, .inl (0, [(1, 1)])), (3, .inl (0, [(2, 1)]))] [] [] [] 2 [(29, ([], 3, [(0, 0, 10), (1, 0, 10), (2, 0, 10)], [], [(0, .inr (.inr (.inl (some 85)))), (1, .inl (0, [(0, 1)])), (2, .inl (0, [(1, 1)])), (3, .inl ((-1), [(2, 1)]))], [], []))] [] = true := by decide +kernel
theorem la5 {cst : am_K} {strs : List Nat} {Φ : am_Q → Prop} {D : Nat} {M : am_M} {h : am_H} {l : am_L} (c : hp_C cst strs D) (hM : m_P[247]? = some M) (hD : (2 : Int) ≤ (D : Int) + 1) (hy : ly_hy m_tt ly_TH h) (a b d : Int) (b0 : 0 ≤ a) (t0 : a ≤ 10) (b1 : 0 ≤ b) (t1 : b ≤ 10) (b2 : 0 ≤ d) (t2 : d ≤ 10) (l0 : hp_a l 0 85) (l1 : hp_i l 1 (a)) (l2 : hp_i l 2 (b)) (l3 : hp_i l 3 (d)) (e0 : ∀ (l' : am_L) (h' : am_H), ly_hy m_tt ly_TH h' → ly_fr cst [] h h' → h.length ≤ h'.length → hp_a l' 0 85 → hp_i l' 1 (a) → hp_i l' 2 (b) → hp_i l' 3 (d - 1) → hp_F cst strs Φ D M 29 l' [] h') : hp_F cst strs Φ D M 86 l [] h := by
  refine hp_arc c hM la5_k hD [a, b, d] rfl hy (hp_Bc (z := a) rfl b0 t0 (hp_Bc (z := b) rfl b1 t1 (hp_Bc (z := d) rfl b2 t2 hp_Bn))) hp_Fn hp_Kn (hp_La l0 (hp_Li (z := (0 + (1 * a + 0))) l1 rfl (by omega) (hp_Li (z := (0 + (1 * b + 0))) l2 rfl (by omega) (hp_Li (z := (0 + (1 * d + 0))) l3 rfl (by omega) hp_Ln)))) trivial ?_ ?_
  · intro p hp ys l' st' h' hys a1 a2 a3 gZ gL gS
    rcases List.mem_cons.mp hp with rfl | hp
    · obtain rfl := hp_y0 hys
      cases hp_gSn gS
      exact e0 l' h' a1 a2 a3 (hp_gLa gL (List.mem_of_getElem? (i := 0) rfl) (by decide)) (hp_gLi (z := (0 + (1 * a + 0))) gL (List.mem_of_getElem? (i := 1) rfl) rfl (by omega)) (hp_gLi (z := (0 + (1 * b + 0))) gL (List.mem_of_getElem? (i := 2) rfl) rfl (by omega)) (hp_gLi (z := ((-1) + (1 * d + 0))) gL (List.mem_of_getElem? (i := 3) rfl) rfl (by omega))
    cases hp
  · intro p hp ys v h' hys a1 a2 a3 gZ gS
    cases hp
theorem la6_k : hp_chk 247 29 5 [(0, 0, 10), (1, 1, 10), (2, 0, 10), (3, 0, 10), (4, 0, 10)] [] [(0, .inr (.inr (.inl (some 85)))), (1, .inl (0, [(0, 1)])), (2, .inl (0, [(1, 1)])), (3, .inl ((-1), []))] [] [(17920, (0, []), (0, [(2, 1)])), (17920, (1, []), (0, [(3, 1)])), (17920, (2, []), (0, [(4, 1)]))] [] 2 [(29, ([], 5, [(0, 0, 10), (1, 1, 10), (2, 0, 10), (3, 0, 10), (4, 0, 10)], [], [(0, .inr (.inr (.inl (some 85)))), (1, .inl (0, [(0, 1)])), (2, .inl ((-1), [(1, 1)])), (3, .inl (0, [(4, 1)]))], [], []))] [] = true := by decide +kernel
theorem la6 {cst : am_K} {strs : List Nat} {Φ : am_Q → Prop} {D : Nat} {M : am_M} {h : am_H} {l : am_L} (c : hp_C cst strs D) (hM : m_P[247]? = some M) (hD : (2 : Int) ≤ (D : Int) + 1) (hy : ly_hy m_tt ly_TH h) (a b ma mb md : Int) (b0 : 0 ≤ a) (t0 : a ≤ 10) (b1 : 1 ≤ b) (t1 : b ≤ 10) (b2 : 0 ≤ ma) (t2 : ma ≤ 10) (b3 : 0 ≤ mb) (t3 : mb ≤ 10) (b4 : 0 ≤ md) (t4 : md ≤ 10) (k0 : ly_hv cst h 17920 0 = some (ma)) (k1 : ly_hv cst h 17920 1 = some (mb)) (k2 : ly_hv cst h 17920 2 = some (md)) (l0 : hp_a l 0 85) (l1 : hp_i l 1 (a)) (l2 : hp_i l 2 (b)) (l3 : hp_i l 3 (-1)) (e0 : ∀ (l' : am_L) (h' : am_H), ly_hy m_tt ly_TH h' → ly_fr cst [] h h' → h.length ≤ h'.length → hp_a l' 0 85 → hp_i l' 1 (a) → hp_i l' 2 (b - 1) → hp_i l' 3 (md) → hp_F cst strs Φ D M 29 l' [] h') : hp_F cst strs Φ D M 29 l [] h := by
  refine hp_arc c hM la6_k hD [a, b, ma, mb, md] rfl hy (hp_Bc (z := a) rfl b0 t0 (hp_Bc (z := b) rfl b1 t1 (hp_Bc (z := ma) rfl b2 t2 (hp_Bc (z := mb) rfl b3 t3 (hp_Bc (z := md) rfl b4 t4 hp_Bn))))) hp_Fn (hp_Kc (zi := (0 + 0)) (zv := (0 + (1 * ma + 0))) k0 rfl rfl (by omega) (by omega) (hp_Kc (zi := (1 + 0)) (zv := (0 + (1 * mb + 0))) k1 rfl rfl (by omega) (by omega) (hp_Kc (zi := (2 + 0)) (zv := (0 + (1 * md + 0))) k2 rfl rfl (by omega) (by omega) hp_Kn))) (hp_La l0 (hp_Li (z := (0 + (1 * a + 0))) l1 rfl (by omega) (hp_Li (z := (0 + (1 * b + 0))) l2 rfl (by omega) (hp_Li (z := ((-1) + 0)) l3 rfl (by omega) hp_Ln)))) trivial ?_ ?_
  · intro p hp ys l' st' h' hys a1 a2 a3 gZ gL gS
    rcases List.mem_cons.mp hp with rfl | hp
    · obtain rfl := hp_y0 hys
      cases hp_gSn gS
      exact e0 l' h' a1 a2 a3 (hp_gLa gL (List.mem_of_getElem? (i := 0) rfl) (by decide)) (hp_gLi (z := (0 + (1 * a + 0))) gL (List.mem_of_getElem? (i := 1) rfl) rfl (by omega)) (hp_gLi (z := ((-1) + (1 * b + 0))) gL (List.mem_of_getElem? (i := 2) rfl) rfl (by omega)) (hp_gLi (z := (0 + (1 * md + 0))) gL (List.mem_of_getElem? (i := 3) rfl) rfl (by omega))
    cases hp
  · intro p hp ys v h' hys a1 a2 a3 gZ gS
    cases hp
theorem la7_k : hp_chk 247 29 4 [(0, 1, 10), (1, 0, 10), (2, 0, 10), (3, 0, 10)] [] [(0, .inr (.inr (.inl (some 85)))), (1, .inl (0, [(0, 1)])), (2, .inl (0, [])), (3, .inl ((-1), []))] [] [(17920, (0, []), (0, [(1, 1)])), (17920, (1, []), (0, [(2, 1)])), (17920, (2, []), (0, [(3, 1)]))] [] 2 [(29, ([], 4, [(0, 1, 10), (1, 0, 10), (2, 0, 10), (3, 0, 10)], [], [(0, .inr (.inr (.inl (some 85)))), (1, .inl ((-1), [(0, 1)])), (2, .inl (0, [(2, 1)])), (3, .inl (0, [(3, 1)]))], [], []))] [] = true := by decide +kernel
theorem la7 {cst : am_K} {strs : List Nat} {Φ : am_Q → Prop} {D : Nat} {M : am_M} {h : am_H} {l : am_L} (c : hp_C cst strs D) (hM : m_P[247]? = some M) (hD : (2 : Int) ≤ (D : Int) + 1) (hy : ly_hy m_tt ly_TH h) (a ma mb md : Int) (b0 : 1 ≤ a) (t0 : a ≤ 10) (b1 : 0 ≤ ma) (t1 : ma ≤ 10) (b2 : 0 ≤ mb) (t2 : mb ≤ 10) (b3 : 0 ≤ md) (t3 : md ≤ 10) (k0 : ly_hv cst h 17920 0 = some (ma)) (k1 : ly_hv cst h 17920 1 = some (mb)) (k2 : ly_hv cst h 17920 2 = some (md)) (l0 : hp_a l 0 85) (l1 : hp_i l 1 (a)) (l2 : hp_i l 2 0) (l3 : hp_i l 3 (-1)) (e0 : ∀ (l' : am_L) (h' : am_H), ly_hy m_tt ly_TH h' → ly_fr cst [] h h' → h.length ≤ h'.length → hp_a l' 0 85 → hp_i l' 1 (a - 1) → hp_i l' 2 (mb) → hp_i l' 3 (md) → hp_F cst strs Φ D M 29 l' [] h') : hp_F cst strs Φ D M 29 l [] h := by
  refine hp_arc c hM la7_k hD [a, ma, mb, md] rfl hy (hp_Bc (z := a) rfl b0 t0 (hp_Bc (z := ma) rfl b1 t1 (hp_Bc (z := mb) rfl b2 t2 (hp_Bc (z := md) rfl b3 t3 hp_Bn)))) hp_Fn (hp_Kc (zi := (0 + 0)) (zv := (0 + (1 * ma + 0))) k0 rfl rfl (by omega) (by omega) (hp_Kc (zi := (1 + 0)) (zv := (0 + (1 * mb + 0))) k1 rfl rfl (by omega) (by omega) (hp_Kc (zi := (2 + 0)) (zv := (0 + (1 * md + 0))) k2 rfl rfl (by omega) (by omega) hp_Kn))) (hp_La l0 (hp_Li (z := (0 + (1 * a + 0))) l1 rfl (by omega) (hp_Li (z := (0 + 0)) l2 rfl (by omega) (hp_Li (z := ((-1) + 0)) l3 rfl (by omega) hp_Ln)))) trivial ?_ ?_
  · intro p hp ys l' st' h' hys a1 a2 a3 gZ gL gS
    rcases List.mem_cons.mp hp with rfl | hp
    · obtain rfl := hp_y0 hys
      cases hp_gSn gS
      exact e0 l' h' a1 a2 a3 (hp_gLa gL (List.mem_of_getElem? (i := 0) rfl) (by decide)) (hp_gLi (z := ((-1) + (1 * a + 0))) gL (List.mem_of_getElem? (i := 1) rfl) rfl (by omega)) (hp_gLi (z := (0 + (1 * mb + 0))) gL (List.mem_of_getElem? (i := 2) rfl) rfl (by omega)) (hp_gLi (z := (0 + (1 * md + 0))) gL (List.mem_of_getElem? (i := 3) rfl) rfl (by omega))
    cases hp
  · intro p hp ys v h' hys a1 a2 a3 gZ gS
    cases hp
theorem la8_k : hp_chk 247 29 1 [(0, (-2147483648), 2147483647)] [] [(0, .inr (.inr (.inl (some 85)))), (1, .inl (0, [])), (2, .inl (0, [])), (3, .inl ((-1), []))] [] [(18432, (0, []), (0, [(0, 1)]))] [17669, 18688, 18944] 10 [] [([], 1, [(0, (-2147483648), 2147483647)], [], [], [.inl (0, [(0, 1)])], [])] = true := by decide +kernel
theorem la8 {cst : am_K} {strs : List Nat} {Φ : am_Q → Prop} {D : Nat} {M : am_M} {h : am_H} {l : am_L} (c : hp_C cst strs D) (hM : m_P[247]? = some M) (hD : (10 : Int) ≤ (D : Int) + 1) (hy : ly_hy m_tt ly_TH h) (y : Int) (b0 : (-2147483648) ≤ y) (t0 : y ≤ 2147483647) (k0 : ly_hv cst h 18432 0 = some (y)) (l0 : hp_a l 0 85) (l1 : hp_i l 1 0) (l2 : hp_i l 2 0) (l3 : hp_i l 3 (-1)) (r0 : ∀ (h' : am_H) (y0 : Int32), y0.toInt = (y) → ly_hy m_tt ly_TH h' → ly_fr cst [17669, 18688, 18944] h h' → h.length ≤ h'.length → Φ (some (.int y0), h', 0, 0)) : hp_F cst strs Φ D M 29 l [] h := by
  refine hp_arc c hM la8_k hD [y] rfl hy (hp_Bc (z := y) rfl b0 t0 hp_Bn) hp_Fn (hp_Kc (zi := (0 + 0)) (zv := (0 + (1 * y + 0))) k0 rfl rfl (by omega) (by omega) hp_Kn) (hp_La l0 (hp_Li (z := (0 + 0)) l1 rfl (by omega) (hp_Li (z := (0 + 0)) l2 rfl (by omega) (hp_Li (z := ((-1) + 0)) l3 rfl (by omega) hp_Ln)))) trivial ?_ ?_
  · intro p hp ys l' st' h' hys a1 a2 a3 gZ gL gS
    cases hp
  · intro p hp ys v h' hys a1 a2 a3 gZ gS
    rcases List.mem_cons.mp hp with rfl | hp
    · obtain rfl := hp_y0 hys
      cases v with
      | none => cases gS
      | some w =>
        obtain ⟨y0, t0, s0, q0, -⟩ := hp_gSi (z := (0 + (1 * y + 0))) gS rfl
        cases s0
        exact r0 h' y0 (by omega) a1 a2 a3
    cases hp
theorem lj0_k : hp_chk 246 0 0 [] [] [(0, .inr (.inr (.inl (some 16))))] [] [] [] 2 [(4, ([], 0, [], [], [], [.inr (.inr (.inl (some 85)))], []))] [] = true := by decide +kernel
theorem lj0 {cst : am_K} {strs : List Nat} {Φ : am_Q → Prop} {D : Nat} {M : am_M} {h : am_H} {l : am_L} (c : hp_C cst strs D) (hM : m_P[246]? = some M) (hD : (2 : Int) ≤ (D : Int) + 1) (hy : ly_hy m_tt ly_TH h) (l0 : hp_a l 0 16) (e0 : ∀ (l' : am_L) (h' : am_H), ly_hy m_tt ly_TH h' → ly_fr cst [] h h' → h.length ≤ h'.length → hp_F cst strs Φ D M 4 l' [.ref 85] h') : hp_F cst strs Φ D M 0 l [] h := by
  refine hp_arc c hM lj0_k hD [] rfl hy hp_Bn hp_Fn hp_Kn (hp_La l0 hp_Ln) trivial ?_ ?_
  · intro p hp ys l' st' h' hys a1 a2 a3 gZ gL gS
    rcases List.mem_cons.mp hp with rfl | hp
    · obtain rfl := hp_y0 hys
      obtain ⟨t0, rfl, g0⟩ := hp_gSa gS (by decide)
      cases hp_gSn g0
      exact e0 l' h' a1 a2 a3
    cases hp
  · intro p hp ys v h' hys a1 a2 a3 gZ gS
    cases hp
theorem lj1_k : hp_chk 246 7 1 [(0, (-2147483648), 2147483647)] [] [] [.inl (0, [(0, 1)])] [] [] 2 [] [([], 1, [(0, (-2147483648), 2147483647)], [], [], [.inl (0, [(0, 1)])], [])] = true := by decide +kernel
theorem lj1 {cst : am_K} {strs : List Nat} {Φ : am_Q → Prop} {D : Nat} {M : am_M} {h : am_H} {l : am_L} (c : hp_C cst strs D) (hM : m_P[246]? = some M) (hD : (2 : Int) ≤ (D : Int) + 1) (hy : ly_hy m_tt ly_TH h) (y : Int) (x0 : Int32) (hx0 : x0.toInt = (y)) (b0 : (-2147483648) ≤ y) (t0 : y ≤ 2147483647) (r0 : ∀ (h' : am_H) (y0 : Int32), y0.toInt = (y) → ly_hy m_tt ly_TH h' → ly_fr cst [] h h' → h.length ≤ h'.length → Φ (some (.int y0), h', 0, 0)) : hp_F cst strs Φ D M 7 l [.int x0] h := by
  refine hp_arc c hM lj1_k hD [y] rfl hy (hp_Bc (z := y) rfl b0 t0 hp_Bn) hp_Fn hp_Kn hp_Ln (hp_Si (z := (0 + (1 * y + 0))) rfl (by omega) trivial) ?_ ?_
  · intro p hp ys l' st' h' hys a1 a2 a3 gZ gL gS
    cases hp
  · intro p hp ys v h' hys a1 a2 a3 gZ gS
    rcases List.mem_cons.mp hp with rfl | hp
    · obtain rfl := hp_y0 hys
      cases v with
      | none => cases gS
      | some w =>
        obtain ⟨y0, t0, s0, q0, -⟩ := hp_gSi (z := (0 + (1 * y + 0))) gS rfl
        cases s0
        exact r0 h' y0 (by omega) a1 a2 a3
    cases hp
theorem th_L0 : ly_ths ly_TH 70 = some (.inl (.int, 3, 0, 10)) := rfl
theorem th_L1 : ly_ths ly_TH 71 = some (.inl (.int, 30, -2147483648, 2147483647)) := rfl
theorem th_L2 : ly_ths ly_TH 72 = some (.inl (.int, 1331, -2147483648, 2147483647)) := rfl
theorem hL0 {cst : am_K} {h h' : am_H} {ms : List Nat} (hm : ly_has 17920 ms = false) (hy : ly_hy m_tt ly_TH h) (hy' : ly_hy m_tt ly_TH h') (fr : ly_fr cst ms h h') : ly_hv cst h' 17920 = ly_hv cst h 17920 := hp_same th_L0 hm hy hy' fr
theorem hL1 {cst : am_K} {h h' : am_H} {ms : List Nat} (hm : ly_has 18176 ms = false) (hy : ly_hy m_tt ly_TH h) (hy' : ly_hy m_tt ly_TH h') (fr : ly_fr cst ms h h') : ly_hv cst h' 18176 = ly_hv cst h 18176 := hp_same th_L1 hm hy hy' fr
theorem hL2 {cst : am_K} {h h' : am_H} {ms : List Nat} (hm : ly_has 18432 ms = false) (hy : ly_hy m_tt ly_TH h) (hy' : ly_hy m_tt ly_TH h') (fr : ly_fr cst ms h h') : ly_hv cst h' 18432 = ly_hv cst h 18432 := hp_same th_L2 hm hy hy' fr
theorem hRL {cst : am_K} {h h' : am_H} {ms : List Nat} (hm : ly_has 44032 ms = false) (hy : ly_hy m_tt ly_TH h) (hy' : ly_hy m_tt ly_TH h') (fr : ly_fr cst ms h h') : ly_hv cst h' 44032 = ly_hv cst h 44032 := hp_same th_RL hm hy hy' fr
theorem hRM {cst : am_K} {h h' : am_H} {ms : List Nat} (hm : ly_has 44288 ms = false) (hy : ly_hy m_tt ly_TH h) (hy' : ly_hy m_tt ly_TH h') (fr : ly_fr cst ms h h') : ly_hv cst h' 44288 = ly_hv cst h 44288 := hp_same th_RM hm hy hy' fr
theorem cbs7 {cst : am_K} {strs : List Nat} {Φ : am_Q → Prop} {D : Nat} {M : am_M} {h : am_H} {l : am_L} (c : hp_C cst strs D) (hM : m_P[250]? = some M) (hD : (5 : Int) ≤ (D : Int) + 1) (hy : ly_hy m_tt ly_TH h) (a b d ma mb md y : Int) (ba : 0 ≤ a) (ta : a ≤ 10) (bb : 0 ≤ b) (tb : b ≤ 10) (bd : 0 ≤ d) (td : d ≤ 10) (bma : 0 ≤ ma) (tma : ma ≤ 10) (bmb : 0 ≤ mb) (tmb : mb ≤ 10) (bmd : 0 ≤ md) (tmd : md ≤ 10) (y0 : 0 ≤ y) (y1 : y ≤ 360) (ka : ly_hv cst h 18688 0 = some a) (kb : ly_hv cst h 18688 1 = some b) (kd : ly_hv cst h 18688 2 = some d) (k0 : ly_hv cst h 17920 0 = some ma) (k1 : ly_hv cst h 17920 1 = some mb) (k2 : ly_hv cst h 17920 2 = some md) (hyv : ly_hv cst h 18432 (121 * a + 11 * b + d + 133) = some y) (val : a < ma ∧ b < mb ∧ d < md) (l0 : hp_a l 0 85) (l1 : hp_i l 1 7) (r : ∀ (h' : am_H) (x : Int32), x.toInt = rc (ly_hv cst h 18176) (ly_hv cst h 17920) 7 a b d + y → ly_hy m_tt ly_TH h' → ly_fr cst [] h h' → h.length ≤ h'.length → Φ (some (.int x), h', 0, 0)) : hp_F cst strs Φ D M 0 l [] h := by
  have e := rc_of (f := ly_hv cst h 18176) (s := 7) (a := a) (b := b) (d := d) k0 k1 k2
  have e1 := e
  unfold rc_v at e1
  rw [if_neg (by decide), if_neg (by decide), if_neg (by decide), if_neg (by decide), if_neg (by decide), if_neg (by decide), if_pos val] at e1
  obtain ⟨u, hu, u0, u1⟩ := hp_row (cst := cst) (i := a) hy th_L1 (by omega) (by omega)
  have du := hp_dvb u0 u1
  obtain ⟨v, hv, v0, v1⟩ := hp_row (cst := cst) (i := b + 10) hy th_L1 (by omega) (by omega)
  have dv := hp_dvb v0 v1
  obtain ⟨w, hw, w0, w1⟩ := hp_row (cst := cst) (i := d + 20) hy th_L1 (by omega) (by omega)
  have dw := hp_dvb w0 w1
  have e2 : rc (ly_hv cst h 18176) (ly_hv cst h 17920) 7 a b d = rc_c v u + rc_c w u + rc_c w v := by
    rw [e1, show ly_hv cst h 18176 a = some u from hu, show ly_hv cst h 18176 (b + 10) = some v from hv, show ly_hv cst h 18176 (d + 20) = some w from hw]
    rfl
  by_cases q : v = u
  case pos =>
    rw [q] at hv
    by_cases q1 : w = u
    case pos => rw [q1] at hw; exact cb7a c hM hD hy a b d ma mb md y u ba ta bb tb bd td bma tma bmb tmb bmd tmd y0 y1 u0 u1 (by omega) (by omega) (by omega) ka kb kd hyv hu hv hw  l0 l1 (fun h' z hx => r h' z (by have e3 := e2; rw [q, q1, rc_c0] at e3; omega))
    have n1 : ly_hv cst h 61000 (w - u) = some 1 := hp_ne (by omega)
    by_cases q2 : w.tdiv 10 = u.tdiv 10
    case pos => exact cb7b c hM hD hy a b d ma mb md y (w.tdiv 10) u w ba ta bb tb bd td bma tma bmb tmb bmd tmd y0 y1 dw.1 dw.2 u0 u1 w0 w1 (by omega) (by omega) (by omega) ka kb kd hyv hu hv hw n1 (hp_dv _) (by rw [q2]; exact hp_dv _) l0 l1 (fun h' z hx => r h' z (by have e3 := e2; rw [q, rc_c0, rc_c1 q1 q2] at e3; omega))
    exact cb7c c hM hD hy a b d ma mb md y (u.tdiv 10) (w.tdiv 10) u w ba ta bb tb bd td bma tma bmb tmb bmd tmd y0 y1 du.1 du.2 dw.1 dw.2 u0 u1 w0 w1 (by omega) (by omega) (by omega) ka kb kd hyv hu hv hw n1 (hp_dv _) (hp_dv _) (hp_ne (by omega)) l0 l1 (fun h' z hx => r h' z (by have e3 := e2; rw [q, rc_c0, rc_c4 q1 q2] at e3; omega))
  have n0 : ly_hv cst h 61000 (v - u) = some 1 := hp_ne (by omega)
  by_cases q1 : w = u
  case pos =>
    rw [q1] at hw
    have q' : u ≠ v := fun t => q t.symm
    by_cases q2 : v.tdiv 10 = u.tdiv 10
    case pos => exact cb7d c hM hD hy a b d ma mb md y (v.tdiv 10) u v ba ta bb tb bd td bma tma bmb tmb bmd tmd y0 y1 dv.1 dv.2 u0 u1 v0 v1 (by omega) (by omega) (by omega) ka kb kd hyv hu hv hw n0 (hp_dv _) (by rw [q2]; exact hp_dv _) l0 l1 (fun h' z hx => r h' z (by have e3 := e2; rw [q1, rc_c0, rc_c1 q q2, rc_c1 q' q2.symm] at e3; omega))
    exact cb7e c hM hD hy a b d ma mb md y (u.tdiv 10) (v.tdiv 10) u v ba ta bb tb bd td bma tma bmb tmb bmd tmd y0 y1 du.1 du.2 dv.1 dv.2 u0 u1 v0 v1 (by omega) (by omega) (by omega) ka kb kd hyv hu hv hw n0 (hp_dv _) (hp_dv _) (hp_ne (by omega)) l0 l1 (fun h' z hx => r h' z (by have e3 := e2; rw [q1, rc_c0, rc_c4 q q2, rc_c4 q' (fun t => q2 t.symm)] at e3; omega))
  by_cases q3 : w = v
  case pos =>
    rw [q3] at hw
    by_cases q2 : v.tdiv 10 = u.tdiv 10
    case pos => exact cb7f c hM hD hy a b d ma mb md y (v.tdiv 10) u v ba ta bb tb bd td bma tma bmb tmb bmd tmd y0 y1 dv.1 dv.2 u0 u1 v0 v1 (by omega) (by omega) (by omega) ka kb kd hyv hu hv hw n0 (hp_dv _) (by rw [q2]; exact hp_dv _) l0 l1 (fun h' z hx => r h' z (by have e3 := e2; rw [q3, rc_c0, rc_c1 q q2] at e3; omega))
    exact cb7g c hM hD hy a b d ma mb md y (u.tdiv 10) (v.tdiv 10) u v ba ta bb tb bd td bma tma bmb tmb bmd tmd y0 y1 du.1 du.2 dv.1 dv.2 u0 u1 v0 v1 (by omega) (by omega) (by omega) ka kb kd hyv hu hv hw n0 (hp_dv _) (hp_dv _) (hp_ne (by omega)) l0 l1 (fun h' z hx => r h' z (by have e3 := e2; rw [q3, rc_c0, rc_c4 q q2] at e3; omega))
  have n1 : ly_hv cst h 61000 (w - u) = some 1 := hp_ne (by omega)
  have n2 : ly_hv cst h 61000 (w - v) = some 1 := hp_ne (by omega)
  by_cases p1 : v.tdiv 10 = u.tdiv 10
  case pos =>
    by_cases p2 : w.tdiv 10 = u.tdiv 10
    case pos => exact cb7h c hM hD hy a b d ma mb md y (u.tdiv 10) u v w ba ta bb tb bd td bma tma bmb tmb bmd tmd y0 y1 du.1 du.2 u0 u1 v0 v1 w0 w1 (by omega) (by omega) (by omega) ka kb kd hyv hu hv hw n0 n1 n2 (hp_dv _) (by rw [← p1]; exact hp_dv _) (by rw [← p2]; exact hp_dv _) l0 l1 (fun h' z hx => r h' z (by have e3 := e2; rw [rc_c1 q p1, rc_c1 q1 p2, rc_c1 q3 (p2.trans p1.symm)] at e3; omega))
    exact cb7i c hM hD hy a b d ma mb md y (u.tdiv 10) (w.tdiv 10) u v w ba ta bb tb bd td bma tma bmb tmb bmd tmd y0 y1 du.1 du.2 dw.1 dw.2 u0 u1 v0 v1 w0 w1 (by omega) (by omega) (by omega) ka kb kd hyv hu hv hw n0 n1 n2 (hp_dv _) (by rw [← p1]; exact hp_dv _) (hp_dv _) (hp_ne (by omega)) l0 l1 (fun h' z hx => r h' z (by have e3 := e2; rw [rc_c1 q p1, rc_c4 q1 p2, rc_c4 q3 (fun t => p2 (t.trans p1))] at e3; omega))
  by_cases p2 : w.tdiv 10 = u.tdiv 10
  case pos => exact cb7j c hM hD hy a b d ma mb md y (u.tdiv 10) (v.tdiv 10) u v w ba ta bb tb bd td bma tma bmb tmb bmd tmd y0 y1 du.1 du.2 dv.1 dv.2 u0 u1 v0 v1 w0 w1 (by omega) (by omega) (by omega) ka kb kd hyv hu hv hw n0 n1 n2 (hp_dv _) (hp_dv _) (by rw [← p2]; exact hp_dv _) (hp_ne (by omega)) l0 l1 (fun h' z hx => r h' z (by have e3 := e2; rw [rc_c4 q p1, rc_c1 q1 p2, rc_c4 q3 (fun t => p1 (t.symm.trans p2))] at e3; omega))
  by_cases p3 : w.tdiv 10 = v.tdiv 10
  case pos => exact cb7k c hM hD hy a b d ma mb md y (u.tdiv 10) (v.tdiv 10) u v w ba ta bb tb bd td bma tma bmb tmb bmd tmd y0 y1 du.1 du.2 dv.1 dv.2 u0 u1 v0 v1 w0 w1 (by omega) (by omega) (by omega) ka kb kd hyv hu hv hw n0 n1 n2 (hp_dv _) (hp_dv _) (by rw [← p3]; exact hp_dv _) (hp_ne (by omega)) l0 l1 (fun h' z hx => r h' z (by have e3 := e2; rw [rc_c4 q p1, rc_c4 q1 p2, rc_c1 q3 p3] at e3; omega))
  exact cb7l c hM hD hy a b d ma mb md y (u.tdiv 10) (v.tdiv 10) (w.tdiv 10) u v w ba ta bb tb bd td bma tma bmb tmb bmd tmd y0 y1 du.1 du.2 dv.1 dv.2 dw.1 dw.2 u0 u1 v0 v1 w0 w1 (by omega) (by omega) (by omega) ka kb kd hyv hu hv hw n0 n1 n2 (hp_dv _) (hp_dv _) (hp_dv _) (hp_ne (by omega)) (hp_ne (by omega)) (hp_ne (by omega)) l0 l1 (fun h' z hx => r h' z (by have e3 := e2; rw [rc_c4 q p1, rc_c4 q1 p2, rc_c4 q3 p3] at e3; omega))
theorem cbr7 {cst : am_K} {strs : List Nat} {D : Nat} {h : am_H} (c : hp_C cst strs D) (hD : (5 : Int) ≤ (D : Int) + 1) (hy : ly_hy m_tt ly_TH h) {xs : Int32} (es : xs.toInt = 7) {a b d ma mb md y : Int} (ba : 0 ≤ a) (ta : a ≤ 10) (bb : 0 ≤ b) (tb : b ≤ 10) (bd : 0 ≤ d) (td : d ≤ 10) (bma : 0 ≤ ma) (tma : ma ≤ 10) (bmb : 0 ≤ mb) (tmb : mb ≤ 10) (bmd : 0 ≤ md) (tmd : md ≤ 10) (y0 : 0 ≤ y) (y1 : y ≤ 360) (ka : ly_hv cst h 18688 0 = some a) (kb : ly_hv cst h 18688 1 = some b) (kd : ly_hv cst h 18688 2 = some d) (k0 : ly_hv cst h 17920 0 = some ma) (k1 : ly_hv cst h 17920 1 = some mb) (k2 : ly_hv cst h 17920 2 = some md) (hyv : ly_hv cst h 18432 (121 * a + 11 * b + d + 133) = some y) (val : a < ma ∧ b < mb ∧ d < md) :
    ∃ r, am_Run cst m_cl m_tt m_P strs sx_bi (D + 1) 250 [.ref 85, .int xs] h r ∧ rc_Φ cst h (rc (ly_hv cst h 18176) (ly_hv cst h 17920) 7 a b d + y) r := by
  obtain ⟨M, hM, hl⟩ := hp_M (mi := 250) (k := 2) (by decide +kernel)
  obtain ⟨n, r, hgo, hx, h1, h2, h3⟩ := cbs7 (Φ := rc_Φ cst h (rc (ly_hv cst h 18176) (ly_hv cst h 17920) 7 a b d + y)) (l := lv_args 0 [.ref 85, .int xs]) c hM hD hy a b d ma mb md y ba ta bb tb bd td bma tma bmb tmb bmd tmd y0 y1 ka kb kd k0 k1 k2 hyv val rfl ⟨xs, rfl, es⟩ (fun h' x hx u1 u2 u3 => ⟨⟨x, rfl, hx⟩, rfl, rfl, u1, u2, u3⟩)
  simp only [Nat.zero_add] at h1 h2
  exact ⟨r, Or.inr ⟨M, n, hM, hl, hgo⟩, hx, h1, h2, h3⟩
theorem cbs3 {cst : am_K} {strs : List Nat} {Φ : am_Q → Prop} {D : Nat} {M : am_M} {h : am_H} {l : am_L} (c : hp_C cst strs D) (hM : m_P[250]? = some M) (hD : (5 : Int) ≤ (D : Int) + 1) (hy : ly_hy m_tt ly_TH h) (a b d ma mb md y : Int) (ba : 0 ≤ a) (ta : a ≤ 10) (bb : 0 ≤ b) (tb : b ≤ 10) (bd : 0 ≤ d) (td : d ≤ 10) (bma : 0 ≤ ma) (tma : ma ≤ 10) (bmb : 0 ≤ mb) (tmb : mb ≤ 10) (bmd : 0 ≤ md) (tmd : md ≤ 10) (y0 : 0 ≤ y) (y1 : y ≤ 360) (ka : ly_hv cst h 18688 0 = some a) (kb : ly_hv cst h 18688 1 = some b) (kd : ly_hv cst h 18688 2 = some d) (k0 : ly_hv cst h 17920 0 = some ma) (k1 : ly_hv cst h 17920 1 = some mb) (k2 : ly_hv cst h 17920 2 = some md) (hyv : ly_hv cst h 18432 (121 * a + 11 * b + d + 132) = some y) (val : a < ma ∧ b < mb) (l0 : hp_a l 0 85) (l1 : hp_i l 1 3) (r : ∀ (h' : am_H) (x : Int32), x.toInt = rc (ly_hv cst h 18176) (ly_hv cst h 17920) 3 a b d + y → ly_hy m_tt ly_TH h' → ly_fr cst [] h h' → h.length ≤ h'.length → Φ (some (.int x), h', 0, 0)) : hp_F cst strs Φ D M 0 l [] h := by
  have e := rc_of (f := ly_hv cst h 18176) (s := 3) (a := a) (b := b) (d := d) k0 k1 k2
  have e1 := e
  unfold rc_v at e1
  rw [if_neg (by decide), if_neg (by decide), if_neg (by decide), if_pos rfl, if_pos val] at e1
  obtain ⟨u, hu, u0, u1⟩ := hp_row (cst := cst) (i := a) hy th_L1 (by omega) (by omega)
  have du := hp_dvb u0 u1
  obtain ⟨v, hv, v0, v1⟩ := hp_row (cst := cst) (i := b + 10) hy th_L1 (by omega) (by omega)
  have dv := hp_dvb v0 v1
  have e2 : rc (ly_hv cst h 18176) (ly_hv cst h 17920) 3 a b d = rc_c v u + 1 := by
    rw [e1, show ly_hv cst h 18176 (a) = some u from hu, show ly_hv cst h 18176 (b + 10) = some v from hv]
    rfl
  by_cases q : v = u
  case pos => rw [q] at hv; exact cb3a c hM hD hy a b d ma mb md y u ba ta bb tb bd td bma tma bmb tmb bmd tmd y0 y1 u0 u1 (by omega) (by omega) ka kb kd hyv hu hv  l0 l1 (fun h' z hx => r h' z (by have e3 := e2; rw [q, rc_c0] at e3; omega))
  have hn : ly_hv cst h 61000 (v - u) = some 1 := hp_ne (by omega)
  by_cases q2 : v.tdiv 10 = u.tdiv 10
  case pos => exact cb3b c hM hD hy a b d ma mb md y (v.tdiv 10) u v ba ta bb tb bd td bma tma bmb tmb bmd tmd y0 y1 dv.1 dv.2 u0 u1 v0 v1 (by omega) (by omega) ka kb kd hyv hu hv hn (hp_dv _) (by rw [q2]; exact hp_dv _) l0 l1 (fun h' z hx => r h' z (by have e3 := e2; rw [rc_c1 q q2] at e3; omega))
  exact cb3c c hM hD hy a b d ma mb md y (u.tdiv 10) (v.tdiv 10) u v ba ta bb tb bd td bma tma bmb tmb bmd tmd y0 y1 du.1 du.2 dv.1 dv.2 u0 u1 v0 v1 (by omega) (by omega) ka kb kd hyv hu hv hn (hp_dv _) (hp_dv _) (hp_ne (by omega)) l0 l1 (fun h' z hx => r h' z (by have e3 := e2; rw [rc_c4 q q2] at e3; omega))
theorem cbr3 {cst : am_K} {strs : List Nat} {D : Nat} {h : am_H} (c : hp_C cst strs D) (hD : (5 : Int) ≤ (D : Int) + 1) (hy : ly_hy m_tt ly_TH h) {xs : Int32} (es : xs.toInt = 3) {a b d ma mb md y : Int} (ba : 0 ≤ a) (ta : a ≤ 10) (bb : 0 ≤ b) (tb : b ≤ 10) (bd : 0 ≤ d) (td : d ≤ 10) (bma : 0 ≤ ma) (tma : ma ≤ 10) (bmb : 0 ≤ mb) (tmb : mb ≤ 10) (bmd : 0 ≤ md) (tmd : md ≤ 10) (y0 : 0 ≤ y) (y1 : y ≤ 360) (ka : ly_hv cst h 18688 0 = some a) (kb : ly_hv cst h 18688 1 = some b) (kd : ly_hv cst h 18688 2 = some d) (k0 : ly_hv cst h 17920 0 = some ma) (k1 : ly_hv cst h 17920 1 = some mb) (k2 : ly_hv cst h 17920 2 = some md) (hyv : ly_hv cst h 18432 (121 * a + 11 * b + d + 132) = some y) (val : a < ma ∧ b < mb) :
    ∃ r, am_Run cst m_cl m_tt m_P strs sx_bi (D + 1) 250 [.ref 85, .int xs] h r ∧ rc_Φ cst h (rc (ly_hv cst h 18176) (ly_hv cst h 17920) 3 a b d + y) r := by
  obtain ⟨M, hM, hl⟩ := hp_M (mi := 250) (k := 2) (by decide +kernel)
  obtain ⟨n, r, hgo, hx, h1, h2, h3⟩ := cbs3 (Φ := rc_Φ cst h (rc (ly_hv cst h 18176) (ly_hv cst h 17920) 3 a b d + y)) (l := lv_args 0 [.ref 85, .int xs]) c hM hD hy a b d ma mb md y ba ta bb tb bd td bma tma bmb tmb bmd tmd y0 y1 ka kb kd k0 k1 k2 hyv val rfl ⟨xs, rfl, es⟩ (fun h' x hx u1 u2 u3 => ⟨⟨x, rfl, hx⟩, rfl, rfl, u1, u2, u3⟩)
  simp only [Nat.zero_add] at h1 h2
  exact ⟨r, Or.inr ⟨M, n, hM, hl, hgo⟩, hx, h1, h2, h3⟩
theorem cbs5 {cst : am_K} {strs : List Nat} {Φ : am_Q → Prop} {D : Nat} {M : am_M} {h : am_H} {l : am_L} (c : hp_C cst strs D) (hM : m_P[250]? = some M) (hD : (5 : Int) ≤ (D : Int) + 1) (hy : ly_hy m_tt ly_TH h) (a b d ma mb md y : Int) (ba : 0 ≤ a) (ta : a ≤ 10) (bb : 0 ≤ b) (tb : b ≤ 10) (bd : 0 ≤ d) (td : d ≤ 10) (bma : 0 ≤ ma) (tma : ma ≤ 10) (bmb : 0 ≤ mb) (tmb : mb ≤ 10) (bmd : 0 ≤ md) (tmd : md ≤ 10) (y0 : 0 ≤ y) (y1 : y ≤ 360) (ka : ly_hv cst h 18688 0 = some a) (kb : ly_hv cst h 18688 1 = some b) (kd : ly_hv cst h 18688 2 = some d) (k0 : ly_hv cst h 17920 0 = some ma) (k1 : ly_hv cst h 17920 1 = some mb) (k2 : ly_hv cst h 17920 2 = some md) (hyv : ly_hv cst h 18432 (121 * a + 11 * b + d + 122) = some y) (val : a < ma ∧ d < md) (l0 : hp_a l 0 85) (l1 : hp_i l 1 5) (r : ∀ (h' : am_H) (x : Int32), x.toInt = rc (ly_hv cst h 18176) (ly_hv cst h 17920) 5 a b d + y → ly_hy m_tt ly_TH h' → ly_fr cst [] h h' → h.length ≤ h'.length → Φ (some (.int x), h', 0, 0)) : hp_F cst strs Φ D M 0 l [] h := by
  have e := rc_of (f := ly_hv cst h 18176) (s := 5) (a := a) (b := b) (d := d) k0 k1 k2
  have e1 := e
  unfold rc_v at e1
  rw [if_neg (by decide), if_neg (by decide), if_neg (by decide), if_neg (by decide), if_pos rfl, if_pos val] at e1
  obtain ⟨u, hu, u0, u1⟩ := hp_row (cst := cst) (i := a) hy th_L1 (by omega) (by omega)
  have du := hp_dvb u0 u1
  obtain ⟨w, hw, w0, w1⟩ := hp_row (cst := cst) (i := d + 20) hy th_L1 (by omega) (by omega)
  have dw := hp_dvb w0 w1
  have e2 : rc (ly_hv cst h 18176) (ly_hv cst h 17920) 5 a b d = rc_c w u + 1 := by
    rw [e1, show ly_hv cst h 18176 (a) = some u from hu, show ly_hv cst h 18176 (d + 20) = some w from hw]
    rfl
  by_cases q : w = u
  case pos => rw [q] at hw; exact cb5a c hM hD hy a b d ma mb md y u ba ta bb tb bd td bma tma bmb tmb bmd tmd y0 y1 u0 u1 (by omega) (by omega) ka kb kd hyv hu hw  l0 l1 (fun h' z hx => r h' z (by have e3 := e2; rw [q, rc_c0] at e3; omega))
  have hn : ly_hv cst h 61000 (w - u) = some 1 := hp_ne (by omega)
  by_cases q2 : w.tdiv 10 = u.tdiv 10
  case pos => exact cb5b c hM hD hy a b d ma mb md y (w.tdiv 10) u w ba ta bb tb bd td bma tma bmb tmb bmd tmd y0 y1 dw.1 dw.2 u0 u1 w0 w1 (by omega) (by omega) ka kb kd hyv hu hw hn (hp_dv _) (by rw [q2]; exact hp_dv _) l0 l1 (fun h' z hx => r h' z (by have e3 := e2; rw [rc_c1 q q2] at e3; omega))
  exact cb5c c hM hD hy a b d ma mb md y (u.tdiv 10) (w.tdiv 10) u w ba ta bb tb bd td bma tma bmb tmb bmd tmd y0 y1 du.1 du.2 dw.1 dw.2 u0 u1 w0 w1 (by omega) (by omega) ka kb kd hyv hu hw hn (hp_dv _) (hp_dv _) (hp_ne (by omega)) l0 l1 (fun h' z hx => r h' z (by have e3 := e2; rw [rc_c4 q q2] at e3; omega))
theorem cbr5 {cst : am_K} {strs : List Nat} {D : Nat} {h : am_H} (c : hp_C cst strs D) (hD : (5 : Int) ≤ (D : Int) + 1) (hy : ly_hy m_tt ly_TH h) {xs : Int32} (es : xs.toInt = 5) {a b d ma mb md y : Int} (ba : 0 ≤ a) (ta : a ≤ 10) (bb : 0 ≤ b) (tb : b ≤ 10) (bd : 0 ≤ d) (td : d ≤ 10) (bma : 0 ≤ ma) (tma : ma ≤ 10) (bmb : 0 ≤ mb) (tmb : mb ≤ 10) (bmd : 0 ≤ md) (tmd : md ≤ 10) (y0 : 0 ≤ y) (y1 : y ≤ 360) (ka : ly_hv cst h 18688 0 = some a) (kb : ly_hv cst h 18688 1 = some b) (kd : ly_hv cst h 18688 2 = some d) (k0 : ly_hv cst h 17920 0 = some ma) (k1 : ly_hv cst h 17920 1 = some mb) (k2 : ly_hv cst h 17920 2 = some md) (hyv : ly_hv cst h 18432 (121 * a + 11 * b + d + 122) = some y) (val : a < ma ∧ d < md) :
    ∃ r, am_Run cst m_cl m_tt m_P strs sx_bi (D + 1) 250 [.ref 85, .int xs] h r ∧ rc_Φ cst h (rc (ly_hv cst h 18176) (ly_hv cst h 17920) 5 a b d + y) r := by
  obtain ⟨M, hM, hl⟩ := hp_M (mi := 250) (k := 2) (by decide +kernel)
  obtain ⟨n, r, hgo, hx, h1, h2, h3⟩ := cbs5 (Φ := rc_Φ cst h (rc (ly_hv cst h 18176) (ly_hv cst h 17920) 5 a b d + y)) (l := lv_args 0 [.ref 85, .int xs]) c hM hD hy a b d ma mb md y ba ta bb tb bd td bma tma bmb tmb bmd tmd y0 y1 ka kb kd k0 k1 k2 hyv val rfl ⟨xs, rfl, es⟩ (fun h' x hx u1 u2 u3 => ⟨⟨x, rfl, hx⟩, rfl, rfl, u1, u2, u3⟩)
  simp only [Nat.zero_add] at h1 h2
  exact ⟨r, Or.inr ⟨M, n, hM, hl, hgo⟩, hx, h1, h2, h3⟩
theorem cbs6 {cst : am_K} {strs : List Nat} {Φ : am_Q → Prop} {D : Nat} {M : am_M} {h : am_H} {l : am_L} (c : hp_C cst strs D) (hM : m_P[250]? = some M) (hD : (5 : Int) ≤ (D : Int) + 1) (hy : ly_hy m_tt ly_TH h) (a b d ma mb md y : Int) (ba : 0 ≤ a) (ta : a ≤ 10) (bb : 0 ≤ b) (tb : b ≤ 10) (bd : 0 ≤ d) (td : d ≤ 10) (bma : 0 ≤ ma) (tma : ma ≤ 10) (bmb : 0 ≤ mb) (tmb : mb ≤ 10) (bmd : 0 ≤ md) (tmd : md ≤ 10) (y0 : 0 ≤ y) (y1 : y ≤ 360) (ka : ly_hv cst h 18688 0 = some a) (kb : ly_hv cst h 18688 1 = some b) (kd : ly_hv cst h 18688 2 = some d) (k0 : ly_hv cst h 17920 0 = some ma) (k1 : ly_hv cst h 17920 1 = some mb) (k2 : ly_hv cst h 17920 2 = some md) (hyv : ly_hv cst h 18432 (121 * a + 11 * b + d + 12) = some y) (val : b < mb ∧ d < md) (l0 : hp_a l 0 85) (l1 : hp_i l 1 6) (r : ∀ (h' : am_H) (x : Int32), x.toInt = rc (ly_hv cst h 18176) (ly_hv cst h 17920) 6 a b d + y → ly_hy m_tt ly_TH h' → ly_fr cst [] h h' → h.length ≤ h'.length → Φ (some (.int x), h', 0, 0)) : hp_F cst strs Φ D M 0 l [] h := by
  have e := rc_of (f := ly_hv cst h 18176) (s := 6) (a := a) (b := b) (d := d) k0 k1 k2
  have e1 := e
  unfold rc_v at e1
  rw [if_neg (by decide), if_neg (by decide), if_neg (by decide), if_neg (by decide), if_neg (by decide), if_pos rfl, if_pos val] at e1
  obtain ⟨v, hv, v0, v1⟩ := hp_row (cst := cst) (i := b + 10) hy th_L1 (by omega) (by omega)
  have dv := hp_dvb v0 v1
  obtain ⟨w, hw, w0, w1⟩ := hp_row (cst := cst) (i := d + 20) hy th_L1 (by omega) (by omega)
  have dw := hp_dvb w0 w1
  have e2 : rc (ly_hv cst h 18176) (ly_hv cst h 17920) 6 a b d = rc_c w v + 1 := by
    rw [e1, show ly_hv cst h 18176 (b + 10) = some v from hv, show ly_hv cst h 18176 (d + 20) = some w from hw]
    rfl
  by_cases q : w = v
  case pos => rw [q] at hw; exact cb6a c hM hD hy a b d ma mb md y v ba ta bb tb bd td bma tma bmb tmb bmd tmd y0 y1 v0 v1 (by omega) (by omega) ka kb kd hyv hv hw  l0 l1 (fun h' z hx => r h' z (by have e3 := e2; rw [q, rc_c0] at e3; omega))
  have hn : ly_hv cst h 61000 (w - v) = some 1 := hp_ne (by omega)
  by_cases q2 : w.tdiv 10 = v.tdiv 10
  case pos => exact cb6b c hM hD hy a b d ma mb md y (w.tdiv 10) v w ba ta bb tb bd td bma tma bmb tmb bmd tmd y0 y1 dw.1 dw.2 v0 v1 w0 w1 (by omega) (by omega) ka kb kd hyv hv hw hn (hp_dv _) (by rw [q2]; exact hp_dv _) l0 l1 (fun h' z hx => r h' z (by have e3 := e2; rw [rc_c1 q q2] at e3; omega))
  exact cb6c c hM hD hy a b d ma mb md y (v.tdiv 10) (w.tdiv 10) v w ba ta bb tb bd td bma tma bmb tmb bmd tmd y0 y1 dv.1 dv.2 dw.1 dw.2 v0 v1 w0 w1 (by omega) (by omega) ka kb kd hyv hv hw hn (hp_dv _) (hp_dv _) (hp_ne (by omega)) l0 l1 (fun h' z hx => r h' z (by have e3 := e2; rw [rc_c4 q q2] at e3; omega))
theorem cbr6 {cst : am_K} {strs : List Nat} {D : Nat} {h : am_H} (c : hp_C cst strs D) (hD : (5 : Int) ≤ (D : Int) + 1) (hy : ly_hy m_tt ly_TH h) {xs : Int32} (es : xs.toInt = 6) {a b d ma mb md y : Int} (ba : 0 ≤ a) (ta : a ≤ 10) (bb : 0 ≤ b) (tb : b ≤ 10) (bd : 0 ≤ d) (td : d ≤ 10) (bma : 0 ≤ ma) (tma : ma ≤ 10) (bmb : 0 ≤ mb) (tmb : mb ≤ 10) (bmd : 0 ≤ md) (tmd : md ≤ 10) (y0 : 0 ≤ y) (y1 : y ≤ 360) (ka : ly_hv cst h 18688 0 = some a) (kb : ly_hv cst h 18688 1 = some b) (kd : ly_hv cst h 18688 2 = some d) (k0 : ly_hv cst h 17920 0 = some ma) (k1 : ly_hv cst h 17920 1 = some mb) (k2 : ly_hv cst h 17920 2 = some md) (hyv : ly_hv cst h 18432 (121 * a + 11 * b + d + 12) = some y) (val : b < mb ∧ d < md) :
    ∃ r, am_Run cst m_cl m_tt m_P strs sx_bi (D + 1) 250 [.ref 85, .int xs] h r ∧ rc_Φ cst h (rc (ly_hv cst h 18176) (ly_hv cst h 17920) 6 a b d + y) r := by
  obtain ⟨M, hM, hl⟩ := hp_M (mi := 250) (k := 2) (by decide +kernel)
  obtain ⟨n, r, hgo, hx, h1, h2, h3⟩ := cbs6 (Φ := rc_Φ cst h (rc (ly_hv cst h 18176) (ly_hv cst h 17920) 6 a b d + y)) (l := lv_args 0 [.ref 85, .int xs]) c hM hD hy a b d ma mb md y ba ta bb tb bd td bma tma bmb tmb bmd tmd y0 y1 ka kb kd k0 k1 k2 hyv val rfl ⟨xs, rfl, es⟩ (fun h' x hx u1 u2 u3 => ⟨⟨x, rfl, hx⟩, rfl, rfl, u1, u2, u3⟩)
  simp only [Nat.zero_add] at h1 h2
  exact ⟨r, Or.inr ⟨M, n, hM, hl, hgo⟩, hx, h1, h2, h3⟩
theorem cbs1 {cst : am_K} {strs : List Nat} {Φ : am_Q → Prop} {D : Nat} {M : am_M} {h : am_H} {l : am_L} (c : hp_C cst strs D) (hM : m_P[250]? = some M) (hD : (5 : Int) ≤ (D : Int) + 1) (hy : ly_hy m_tt ly_TH h) (a b d ma mb md y : Int) (ba : 0 ≤ a) (ta : a ≤ 10) (bb : 0 ≤ b) (tb : b ≤ 10) (bd : 0 ≤ d) (td : d ≤ 10) (bma : 0 ≤ ma) (tma : ma ≤ 10) (bmb : 0 ≤ mb) (tmb : mb ≤ 10) (bmd : 0 ≤ md) (tmd : md ≤ 10) (y0 : 0 ≤ y) (y1 : y ≤ 360) (ka : ly_hv cst h 18688 0 = some a) (kb : ly_hv cst h 18688 1 = some b) (kd : ly_hv cst h 18688 2 = some d) (k0 : ly_hv cst h 17920 0 = some ma) (k1 : ly_hv cst h 17920 1 = some mb) (k2 : ly_hv cst h 17920 2 = some md) (hyv : ly_hv cst h 18432 (121 * a + 11 * b + d + 121) = some y) (val : a < ma) (l0 : hp_a l 0 85) (l1 : hp_i l 1 1) (r : ∀ (h' : am_H) (x : Int32), x.toInt = rc (ly_hv cst h 18176) (ly_hv cst h 17920) 1 a b d + y → ly_hy m_tt ly_TH h' → ly_fr cst [] h h' → h.length ≤ h'.length → Φ (some (.int x), h', 0, 0)) : hp_F cst strs Φ D M 0 l [] h := by
  have e := rc_of (f := ly_hv cst h 18176) (s := 1) (a := a) (b := b) (d := d) k0 k1 k2
  have e1 := e
  unfold rc_v at e1
  rw [if_pos rfl, if_pos val] at e1
  exact cb1 c hM hD hy a b d ma mb md y  ba ta bb tb bd td bma tma bmb tmb bmd tmd y0 y1  (by omega) ka kb kd hyv   l0 l1 (fun h' z hx => r h' z (by omega))
theorem cbr1 {cst : am_K} {strs : List Nat} {D : Nat} {h : am_H} (c : hp_C cst strs D) (hD : (5 : Int) ≤ (D : Int) + 1) (hy : ly_hy m_tt ly_TH h) {xs : Int32} (es : xs.toInt = 1) {a b d ma mb md y : Int} (ba : 0 ≤ a) (ta : a ≤ 10) (bb : 0 ≤ b) (tb : b ≤ 10) (bd : 0 ≤ d) (td : d ≤ 10) (bma : 0 ≤ ma) (tma : ma ≤ 10) (bmb : 0 ≤ mb) (tmb : mb ≤ 10) (bmd : 0 ≤ md) (tmd : md ≤ 10) (y0 : 0 ≤ y) (y1 : y ≤ 360) (ka : ly_hv cst h 18688 0 = some a) (kb : ly_hv cst h 18688 1 = some b) (kd : ly_hv cst h 18688 2 = some d) (k0 : ly_hv cst h 17920 0 = some ma) (k1 : ly_hv cst h 17920 1 = some mb) (k2 : ly_hv cst h 17920 2 = some md) (hyv : ly_hv cst h 18432 (121 * a + 11 * b + d + 121) = some y) (val : a < ma) :
    ∃ r, am_Run cst m_cl m_tt m_P strs sx_bi (D + 1) 250 [.ref 85, .int xs] h r ∧ rc_Φ cst h (rc (ly_hv cst h 18176) (ly_hv cst h 17920) 1 a b d + y) r := by
  obtain ⟨M, hM, hl⟩ := hp_M (mi := 250) (k := 2) (by decide +kernel)
  obtain ⟨n, r, hgo, hx, h1, h2, h3⟩ := cbs1 (Φ := rc_Φ cst h (rc (ly_hv cst h 18176) (ly_hv cst h 17920) 1 a b d + y)) (l := lv_args 0 [.ref 85, .int xs]) c hM hD hy a b d ma mb md y ba ta bb tb bd td bma tma bmb tmb bmd tmd y0 y1 ka kb kd k0 k1 k2 hyv val rfl ⟨xs, rfl, es⟩ (fun h' x hx u1 u2 u3 => ⟨⟨x, rfl, hx⟩, rfl, rfl, u1, u2, u3⟩)
  simp only [Nat.zero_add] at h1 h2
  exact ⟨r, Or.inr ⟨M, n, hM, hl, hgo⟩, hx, h1, h2, h3⟩
theorem cbs2 {cst : am_K} {strs : List Nat} {Φ : am_Q → Prop} {D : Nat} {M : am_M} {h : am_H} {l : am_L} (c : hp_C cst strs D) (hM : m_P[250]? = some M) (hD : (5 : Int) ≤ (D : Int) + 1) (hy : ly_hy m_tt ly_TH h) (a b d ma mb md y : Int) (ba : 0 ≤ a) (ta : a ≤ 10) (bb : 0 ≤ b) (tb : b ≤ 10) (bd : 0 ≤ d) (td : d ≤ 10) (bma : 0 ≤ ma) (tma : ma ≤ 10) (bmb : 0 ≤ mb) (tmb : mb ≤ 10) (bmd : 0 ≤ md) (tmd : md ≤ 10) (y0 : 0 ≤ y) (y1 : y ≤ 360) (ka : ly_hv cst h 18688 0 = some a) (kb : ly_hv cst h 18688 1 = some b) (kd : ly_hv cst h 18688 2 = some d) (k0 : ly_hv cst h 17920 0 = some ma) (k1 : ly_hv cst h 17920 1 = some mb) (k2 : ly_hv cst h 17920 2 = some md) (hyv : ly_hv cst h 18432 (121 * a + 11 * b + d + 11) = some y) (val : b < mb) (l0 : hp_a l 0 85) (l1 : hp_i l 1 2) (r : ∀ (h' : am_H) (x : Int32), x.toInt = rc (ly_hv cst h 18176) (ly_hv cst h 17920) 2 a b d + y → ly_hy m_tt ly_TH h' → ly_fr cst [] h h' → h.length ≤ h'.length → Φ (some (.int x), h', 0, 0)) : hp_F cst strs Φ D M 0 l [] h := by
  have e := rc_of (f := ly_hv cst h 18176) (s := 2) (a := a) (b := b) (d := d) k0 k1 k2
  have e1 := e
  unfold rc_v at e1
  rw [if_neg (by decide), if_pos rfl, if_pos val] at e1
  exact cb2 c hM hD hy a b d ma mb md y  ba ta bb tb bd td bma tma bmb tmb bmd tmd y0 y1  (by omega) ka kb kd hyv   l0 l1 (fun h' z hx => r h' z (by omega))
theorem cbr2 {cst : am_K} {strs : List Nat} {D : Nat} {h : am_H} (c : hp_C cst strs D) (hD : (5 : Int) ≤ (D : Int) + 1) (hy : ly_hy m_tt ly_TH h) {xs : Int32} (es : xs.toInt = 2) {a b d ma mb md y : Int} (ba : 0 ≤ a) (ta : a ≤ 10) (bb : 0 ≤ b) (tb : b ≤ 10) (bd : 0 ≤ d) (td : d ≤ 10) (bma : 0 ≤ ma) (tma : ma ≤ 10) (bmb : 0 ≤ mb) (tmb : mb ≤ 10) (bmd : 0 ≤ md) (tmd : md ≤ 10) (y0 : 0 ≤ y) (y1 : y ≤ 360) (ka : ly_hv cst h 18688 0 = some a) (kb : ly_hv cst h 18688 1 = some b) (kd : ly_hv cst h 18688 2 = some d) (k0 : ly_hv cst h 17920 0 = some ma) (k1 : ly_hv cst h 17920 1 = some mb) (k2 : ly_hv cst h 17920 2 = some md) (hyv : ly_hv cst h 18432 (121 * a + 11 * b + d + 11) = some y) (val : b < mb) :
    ∃ r, am_Run cst m_cl m_tt m_P strs sx_bi (D + 1) 250 [.ref 85, .int xs] h r ∧ rc_Φ cst h (rc (ly_hv cst h 18176) (ly_hv cst h 17920) 2 a b d + y) r := by
  obtain ⟨M, hM, hl⟩ := hp_M (mi := 250) (k := 2) (by decide +kernel)
  obtain ⟨n, r, hgo, hx, h1, h2, h3⟩ := cbs2 (Φ := rc_Φ cst h (rc (ly_hv cst h 18176) (ly_hv cst h 17920) 2 a b d + y)) (l := lv_args 0 [.ref 85, .int xs]) c hM hD hy a b d ma mb md y ba ta bb tb bd td bma tma bmb tmb bmd tmd y0 y1 ka kb kd k0 k1 k2 hyv val rfl ⟨xs, rfl, es⟩ (fun h' x hx u1 u2 u3 => ⟨⟨x, rfl, hx⟩, rfl, rfl, u1, u2, u3⟩)
  simp only [Nat.zero_add] at h1 h2
  exact ⟨r, Or.inr ⟨M, n, hM, hl, hgo⟩, hx, h1, h2, h3⟩
theorem cbs4 {cst : am_K} {strs : List Nat} {Φ : am_Q → Prop} {D : Nat} {M : am_M} {h : am_H} {l : am_L} (c : hp_C cst strs D) (hM : m_P[250]? = some M) (hD : (5 : Int) ≤ (D : Int) + 1) (hy : ly_hy m_tt ly_TH h) (a b d ma mb md y : Int) (ba : 0 ≤ a) (ta : a ≤ 10) (bb : 0 ≤ b) (tb : b ≤ 10) (bd : 0 ≤ d) (td : d ≤ 10) (bma : 0 ≤ ma) (tma : ma ≤ 10) (bmb : 0 ≤ mb) (tmb : mb ≤ 10) (bmd : 0 ≤ md) (tmd : md ≤ 10) (y0 : 0 ≤ y) (y1 : y ≤ 360) (ka : ly_hv cst h 18688 0 = some a) (kb : ly_hv cst h 18688 1 = some b) (kd : ly_hv cst h 18688 2 = some d) (k0 : ly_hv cst h 17920 0 = some ma) (k1 : ly_hv cst h 17920 1 = some mb) (k2 : ly_hv cst h 17920 2 = some md) (hyv : ly_hv cst h 18432 (121 * a + 11 * b + d + 1) = some y) (val : d < md) (l0 : hp_a l 0 85) (l1 : hp_i l 1 4) (r : ∀ (h' : am_H) (x : Int32), x.toInt = rc (ly_hv cst h 18176) (ly_hv cst h 17920) 4 a b d + y → ly_hy m_tt ly_TH h' → ly_fr cst [] h h' → h.length ≤ h'.length → Φ (some (.int x), h', 0, 0)) : hp_F cst strs Φ D M 0 l [] h := by
  have e := rc_of (f := ly_hv cst h 18176) (s := 4) (a := a) (b := b) (d := d) k0 k1 k2
  have e1 := e
  unfold rc_v at e1
  rw [if_neg (by decide), if_neg (by decide), if_pos rfl, if_pos val] at e1
  exact cb4 c hM hD hy a b d ma mb md y  ba ta bb tb bd td bma tma bmb tmb bmd tmd y0 y1  (by omega) ka kb kd hyv   l0 l1 (fun h' z hx => r h' z (by omega))
theorem cbr4 {cst : am_K} {strs : List Nat} {D : Nat} {h : am_H} (c : hp_C cst strs D) (hD : (5 : Int) ≤ (D : Int) + 1) (hy : ly_hy m_tt ly_TH h) {xs : Int32} (es : xs.toInt = 4) {a b d ma mb md y : Int} (ba : 0 ≤ a) (ta : a ≤ 10) (bb : 0 ≤ b) (tb : b ≤ 10) (bd : 0 ≤ d) (td : d ≤ 10) (bma : 0 ≤ ma) (tma : ma ≤ 10) (bmb : 0 ≤ mb) (tmb : mb ≤ 10) (bmd : 0 ≤ md) (tmd : md ≤ 10) (y0 : 0 ≤ y) (y1 : y ≤ 360) (ka : ly_hv cst h 18688 0 = some a) (kb : ly_hv cst h 18688 1 = some b) (kd : ly_hv cst h 18688 2 = some d) (k0 : ly_hv cst h 17920 0 = some ma) (k1 : ly_hv cst h 17920 1 = some mb) (k2 : ly_hv cst h 17920 2 = some md) (hyv : ly_hv cst h 18432 (121 * a + 11 * b + d + 1) = some y) (val : d < md) :
    ∃ r, am_Run cst m_cl m_tt m_P strs sx_bi (D + 1) 250 [.ref 85, .int xs] h r ∧ rc_Φ cst h (rc (ly_hv cst h 18176) (ly_hv cst h 17920) 4 a b d + y) r := by
  obtain ⟨M, hM, hl⟩ := hp_M (mi := 250) (k := 2) (by decide +kernel)
  obtain ⟨n, r, hgo, hx, h1, h2, h3⟩ := cbs4 (Φ := rc_Φ cst h (rc (ly_hv cst h 18176) (ly_hv cst h 17920) 4 a b d + y)) (l := lv_args 0 [.ref 85, .int xs]) c hM hD hy a b d ma mb md y ba ta bb tb bd td bma tma bmb tmb bmd tmd y0 y1 ka kb kd k0 k1 k2 hyv val rfl ⟨xs, rfl, es⟩ (fun h' x hx u1 u2 u3 => ⟨⟨x, rfl, hx⟩, rfl, rfl, u1, u2, u3⟩)
  simp only [Nat.zero_add] at h1 h2
  exact ⟨r, Or.inr ⟨M, n, hM, hl, hgo⟩, hx, h1, h2, h3⟩
def bt_x (f g j : Int → Option Int) (a b d t e : Int) : Prop := (t = 7 ∧ jn_w f g j a b d e 7 133 ∧ ju_F f g j a b d e 0) ∨ (t = 3 ∧ jn_w f g j a b d e 3 132 ∧ ju_F f g j a b d e 1) ∨ (t = 5 ∧ jn_w f g j a b d e 5 122 ∧ ju_F f g j a b d e 2) ∨ (t = 6 ∧ jn_w f g j a b d e 6 12 ∧ ju_F f g j a b d e 3) ∨ (t = 1 ∧ jn_w f g j a b d e 1 121 ∧ ju_F f g j a b d e 4) ∨ (t = 2 ∧ jn_w f g j a b d e 2 11 ∧ ju_F f g j a b d e 5) ∨ (t = 4 ∧ jn_w f g j a b d e 4 1 ∧ ju_F f g j a b d e 6)
def bt_Q (f g j : Int → Option Int) (ma mb md a b d t e : Int) (i : Nat) : Prop := (t = 0 ∧ e = 0 ∧ ju_A f g j a b d (-1) i) ∨ (0 ≤ e ∧ e ≤ 12 * ((ma - a) + (mb - b) + (md - d)) ∧ bt_x f g j a b d t e ∧ ju_A f g j a b d e i)
theorem bt_t {f g j : Int → Option Int} {a b d t e : Int} (X : bt_x f g j a b d t e) : 1 ≤ t ∧ t ≤ 7 := by
  unfold bt_x at X
  rcases X with w | w | w | w | w | w | w <;> (have := w.1; omega)
theorem bt_b {f g j : Int → Option Int} {ma mb md a b d t e : Int} {i : Nat} (A0 : 0 ≤ a) (B0 : 0 ≤ b) (D0 : 0 ≤ d) (A1 : ma ≤ 10) (B1 : mb ≤ 10) (D1 : md ≤ 10) (Q : bt_Q f g j ma mb md a b d t e i) : 0 ≤ t ∧ t ≤ 7 ∧ 0 ≤ e ∧ e ≤ 400 := by
  rcases Q with ⟨q1, q2, -⟩ | ⟨q1, q2, q3, -⟩
  · omega
  · have := bt_t q3
    omega
def bt_Φ (cst : am_K) (h0 : am_H) (ma mb md a b d : Int) (r : am_Q) : Prop := (∃ x : Int32, r.1 = some (.int x) ∧ ∃ e, bt_Q (ly_hv cst h0 18176) (ly_hv cst h0 17920) (ly_hv cst h0 18432) ma mb md a b d x.toInt e 7) ∧ r.2.2.1 = 0 ∧ r.2.2.2 = 0 ∧ ly_hy m_tt ly_TH r.2.1 ∧ ly_fr cst [] h0 r.2.1 ∧ h0.length ≤ r.2.1.length
section BT
variable {cst : am_K} {strs : List Nat} {D : Nat} {M : am_M} {h0 : am_H} {ma mb md a b d : Int}
theorem btp7 (c1 : hp_C cst strs D) (c : hp_C cst strs (D + 1)) (hM : m_P[248]? = some M) (hD : (5 : Int) ≤ (D : Int) + 1) (A0 : 0 ≤ ma) (A1 : ma ≤ 10) (B0 : 0 ≤ mb) (B1 : mb ≤ 10) (D0 : 0 ≤ md) (D1 : md ≤ 10) (a0 : 0 ≤ a) (a1 : a ≤ ma) (b0 : 0 ≤ b) (b1 : b ≤ mb) (d0 : 0 ≤ d) (d1 : d ≤ md) (hy0 : ly_hy m_tt ly_TH h0) (ka : ly_hv cst h0 18688 0 = some a) (kb : ly_hv cst h0 18688 1 = some b) (kd : ly_hv cst h0 18688 2 = some d) (k0 : ly_hv cst h0 17920 0 = some ma) (k1 : ly_hv cst h0 17920 1 = some mb) (k2 : ly_hv cst h0 17920 2 = some md) (T : ju_T (ly_hv cst h0 18176) (ly_hv cst h0 17920) (ly_hv cst h0 18432) ma mb md (121 * a + 11 * b + d)) (h : am_H) (l : am_L) (hy : ly_hy m_tt ly_TH h) (fr : ly_fr cst [] h0 h) (len : h0.length ≤ h.length) {t e : Int} (Q : bt_Q (ly_hv cst h0 18176) (ly_hv cst h0 17920) (ly_hv cst h0 18432) ma mb md a b d t e 7) (l0 : hp_a l 0 85) (l1 : hp_i l 1 t) (l2 : hp_i l 2 e) (l3 : hp_i l 3 7) : hp_F cst strs (bt_Φ cst h0 ma mb md a b d) (D + 1) M 6 l [] h := by
  obtain ⟨t0, t1, e0, e1⟩ := bt_b a0 b0 d0 A1 B1 D1 Q
  exact bt_e c hM (by omega) hy t e t0 t1 e0 e1 l0 l1 l2 l3 (fun h' x hx u1 u2 u3 => ⟨⟨x, rfl, e, by rw [hx]; exact Q⟩, rfl, rfl, u1, ly_fr_tr fr u2, Nat.le_trans len u3⟩)
theorem btp6 (c1 : hp_C cst strs D) (c : hp_C cst strs (D + 1)) (hM : m_P[248]? = some M) (hD : (5 : Int) ≤ (D : Int) + 1) (A0 : 0 ≤ ma) (A1 : ma ≤ 10) (B0 : 0 ≤ mb) (B1 : mb ≤ 10) (D0 : 0 ≤ md) (D1 : md ≤ 10) (a0 : 0 ≤ a) (a1 : a ≤ ma) (b0 : 0 ≤ b) (b1 : b ≤ mb) (d0 : 0 ≤ d) (d1 : d ≤ md) (hy0 : ly_hy m_tt ly_TH h0) (ka : ly_hv cst h0 18688 0 = some a) (kb : ly_hv cst h0 18688 1 = some b) (kd : ly_hv cst h0 18688 2 = some d) (k0 : ly_hv cst h0 17920 0 = some ma) (k1 : ly_hv cst h0 17920 1 = some mb) (k2 : ly_hv cst h0 17920 2 = some md) (T : ju_T (ly_hv cst h0 18176) (ly_hv cst h0 17920) (ly_hv cst h0 18432) ma mb md (121 * a + 11 * b + d)) (h : am_H) (l : am_L) (hy : ly_hy m_tt ly_TH h) (fr : ly_fr cst [] h0 h) (len : h0.length ≤ h.length) {t e : Int} (Q : bt_Q (ly_hv cst h0 18176) (ly_hv cst h0 17920) (ly_hv cst h0 18432) ma mb md a b d t e 6) (l0 : hp_a l 0 85) (l1 : hp_i l 1 t) (l2 : hp_i l 2 e) (l3 : hp_i l 3 6) : hp_F cst strs (bt_Φ cst h0 ma mb md a b d) (D + 1) M 6 l [] h := by
  obtain ⟨t0, t1, e0, e1⟩ := bt_b a0 b0 d0 A1 B1 D1 Q
  have no : rc (ly_hv cst h0 18176) (ly_hv cst h0 17920) 4 a b d = -1 → bt_Q (ly_hv cst h0 18176) (ly_hv cst h0 17920) (ly_hv cst h0 18432) ma mb md a b d t e 7 := fun hk => by
    rcases Q with ⟨q1, q2, q3⟩ | ⟨q1, q2, q3, q4⟩
    · exact Or.inl ⟨q1, q2, ju_An6 q3 hk⟩
    · exact Or.inr ⟨q1, q2, q3, ju_An6 q4 hk⟩
  by_cases g0 : d < md
  case neg =>
    have Q2 := no (by
      rcases rcb4 (f := (ly_hv cst h0 18176)) (a := a) (b := b) (d := d) k0 k1 k2 with hk | ⟨-, -, p0⟩
      · exact hk
      · omega)
    exact bt6n0 c hM (by omega) hy a b d ma mb md t e a0 (by omega) b0 (by omega) d0 (by omega) A0 A1 B0 B1 D0 D1 t0 t1 e0 e1 (by omega) (fr _ _ _ rfl ka) (fr _ _ _ rfl kb) (fr _ _ _ rfl kd) (fr _ _ _ rfl k0) (fr _ _ _ rfl k1) (fr _ _ _ rfl k2) l0 l1 l2 l3 (fun l' h2 u1 u2 u3 v0 v1 v2 v3 => btp7 c1 c hM hD A0 A1 B0 B1 D0 D1 a0 a1 b0 b1 d0 d1 hy0 ka kb kd k0 k1 k2 T h2 l' u1 (ly_fr_tr fr u2) (Nat.le_trans len u3) (Q := Q2) v0 v1 v2 v3)
  refine bt6v c hM (by omega) hy a b d ma mb md t e a0 (by omega) b0 (by omega) d0 (by omega) A0 A1 B0 B1 D0 D1 t0 t1 e0 e1 (by omega) (fr _ _ _ rfl ka) (fr _ _ _ rfl kb) (fr _ _ _ rfl kd) (fr _ _ _ rfl k0) (fr _ _ _ rfl k1) (fr _ _ _ rfl k2) l0 l1 l2 l3 (fun l1' h1 y0 f0 u1 u2 u3 v0 v1 v2 v3 => ?_)
  have fr1 := ly_fr_tr fr u2
  obtain ⟨y, hyv, yy0, yy1, -⟩ := T (a + 0) (b + 0) (d + 1) (by omega) (by omega) (by omega) (by omega) (by omega) (by omega) (by omega)
  rw [show 121 * (a + 0) + 11 * (b + 0) + (d + 1) = 121 * a + 11 * b + d + 1 by omega] at hyv
  obtain ⟨r, hrun, ⟨x, r1, hx⟩, r2, r3, rhy, rfr, rlen⟩ := cbr4 c1 (by omega) u1 f0 (a := a) (b := b) (d := d) (ma := ma) (mb := mb) (md := md) (y := y) a0 (by omega) b0 (by omega) d0 (by omega) A0 A1 B0 B1 D0 D1 yy0 (by omega) (fr1 _ _ _ rfl ka) (fr1 _ _ _ rfl kb) (fr1 _ _ _ rfl kd) (fr1 _ _ _ rfl k0) (fr1 _ _ _ rfl k1) (fr1 _ _ _ rfl k2) (fr1 _ _ _ rfl hyv) g0
  refine hp_call (mi := 248) (pc := 32) (tg := 250) (na := 2) (c := 69) (ci := 10) (st0 := [.int y0, .ref 85]) (st := []) (av := [.int y0]) hM (by decide +kernel) u1 rfl rfl rfl (by decide) hrun r2 r3 ?_
  rw [r1]
  rw [hL1 rfl hy0 u1 fr1, hL0 rfl hy0 u1 fr1] at hx
  obtain ⟨kk0, kk1⟩ := rcq4 (f := (ly_hv cst h0 18176)) k0 k1 k2 (show d < md from g0)
  have fr2 := ly_fr_tr fr1 rfr
  have len2 := Nat.le_trans (Nat.le_trans len u3) rlen
  have up : ∀ {e' : Int}, ju_A (ly_hv cst h0 18176) (ly_hv cst h0 17920) (ly_hv cst h0 18432) a b d e' 6 → (e' = -1 ∨ x.toInt < e') → bt_Q (ly_hv cst h0 18176) (ly_hv cst h0 17920) (ly_hv cst h0 18432) ma mb md a b d 4 x.toInt 7 := fun A lt => Or.inr ⟨by omega, by omega, Or.inr (Or.inr (Or.inr (Or.inr (Or.inr (Or.inr (⟨rfl, ⟨kk0, y, hyv, hx⟩, ju_FA A lt⟩)))))), ju_Ab6 A (by omega) (by omega) (fun y2 h2 => by rw [hyv] at h2; cases h2; omega)⟩
  rcases Q with ⟨q1, q2, q3⟩ | ⟨q1, q2, q3, q4⟩
  · have Q2 := up q3 (Or.inl rfl)
    rw [q1] at v1
    rw [q2] at v2
    exact bt6a c hM (by omega) rhy x.toInt x rfl (by omega) (by omega) v0 v1 v2 v3 (fun l' h2 w1 w2 w3 z0 z1 z2 z3 => btp7 c1 c hM hD A0 A1 B0 B1 D0 D1 a0 a1 b0 b1 d0 d1 hy0 ka kb kd k0 k1 k2 T h2 l' w1 (ly_fr_tr fr2 w2) (Nat.le_trans len2 w3) (Q := Q2) z0 z1 z2 z3)
  · have tt := bt_t q3
    by_cases lt : x.toInt < e
    · have Q2 := up q4 (Or.inr lt)
      exact bt6b c hM (by omega) rhy t e x.toInt x rfl tt.1 tt.2 e0 e1 (by omega) (by omega) (by omega) v0 v1 v2 v3 (fun l' h2 w1 w2 w3 z0 z1 z2 z3 => btp7 c1 c hM hD A0 A1 B0 B1 D0 D1 a0 a1 b0 b1 d0 d1 hy0 ka kb kd k0 k1 k2 T h2 l' w1 (ly_fr_tr fr2 w2) (Nat.le_trans len2 w3) (Q := Q2) z0 z1 z2 z3)
    · have Q2 : bt_Q (ly_hv cst h0 18176) (ly_hv cst h0 17920) (ly_hv cst h0 18432) ma mb md a b d t e 7 := Or.inr ⟨q1, q2, q3, ju_Ab6 q4 (Or.inr (Int.le_refl _)) (by omega) (fun y2 h2 => by rw [hyv] at h2; cases h2; omega)⟩
      exact bt6c c hM (by omega) rhy t e x.toInt x rfl tt.1 tt.2 e0 e1 (by omega) (by omega) (by omega) v0 v1 v2 v3 (fun l' h2 w1 w2 w3 z0 z1 z2 z3 => btp7 c1 c hM hD A0 A1 B0 B1 D0 D1 a0 a1 b0 b1 d0 d1 hy0 ka kb kd k0 k1 k2 T h2 l' w1 (ly_fr_tr fr2 w2) (Nat.le_trans len2 w3) (Q := Q2) z0 z1 z2 z3)
theorem btp5 (c1 : hp_C cst strs D) (c : hp_C cst strs (D + 1)) (hM : m_P[248]? = some M) (hD : (5 : Int) ≤ (D : Int) + 1) (A0 : 0 ≤ ma) (A1 : ma ≤ 10) (B0 : 0 ≤ mb) (B1 : mb ≤ 10) (D0 : 0 ≤ md) (D1 : md ≤ 10) (a0 : 0 ≤ a) (a1 : a ≤ ma) (b0 : 0 ≤ b) (b1 : b ≤ mb) (d0 : 0 ≤ d) (d1 : d ≤ md) (hy0 : ly_hy m_tt ly_TH h0) (ka : ly_hv cst h0 18688 0 = some a) (kb : ly_hv cst h0 18688 1 = some b) (kd : ly_hv cst h0 18688 2 = some d) (k0 : ly_hv cst h0 17920 0 = some ma) (k1 : ly_hv cst h0 17920 1 = some mb) (k2 : ly_hv cst h0 17920 2 = some md) (T : ju_T (ly_hv cst h0 18176) (ly_hv cst h0 17920) (ly_hv cst h0 18432) ma mb md (121 * a + 11 * b + d)) (h : am_H) (l : am_L) (hy : ly_hy m_tt ly_TH h) (fr : ly_fr cst [] h0 h) (len : h0.length ≤ h.length) {t e : Int} (Q : bt_Q (ly_hv cst h0 18176) (ly_hv cst h0 17920) (ly_hv cst h0 18432) ma mb md a b d t e 5) (l0 : hp_a l 0 85) (l1 : hp_i l 1 t) (l2 : hp_i l 2 e) (l3 : hp_i l 3 5) : hp_F cst strs (bt_Φ cst h0 ma mb md a b d) (D + 1) M 6 l [] h := by
  obtain ⟨t0, t1, e0, e1⟩ := bt_b a0 b0 d0 A1 B1 D1 Q
  have no : rc (ly_hv cst h0 18176) (ly_hv cst h0 17920) 2 a b d = -1 → bt_Q (ly_hv cst h0 18176) (ly_hv cst h0 17920) (ly_hv cst h0 18432) ma mb md a b d t e 6 := fun hk => by
    rcases Q with ⟨q1, q2, q3⟩ | ⟨q1, q2, q3, q4⟩
    · exact Or.inl ⟨q1, q2, ju_An5 q3 hk⟩
    · exact Or.inr ⟨q1, q2, q3, ju_An5 q4 hk⟩
  by_cases g0 : b < mb
  case neg =>
    have Q2 := no (by
      rcases rcb2 (f := (ly_hv cst h0 18176)) (a := a) (b := b) (d := d) k0 k1 k2 with hk | ⟨-, -, p0⟩
      · exact hk
      · omega)
    exact bt5n0 c hM (by omega) hy a b d ma mb md t e a0 (by omega) b0 (by omega) d0 (by omega) A0 A1 B0 B1 D0 D1 t0 t1 e0 e1 (by omega) (fr _ _ _ rfl ka) (fr _ _ _ rfl kb) (fr _ _ _ rfl kd) (fr _ _ _ rfl k0) (fr _ _ _ rfl k1) (fr _ _ _ rfl k2) l0 l1 l2 l3 (fun l' h2 u1 u2 u3 v0 v1 v2 v3 => btp6 c1 c hM hD A0 A1 B0 B1 D0 D1 a0 a1 b0 b1 d0 d1 hy0 ka kb kd k0 k1 k2 T h2 l' u1 (ly_fr_tr fr u2) (Nat.le_trans len u3) (Q := Q2) v0 v1 v2 v3)
  refine bt5v c hM (by omega) hy a b d ma mb md t e a0 (by omega) b0 (by omega) d0 (by omega) A0 A1 B0 B1 D0 D1 t0 t1 e0 e1 (by omega) (fr _ _ _ rfl ka) (fr _ _ _ rfl kb) (fr _ _ _ rfl kd) (fr _ _ _ rfl k0) (fr _ _ _ rfl k1) (fr _ _ _ rfl k2) l0 l1 l2 l3 (fun l1' h1 y0 f0 u1 u2 u3 v0 v1 v2 v3 => ?_)
  have fr1 := ly_fr_tr fr u2
  obtain ⟨y, hyv, yy0, yy1, -⟩ := T (a + 0) (b + 1) (d + 0) (by omega) (by omega) (by omega) (by omega) (by omega) (by omega) (by omega)
  rw [show 121 * (a + 0) + 11 * (b + 1) + (d + 0) = 121 * a + 11 * b + d + 11 by omega] at hyv
  obtain ⟨r, hrun, ⟨x, r1, hx⟩, r2, r3, rhy, rfr, rlen⟩ := cbr2 c1 (by omega) u1 f0 (a := a) (b := b) (d := d) (ma := ma) (mb := mb) (md := md) (y := y) a0 (by omega) b0 (by omega) d0 (by omega) A0 A1 B0 B1 D0 D1 yy0 (by omega) (fr1 _ _ _ rfl ka) (fr1 _ _ _ rfl kb) (fr1 _ _ _ rfl kd) (fr1 _ _ _ rfl k0) (fr1 _ _ _ rfl k1) (fr1 _ _ _ rfl k2) (fr1 _ _ _ rfl hyv) g0
  refine hp_call (mi := 248) (pc := 32) (tg := 250) (na := 2) (c := 69) (ci := 10) (st0 := [.int y0, .ref 85]) (st := []) (av := [.int y0]) hM (by decide +kernel) u1 rfl rfl rfl (by decide) hrun r2 r3 ?_
  rw [r1]
  rw [hL1 rfl hy0 u1 fr1, hL0 rfl hy0 u1 fr1] at hx
  obtain ⟨kk0, kk1⟩ := rcq2 (f := (ly_hv cst h0 18176)) k0 k1 k2 (show b < mb from g0)
  have fr2 := ly_fr_tr fr1 rfr
  have len2 := Nat.le_trans (Nat.le_trans len u3) rlen
  have up : ∀ {e' : Int}, ju_A (ly_hv cst h0 18176) (ly_hv cst h0 17920) (ly_hv cst h0 18432) a b d e' 5 → (e' = -1 ∨ x.toInt < e') → bt_Q (ly_hv cst h0 18176) (ly_hv cst h0 17920) (ly_hv cst h0 18432) ma mb md a b d 2 x.toInt 6 := fun A lt => Or.inr ⟨by omega, by omega, Or.inr (Or.inr (Or.inr (Or.inr (Or.inr (Or.inl ⟨rfl, ⟨kk0, y, hyv, hx⟩, ju_FA A lt⟩))))), ju_Ab5 A (by omega) (by omega) (fun y2 h2 => by rw [hyv] at h2; cases h2; omega)⟩
  rcases Q with ⟨q1, q2, q3⟩ | ⟨q1, q2, q3, q4⟩
  · have Q2 := up q3 (Or.inl rfl)
    rw [q1] at v1
    rw [q2] at v2
    exact bt5a c hM (by omega) rhy x.toInt x rfl (by omega) (by omega) v0 v1 v2 v3 (fun l' h2 w1 w2 w3 z0 z1 z2 z3 => btp6 c1 c hM hD A0 A1 B0 B1 D0 D1 a0 a1 b0 b1 d0 d1 hy0 ka kb kd k0 k1 k2 T h2 l' w1 (ly_fr_tr fr2 w2) (Nat.le_trans len2 w3) (Q := Q2) z0 z1 z2 z3)
  · have tt := bt_t q3
    by_cases lt : x.toInt < e
    · have Q2 := up q4 (Or.inr lt)
      exact bt5b c hM (by omega) rhy t e x.toInt x rfl tt.1 tt.2 e0 e1 (by omega) (by omega) (by omega) v0 v1 v2 v3 (fun l' h2 w1 w2 w3 z0 z1 z2 z3 => btp6 c1 c hM hD A0 A1 B0 B1 D0 D1 a0 a1 b0 b1 d0 d1 hy0 ka kb kd k0 k1 k2 T h2 l' w1 (ly_fr_tr fr2 w2) (Nat.le_trans len2 w3) (Q := Q2) z0 z1 z2 z3)
    · have Q2 : bt_Q (ly_hv cst h0 18176) (ly_hv cst h0 17920) (ly_hv cst h0 18432) ma mb md a b d t e 6 := Or.inr ⟨q1, q2, q3, ju_Ab5 q4 (Or.inr (Int.le_refl _)) (by omega) (fun y2 h2 => by rw [hyv] at h2; cases h2; omega)⟩
      exact bt5c c hM (by omega) rhy t e x.toInt x rfl tt.1 tt.2 e0 e1 (by omega) (by omega) (by omega) v0 v1 v2 v3 (fun l' h2 w1 w2 w3 z0 z1 z2 z3 => btp6 c1 c hM hD A0 A1 B0 B1 D0 D1 a0 a1 b0 b1 d0 d1 hy0 ka kb kd k0 k1 k2 T h2 l' w1 (ly_fr_tr fr2 w2) (Nat.le_trans len2 w3) (Q := Q2) z0 z1 z2 z3)
theorem btp4 (c1 : hp_C cst strs D) (c : hp_C cst strs (D + 1)) (hM : m_P[248]? = some M) (hD : (5 : Int) ≤ (D : Int) + 1) (A0 : 0 ≤ ma) (A1 : ma ≤ 10) (B0 : 0 ≤ mb) (B1 : mb ≤ 10) (D0 : 0 ≤ md) (D1 : md ≤ 10) (a0 : 0 ≤ a) (a1 : a ≤ ma) (b0 : 0 ≤ b) (b1 : b ≤ mb) (d0 : 0 ≤ d) (d1 : d ≤ md) (hy0 : ly_hy m_tt ly_TH h0) (ka : ly_hv cst h0 18688 0 = some a) (kb : ly_hv cst h0 18688 1 = some b) (kd : ly_hv cst h0 18688 2 = some d) (k0 : ly_hv cst h0 17920 0 = some ma) (k1 : ly_hv cst h0 17920 1 = some mb) (k2 : ly_hv cst h0 17920 2 = some md) (T : ju_T (ly_hv cst h0 18176) (ly_hv cst h0 17920) (ly_hv cst h0 18432) ma mb md (121 * a + 11 * b + d)) (h : am_H) (l : am_L) (hy : ly_hy m_tt ly_TH h) (fr : ly_fr cst [] h0 h) (len : h0.length ≤ h.length) {t e : Int} (Q : bt_Q (ly_hv cst h0 18176) (ly_hv cst h0 17920) (ly_hv cst h0 18432) ma mb md a b d t e 4) (l0 : hp_a l 0 85) (l1 : hp_i l 1 t) (l2 : hp_i l 2 e) (l3 : hp_i l 3 4) : hp_F cst strs (bt_Φ cst h0 ma mb md a b d) (D + 1) M 6 l [] h := by
  obtain ⟨t0, t1, e0, e1⟩ := bt_b a0 b0 d0 A1 B1 D1 Q
  have no : rc (ly_hv cst h0 18176) (ly_hv cst h0 17920) 1 a b d = -1 → bt_Q (ly_hv cst h0 18176) (ly_hv cst h0 17920) (ly_hv cst h0 18432) ma mb md a b d t e 5 := fun hk => by
    rcases Q with ⟨q1, q2, q3⟩ | ⟨q1, q2, q3, q4⟩
    · exact Or.inl ⟨q1, q2, ju_An4 q3 hk⟩
    · exact Or.inr ⟨q1, q2, q3, ju_An4 q4 hk⟩
  by_cases g0 : a < ma
  case neg =>
    have Q2 := no (by
      rcases rcb1 (f := (ly_hv cst h0 18176)) (a := a) (b := b) (d := d) k0 k1 k2 with hk | ⟨-, -, p0⟩
      · exact hk
      · omega)
    exact bt4n0 c hM (by omega) hy a b d ma mb md t e a0 (by omega) b0 (by omega) d0 (by omega) A0 A1 B0 B1 D0 D1 t0 t1 e0 e1 (by omega) (fr _ _ _ rfl ka) (fr _ _ _ rfl kb) (fr _ _ _ rfl kd) (fr _ _ _ rfl k0) (fr _ _ _ rfl k1) (fr _ _ _ rfl k2) l0 l1 l2 l3 (fun l' h2 u1 u2 u3 v0 v1 v2 v3 => btp5 c1 c hM hD A0 A1 B0 B1 D0 D1 a0 a1 b0 b1 d0 d1 hy0 ka kb kd k0 k1 k2 T h2 l' u1 (ly_fr_tr fr u2) (Nat.le_trans len u3) (Q := Q2) v0 v1 v2 v3)
  refine bt4v c hM (by omega) hy a b d ma mb md t e a0 (by omega) b0 (by omega) d0 (by omega) A0 A1 B0 B1 D0 D1 t0 t1 e0 e1 (by omega) (fr _ _ _ rfl ka) (fr _ _ _ rfl kb) (fr _ _ _ rfl kd) (fr _ _ _ rfl k0) (fr _ _ _ rfl k1) (fr _ _ _ rfl k2) l0 l1 l2 l3 (fun l1' h1 y0 f0 u1 u2 u3 v0 v1 v2 v3 => ?_)
  have fr1 := ly_fr_tr fr u2
  obtain ⟨y, hyv, yy0, yy1, -⟩ := T (a + 1) (b + 0) (d + 0) (by omega) (by omega) (by omega) (by omega) (by omega) (by omega) (by omega)
  rw [show 121 * (a + 1) + 11 * (b + 0) + (d + 0) = 121 * a + 11 * b + d + 121 by omega] at hyv
  obtain ⟨r, hrun, ⟨x, r1, hx⟩, r2, r3, rhy, rfr, rlen⟩ := cbr1 c1 (by omega) u1 f0 (a := a) (b := b) (d := d) (ma := ma) (mb := mb) (md := md) (y := y) a0 (by omega) b0 (by omega) d0 (by omega) A0 A1 B0 B1 D0 D1 yy0 (by omega) (fr1 _ _ _ rfl ka) (fr1 _ _ _ rfl kb) (fr1 _ _ _ rfl kd) (fr1 _ _ _ rfl k0) (fr1 _ _ _ rfl k1) (fr1 _ _ _ rfl k2) (fr1 _ _ _ rfl hyv) g0
  refine hp_call (mi := 248) (pc := 32) (tg := 250) (na := 2) (c := 69) (ci := 10) (st0 := [.int y0, .ref 85]) (st := []) (av := [.int y0]) hM (by decide +kernel) u1 rfl rfl rfl (by decide) hrun r2 r3 ?_
  rw [r1]
  rw [hL1 rfl hy0 u1 fr1, hL0 rfl hy0 u1 fr1] at hx
  obtain ⟨kk0, kk1⟩ := rcq1 (f := (ly_hv cst h0 18176)) k0 k1 k2 (show a < ma from g0)
  have fr2 := ly_fr_tr fr1 rfr
  have len2 := Nat.le_trans (Nat.le_trans len u3) rlen
  have up : ∀ {e' : Int}, ju_A (ly_hv cst h0 18176) (ly_hv cst h0 17920) (ly_hv cst h0 18432) a b d e' 4 → (e' = -1 ∨ x.toInt < e') → bt_Q (ly_hv cst h0 18176) (ly_hv cst h0 17920) (ly_hv cst h0 18432) ma mb md a b d 1 x.toInt 5 := fun A lt => Or.inr ⟨by omega, by omega, Or.inr (Or.inr (Or.inr (Or.inr (Or.inl ⟨rfl, ⟨kk0, y, hyv, hx⟩, ju_FA A lt⟩)))), ju_Ab4 A (by omega) (by omega) (fun y2 h2 => by rw [hyv] at h2; cases h2; omega)⟩
  rcases Q with ⟨q1, q2, q3⟩ | ⟨q1, q2, q3, q4⟩
  · have Q2 := up q3 (Or.inl rfl)
    rw [q1] at v1
    rw [q2] at v2
    exact bt4a c hM (by omega) rhy x.toInt x rfl (by omega) (by omega) v0 v1 v2 v3 (fun l' h2 w1 w2 w3 z0 z1 z2 z3 => btp5 c1 c hM hD A0 A1 B0 B1 D0 D1 a0 a1 b0 b1 d0 d1 hy0 ka kb kd k0 k1 k2 T h2 l' w1 (ly_fr_tr fr2 w2) (Nat.le_trans len2 w3) (Q := Q2) z0 z1 z2 z3)
  · have tt := bt_t q3
    by_cases lt : x.toInt < e
    · have Q2 := up q4 (Or.inr lt)
      exact bt4b c hM (by omega) rhy t e x.toInt x rfl tt.1 tt.2 e0 e1 (by omega) (by omega) (by omega) v0 v1 v2 v3 (fun l' h2 w1 w2 w3 z0 z1 z2 z3 => btp5 c1 c hM hD A0 A1 B0 B1 D0 D1 a0 a1 b0 b1 d0 d1 hy0 ka kb kd k0 k1 k2 T h2 l' w1 (ly_fr_tr fr2 w2) (Nat.le_trans len2 w3) (Q := Q2) z0 z1 z2 z3)
    · have Q2 : bt_Q (ly_hv cst h0 18176) (ly_hv cst h0 17920) (ly_hv cst h0 18432) ma mb md a b d t e 5 := Or.inr ⟨q1, q2, q3, ju_Ab4 q4 (Or.inr (Int.le_refl _)) (by omega) (fun y2 h2 => by rw [hyv] at h2; cases h2; omega)⟩
      exact bt4c c hM (by omega) rhy t e x.toInt x rfl tt.1 tt.2 e0 e1 (by omega) (by omega) (by omega) v0 v1 v2 v3 (fun l' h2 w1 w2 w3 z0 z1 z2 z3 => btp5 c1 c hM hD A0 A1 B0 B1 D0 D1 a0 a1 b0 b1 d0 d1 hy0 ka kb kd k0 k1 k2 T h2 l' w1 (ly_fr_tr fr2 w2) (Nat.le_trans len2 w3) (Q := Q2) z0 z1 z2 z3)
theorem btp3 (c1 : hp_C cst strs D) (c : hp_C cst strs (D + 1)) (hM : m_P[248]? = some M) (hD : (5 : Int) ≤ (D : Int) + 1) (A0 : 0 ≤ ma) (A1 : ma ≤ 10) (B0 : 0 ≤ mb) (B1 : mb ≤ 10) (D0 : 0 ≤ md) (D1 : md ≤ 10) (a0 : 0 ≤ a) (a1 : a ≤ ma) (b0 : 0 ≤ b) (b1 : b ≤ mb) (d0 : 0 ≤ d) (d1 : d ≤ md) (hy0 : ly_hy m_tt ly_TH h0) (ka : ly_hv cst h0 18688 0 = some a) (kb : ly_hv cst h0 18688 1 = some b) (kd : ly_hv cst h0 18688 2 = some d) (k0 : ly_hv cst h0 17920 0 = some ma) (k1 : ly_hv cst h0 17920 1 = some mb) (k2 : ly_hv cst h0 17920 2 = some md) (T : ju_T (ly_hv cst h0 18176) (ly_hv cst h0 17920) (ly_hv cst h0 18432) ma mb md (121 * a + 11 * b + d)) (h : am_H) (l : am_L) (hy : ly_hy m_tt ly_TH h) (fr : ly_fr cst [] h0 h) (len : h0.length ≤ h.length) {t e : Int} (Q : bt_Q (ly_hv cst h0 18176) (ly_hv cst h0 17920) (ly_hv cst h0 18432) ma mb md a b d t e 3) (l0 : hp_a l 0 85) (l1 : hp_i l 1 t) (l2 : hp_i l 2 e) (l3 : hp_i l 3 3) : hp_F cst strs (bt_Φ cst h0 ma mb md a b d) (D + 1) M 6 l [] h := by
  obtain ⟨t0, t1, e0, e1⟩ := bt_b a0 b0 d0 A1 B1 D1 Q
  have no : rc (ly_hv cst h0 18176) (ly_hv cst h0 17920) 6 a b d = -1 → bt_Q (ly_hv cst h0 18176) (ly_hv cst h0 17920) (ly_hv cst h0 18432) ma mb md a b d t e 4 := fun hk => by
    rcases Q with ⟨q1, q2, q3⟩ | ⟨q1, q2, q3, q4⟩
    · exact Or.inl ⟨q1, q2, ju_An3 q3 hk⟩
    · exact Or.inr ⟨q1, q2, q3, ju_An3 q4 hk⟩
  by_cases g0 : b < mb
  case neg =>
    have Q2 := no (by
      rcases rcb6 (f := (ly_hv cst h0 18176)) (a := a) (b := b) (d := d) k0 k1 k2 with hk | ⟨-, -, ⟨p0, p1⟩⟩
      · exact hk
      · omega)
    exact bt3n0 c hM (by omega) hy a b d ma mb md t e a0 (by omega) b0 (by omega) d0 (by omega) A0 A1 B0 B1 D0 D1 t0 t1 e0 e1 (by omega) (fr _ _ _ rfl ka) (fr _ _ _ rfl kb) (fr _ _ _ rfl kd) (fr _ _ _ rfl k0) (fr _ _ _ rfl k1) (fr _ _ _ rfl k2) l0 l1 l2 l3 (fun l' h2 u1 u2 u3 v0 v1 v2 v3 => btp4 c1 c hM hD A0 A1 B0 B1 D0 D1 a0 a1 b0 b1 d0 d1 hy0 ka kb kd k0 k1 k2 T h2 l' u1 (ly_fr_tr fr u2) (Nat.le_trans len u3) (Q := Q2) v0 v1 v2 v3)
  by_cases g1 : d < md
  case neg =>
    have Q2 := no (by
      rcases rcb6 (f := (ly_hv cst h0 18176)) (a := a) (b := b) (d := d) k0 k1 k2 with hk | ⟨-, -, ⟨p0, p1⟩⟩
      · exact hk
      · omega)
    exact bt3n1 c hM (by omega) hy a b d ma mb md t e a0 (by omega) b0 (by omega) d0 (by omega) A0 A1 B0 B1 D0 D1 t0 t1 e0 e1 (by omega) (by omega) (fr _ _ _ rfl ka) (fr _ _ _ rfl kb) (fr _ _ _ rfl kd) (fr _ _ _ rfl k0) (fr _ _ _ rfl k1) (fr _ _ _ rfl k2) l0 l1 l2 l3 (fun l' h2 u1 u2 u3 v0 v1 v2 v3 => btp4 c1 c hM hD A0 A1 B0 B1 D0 D1 a0 a1 b0 b1 d0 d1 hy0 ka kb kd k0 k1 k2 T h2 l' u1 (ly_fr_tr fr u2) (Nat.le_trans len u3) (Q := Q2) v0 v1 v2 v3)
  refine bt3v c hM (by omega) hy a b d ma mb md t e a0 (by omega) b0 (by omega) d0 (by omega) A0 A1 B0 B1 D0 D1 t0 t1 e0 e1 (by omega) (by omega) (fr _ _ _ rfl ka) (fr _ _ _ rfl kb) (fr _ _ _ rfl kd) (fr _ _ _ rfl k0) (fr _ _ _ rfl k1) (fr _ _ _ rfl k2) l0 l1 l2 l3 (fun l1' h1 y0 f0 u1 u2 u3 v0 v1 v2 v3 => ?_)
  have fr1 := ly_fr_tr fr u2
  obtain ⟨y, hyv, yy0, yy1, -⟩ := T (a + 0) (b + 1) (d + 1) (by omega) (by omega) (by omega) (by omega) (by omega) (by omega) (by omega)
  rw [show 121 * (a + 0) + 11 * (b + 1) + (d + 1) = 121 * a + 11 * b + d + 12 by omega] at hyv
  obtain ⟨r, hrun, ⟨x, r1, hx⟩, r2, r3, rhy, rfr, rlen⟩ := cbr6 c1 (by omega) u1 f0 (a := a) (b := b) (d := d) (ma := ma) (mb := mb) (md := md) (y := y) a0 (by omega) b0 (by omega) d0 (by omega) A0 A1 B0 B1 D0 D1 yy0 (by omega) (fr1 _ _ _ rfl ka) (fr1 _ _ _ rfl kb) (fr1 _ _ _ rfl kd) (fr1 _ _ _ rfl k0) (fr1 _ _ _ rfl k1) (fr1 _ _ _ rfl k2) (fr1 _ _ _ rfl hyv) ⟨g0, g1⟩
  refine hp_call (mi := 248) (pc := 32) (tg := 250) (na := 2) (c := 69) (ci := 10) (st0 := [.int y0, .ref 85]) (st := []) (av := [.int y0]) hM (by decide +kernel) u1 rfl rfl rfl (by decide) hrun r2 r3 ?_
  rw [r1]
  rw [hL1 rfl hy0 u1 fr1, hL0 rfl hy0 u1 fr1] at hx
  obtain ⟨kk0, kk1⟩ := rcq6 (f := (ly_hv cst h0 18176)) k0 k1 k2 (show b < mb ∧ d < md from ⟨g0, g1⟩)
  have fr2 := ly_fr_tr fr1 rfr
  have len2 := Nat.le_trans (Nat.le_trans len u3) rlen
  have up : ∀ {e' : Int}, ju_A (ly_hv cst h0 18176) (ly_hv cst h0 17920) (ly_hv cst h0 18432) a b d e' 3 → (e' = -1 ∨ x.toInt < e') → bt_Q (ly_hv cst h0 18176) (ly_hv cst h0 17920) (ly_hv cst h0 18432) ma mb md a b d 6 x.toInt 4 := fun A lt => Or.inr ⟨by omega, by omega, Or.inr (Or.inr (Or.inr (Or.inl ⟨rfl, ⟨kk0, y, hyv, hx⟩, ju_FA A lt⟩))), ju_Ab3 A (by omega) (by omega) (fun y2 h2 => by rw [hyv] at h2; cases h2; omega)⟩
  rcases Q with ⟨q1, q2, q3⟩ | ⟨q1, q2, q3, q4⟩
  · have Q2 := up q3 (Or.inl rfl)
    rw [q1] at v1
    rw [q2] at v2
    exact bt3a c hM (by omega) rhy x.toInt x rfl (by omega) (by omega) v0 v1 v2 v3 (fun l' h2 w1 w2 w3 z0 z1 z2 z3 => btp4 c1 c hM hD A0 A1 B0 B1 D0 D1 a0 a1 b0 b1 d0 d1 hy0 ka kb kd k0 k1 k2 T h2 l' w1 (ly_fr_tr fr2 w2) (Nat.le_trans len2 w3) (Q := Q2) z0 z1 z2 z3)
  · have tt := bt_t q3
    by_cases lt : x.toInt < e
    · have Q2 := up q4 (Or.inr lt)
      exact bt3b c hM (by omega) rhy t e x.toInt x rfl tt.1 tt.2 e0 e1 (by omega) (by omega) (by omega) v0 v1 v2 v3 (fun l' h2 w1 w2 w3 z0 z1 z2 z3 => btp4 c1 c hM hD A0 A1 B0 B1 D0 D1 a0 a1 b0 b1 d0 d1 hy0 ka kb kd k0 k1 k2 T h2 l' w1 (ly_fr_tr fr2 w2) (Nat.le_trans len2 w3) (Q := Q2) z0 z1 z2 z3)
    · have Q2 : bt_Q (ly_hv cst h0 18176) (ly_hv cst h0 17920) (ly_hv cst h0 18432) ma mb md a b d t e 4 := Or.inr ⟨q1, q2, q3, ju_Ab3 q4 (Or.inr (Int.le_refl _)) (by omega) (fun y2 h2 => by rw [hyv] at h2; cases h2; omega)⟩
      exact bt3c c hM (by omega) rhy t e x.toInt x rfl tt.1 tt.2 e0 e1 (by omega) (by omega) (by omega) v0 v1 v2 v3 (fun l' h2 w1 w2 w3 z0 z1 z2 z3 => btp4 c1 c hM hD A0 A1 B0 B1 D0 D1 a0 a1 b0 b1 d0 d1 hy0 ka kb kd k0 k1 k2 T h2 l' w1 (ly_fr_tr fr2 w2) (Nat.le_trans len2 w3) (Q := Q2) z0 z1 z2 z3)
theorem btp2 (c1 : hp_C cst strs D) (c : hp_C cst strs (D + 1)) (hM : m_P[248]? = some M) (hD : (5 : Int) ≤ (D : Int) + 1) (A0 : 0 ≤ ma) (A1 : ma ≤ 10) (B0 : 0 ≤ mb) (B1 : mb ≤ 10) (D0 : 0 ≤ md) (D1 : md ≤ 10) (a0 : 0 ≤ a) (a1 : a ≤ ma) (b0 : 0 ≤ b) (b1 : b ≤ mb) (d0 : 0 ≤ d) (d1 : d ≤ md) (hy0 : ly_hy m_tt ly_TH h0) (ka : ly_hv cst h0 18688 0 = some a) (kb : ly_hv cst h0 18688 1 = some b) (kd : ly_hv cst h0 18688 2 = some d) (k0 : ly_hv cst h0 17920 0 = some ma) (k1 : ly_hv cst h0 17920 1 = some mb) (k2 : ly_hv cst h0 17920 2 = some md) (T : ju_T (ly_hv cst h0 18176) (ly_hv cst h0 17920) (ly_hv cst h0 18432) ma mb md (121 * a + 11 * b + d)) (h : am_H) (l : am_L) (hy : ly_hy m_tt ly_TH h) (fr : ly_fr cst [] h0 h) (len : h0.length ≤ h.length) {t e : Int} (Q : bt_Q (ly_hv cst h0 18176) (ly_hv cst h0 17920) (ly_hv cst h0 18432) ma mb md a b d t e 2) (l0 : hp_a l 0 85) (l1 : hp_i l 1 t) (l2 : hp_i l 2 e) (l3 : hp_i l 3 2) : hp_F cst strs (bt_Φ cst h0 ma mb md a b d) (D + 1) M 6 l [] h := by
  obtain ⟨t0, t1, e0, e1⟩ := bt_b a0 b0 d0 A1 B1 D1 Q
  have no : rc (ly_hv cst h0 18176) (ly_hv cst h0 17920) 5 a b d = -1 → bt_Q (ly_hv cst h0 18176) (ly_hv cst h0 17920) (ly_hv cst h0 18432) ma mb md a b d t e 3 := fun hk => by
    rcases Q with ⟨q1, q2, q3⟩ | ⟨q1, q2, q3, q4⟩
    · exact Or.inl ⟨q1, q2, ju_An2 q3 hk⟩
    · exact Or.inr ⟨q1, q2, q3, ju_An2 q4 hk⟩
  by_cases g0 : a < ma
  case neg =>
    have Q2 := no (by
      rcases rcb5 (f := (ly_hv cst h0 18176)) (a := a) (b := b) (d := d) k0 k1 k2 with hk | ⟨-, -, ⟨p0, p1⟩⟩
      · exact hk
      · omega)
    exact bt2n0 c hM (by omega) hy a b d ma mb md t e a0 (by omega) b0 (by omega) d0 (by omega) A0 A1 B0 B1 D0 D1 t0 t1 e0 e1 (by omega) (fr _ _ _ rfl ka) (fr _ _ _ rfl kb) (fr _ _ _ rfl kd) (fr _ _ _ rfl k0) (fr _ _ _ rfl k1) (fr _ _ _ rfl k2) l0 l1 l2 l3 (fun l' h2 u1 u2 u3 v0 v1 v2 v3 => btp3 c1 c hM hD A0 A1 B0 B1 D0 D1 a0 a1 b0 b1 d0 d1 hy0 ka kb kd k0 k1 k2 T h2 l' u1 (ly_fr_tr fr u2) (Nat.le_trans len u3) (Q := Q2) v0 v1 v2 v3)
  by_cases g1 : d < md
  case neg =>
    have Q2 := no (by
      rcases rcb5 (f := (ly_hv cst h0 18176)) (a := a) (b := b) (d := d) k0 k1 k2 with hk | ⟨-, -, ⟨p0, p1⟩⟩
      · exact hk
      · omega)
    exact bt2n1 c hM (by omega) hy a b d ma mb md t e a0 (by omega) b0 (by omega) d0 (by omega) A0 A1 B0 B1 D0 D1 t0 t1 e0 e1 (by omega) (by omega) (fr _ _ _ rfl ka) (fr _ _ _ rfl kb) (fr _ _ _ rfl kd) (fr _ _ _ rfl k0) (fr _ _ _ rfl k1) (fr _ _ _ rfl k2) l0 l1 l2 l3 (fun l' h2 u1 u2 u3 v0 v1 v2 v3 => btp3 c1 c hM hD A0 A1 B0 B1 D0 D1 a0 a1 b0 b1 d0 d1 hy0 ka kb kd k0 k1 k2 T h2 l' u1 (ly_fr_tr fr u2) (Nat.le_trans len u3) (Q := Q2) v0 v1 v2 v3)
  refine bt2v c hM (by omega) hy a b d ma mb md t e a0 (by omega) b0 (by omega) d0 (by omega) A0 A1 B0 B1 D0 D1 t0 t1 e0 e1 (by omega) (by omega) (fr _ _ _ rfl ka) (fr _ _ _ rfl kb) (fr _ _ _ rfl kd) (fr _ _ _ rfl k0) (fr _ _ _ rfl k1) (fr _ _ _ rfl k2) l0 l1 l2 l3 (fun l1' h1 y0 f0 u1 u2 u3 v0 v1 v2 v3 => ?_)
  have fr1 := ly_fr_tr fr u2
  obtain ⟨y, hyv, yy0, yy1, -⟩ := T (a + 1) (b + 0) (d + 1) (by omega) (by omega) (by omega) (by omega) (by omega) (by omega) (by omega)
  rw [show 121 * (a + 1) + 11 * (b + 0) + (d + 1) = 121 * a + 11 * b + d + 122 by omega] at hyv
  obtain ⟨r, hrun, ⟨x, r1, hx⟩, r2, r3, rhy, rfr, rlen⟩ := cbr5 c1 (by omega) u1 f0 (a := a) (b := b) (d := d) (ma := ma) (mb := mb) (md := md) (y := y) a0 (by omega) b0 (by omega) d0 (by omega) A0 A1 B0 B1 D0 D1 yy0 (by omega) (fr1 _ _ _ rfl ka) (fr1 _ _ _ rfl kb) (fr1 _ _ _ rfl kd) (fr1 _ _ _ rfl k0) (fr1 _ _ _ rfl k1) (fr1 _ _ _ rfl k2) (fr1 _ _ _ rfl hyv) ⟨g0, g1⟩
  refine hp_call (mi := 248) (pc := 32) (tg := 250) (na := 2) (c := 69) (ci := 10) (st0 := [.int y0, .ref 85]) (st := []) (av := [.int y0]) hM (by decide +kernel) u1 rfl rfl rfl (by decide) hrun r2 r3 ?_
  rw [r1]
  rw [hL1 rfl hy0 u1 fr1, hL0 rfl hy0 u1 fr1] at hx
  obtain ⟨kk0, kk1⟩ := rcq5 (f := (ly_hv cst h0 18176)) k0 k1 k2 (show a < ma ∧ d < md from ⟨g0, g1⟩)
  have fr2 := ly_fr_tr fr1 rfr
  have len2 := Nat.le_trans (Nat.le_trans len u3) rlen
  have up : ∀ {e' : Int}, ju_A (ly_hv cst h0 18176) (ly_hv cst h0 17920) (ly_hv cst h0 18432) a b d e' 2 → (e' = -1 ∨ x.toInt < e') → bt_Q (ly_hv cst h0 18176) (ly_hv cst h0 17920) (ly_hv cst h0 18432) ma mb md a b d 5 x.toInt 3 := fun A lt => Or.inr ⟨by omega, by omega, Or.inr (Or.inr (Or.inl ⟨rfl, ⟨kk0, y, hyv, hx⟩, ju_FA A lt⟩)), ju_Ab2 A (by omega) (by omega) (fun y2 h2 => by rw [hyv] at h2; cases h2; omega)⟩
  rcases Q with ⟨q1, q2, q3⟩ | ⟨q1, q2, q3, q4⟩
  · have Q2 := up q3 (Or.inl rfl)
    rw [q1] at v1
    rw [q2] at v2
    exact bt2a c hM (by omega) rhy x.toInt x rfl (by omega) (by omega) v0 v1 v2 v3 (fun l' h2 w1 w2 w3 z0 z1 z2 z3 => btp3 c1 c hM hD A0 A1 B0 B1 D0 D1 a0 a1 b0 b1 d0 d1 hy0 ka kb kd k0 k1 k2 T h2 l' w1 (ly_fr_tr fr2 w2) (Nat.le_trans len2 w3) (Q := Q2) z0 z1 z2 z3)
  · have tt := bt_t q3
    by_cases lt : x.toInt < e
    · have Q2 := up q4 (Or.inr lt)
      exact bt2b c hM (by omega) rhy t e x.toInt x rfl tt.1 tt.2 e0 e1 (by omega) (by omega) (by omega) v0 v1 v2 v3 (fun l' h2 w1 w2 w3 z0 z1 z2 z3 => btp3 c1 c hM hD A0 A1 B0 B1 D0 D1 a0 a1 b0 b1 d0 d1 hy0 ka kb kd k0 k1 k2 T h2 l' w1 (ly_fr_tr fr2 w2) (Nat.le_trans len2 w3) (Q := Q2) z0 z1 z2 z3)
    · have Q2 : bt_Q (ly_hv cst h0 18176) (ly_hv cst h0 17920) (ly_hv cst h0 18432) ma mb md a b d t e 3 := Or.inr ⟨q1, q2, q3, ju_Ab2 q4 (Or.inr (Int.le_refl _)) (by omega) (fun y2 h2 => by rw [hyv] at h2; cases h2; omega)⟩
      exact bt2c c hM (by omega) rhy t e x.toInt x rfl tt.1 tt.2 e0 e1 (by omega) (by omega) (by omega) v0 v1 v2 v3 (fun l' h2 w1 w2 w3 z0 z1 z2 z3 => btp3 c1 c hM hD A0 A1 B0 B1 D0 D1 a0 a1 b0 b1 d0 d1 hy0 ka kb kd k0 k1 k2 T h2 l' w1 (ly_fr_tr fr2 w2) (Nat.le_trans len2 w3) (Q := Q2) z0 z1 z2 z3)
theorem btp1 (c1 : hp_C cst strs D) (c : hp_C cst strs (D + 1)) (hM : m_P[248]? = some M) (hD : (5 : Int) ≤ (D : Int) + 1) (A0 : 0 ≤ ma) (A1 : ma ≤ 10) (B0 : 0 ≤ mb) (B1 : mb ≤ 10) (D0 : 0 ≤ md) (D1 : md ≤ 10) (a0 : 0 ≤ a) (a1 : a ≤ ma) (b0 : 0 ≤ b) (b1 : b ≤ mb) (d0 : 0 ≤ d) (d1 : d ≤ md) (hy0 : ly_hy m_tt ly_TH h0) (ka : ly_hv cst h0 18688 0 = some a) (kb : ly_hv cst h0 18688 1 = some b) (kd : ly_hv cst h0 18688 2 = some d) (k0 : ly_hv cst h0 17920 0 = some ma) (k1 : ly_hv cst h0 17920 1 = some mb) (k2 : ly_hv cst h0 17920 2 = some md) (T : ju_T (ly_hv cst h0 18176) (ly_hv cst h0 17920) (ly_hv cst h0 18432) ma mb md (121 * a + 11 * b + d)) (h : am_H) (l : am_L) (hy : ly_hy m_tt ly_TH h) (fr : ly_fr cst [] h0 h) (len : h0.length ≤ h.length) {t e : Int} (Q : bt_Q (ly_hv cst h0 18176) (ly_hv cst h0 17920) (ly_hv cst h0 18432) ma mb md a b d t e 1) (l0 : hp_a l 0 85) (l1 : hp_i l 1 t) (l2 : hp_i l 2 e) (l3 : hp_i l 3 1) : hp_F cst strs (bt_Φ cst h0 ma mb md a b d) (D + 1) M 6 l [] h := by
  obtain ⟨t0, t1, e0, e1⟩ := bt_b a0 b0 d0 A1 B1 D1 Q
  have no : rc (ly_hv cst h0 18176) (ly_hv cst h0 17920) 3 a b d = -1 → bt_Q (ly_hv cst h0 18176) (ly_hv cst h0 17920) (ly_hv cst h0 18432) ma mb md a b d t e 2 := fun hk => by
    rcases Q with ⟨q1, q2, q3⟩ | ⟨q1, q2, q3, q4⟩
    · exact Or.inl ⟨q1, q2, ju_An1 q3 hk⟩
    · exact Or.inr ⟨q1, q2, q3, ju_An1 q4 hk⟩
  by_cases g0 : a < ma
  case neg =>
    have Q2 := no (by
      rcases rcb3 (f := (ly_hv cst h0 18176)) (a := a) (b := b) (d := d) k0 k1 k2 with hk | ⟨-, -, ⟨p0, p1⟩⟩
      · exact hk
      · omega)
    exact bt1n0 c hM (by omega) hy a b d ma mb md t e a0 (by omega) b0 (by omega) d0 (by omega) A0 A1 B0 B1 D0 D1 t0 t1 e0 e1 (by omega) (fr _ _ _ rfl ka) (fr _ _ _ rfl kb) (fr _ _ _ rfl kd) (fr _ _ _ rfl k0) (fr _ _ _ rfl k1) (fr _ _ _ rfl k2) l0 l1 l2 l3 (fun l' h2 u1 u2 u3 v0 v1 v2 v3 => btp2 c1 c hM hD A0 A1 B0 B1 D0 D1 a0 a1 b0 b1 d0 d1 hy0 ka kb kd k0 k1 k2 T h2 l' u1 (ly_fr_tr fr u2) (Nat.le_trans len u3) (Q := Q2) v0 v1 v2 v3)
  by_cases g1 : b < mb
  case neg =>
    have Q2 := no (by
      rcases rcb3 (f := (ly_hv cst h0 18176)) (a := a) (b := b) (d := d) k0 k1 k2 with hk | ⟨-, -, ⟨p0, p1⟩⟩
      · exact hk
      · omega)
    exact bt1n1 c hM (by omega) hy a b d ma mb md t e a0 (by omega) b0 (by omega) d0 (by omega) A0 A1 B0 B1 D0 D1 t0 t1 e0 e1 (by omega) (by omega) (fr _ _ _ rfl ka) (fr _ _ _ rfl kb) (fr _ _ _ rfl kd) (fr _ _ _ rfl k0) (fr _ _ _ rfl k1) (fr _ _ _ rfl k2) l0 l1 l2 l3 (fun l' h2 u1 u2 u3 v0 v1 v2 v3 => btp2 c1 c hM hD A0 A1 B0 B1 D0 D1 a0 a1 b0 b1 d0 d1 hy0 ka kb kd k0 k1 k2 T h2 l' u1 (ly_fr_tr fr u2) (Nat.le_trans len u3) (Q := Q2) v0 v1 v2 v3)
  refine bt1v c hM (by omega) hy a b d ma mb md t e a0 (by omega) b0 (by omega) d0 (by omega) A0 A1 B0 B1 D0 D1 t0 t1 e0 e1 (by omega) (by omega) (fr _ _ _ rfl ka) (fr _ _ _ rfl kb) (fr _ _ _ rfl kd) (fr _ _ _ rfl k0) (fr _ _ _ rfl k1) (fr _ _ _ rfl k2) l0 l1 l2 l3 (fun l1' h1 y0 f0 u1 u2 u3 v0 v1 v2 v3 => ?_)
  have fr1 := ly_fr_tr fr u2
  obtain ⟨y, hyv, yy0, yy1, -⟩ := T (a + 1) (b + 1) (d + 0) (by omega) (by omega) (by omega) (by omega) (by omega) (by omega) (by omega)
  rw [show 121 * (a + 1) + 11 * (b + 1) + (d + 0) = 121 * a + 11 * b + d + 132 by omega] at hyv
  obtain ⟨r, hrun, ⟨x, r1, hx⟩, r2, r3, rhy, rfr, rlen⟩ := cbr3 c1 (by omega) u1 f0 (a := a) (b := b) (d := d) (ma := ma) (mb := mb) (md := md) (y := y) a0 (by omega) b0 (by omega) d0 (by omega) A0 A1 B0 B1 D0 D1 yy0 (by omega) (fr1 _ _ _ rfl ka) (fr1 _ _ _ rfl kb) (fr1 _ _ _ rfl kd) (fr1 _ _ _ rfl k0) (fr1 _ _ _ rfl k1) (fr1 _ _ _ rfl k2) (fr1 _ _ _ rfl hyv) ⟨g0, g1⟩
  refine hp_call (mi := 248) (pc := 32) (tg := 250) (na := 2) (c := 69) (ci := 10) (st0 := [.int y0, .ref 85]) (st := []) (av := [.int y0]) hM (by decide +kernel) u1 rfl rfl rfl (by decide) hrun r2 r3 ?_
  rw [r1]
  rw [hL1 rfl hy0 u1 fr1, hL0 rfl hy0 u1 fr1] at hx
  obtain ⟨kk0, kk1⟩ := rcq3 (f := (ly_hv cst h0 18176)) k0 k1 k2 (show a < ma ∧ b < mb from ⟨g0, g1⟩)
  have fr2 := ly_fr_tr fr1 rfr
  have len2 := Nat.le_trans (Nat.le_trans len u3) rlen
  have up : ∀ {e' : Int}, ju_A (ly_hv cst h0 18176) (ly_hv cst h0 17920) (ly_hv cst h0 18432) a b d e' 1 → (e' = -1 ∨ x.toInt < e') → bt_Q (ly_hv cst h0 18176) (ly_hv cst h0 17920) (ly_hv cst h0 18432) ma mb md a b d 3 x.toInt 2 := fun A lt => Or.inr ⟨by omega, by omega, Or.inr (Or.inl ⟨rfl, ⟨kk0, y, hyv, hx⟩, ju_FA A lt⟩), ju_Ab1 A (by omega) (by omega) (fun y2 h2 => by rw [hyv] at h2; cases h2; omega)⟩
  rcases Q with ⟨q1, q2, q3⟩ | ⟨q1, q2, q3, q4⟩
  · have Q2 := up q3 (Or.inl rfl)
    rw [q1] at v1
    rw [q2] at v2
    exact bt1a c hM (by omega) rhy x.toInt x rfl (by omega) (by omega) v0 v1 v2 v3 (fun l' h2 w1 w2 w3 z0 z1 z2 z3 => btp2 c1 c hM hD A0 A1 B0 B1 D0 D1 a0 a1 b0 b1 d0 d1 hy0 ka kb kd k0 k1 k2 T h2 l' w1 (ly_fr_tr fr2 w2) (Nat.le_trans len2 w3) (Q := Q2) z0 z1 z2 z3)
  · have tt := bt_t q3
    by_cases lt : x.toInt < e
    · have Q2 := up q4 (Or.inr lt)
      exact bt1b c hM (by omega) rhy t e x.toInt x rfl tt.1 tt.2 e0 e1 (by omega) (by omega) (by omega) v0 v1 v2 v3 (fun l' h2 w1 w2 w3 z0 z1 z2 z3 => btp2 c1 c hM hD A0 A1 B0 B1 D0 D1 a0 a1 b0 b1 d0 d1 hy0 ka kb kd k0 k1 k2 T h2 l' w1 (ly_fr_tr fr2 w2) (Nat.le_trans len2 w3) (Q := Q2) z0 z1 z2 z3)
    · have Q2 : bt_Q (ly_hv cst h0 18176) (ly_hv cst h0 17920) (ly_hv cst h0 18432) ma mb md a b d t e 2 := Or.inr ⟨q1, q2, q3, ju_Ab1 q4 (Or.inr (Int.le_refl _)) (by omega) (fun y2 h2 => by rw [hyv] at h2; cases h2; omega)⟩
      exact bt1c c hM (by omega) rhy t e x.toInt x rfl tt.1 tt.2 e0 e1 (by omega) (by omega) (by omega) v0 v1 v2 v3 (fun l' h2 w1 w2 w3 z0 z1 z2 z3 => btp2 c1 c hM hD A0 A1 B0 B1 D0 D1 a0 a1 b0 b1 d0 d1 hy0 ka kb kd k0 k1 k2 T h2 l' w1 (ly_fr_tr fr2 w2) (Nat.le_trans len2 w3) (Q := Q2) z0 z1 z2 z3)
theorem btp0 (c1 : hp_C cst strs D) (c : hp_C cst strs (D + 1)) (hM : m_P[248]? = some M) (hD : (5 : Int) ≤ (D : Int) + 1) (A0 : 0 ≤ ma) (A1 : ma ≤ 10) (B0 : 0 ≤ mb) (B1 : mb ≤ 10) (D0 : 0 ≤ md) (D1 : md ≤ 10) (a0 : 0 ≤ a) (a1 : a ≤ ma) (b0 : 0 ≤ b) (b1 : b ≤ mb) (d0 : 0 ≤ d) (d1 : d ≤ md) (hy0 : ly_hy m_tt ly_TH h0) (ka : ly_hv cst h0 18688 0 = some a) (kb : ly_hv cst h0 18688 1 = some b) (kd : ly_hv cst h0 18688 2 = some d) (k0 : ly_hv cst h0 17920 0 = some ma) (k1 : ly_hv cst h0 17920 1 = some mb) (k2 : ly_hv cst h0 17920 2 = some md) (T : ju_T (ly_hv cst h0 18176) (ly_hv cst h0 17920) (ly_hv cst h0 18432) ma mb md (121 * a + 11 * b + d)) (h : am_H) (l : am_L) (hy : ly_hy m_tt ly_TH h) (fr : ly_fr cst [] h0 h) (len : h0.length ≤ h.length) {t e : Int} (Q : bt_Q (ly_hv cst h0 18176) (ly_hv cst h0 17920) (ly_hv cst h0 18432) ma mb md a b d t e 0) (l0 : hp_a l 0 85) (l1 : hp_i l 1 t) (l2 : hp_i l 2 e) (l3 : hp_i l 3 0) : hp_F cst strs (bt_Φ cst h0 ma mb md a b d) (D + 1) M 6 l [] h := by
  obtain ⟨t0, t1, e0, e1⟩ := bt_b a0 b0 d0 A1 B1 D1 Q
  have no : rc (ly_hv cst h0 18176) (ly_hv cst h0 17920) 7 a b d = -1 → bt_Q (ly_hv cst h0 18176) (ly_hv cst h0 17920) (ly_hv cst h0 18432) ma mb md a b d t e 1 := fun hk => by
    rcases Q with ⟨q1, q2, q3⟩ | ⟨q1, q2, q3, q4⟩
    · exact Or.inl ⟨q1, q2, ju_An0 q3 hk⟩
    · exact Or.inr ⟨q1, q2, q3, ju_An0 q4 hk⟩
  by_cases g0 : a < ma
  case neg =>
    have Q2 := no (by
      rcases rcb7 (f := (ly_hv cst h0 18176)) (a := a) (b := b) (d := d) k0 k1 k2 with hk | ⟨-, -, ⟨p0, p1, p2⟩⟩
      · exact hk
      · omega)
    exact bt0n0 c hM (by omega) hy a b d ma mb md t e a0 (by omega) b0 (by omega) d0 (by omega) A0 A1 B0 B1 D0 D1 t0 t1 e0 e1 (by omega) (fr _ _ _ rfl ka) (fr _ _ _ rfl kb) (fr _ _ _ rfl kd) (fr _ _ _ rfl k0) (fr _ _ _ rfl k1) (fr _ _ _ rfl k2) l0 l1 l2 l3 (fun l' h2 u1 u2 u3 v0 v1 v2 v3 => btp1 c1 c hM hD A0 A1 B0 B1 D0 D1 a0 a1 b0 b1 d0 d1 hy0 ka kb kd k0 k1 k2 T h2 l' u1 (ly_fr_tr fr u2) (Nat.le_trans len u3) (Q := Q2) v0 v1 v2 v3)
  by_cases g1 : b < mb
  case neg =>
    have Q2 := no (by
      rcases rcb7 (f := (ly_hv cst h0 18176)) (a := a) (b := b) (d := d) k0 k1 k2 with hk | ⟨-, -, ⟨p0, p1, p2⟩⟩
      · exact hk
      · omega)
    exact bt0n1 c hM (by omega) hy a b d ma mb md t e a0 (by omega) b0 (by omega) d0 (by omega) A0 A1 B0 B1 D0 D1 t0 t1 e0 e1 (by omega) (by omega) (fr _ _ _ rfl ka) (fr _ _ _ rfl kb) (fr _ _ _ rfl kd) (fr _ _ _ rfl k0) (fr _ _ _ rfl k1) (fr _ _ _ rfl k2) l0 l1 l2 l3 (fun l' h2 u1 u2 u3 v0 v1 v2 v3 => btp1 c1 c hM hD A0 A1 B0 B1 D0 D1 a0 a1 b0 b1 d0 d1 hy0 ka kb kd k0 k1 k2 T h2 l' u1 (ly_fr_tr fr u2) (Nat.le_trans len u3) (Q := Q2) v0 v1 v2 v3)
  by_cases g2 : d < md
  case neg =>
    have Q2 := no (by
      rcases rcb7 (f := (ly_hv cst h0 18176)) (a := a) (b := b) (d := d) k0 k1 k2 with hk | ⟨-, -, ⟨p0, p1, p2⟩⟩
      · exact hk
      · omega)
    exact bt0n2 c hM (by omega) hy a b d ma mb md t e a0 (by omega) b0 (by omega) d0 (by omega) A0 A1 B0 B1 D0 D1 t0 t1 e0 e1 (by omega) (by omega) (by omega) (fr _ _ _ rfl ka) (fr _ _ _ rfl kb) (fr _ _ _ rfl kd) (fr _ _ _ rfl k0) (fr _ _ _ rfl k1) (fr _ _ _ rfl k2) l0 l1 l2 l3 (fun l' h2 u1 u2 u3 v0 v1 v2 v3 => btp1 c1 c hM hD A0 A1 B0 B1 D0 D1 a0 a1 b0 b1 d0 d1 hy0 ka kb kd k0 k1 k2 T h2 l' u1 (ly_fr_tr fr u2) (Nat.le_trans len u3) (Q := Q2) v0 v1 v2 v3)
  refine bt0v c hM (by omega) hy a b d ma mb md t e a0 (by omega) b0 (by omega) d0 (by omega) A0 A1 B0 B1 D0 D1 t0 t1 e0 e1 (by omega) (by omega) (by omega) (fr _ _ _ rfl ka) (fr _ _ _ rfl kb) (fr _ _ _ rfl kd) (fr _ _ _ rfl k0) (fr _ _ _ rfl k1) (fr _ _ _ rfl k2) l0 l1 l2 l3 (fun l1' h1 y0 f0 u1 u2 u3 v0 v1 v2 v3 => ?_)
  have fr1 := ly_fr_tr fr u2
  obtain ⟨y, hyv, yy0, yy1, -⟩ := T (a + 1) (b + 1) (d + 1) (by omega) (by omega) (by omega) (by omega) (by omega) (by omega) (by omega)
  rw [show 121 * (a + 1) + 11 * (b + 1) + (d + 1) = 121 * a + 11 * b + d + 133 by omega] at hyv
  obtain ⟨r, hrun, ⟨x, r1, hx⟩, r2, r3, rhy, rfr, rlen⟩ := cbr7 c1 (by omega) u1 f0 (a := a) (b := b) (d := d) (ma := ma) (mb := mb) (md := md) (y := y) a0 (by omega) b0 (by omega) d0 (by omega) A0 A1 B0 B1 D0 D1 yy0 (by omega) (fr1 _ _ _ rfl ka) (fr1 _ _ _ rfl kb) (fr1 _ _ _ rfl kd) (fr1 _ _ _ rfl k0) (fr1 _ _ _ rfl k1) (fr1 _ _ _ rfl k2) (fr1 _ _ _ rfl hyv) ⟨g0, g1, g2⟩
  refine hp_call (mi := 248) (pc := 32) (tg := 250) (na := 2) (c := 69) (ci := 10) (st0 := [.int y0, .ref 85]) (st := []) (av := [.int y0]) hM (by decide +kernel) u1 rfl rfl rfl (by decide) hrun r2 r3 ?_
  rw [r1]
  rw [hL1 rfl hy0 u1 fr1, hL0 rfl hy0 u1 fr1] at hx
  obtain ⟨kk0, kk1⟩ := rcq7 (f := (ly_hv cst h0 18176)) k0 k1 k2 (show a < ma ∧ b < mb ∧ d < md from ⟨g0, g1, g2⟩)
  have fr2 := ly_fr_tr fr1 rfr
  have len2 := Nat.le_trans (Nat.le_trans len u3) rlen
  have up : ∀ {e' : Int}, ju_A (ly_hv cst h0 18176) (ly_hv cst h0 17920) (ly_hv cst h0 18432) a b d e' 0 → (e' = -1 ∨ x.toInt < e') → bt_Q (ly_hv cst h0 18176) (ly_hv cst h0 17920) (ly_hv cst h0 18432) ma mb md a b d 7 x.toInt 1 := fun A lt => Or.inr ⟨by omega, by omega, Or.inl ⟨rfl, ⟨kk0, y, hyv, hx⟩, ju_FA A lt⟩, ju_Ab0 A (by omega) (by omega) (fun y2 h2 => by rw [hyv] at h2; cases h2; omega)⟩
  rcases Q with ⟨q1, q2, q3⟩ | ⟨q1, q2, q3, q4⟩
  · have Q2 := up q3 (Or.inl rfl)
    rw [q1] at v1
    rw [q2] at v2
    exact bt0a c hM (by omega) rhy x.toInt x rfl (by omega) (by omega) v0 v1 v2 v3 (fun l' h2 w1 w2 w3 z0 z1 z2 z3 => btp1 c1 c hM hD A0 A1 B0 B1 D0 D1 a0 a1 b0 b1 d0 d1 hy0 ka kb kd k0 k1 k2 T h2 l' w1 (ly_fr_tr fr2 w2) (Nat.le_trans len2 w3) (Q := Q2) z0 z1 z2 z3)
  · have tt := bt_t q3
    by_cases lt : x.toInt < e
    · have Q2 := up q4 (Or.inr lt)
      exact bt0b c hM (by omega) rhy t e x.toInt x rfl tt.1 tt.2 e0 e1 (by omega) (by omega) (by omega) v0 v1 v2 v3 (fun l' h2 w1 w2 w3 z0 z1 z2 z3 => btp1 c1 c hM hD A0 A1 B0 B1 D0 D1 a0 a1 b0 b1 d0 d1 hy0 ka kb kd k0 k1 k2 T h2 l' w1 (ly_fr_tr fr2 w2) (Nat.le_trans len2 w3) (Q := Q2) z0 z1 z2 z3)
    · have Q2 : bt_Q (ly_hv cst h0 18176) (ly_hv cst h0 17920) (ly_hv cst h0 18432) ma mb md a b d t e 1 := Or.inr ⟨q1, q2, q3, ju_Ab0 q4 (Or.inr (Int.le_refl _)) (by omega) (fun y2 h2 => by rw [hyv] at h2; cases h2; omega)⟩
      exact bt0c c hM (by omega) rhy t e x.toInt x rfl tt.1 tt.2 e0 e1 (by omega) (by omega) (by omega) v0 v1 v2 v3 (fun l' h2 w1 w2 w3 z0 z1 z2 z3 => btp1 c1 c hM hD A0 A1 B0 B1 D0 D1 a0 a1 b0 b1 d0 d1 hy0 ka kb kd k0 k1 k2 T h2 l' w1 (ly_fr_tr fr2 w2) (Nat.le_trans len2 w3) (Q := Q2) z0 z1 z2 z3)
end BT
theorem bt_run {cst : am_K} {strs : List Nat} {D : Nat} {h0 : am_H} {ma mb md a b d : Int} (c1 : hp_C cst strs D) (c : hp_C cst strs (D + 1)) (hD : (5 : Int) ≤ (D : Int) + 1) (A0 : 0 ≤ ma) (A1 : ma ≤ 10) (B0 : 0 ≤ mb) (B1 : mb ≤ 10) (D0 : 0 ≤ md) (D1 : md ≤ 10) (a0 : 0 ≤ a) (a1 : a ≤ ma) (b0 : 0 ≤ b) (b1 : b ≤ mb) (d0 : 0 ≤ d) (d1 : d ≤ md) (hy0 : ly_hy m_tt ly_TH h0) (ka : ly_hv cst h0 18688 0 = some a) (kb : ly_hv cst h0 18688 1 = some b) (kd : ly_hv cst h0 18688 2 = some d) (k0 : ly_hv cst h0 17920 0 = some ma) (k1 : ly_hv cst h0 17920 1 = some mb) (k2 : ly_hv cst h0 17920 2 = some md) (T : ju_T (ly_hv cst h0 18176) (ly_hv cst h0 17920) (ly_hv cst h0 18432) ma mb md (121 * a + 11 * b + d)) :
    ∃ r, am_Run cst m_cl m_tt m_P strs sx_bi (D + 1 + 1) 248 [.ref 85] h0 r ∧ (bt_Φ cst h0 ma mb md a b d) r := by
  obtain ⟨M, hM, hl⟩ := hp_M (mi := 248) (k := 1) (by decide +kernel)
  obtain ⟨n, r, hgo, hx, h1, h2, h3⟩ := bt_0 (Φ := (bt_Φ cst h0 ma mb md a b d)) (l := lv_args 0 [.ref 85]) c hM (by omega) hy0 rfl (fun l' h' u1 u2 u3 v0 v1 v2 v3 => btp0 c1 c hM hD A0 A1 B0 B1 D0 D1 a0 a1 b0 b1 d0 d1 hy0 ka kb kd k0 k1 k2 T h' l' u1 u2 u3 (t := 0) (e := 0) (Or.inl ⟨rfl, rfl, fun q => absurd q (by decide), fun q => absurd q (by decide), fun q => absurd q (by decide), fun q => absurd q (by decide), fun q => absurd q (by decide), fun q => absurd q (by decide), fun q => absurd q (by decide)⟩) v0 v1 v2 v3)
  simp only [Nat.zero_add] at h1 h2
  exact ⟨r, Or.inr ⟨M, n, hM, hl, hgo⟩, hx, h1, h2, h3⟩
abbrev la_mods : List Nat := [17669, 18432, 18688, 18944]
def la_I (cst : am_K) (h0 : am_H) (ma mb md : Int) (h : am_H) (z : Int) : Prop := ly_hy m_tt ly_TH h ∧ ly_fr cst la_mods h0 h ∧ h0.length ≤ h.length ∧ ly_hv cst h 17920 0 = some ma ∧ ly_hv cst h 17920 1 = some mb ∧ ly_hv cst h 17920 2 = some md ∧ ju_T (ly_hv cst h 18176) (ly_hv cst h 17920) (ly_hv cst h 18432) ma mb md z
def la_Φ (cst : am_K) (h0 : am_H) (ma mb md : Int) (r : am_Q) : Prop := (∃ x : Int32, r.1 = some (.int x) ∧ ∃ j, ju_T (ly_hv cst h0 18176) (ly_hv cst h0 17920) j ma mb md (-1) ∧ j 0 = some x.toInt) ∧ r.2.2.1 = 0 ∧ r.2.2.2 = 0 ∧ ly_hy m_tt ly_TH r.2.1 ∧ ly_fr cst la_mods h0 r.2.1 ∧ h0.length ≤ r.2.1.length
section LA
variable {cst : am_K} {strs : List Nat} {D : Nat} {M : am_M} {h0 : am_H} {ma mb md : Int} {Φ : am_Q → Prop}
theorem la_eqs {h h' : am_H} {ms : List Nat} (hm1 : ly_has 18176 ms = false) (hm2 : ly_has 17920 ms = false) (hm3 : ly_has 18432 ms = false) (hy : ly_hy m_tt ly_TH h) (hy' : ly_hy m_tt ly_TH h') (fr : ly_fr cst ms h h') : ly_hv cst h' 18176 = ly_hv cst h 18176 ∧ ly_hv cst h' 17920 = ly_hv cst h 17920 ∧ ly_hv cst h' 18432 = ly_hv cst h 18432 := ⟨hp_same th_L1 hm1 hy hy' fr, hp_same th_L0 hm2 hy hy' fr, hp_same th_L2 hm3 hy hy' fr⟩
theorem la_I_arc {h h' : am_H} {z : Int} {ms : List Nat} (hm1 : ly_has 18176 ms = false) (hm2 : ly_has 17920 ms = false) (hm3 : ly_has 18432 ms = false) (hms : ∀ r, ly_has r la_mods = false → ly_has r ms = false) (I : la_I cst h0 ma mb md h z) (hy' : ly_hy m_tt ly_TH h') (fr : ly_fr cst ms h h') (len : h.length ≤ h'.length) : la_I cst h0 ma mb md h' z := by
  obtain ⟨a, b, c, d, e, f, g⟩ := I
  obtain ⟨e1, e2, e3⟩ := la_eqs hm1 hm2 hm3 a hy' fr
  refine ⟨hy', ly_fr_tr b (fun r i v hr e => fr r i v (hms r hr) e), Nat.le_trans c len, by rw [e2]; exact d, by rw [e2]; exact e, by rw [e2]; exact f, ?_⟩
  rw [e1, e2, e3]
  exact g
theorem la_I_0 {h h' : am_H} {z : Int} (I : la_I cst h0 ma mb md h z) (hy' : ly_hy m_tt ly_TH h') (fr : ly_fr cst [] h h') (len : h.length ≤ h'.length) : la_I cst h0 ma mb md h' z := la_I_arc rfl rfl rfl (fun _ _ => rfl) I hy' fr len
theorem la_sub {ms : List Nat} (h : ms.all (fun q => ly_has q la_mods) = true) : ∀ r, ly_has r la_mods = false → ly_has r ms = false := by
  intro r hr
  cases hh : ly_has r ms with
  | false => rfl
  | true =>
    unfold ly_has at hh
    obtain ⟨q, hq, hqe⟩ := List.any_eq_true.mp hh
    have := List.all_eq_true.mp h q hq
    rw [← sx_beqn.mp hqe, this] at hr
    cases hr
/-- the store of a cell -/
theorem laF (c0 : hp_C cst strs D) (c1 : hp_C cst strs (D + 1)) (c : hp_C cst strs (D + 1 + 1)) (hM : m_P[247]? = some M) (hD : (10 : Int) ≤ (D : Int) + 1) (A0 : 0 ≤ ma) (A1 : ma ≤ 10) (B0 : 0 ≤ mb) (B1 : mb ≤ 10) (D0 : 0 ≤ md) (D1 : md ≤ 10) {a b d : Int} (a0 : 0 ≤ a) (a1 : a ≤ ma) (b0 : 0 ≤ b) (b1 : b ≤ mb) (d0 : 0 ≤ d) (d1 : d ≤ md) (ih : ∀ (h : am_H) (l : am_L), la_I cst h0 ma mb md h (121 * a + 11 * b + (d - 1)) → hp_a l 0 85 → hp_i l 1 a → hp_i l 2 b → hp_i l 3 (d - 1) → hp_F cst strs Φ (D + 1 + 1) M 29 l [] h) (h : am_H) (l : am_L) (y0 y1 : Int32) (e : Int) (hy0 : y0.toInt = e) (hy1 : y1.toInt = 121 * a + 11 * b + d) (I : la_I cst h0 ma mb md h (121 * a + 11 * b + d)) (e0 : 0 ≤ e) (e1 : e ≤ 12 * ((ma - a) + (mb - b) + (md - d))) (ex : (a = ma ∧ b = mb ∧ d = md) ∨ jn_x (ly_hv cst h 18176) (ly_hv cst h 17920) (ly_hv cst h 18432) a b d e) (xe : (a = ma ∧ b = mb ∧ d = md) → e = 0) (A : ju_A (ly_hv cst h 18176) (ly_hv cst h 17920) (ly_hv cst h 18432) a b d e 7) (l0 : hp_a l 0 85) (l1 : hp_i l 1 a) (l2 : hp_i l 2 b) (l3 : hp_i l 3 d) : hp_F cst strs Φ (D + 1 + 1) M 85 l [.int y0, .int y1, .ref 88] h := by
  obtain ⟨hy, fr, len, k0, k1, k2, T⟩ := I
  refine hp_st (c := 72) hM (by decide +kernel) hy th_L2 rfl (by omega) (by omega) (by omega) (by omega) (fun h' q1 q2 q3 => ?_)
  rw [hy0, hy1] at q3
  have os : ∀ r, r ≠ 18432 → ly_hv cst h' r = ly_hv cst h r := fun r hr => funext fun k => q3.2 r k (Or.inl hr)
  have I' : la_I cst h0 ma mb md h' (121 * a + 11 * b + (d - 1)) := by
    refine ⟨q1, ly_fr_tr fr (hp_put_fr (by rfl) q3), by omega, by rw [os _ (by decide)]; exact k0, by rw [os _ (by decide)]; exact k1, by rw [os _ (by decide)]; exact k2, ?_⟩
    rw [os 18176 (by decide), os 17920 (by decide)]
    exact ju_T_put A1 B1 D1 a1 b1 d1 a0 b0 d0 T e0 e1 ex xe A q3.1 (fun k hk => q3.2 18432 k (Or.inr hk))
  exact la5 c hM (by omega) q1 a b d a0 (by omega) b0 (by omega) d0 (by omega) l0 l1 l2 l3 (fun l' h2 u1 u2 u3 v0 v1 v2 v3 => ih h2 l' (la_I_0 I' u1 u2 u3) v0 v1 v2 v3)
theorem laC (c0 : hp_C cst strs D) (c1 : hp_C cst strs (D + 1)) (c : hp_C cst strs (D + 1 + 1)) (hM : m_P[247]? = some M) (hD : (10 : Int) ≤ (D : Int) + 1) (A0 : 0 ≤ ma) (A1 : ma ≤ 10) (B0 : 0 ≤ mb) (B1 : mb ≤ 10) (D0 : 0 ≤ md) (D1 : md ≤ 10) {a b d : Int} (a0 : 0 ≤ a) (a1 : a ≤ ma) (b0 : 0 ≤ b) (b1 : b ≤ mb) (d0 : 0 ≤ d) (d1 : d ≤ md) (ih : ∀ (h : am_H) (l : am_L), la_I cst h0 ma mb md h (121 * a + 11 * b + (d - 1)) → hp_a l 0 85 → hp_i l 1 a → hp_i l 2 b → hp_i l 3 (d - 1) → hp_F cst strs Φ (D + 1 + 1) M 29 l [] h) (h : am_H) (l : am_L) (I : la_I cst h0 ma mb md h (121 * a + 11 * b + d)) (l0 : hp_a l 0 85) (l1 : hp_i l 1 a) (l2 : hp_i l 2 b) (l3 : hp_i l 3 d) : hp_F cst strs Φ (D + 1 + 1) M 29 l [] h := by
  refine la1 c hM (by omega) I.1 a b d a0 (by omega) b0 (by omega) d0 (by omega) l0 l1 l2 l3 (fun l1' h1 u1 u2 u3 ka kb kd v0 v1 v2 v3 => ?_)
  have I1 := la_I_arc rfl rfl rfl (la_sub rfl) I u1 u2 u3
  obtain ⟨-, -, -, k0, k1, k2, T⟩ := id I1
  obtain ⟨r, hrun, ⟨x, r1, e, Q⟩, r2, r3, rhy, rfr, rlen⟩ := bt_run c0 c1 (by omega) A0 A1 B0 B1 D0 D1 a0 a1 b0 b1 d0 d1 u1 ka kb kd k0 k1 k2 T
  refine hp_call (mi := 247) (pc := 55) (tg := 248) (na := 1) (c := 69) (ci := 10) (st0 := [.ref 85]) (st := []) (av := []) hM (by decide +kernel) u1 rfl rfl rfl (by decide) hrun r2 r3 ?_
  rw [r1]
  have I2 := la_I_0 I1 rhy rfr rlen
  obtain ⟨e1, e2, e3⟩ := la_eqs rfl rfl rfl u1 rhy rfr
  rcases Q with ⟨q1, -, q3⟩ | ⟨q1, q2, q3, q4⟩
  · have fin : a = ma ∧ b = mb ∧ d = md := by
      refine ⟨?_, ?_, ?_⟩
      · by_cases p : a < ma
        · exact absurd rfl (q3.2.2.2.2.1 (by decide) (rcp1 k0 k1 k2 p)).1
        · omega
      · by_cases p : b < mb
        · exact absurd rfl (q3.2.2.2.2.2.1 (by decide) (rcp2 k0 k1 k2 p)).1
        · omega
      · by_cases p : d < md
        · exact absurd rfl (q3.2.2.2.2.2.2 (by decide) (rcp4 k0 k1 k2 p)).1
        · omega
    refine la2 c hM (by omega) rhy a b d x q1 a0 (by omega) b0 (by omega) d0 (by omega) v0 v1 v2 v3 (fun l2' h2 y0 y1 f0 f1 w1 w2 w3 z0 z1 z2 z3 => ?_)
    obtain ⟨g1, g2, g3⟩ := la_eqs rfl rfl rfl rhy w1 w2
    exact laF c0 c1 c hM hD A0 A1 B0 B1 D0 D1 a0 a1 b0 b1 d0 d1 ih h2 l2' y0 y1 0 f0 f1 (la_I_0 I2 w1 w2 w3) (Int.le_refl _) (by omega) (Or.inl fin) (fun _ => rfl) (by rw [g1, g2, g3, e1, e2, e3]; exact ju_AF q3 rfl) z0 z1 z2 z3
  · unfold bt_x at q3
    rcases q3 with w | w | w | w | w | w | w
    · obtain ⟨et, w, -⟩ := w
      have X : jn_x (ly_hv cst h1 18176) (ly_hv cst h1 17920) (ly_hv cst h1 18432) a b d e := Or.inl w
      obtain ⟨w0, y, wy, we⟩ := w
      rcases rcb7 (f := ly_hv cst h1 18176) (a := a) (b := b) (d := d) k0 k1 k2 with hk | ⟨-, kk1, ⟨p0, p1, p2⟩⟩
      · rw [hk] at w0
        exact absurd w0 (by decide)
      obtain ⟨y', hyv, yy0, yy1, -⟩ := T (a + 1) (b + 1) (d + 1) (by omega) (by omega) (by omega) (by omega) (by omega) (by omega) (by omega)
      rw [show 121 * (a + 1) + 11 * (b + 1) + (d + 1) = 121 * a + 11 * b + d + 133 by omega, wy] at hyv
      cases hyv
      refine la3_7 c hM (by omega) rhy a b d x et a0 (by omega) b0 (by omega) d0 (by omega) v0 v1 v2 v3 (fun l2' h2 y0 y1 f0 f1 w1 w2 w3 z0 z1 z2 z3 => ?_)
      have fr2 : ly_fr cst [] h1 h2 := ly_fr_tr rfr w2
      obtain ⟨r', hrun', ⟨x', s1, hx⟩, s2, s3, shy, sfr, slen⟩ := cbr7 c1 (by omega) w1 f0 (a := a) (b := b) (d := d) (ma := ma) (mb := mb) (md := md) (y := y) a0 (by omega) b0 (by omega) d0 (by omega) A0 A1 B0 B1 D0 D1 yy0 (by omega) (fr2 _ _ _ rfl ka) (fr2 _ _ _ rfl kb) (fr2 _ _ _ rfl kd) (fr2 _ _ _ rfl k0) (fr2 _ _ _ rfl k1) (fr2 _ _ _ rfl k2) (fr2 _ _ _ rfl wy) ⟨p0, p1, p2⟩
      refine hp_call (mi := 247) (pc := 82) (tg := 250) (na := 2) (c := 69) (ci := 10) (st0 := [.int y0, .ref 85]) (st := [.int y1, .ref 88]) (av := [.int y0]) hM (by decide +kernel) w1 rfl rfl rfl (Nat.le_of_ble_eq_true rfl) hrun' s2 s3 ?_
      rw [s1]
      have fr3 : ly_fr cst [] h1 r'.2.1 := ly_fr_tr fr2 sfr
      obtain ⟨g1, g2, g3⟩ := la_eqs rfl rfl rfl u1 shy fr3
      rw [hL1 rfl u1 w1 fr2, hL0 rfl u1 w1 fr2] at hx
      exact laF c0 c1 c hM hD A0 A1 B0 B1 D0 D1 a0 a1 b0 b1 d0 d1 ih r'.2.1 l2' x' y1 e (by omega) f1 (la_I_0 (la_I_0 I2 w1 w2 w3) shy sfr slen) q1 q2 (Or.inr (by rw [g1, g2, g3]; exact X)) (fun z => by omega) (by rw [g1, g2, g3]; exact q4) z0 z1 z2 z3
    · obtain ⟨et, w, -⟩ := w
      have X : jn_x (ly_hv cst h1 18176) (ly_hv cst h1 17920) (ly_hv cst h1 18432) a b d e := Or.inr (Or.inl w)
      obtain ⟨w0, y, wy, we⟩ := w
      rcases rcb3 (f := ly_hv cst h1 18176) (a := a) (b := b) (d := d) k0 k1 k2 with hk | ⟨-, kk1, ⟨p0, p1⟩⟩
      · rw [hk] at w0
        exact absurd w0 (by decide)
      obtain ⟨y', hyv, yy0, yy1, -⟩ := T (a + 1) (b + 1) (d + 0) (by omega) (by omega) (by omega) (by omega) (by omega) (by omega) (by omega)
      rw [show 121 * (a + 1) + 11 * (b + 1) + (d + 0) = 121 * a + 11 * b + d + 132 by omega, wy] at hyv
      cases hyv
      refine la3_3 c hM (by omega) rhy a b d x et a0 (by omega) b0 (by omega) d0 (by omega) v0 v1 v2 v3 (fun l2' h2 y0 y1 f0 f1 w1 w2 w3 z0 z1 z2 z3 => ?_)
      have fr2 : ly_fr cst [] h1 h2 := ly_fr_tr rfr w2
      obtain ⟨r', hrun', ⟨x', s1, hx⟩, s2, s3, shy, sfr, slen⟩ := cbr3 c1 (by omega) w1 f0 (a := a) (b := b) (d := d) (ma := ma) (mb := mb) (md := md) (y := y) a0 (by omega) b0 (by omega) d0 (by omega) A0 A1 B0 B1 D0 D1 yy0 (by omega) (fr2 _ _ _ rfl ka) (fr2 _ _ _ rfl kb) (fr2 _ _ _ rfl kd) (fr2 _ _ _ rfl k0) (fr2 _ _ _ rfl k1) (fr2 _ _ _ rfl k2) (fr2 _ _ _ rfl wy) ⟨p0, p1⟩
      refine hp_call (mi := 247) (pc := 82) (tg := 250) (na := 2) (c := 69) (ci := 10) (st0 := [.int y0, .ref 85]) (st := [.int y1, .ref 88]) (av := [.int y0]) hM (by decide +kernel) w1 rfl rfl rfl (Nat.le_of_ble_eq_true rfl) hrun' s2 s3 ?_
      rw [s1]
      have fr3 : ly_fr cst [] h1 r'.2.1 := ly_fr_tr fr2 sfr
      obtain ⟨g1, g2, g3⟩ := la_eqs rfl rfl rfl u1 shy fr3
      rw [hL1 rfl u1 w1 fr2, hL0 rfl u1 w1 fr2] at hx
      exact laF c0 c1 c hM hD A0 A1 B0 B1 D0 D1 a0 a1 b0 b1 d0 d1 ih r'.2.1 l2' x' y1 e (by omega) f1 (la_I_0 (la_I_0 I2 w1 w2 w3) shy sfr slen) q1 q2 (Or.inr (by rw [g1, g2, g3]; exact X)) (fun z => by omega) (by rw [g1, g2, g3]; exact q4) z0 z1 z2 z3
    · obtain ⟨et, w, -⟩ := w
      have X : jn_x (ly_hv cst h1 18176) (ly_hv cst h1 17920) (ly_hv cst h1 18432) a b d e := Or.inr (Or.inr (Or.inl w))
      obtain ⟨w0, y, wy, we⟩ := w
      rcases rcb5 (f := ly_hv cst h1 18176) (a := a) (b := b) (d := d) k0 k1 k2 with hk | ⟨-, kk1, ⟨p0, p1⟩⟩
      · rw [hk] at w0
        exact absurd w0 (by decide)
      obtain ⟨y', hyv, yy0, yy1, -⟩ := T (a + 1) (b + 0) (d + 1) (by omega) (by omega) (by omega) (by omega) (by omega) (by omega) (by omega)
      rw [show 121 * (a + 1) + 11 * (b + 0) + (d + 1) = 121 * a + 11 * b + d + 122 by omega, wy] at hyv
      cases hyv
      refine la3_5 c hM (by omega) rhy a b d x et a0 (by omega) b0 (by omega) d0 (by omega) v0 v1 v2 v3 (fun l2' h2 y0 y1 f0 f1 w1 w2 w3 z0 z1 z2 z3 => ?_)
      have fr2 : ly_fr cst [] h1 h2 := ly_fr_tr rfr w2
      obtain ⟨r', hrun', ⟨x', s1, hx⟩, s2, s3, shy, sfr, slen⟩ := cbr5 c1 (by omega) w1 f0 (a := a) (b := b) (d := d) (ma := ma) (mb := mb) (md := md) (y := y) a0 (by omega) b0 (by omega) d0 (by omega) A0 A1 B0 B1 D0 D1 yy0 (by omega) (fr2 _ _ _ rfl ka) (fr2 _ _ _ rfl kb) (fr2 _ _ _ rfl kd) (fr2 _ _ _ rfl k0) (fr2 _ _ _ rfl k1) (fr2 _ _ _ rfl k2) (fr2 _ _ _ rfl wy) ⟨p0, p1⟩
      refine hp_call (mi := 247) (pc := 82) (tg := 250) (na := 2) (c := 69) (ci := 10) (st0 := [.int y0, .ref 85]) (st := [.int y1, .ref 88]) (av := [.int y0]) hM (by decide +kernel) w1 rfl rfl rfl (Nat.le_of_ble_eq_true rfl) hrun' s2 s3 ?_
      rw [s1]
      have fr3 : ly_fr cst [] h1 r'.2.1 := ly_fr_tr fr2 sfr
      obtain ⟨g1, g2, g3⟩ := la_eqs rfl rfl rfl u1 shy fr3
      rw [hL1 rfl u1 w1 fr2, hL0 rfl u1 w1 fr2] at hx
      exact laF c0 c1 c hM hD A0 A1 B0 B1 D0 D1 a0 a1 b0 b1 d0 d1 ih r'.2.1 l2' x' y1 e (by omega) f1 (la_I_0 (la_I_0 I2 w1 w2 w3) shy sfr slen) q1 q2 (Or.inr (by rw [g1, g2, g3]; exact X)) (fun z => by omega) (by rw [g1, g2, g3]; exact q4) z0 z1 z2 z3
    · obtain ⟨et, w, -⟩ := w
      have X : jn_x (ly_hv cst h1 18176) (ly_hv cst h1 17920) (ly_hv cst h1 18432) a b d e := Or.inr (Or.inr (Or.inr (Or.inl w)))
      obtain ⟨w0, y, wy, we⟩ := w
      rcases rcb6 (f := ly_hv cst h1 18176) (a := a) (b := b) (d := d) k0 k1 k2 with hk | ⟨-, kk1, ⟨p0, p1⟩⟩
      · rw [hk] at w0
        exact absurd w0 (by decide)
      obtain ⟨y', hyv, yy0, yy1, -⟩ := T (a + 0) (b + 1) (d + 1) (by omega) (by omega) (by omega) (by omega) (by omega) (by omega) (by omega)
      rw [show 121 * (a + 0) + 11 * (b + 1) + (d + 1) = 121 * a + 11 * b + d + 12 by omega, wy] at hyv
      cases hyv
      refine la3_6 c hM (by omega) rhy a b d x et a0 (by omega) b0 (by omega) d0 (by omega) v0 v1 v2 v3 (fun l2' h2 y0 y1 f0 f1 w1 w2 w3 z0 z1 z2 z3 => ?_)
      have fr2 : ly_fr cst [] h1 h2 := ly_fr_tr rfr w2
      obtain ⟨r', hrun', ⟨x', s1, hx⟩, s2, s3, shy, sfr, slen⟩ := cbr6 c1 (by omega) w1 f0 (a := a) (b := b) (d := d) (ma := ma) (mb := mb) (md := md) (y := y) a0 (by omega) b0 (by omega) d0 (by omega) A0 A1 B0 B1 D0 D1 yy0 (by omega) (fr2 _ _ _ rfl ka) (fr2 _ _ _ rfl kb) (fr2 _ _ _ rfl kd) (fr2 _ _ _ rfl k0) (fr2 _ _ _ rfl k1) (fr2 _ _ _ rfl k2) (fr2 _ _ _ rfl wy) ⟨p0, p1⟩
      refine hp_call (mi := 247) (pc := 82) (tg := 250) (na := 2) (c := 69) (ci := 10) (st0 := [.int y0, .ref 85]) (st := [.int y1, .ref 88]) (av := [.int y0]) hM (by decide +kernel) w1 rfl rfl rfl (Nat.le_of_ble_eq_true rfl) hrun' s2 s3 ?_
      rw [s1]
      have fr3 : ly_fr cst [] h1 r'.2.1 := ly_fr_tr fr2 sfr
      obtain ⟨g1, g2, g3⟩ := la_eqs rfl rfl rfl u1 shy fr3
      rw [hL1 rfl u1 w1 fr2, hL0 rfl u1 w1 fr2] at hx
      exact laF c0 c1 c hM hD A0 A1 B0 B1 D0 D1 a0 a1 b0 b1 d0 d1 ih r'.2.1 l2' x' y1 e (by omega) f1 (la_I_0 (la_I_0 I2 w1 w2 w3) shy sfr slen) q1 q2 (Or.inr (by rw [g1, g2, g3]; exact X)) (fun z => by omega) (by rw [g1, g2, g3]; exact q4) z0 z1 z2 z3
    · obtain ⟨et, w, -⟩ := w
      have X : jn_x (ly_hv cst h1 18176) (ly_hv cst h1 17920) (ly_hv cst h1 18432) a b d e := Or.inr (Or.inr (Or.inr (Or.inr (Or.inl w))))
      obtain ⟨w0, y, wy, we⟩ := w
      rcases rcb1 (f := ly_hv cst h1 18176) (a := a) (b := b) (d := d) k0 k1 k2 with hk | ⟨-, kk1, p0⟩
      · rw [hk] at w0
        exact absurd w0 (by decide)
      obtain ⟨y', hyv, yy0, yy1, -⟩ := T (a + 1) (b + 0) (d + 0) (by omega) (by omega) (by omega) (by omega) (by omega) (by omega) (by omega)
      rw [show 121 * (a + 1) + 11 * (b + 0) + (d + 0) = 121 * a + 11 * b + d + 121 by omega, wy] at hyv
      cases hyv
      refine la3_1 c hM (by omega) rhy a b d x et a0 (by omega) b0 (by omega) d0 (by omega) v0 v1 v2 v3 (fun l2' h2 y0 y1 f0 f1 w1 w2 w3 z0 z1 z2 z3 => ?_)
      have fr2 : ly_fr cst [] h1 h2 := ly_fr_tr rfr w2
      obtain ⟨r', hrun', ⟨x', s1, hx⟩, s2, s3, shy, sfr, slen⟩ := cbr1 c1 (by omega) w1 f0 (a := a) (b := b) (d := d) (ma := ma) (mb := mb) (md := md) (y := y) a0 (by omega) b0 (by omega) d0 (by omega) A0 A1 B0 B1 D0 D1 yy0 (by omega) (fr2 _ _ _ rfl ka) (fr2 _ _ _ rfl kb) (fr2 _ _ _ rfl kd) (fr2 _ _ _ rfl k0) (fr2 _ _ _ rfl k1) (fr2 _ _ _ rfl k2) (fr2 _ _ _ rfl wy) p0
      refine hp_call (mi := 247) (pc := 82) (tg := 250) (na := 2) (c := 69) (ci := 10) (st0 := [.int y0, .ref 85]) (st := [.int y1, .ref 88]) (av := [.int y0]) hM (by decide +kernel) w1 rfl rfl rfl (Nat.le_of_ble_eq_true rfl) hrun' s2 s3 ?_
      rw [s1]
      have fr3 : ly_fr cst [] h1 r'.2.1 := ly_fr_tr fr2 sfr
      obtain ⟨g1, g2, g3⟩ := la_eqs rfl rfl rfl u1 shy fr3
      rw [hL1 rfl u1 w1 fr2, hL0 rfl u1 w1 fr2] at hx
      exact laF c0 c1 c hM hD A0 A1 B0 B1 D0 D1 a0 a1 b0 b1 d0 d1 ih r'.2.1 l2' x' y1 e (by omega) f1 (la_I_0 (la_I_0 I2 w1 w2 w3) shy sfr slen) q1 q2 (Or.inr (by rw [g1, g2, g3]; exact X)) (fun z => by omega) (by rw [g1, g2, g3]; exact q4) z0 z1 z2 z3
    · obtain ⟨et, w, -⟩ := w
      have X : jn_x (ly_hv cst h1 18176) (ly_hv cst h1 17920) (ly_hv cst h1 18432) a b d e := Or.inr (Or.inr (Or.inr (Or.inr (Or.inr (Or.inl w)))))
      obtain ⟨w0, y, wy, we⟩ := w
      rcases rcb2 (f := ly_hv cst h1 18176) (a := a) (b := b) (d := d) k0 k1 k2 with hk | ⟨-, kk1, p0⟩
      · rw [hk] at w0
        exact absurd w0 (by decide)
      obtain ⟨y', hyv, yy0, yy1, -⟩ := T (a + 0) (b + 1) (d + 0) (by omega) (by omega) (by omega) (by omega) (by omega) (by omega) (by omega)
      rw [show 121 * (a + 0) + 11 * (b + 1) + (d + 0) = 121 * a + 11 * b + d + 11 by omega, wy] at hyv
      cases hyv
      refine la3_2 c hM (by omega) rhy a b d x et a0 (by omega) b0 (by omega) d0 (by omega) v0 v1 v2 v3 (fun l2' h2 y0 y1 f0 f1 w1 w2 w3 z0 z1 z2 z3 => ?_)
      have fr2 : ly_fr cst [] h1 h2 := ly_fr_tr rfr w2
      obtain ⟨r', hrun', ⟨x', s1, hx⟩, s2, s3, shy, sfr, slen⟩ := cbr2 c1 (by omega) w1 f0 (a := a) (b := b) (d := d) (ma := ma) (mb := mb) (md := md) (y := y) a0 (by omega) b0 (by omega) d0 (by omega) A0 A1 B0 B1 D0 D1 yy0 (by omega) (fr2 _ _ _ rfl ka) (fr2 _ _ _ rfl kb) (fr2 _ _ _ rfl kd) (fr2 _ _ _ rfl k0) (fr2 _ _ _ rfl k1) (fr2 _ _ _ rfl k2) (fr2 _ _ _ rfl wy) p0
      refine hp_call (mi := 247) (pc := 82) (tg := 250) (na := 2) (c := 69) (ci := 10) (st0 := [.int y0, .ref 85]) (st := [.int y1, .ref 88]) (av := [.int y0]) hM (by decide +kernel) w1 rfl rfl rfl (Nat.le_of_ble_eq_true rfl) hrun' s2 s3 ?_
      rw [s1]
      have fr3 : ly_fr cst [] h1 r'.2.1 := ly_fr_tr fr2 sfr
      obtain ⟨g1, g2, g3⟩ := la_eqs rfl rfl rfl u1 shy fr3
      rw [hL1 rfl u1 w1 fr2, hL0 rfl u1 w1 fr2] at hx
      exact laF c0 c1 c hM hD A0 A1 B0 B1 D0 D1 a0 a1 b0 b1 d0 d1 ih r'.2.1 l2' x' y1 e (by omega) f1 (la_I_0 (la_I_0 I2 w1 w2 w3) shy sfr slen) q1 q2 (Or.inr (by rw [g1, g2, g3]; exact X)) (fun z => by omega) (by rw [g1, g2, g3]; exact q4) z0 z1 z2 z3
    · obtain ⟨et, w, -⟩ := w
      have X : jn_x (ly_hv cst h1 18176) (ly_hv cst h1 17920) (ly_hv cst h1 18432) a b d e := Or.inr (Or.inr (Or.inr (Or.inr (Or.inr (Or.inr (w))))))
      obtain ⟨w0, y, wy, we⟩ := w
      rcases rcb4 (f := ly_hv cst h1 18176) (a := a) (b := b) (d := d) k0 k1 k2 with hk | ⟨-, kk1, p0⟩
      · rw [hk] at w0
        exact absurd w0 (by decide)
      obtain ⟨y', hyv, yy0, yy1, -⟩ := T (a + 0) (b + 0) (d + 1) (by omega) (by omega) (by omega) (by omega) (by omega) (by omega) (by omega)
      rw [show 121 * (a + 0) + 11 * (b + 0) + (d + 1) = 121 * a + 11 * b + d + 1 by omega, wy] at hyv
      cases hyv
      refine la3_4 c hM (by omega) rhy a b d x et a0 (by omega) b0 (by omega) d0 (by omega) v0 v1 v2 v3 (fun l2' h2 y0 y1 f0 f1 w1 w2 w3 z0 z1 z2 z3 => ?_)
      have fr2 : ly_fr cst [] h1 h2 := ly_fr_tr rfr w2
      obtain ⟨r', hrun', ⟨x', s1, hx⟩, s2, s3, shy, sfr, slen⟩ := cbr4 c1 (by omega) w1 f0 (a := a) (b := b) (d := d) (ma := ma) (mb := mb) (md := md) (y := y) a0 (by omega) b0 (by omega) d0 (by omega) A0 A1 B0 B1 D0 D1 yy0 (by omega) (fr2 _ _ _ rfl ka) (fr2 _ _ _ rfl kb) (fr2 _ _ _ rfl kd) (fr2 _ _ _ rfl k0) (fr2 _ _ _ rfl k1) (fr2 _ _ _ rfl k2) (fr2 _ _ _ rfl wy) p0
      refine hp_call (mi := 247) (pc := 82) (tg := 250) (na := 2) (c := 69) (ci := 10) (st0 := [.int y0, .ref 85]) (st := [.int y1, .ref 88]) (av := [.int y0]) hM (by decide +kernel) w1 rfl rfl rfl (Nat.le_of_ble_eq_true rfl) hrun' s2 s3 ?_
      rw [s1]
      have fr3 : ly_fr cst [] h1 r'.2.1 := ly_fr_tr fr2 sfr
      obtain ⟨g1, g2, g3⟩ := la_eqs rfl rfl rfl u1 shy fr3
      rw [hL1 rfl u1 w1 fr2, hL0 rfl u1 w1 fr2] at hx
      exact laF c0 c1 c hM hD A0 A1 B0 B1 D0 D1 a0 a1 b0 b1 d0 d1 ih r'.2.1 l2' x' y1 e (by omega) f1 (la_I_0 (la_I_0 I2 w1 w2 w3) shy sfr slen) q1 q2 (Or.inr (by rw [g1, g2, g3]; exact X)) (fun z => by omega) (by rw [g1, g2, g3]; exact q4) z0 z1 z2 z3
theorem la_one (c0 : hp_C cst strs D) (c1 : hp_C cst strs (D + 1)) (c : hp_C cst strs (D + 1 + 1)) (hM : m_P[247]? = some M) (hD : (10 : Int) ≤ (D : Int) + 1) (A0 : 0 ≤ ma) (A1 : ma ≤ 10) (B0 : 0 ≤ mb) (B1 : mb ≤ 10) (D0 : 0 ≤ md) (D1 : md ≤ 10) (fin : ∀ (h : am_H) (l : am_L), la_I cst h0 ma mb md h (-1) → hp_a l 0 85 → hp_i l 1 0 → hp_i l 2 0 → hp_i l 3 (-1) → hp_F cst strs Φ (D + 1 + 1) M 29 l [] h) : ∀ (N : Nat) (h : am_H) (l : am_L) (a b d : Int), (200 * a + 15 * b + (d + 1)).toNat < N → 0 ≤ a → a ≤ ma → 0 ≤ b → b ≤ mb → -1 ≤ d → d ≤ md → la_I cst h0 ma mb md h (121 * a + 11 * b + d) → hp_a l 0 85 → hp_i l 1 a → hp_i l 2 b → hp_i l 3 d → hp_F cst strs Φ (D + 1 + 1) M 29 l [] h := by
  intro N
  induction N with
  | zero => intro h l a b d hN; omega
  | succ N ih =>
    intro h l a b d hN a0 a1 b0 b1 d0 d1 I l0 l1 l2 l3
    obtain ⟨hy, fr, len, k0, k1, k2, T⟩ := id I
    by_cases hd : d = -1
    · subst hd
      by_cases hb : b = 0
      · subst hb
        by_cases ha : a = 0
        · subst ha
          exact fin h l I l0 l1 l2 l3
        · refine la7 c hM (by omega) hy a ma mb md (by omega) (by omega) A0 A1 B0 B1 D0 D1 k0 k1 k2 l0 l1 l2 l3 (fun l' h' u1 u2 u3 v0 v1 v2 v3 => ?_)
          refine ih h' l' (a - 1) mb md (by omega) (by omega) (by omega) B0 (by omega) (by omega) (by omega) ?_ v0 v1 v2 v3
          obtain ⟨p1, p2, p3, p4, p5, p6, p7⟩ := la_I_0 I u1 u2 u3
          exact ⟨p1, p2, p3, p4, p5, p6, fun a' b' d' q1 q2 q3 q4 q5 q6 q7 => p7 a' b' d' q1 q2 q3 q4 q5 q6 (by omega)⟩
      · refine la6 c hM (by omega) hy a b ma mb md a0 (by omega) (by omega) (by omega) A0 A1 B0 B1 D0 D1 k0 k1 k2 l0 l1 l2 l3 (fun l' h' u1 u2 u3 v0 v1 v2 v3 => ?_)
        refine ih h' l' a (b - 1) md (by omega) a0 a1 (by omega) (by omega) (by omega) (by omega) ?_ v0 v1 v2 v3
        obtain ⟨p1, p2, p3, p4, p5, p6, p7⟩ := la_I_0 I u1 u2 u3
        exact ⟨p1, p2, p3, p4, p5, p6, fun a' b' d' q1 q2 q3 q4 q5 q6 q7 => p7 a' b' d' q1 q2 q3 q4 q5 q6 (by omega)⟩
    · exact laC c0 c1 c hM hD A0 A1 B0 B1 D0 D1 a0 a1 b0 b1 (show 0 ≤ d by omega) d1 (fun h l I' => ih h l a b (d - 1) (by omega) a0 a1 b0 b1 (by omega) (by omega) I') h l I l0 l1 l2 l3
end LA
theorem la_run {cst : am_K} {strs : List Nat} {D : Nat} {h : am_H} (c0 : hp_C cst strs D) (c1 : hp_C cst strs (D + 1)) (c : hp_C cst strs (D + 1 + 1)) (hD : (10 : Int) ≤ (D : Int) + 1) (hy : ly_hy m_tt ly_TH h) {ma mb md : Int} (A0 : 0 ≤ ma) (A1 : ma ≤ 10) (B0 : 0 ≤ mb) (B1 : mb ≤ 10) (D0 : 0 ≤ md) (D1 : md ≤ 10) (k0 : ly_hv cst h 17920 0 = some ma) (k1 : ly_hv cst h 17920 1 = some mb) (k2 : ly_hv cst h 17920 2 = some md) : ∃ r, am_Run cst m_cl m_tt m_P strs sx_bi (D + 1 + 1 + 1) 247 [.ref 85] h r ∧ la_Φ cst h ma mb md r := by
  obtain ⟨M, hM, hsl⟩ := hp_M (mi := 247) (k := 1) (by decide +kernel)
  have fin : hp_F cst strs (la_Φ cst h ma mb md) (D + 1 + 1) M 0 (lv_args 0 [.ref 85]) [] h := by
    refine la0 (Φ := la_Φ cst h ma mb md) c hM (by omega) hy ma mb md A0 A1 B0 B1 D0 D1 k0 k1 k2 rfl (fun l' h' u1 u2 u3 v0 v1 v2 v3 => ?_)
    have I : la_I cst h ma mb md h' (121 * ma + 11 * mb + md) := la_I_0 (h := h) ⟨hy, ly_fr_rf h, Nat.le_refl _, k0, k1, k2, fun a' b' d' q1 q2 q3 q4 q5 q6 q7 => absurd q7 (by omega)⟩ u1 u2 u3
    exact la_one c0 c1 c hM hD A0 A1 B0 B1 D0 D1 (fun h2 l2 I2 l0 l1 l2 l3 => by
      obtain ⟨y, hyv, y0, y1⟩ := hp_row (cst := cst) (i := 0) I2.1 th_L2 (by omega) (by omega)
      exact la8 c hM (by omega) I2.1 y y0 y1 hyv l0 l1 l2 l3 (fun h' z hz u1 u2 u3 => ⟨⟨z, rfl, ly_hv cst h2 18432, by rw [← hL1 rfl hy I2.1 I2.2.1, ← hL0 rfl hy I2.1 I2.2.1]; exact I2.2.2.2.2.2.2, by rw [hz]; exact hyv⟩, rfl, rfl, u1, ly_fr_tr I2.2.1 (fun r i v hr e => u2 r i v (la_sub rfl r hr) e), Nat.le_trans I2.2.2.1 u3⟩)) ((200 * ma + 15 * mb + (md + 1)).toNat + 1) h' l' ma mb md (Nat.lt_succ_self _) A0 (by omega) B0 (by omega) (by omega) (by omega) I v0 v1 v2 v3
  obtain ⟨n, r, hgo, hx, r2, r3, r4⟩ := fin
  simp only [Nat.zero_add] at r2 r3
  exact ⟨r, Or.inr ⟨M, n, hM, hsl, hgo⟩, hx, r2, r3, r4⟩
/-- join of the class -/
theorem lj_run {cst : am_K} {strs : List Nat} {D : Nat} {h : am_H} (c0 : hp_C cst strs D) (c1 : hp_C cst strs (D + 1)) (c2 : hp_C cst strs (D + 1 + 1)) (c : hp_C cst strs (D + 1 + 1 + 1)) (hD : (10 : Int) ≤ (D : Int) + 1) (hy : ly_hy m_tt ly_TH h) : ∃ ma mb md, (ly_hv cst h 17920 0 = some ma ∧ ly_hv cst h 17920 1 = some mb ∧ ly_hv cst h 17920 2 = some md ∧ 0 ≤ ma ∧ 0 ≤ mb ∧ 0 ≤ md) ∧ ∃ r, am_Run cst m_cl m_tt m_P strs sx_bi (D + 1 + 1 + 1 + 1) 246 [.ref 16] h r ∧ la_Φ cst h ma mb md r := by
  obtain ⟨M, hM, hsl⟩ := hp_M (mi := 246) (k := 1) (by decide +kernel)
  obtain ⟨ma, k0, A0, A1⟩ := hp_row (cst := cst) (i := 0) hy th_L0 (by omega) (by omega)
  obtain ⟨mb, k1, B0, B1⟩ := hp_row (cst := cst) (i := 1) hy th_L0 (by omega) (by omega)
  obtain ⟨md, k2, D0, D1⟩ := hp_row (cst := cst) (i := 2) hy th_L0 (by omega) (by omega)
  have fin : hp_F cst strs (la_Φ cst h ma mb md) (D + 1 + 1 + 1) M 0 (lv_args 0 [.ref 16]) [] h := by
    refine lj0 (Φ := la_Φ cst h ma mb md) c hM (by omega) hy rfl (fun l' h' u1 u2 u3 => ?_)
    obtain ⟨r, hrun, ⟨x, r1, j, T, hj⟩, r2, r3, rhy, rfr, rlen⟩ := la_run c0 c1 c2 hD u1 A0 A1 B0 B1 D0 D1 (u2 _ _ _ rfl k0) (u2 _ _ _ rfl k1) (u2 _ _ _ rfl k2)
    refine hp_call (mi := 246) (pc := 4) (tg := 247) (na := 1) (c := 69) (ci := 10) (st0 := [.ref 85]) (st := []) (av := []) hM (by decide +kernel) u1 rfl rfl rfl (by decide) hrun r2 r3 ?_
    rw [r1]
    rw [hL1 rfl hy u1 u2, hL0 rfl hy u1 u2] at T
    exact lj1 c hM (by omega) rhy x.toInt x rfl x.le_toInt x.toInt_le (fun h2 z hz w1 w2 w3 => ⟨⟨z, rfl, j, T, by rw [hz]; exact hj⟩, rfl, rfl, w1, ly_fr_tr (fun r i v _ e => u2 r i v rfl e) (ly_fr_tr rfr (fun r i v _ e => w2 r i v rfl e)), Nat.le_trans u3 (Nat.le_trans rlen w3)⟩)
  obtain ⟨n, r, hgo, hx, r2, r3, r4⟩ := fin
  simp only [Nat.zero_add] at r2 r3
  exact ⟨ma, mb, md, ⟨k0, k1, k2, A0, B0, D0⟩, r, Or.inr ⟨M, n, hM, hsl, hgo⟩, hx, r2, r3, r4⟩
theorem ju_same {f g j j' : Int → Option Int} {ma mb md ma' mb' md' : Int} {x y : Int32} (K : g 0 = some ma ∧ g 1 = some mb ∧ g 2 = some md ∧ 0 ≤ ma ∧ 0 ≤ mb ∧ 0 ≤ md) (K' : g 0 = some ma' ∧ g 1 = some mb' ∧ g 2 = some md' ∧ 0 ≤ ma' ∧ 0 ≤ mb' ∧ 0 ≤ md') (T : ju_T f g j ma mb md (-1)) (T' : ju_T f g j' ma' mb' md' (-1)) (hx : j 0 = some x.toInt) (hy : j' 0 = some y.toInt) : y.toInt = x.toInt := by
  obtain ⟨k0, k1, k2, A0, B0, D0⟩ := K
  obtain ⟨p0, p1, p2, -, -, -⟩ := K'
  have e0 := Option.some.inj (k0.symm.trans p0)
  have e1 := Option.some.inj (k1.symm.trans p1)
  have e2 := Option.some.inj (k2.symm.trans p2)
  subst e0
  subst e1
  subst e2
  have u := ju_uni k0 k1 k2 T T' ((ma + mb + md - (0 + 0 + 0)).toNat + 1) 0 0 0 (Nat.lt_succ_self _) (Int.le_refl _) A0 (Int.le_refl _) B0 (Int.le_refl _) D0
  have u' : j 0 = j' 0 := u
  rw [hx, hy] at u'
  exact (Option.some.inj u').symm
def jk_A (g f : Int → Option Int) (x : Int) : Prop := ∃ ma mb md, (g 0 = some ma ∧ g 1 = some mb ∧ g 2 = some md ∧ 0 ≤ ma ∧ 0 ≤ mb ∧ 0 ≤ md) ∧ ∃ j, ju_T f g j ma mb md (-1) ∧ j 0 = some x
theorem lk_run {cst : am_K} {strs : List Nat} {D : Nat} {h : am_H} (c0 : hp_C cst strs D) (c1 : hp_C cst strs (D + 1)) (c2 : hp_C cst strs (D + 1 + 1)) (c : hp_C cst strs (D + 1 + 1 + 1)) (hD : (10 : Int) ≤ (D : Int) + 1) (hy : ly_hy m_tt ly_TH h) : ∃ r, am_Run cst m_cl m_tt m_P strs sx_bi (D + 1 + 1 + 1 + 1) 246 [.ref 16] h r ∧ ∃ a : Int32, r.1 = some (.int a) ∧ r.2.2.1 = 0 ∧ r.2.2.2 = 0 ∧ ly_hy m_tt ly_TH r.2.1 ∧ ly_fr cst [17669, 18432, 18688, 18944] h r.2.1 ∧ jk_A (ly_hv cst h 17920) (ly_hv cst h 18176) a.toInt := by
  obtain ⟨ma, mb, md, K, r, hrun, ⟨x, r1, j, T, hj⟩, r2, r3, rhy, rfr, -⟩ := lj_run c0 c1 c2 c hD hy
  exact ⟨r, hrun, x, r1, r2, r3, rhy, rfr, ma, mb, md, K, j, T, hj⟩
theorem jk_run {cst : am_K} {strs : List Nat} {D : Nat} {h : am_H} (c1 : hp_C cst strs D) (c : hp_C cst strs (D + 1)) (hD : (5 : Int) ≤ (D : Int) + 1) (hy : ly_hy m_tt ly_TH h) : ∃ r, am_Run cst m_cl m_tt m_P strs sx_bi (D + 1 + 1) 411 [.ref 94] h r ∧ ∃ a : Int32, r.1 = some (.int a) ∧ r.2.2.1 = 0 ∧ r.2.2.2 = 0 ∧ ly_hy m_tt ly_TH r.2.1 ∧ ly_fr cst [20103, 20104, 44544, 44800, 45056] h r.2.1 ∧ jk_A (ly_hv cst h 44288) (ly_hv cst h 44032) a.toInt := by
  obtain ⟨ma, mb, md, K, r, hrun, ⟨x, r1, j, T, hj⟩, r2, r3, rhy, rfr, -⟩ := ju_run c1 c hD hy
  exact ⟨r, hrun, x, r1, r2, r3, rhy, rfr, ma, mb, md, K, j, T, hj⟩
theorem jk_both {f g f' g' : Int → Option Int} {x y : Int32} (eF : f = f') (eG : g = g') (A : jk_A g f x.toInt) (B : jk_A g' f' y.toInt) : y.toInt = x.toInt := by
  subst eF
  subst eG
  obtain ⟨ma, mb, md, K, j, T, hj⟩ := A
  obtain ⟨ma', mb', md', K', j', T', hj'⟩ := B
  exact ju_same K K' T T' hj hj'
