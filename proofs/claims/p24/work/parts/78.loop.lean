/-! PRINTED by wip/p2/gen_law.py: the law, its loop -/
def lw_rmr (ms : List Nat) : Nat → List (List ly_C) → List (List ly_C)
  | _, [] => []
  | i, ys :: r => (bif ms.any (fun q => Nat.beq q i) then [] else ys) :: lw_rmr ms (i + 1) r
def lw_rm (ms : List Nat) : Nat → List (List (List ly_C)) → List (List (List ly_C))
  | _, [] => []
  | i, r :: Y => lw_rmr ms i r :: lw_rm ms (i + 16) Y
theorem lw_rmr_at {ms : List Nat} : ∀ {r : List (List ly_C)} {i j : Nat} {ys : List ly_C} {y : ly_C}, (lw_rmr ms i r)[j]? = some ys → y ∈ ys → ∃ ys', r[j]? = some ys' ∧ y ∈ ys'
  | [], _, _, _, _, h, _ => by simp [lw_rmr] at h
  | y0 :: r, i, 0, ys, y, h, hy => by
    simp only [lw_rmr, List.getElem?_cons_zero, Option.some.injEq] at h
    refine ⟨y0, rfl, ?_⟩
    cases hb : ms.any (fun q => Nat.beq q i) with
    | true => rw [hb] at h; subst h; cases hy
    | false => rw [hb] at h; subst h; exact hy
  | y0 :: r, i, j + 1, ys, y, h, hy => by
    simp only [lw_rmr, List.getElem?_cons_succ] at h ⊢
    exact lw_rmr_at h hy
theorem lw_rm_at {ms : List Nat} : ∀ {Y : List (List (List ly_C))} {i a : Nat} {r : List (List ly_C)}, (lw_rm ms i Y)[a]? = some r → ∃ r' k, Y[a]? = some r' ∧ r = lw_rmr ms k r'
  | [], _, _, _, h => by simp [lw_rm] at h
  | r0 :: Y, i, 0, r, h => by
    simp only [lw_rm, List.getElem?_cons_zero, Option.some.injEq] at h
    exact ⟨r0, i, rfl, h.symm⟩
  | r0 :: Y, i, a + 1, r, h => by
    simp only [lw_rm, List.getElem?_cons_succ] at h ⊢
    exact lw_rm_at h
theorem lw_rm_ok {cst : am_K} {strs : List Nat} {ms : List Nat} {Y : List (List (List ly_C))} {d i : Nat} (hY : ly_Yok cst m_cl m_tt m_P strs ly_TH Y d) : ly_Yok cst m_cl m_tt m_P strs ly_TH (lw_rm ms i Y) d := by
  intro mi ys y h hy
  unfold sx_ch at h
  split at h
  case h_2 => cases h
  rename_i r hr
  obtain ⟨r', k, h1, rfl⟩ := lw_rm_at hr
  obtain ⟨ys', h2, h3⟩ := lw_rmr_at h hy
  exact hY mi ys' y (by unfold sx_ch; rw [h1]; exact h2) h3
noncomputable def lw_chk (Y : List (List (List ly_C))) (pc n : Nat) (B : ly_B) (F : List ly_e) (L : ly_L) (St : List ly_V) (K : ly_K) (mods : List Nat) (pts : List (Nat × ly_P)) (exs : List ly_P) (pcc pcs : Nat) : Bool :=
  (List.range n).all (fun k => (sx_get k B).isSome) && (pts.all (fun p => hp_cov n p.2) && (exs.all (hp_cov n) &&
      ly_run0 sx_T sx_KK m_tt m_cl ly_TH Y mods (51, []) n (pts.map fun p => (p.1, p.2, (0, []))) exs none 419 0 0 pcc pcs 6000 (0, (sxmL, pc, L, St), [], (n, B, F, K), 0, 0)))
abbrev lw_F (cst : am_K) (Φ : am_Q → Prop) (pc : Nat) (l : am_L) (st : List Value) (h : am_H) (ca sa : Nat) : Prop := sx_Fin cst m_cl m_tt m_P m_strs Φ [] 50 (mtL, pc, l, st) h ca sa
section LW0
variable {cst : am_K} {Φ : am_Q → Prop} {Y : List (List (List ly_C))} {pc n pcc pcs : Nat} {B : ly_B} {F : List ly_e} {L : ly_L} {St : List ly_V} {K : ly_K} {mods : List Nat} {pts : List (Nat × ly_P)} {exs : List ly_P} {h : am_H} {l : am_L} {st : List Value}
theorem lw_arc (gC : ly_gC sx_KK cst) (hY : ∀ d, ly_Yok cst m_cl m_tt m_P m_strs ly_TH Y d) (hr : lw_chk Y pc n B F L St K mods pts exs pcc pcs = true) (xs : List Int) (hn : xs.length = n) (hy : ly_hy m_tt ly_TH h) (gB : ly_gB (hp_nu xs) B) (gF : ly_gF (hp_nu xs) F) (gK : ly_gK cst (hp_nu xs) h K) (gL : ly_gL (hp_nu xs) h.length L l) (gS : ly_gS (hp_nu xs) h.length St st)
    (hpt : ∀ p ∈ pts, ∀ (ys : List Int) (l' : am_L) (st' : List Value) (h' : am_H) (ca sa : Nat), ca ≤ pcc → sa ≤ pcs → ys.length = p.2.2.1 - n → ly_hy m_tt ly_TH h' → ly_fr cst mods h h' → ly_gZ cst (hp_nu (xs ++ ys)) (ly_PZ p.2) h' → ly_gL (hp_nu (xs ++ ys)) h'.length p.2.2.2.2.2.1 l' → ly_gS (hp_nu (xs ++ ys)) h'.length p.2.2.2.2.2.2.1 st' → lw_F cst Φ p.1 l' st' h' ca sa)
    (hex : ∀ p ∈ exs, ∀ (ys : List Int) (v : Option Value) (h' : am_H), ys.length = p.2.1 - n → ly_gS (hp_nu (xs ++ ys)) h'.length p.2.2.2.2.2.1 v.toList → Φ (v, h', 0, 0)) :
    lw_F cst Φ pc l st h 0 0 := by
  unfold lw_chk at hr
  simp only [Bool.and_eq_true] at hr
  obtain ⟨c1, c2, c3, c4⟩ := hr
  have hd0 : ∀ k, k < n → ∃ z, hp_nu xs k = some z := fun k hk => ⟨xs[k]'(by omega), List.getElem?_eq_getElem (by omega)⟩
  have hnone : ∀ k, n ≤ k → hp_nu xs k = none := fun k hk => List.getElem?_eq_none (by omega)
  refine ly_run0_ph (z0 := 0) (zD := 51) lw_L419 ?_ hd0 gC sx_tok_m lw_strs (fun d _ => hY d) (fun ν _ => ly_ev_c ν 51) (by decide) ?_ c4 ⟨fun _ _ => rfl, ⟨hnone, gB, gF, gK⟩, hy, ly_fr_rf h, Nat.le_refl _, ⟨lw_mok, rfl, gL, gS⟩, trivial, rfl, Nat.zero_le _, Nat.le_refl _, Nat.le_refl _⟩ (fun e0 he0 => by cases he0)
  · rintro ⟨v, h', a, b⟩ ⟨p1, p2, p3, p4, p5, p, hp, ν', q1, q2, q3⟩
    obtain ⟨ys, hys, rfl⟩ := hp_ext hn (List.all_eq_true.mp c3 p hp) q1 q2
    have ea : a = 0 := Nat.le_zero.mp p1
    have eb : b = 0 := Nat.le_zero.mp p2
    subst ea
    subst eb
    exact hex p hp ys v h' hys q3
  · intro p hp ν l' st' h' ca sa z a1 a2 a3 a4 a5 a6 a7 a8 a9 a10 a11 a12
    obtain ⟨p0, hp0, rfl⟩ := List.mem_map.mp hp
    obtain ⟨ys, hys, rfl⟩ := hp_ext hn (List.all_eq_true.mp c2 p0 hp0) a1 a2
    exact hpt p0 hp0 ys l' st' h' ca sa a11 a12 hys a3 a4 a2 a6 a7
theorem lw_shift {ca sa : Nat} (H : lw_F cst (fun r => Φ (r.1, r.2.1, ca + r.2.2.1, sa + r.2.2.2)) pc l st h 0 0) : lw_F cst Φ pc l st h ca sa := by
  obtain ⟨n, r, hgo, hΦ⟩ := H
  simp only [Nat.zero_add] at hΦ
  exact ⟨n, r, hgo, hΦ⟩
theorem lw_back {ca sa c2 s2 : Nat} (H : lw_F cst Φ pc l st h (ca + c2) (sa + s2)) : lw_F cst (fun r => Φ (r.1, r.2.1, ca + r.2.2.1, sa + r.2.2.2)) pc l st h c2 s2 := by
  obtain ⟨n, r, hgo, hΦ⟩ := H
  refine ⟨n, r, hgo, ?_⟩
  simp only
  rw [← Nat.add_assoc, ← Nat.add_assoc]
  exact hΦ
end LW0
def lw_tg : List Nat := [320, 383, 406, 449, 472, 505, 548, 581, 624, 667, 710, 753, 786, 809, 842, 885, 928, 971, 1004, 1027, 1080, 1155, 1178, 1201, 1224, 1247, 1280, 1313, 1346, 1379, 1402, 1435, 1468, 1491, 1514, 1547, 1570, 1593, 1616, 1639, 1678, 1721, 1744, 1777, 1800, 1823, 1856, 1889, 1952, 1985, 2018, 2051, 2064, 2087, 2110, 2133, 2156, 2179, 2212, 2265, 2298, 2331, 2354, 2367, 2400, 2443, 2486, 2509, 2532]
abbrev lw_n : Nat := 10
def lwB : ly_B := [(0, 0, 3584), (1, 0, 3584), (2, 177, 2077), (3, 0, 100), (4, 1, 1), (5, 1, 1), (6, 0, 512), (7, 0, 1200), (8, 0, 399), (9, 0, 120)]
def lwF : List ly_e := [((-177), [(2, 1), (3, (-19))]), (177, [(2, (-1)), (3, 19)]), ((-7), [(0, 1), (1, (-1))]), (0, [(1, 1), (6, (-7))])]
def lwF0 : List ly_e := [((-177), [(2, 1), (3, (-19))]), (177, [(2, (-1)), (3, 19)]), (0, [(0, 1), (1, (-1))]), (0, [(1, 1), (6, (-7))])]
def lwL : ly_L := [(0, .inr (.inr (.inl (some 4)))), (1, .inr (.inr (.inl (some 16)))), (2, .inr (.inr (.inl (some 94)))), (3, .inl (0, [(1, 1)]))]
def lwK : ly_K := [(60000, (0, []), (0, [(0, 1)])), (60002, (0, []), (0, [(2, 1)])), (7170, (0, []), (0, [(3, 1)])), (60010, (0, []), (0, [(4, 1)])), (60020, (0, []), (0, [(5, 1)])), (20055, (0, []), (0, [(6, 1)])), (257, (0, []), (0, [(7, 1)])), (19969, (0, []), (0, [(7, 1)])), (10, (0, []), (0, [(8, 1)])), (19977, (0, []), (0, [(8, 1)])), (1536, (0, []), (0, [(9, 1)])), (19978, (0, []), (0, [(9, 1)]))]
def lwE : ly_P := ([(2, 60002, (0, [])), (2, 7170, (0, [])), (2, 60010, (0, [])), (2, 60020, (0, [])), (2, 20055, (0, [])), (2, 257, (0, [])), (2, 10, (0, [])), (2, 1536, (0, []))], 18, [(0, 0, 3584), (1, 0, 3584), (2, 177, 2077), (3, 0, 100), (4, 1, 1), (5, 1, 1), (6, 0, 512), (7, 0, 1200), (8, 0, 399), (9, 0, 120), (10, 177, 2077), (11, 0, 100), (12, 1, 1), (13, 1, 1), (14, 0, 512), (15, 0, 1200), (16, 0, 399), (17, 0, 120)], [((-177), [(10, 1), (11, (-19))]), (177, [(10, (-1)), (11, 19)]), (7, [(1, 1), (14, (-7))]), (20, [(7, 1), (15, (-1))])], [(0, .inr (.inr (.inl (some 4)))), (1, .inr (.inr (.inl (some 16)))), (2, .inr (.inr (.inl (some 94)))), (3, .inl (7, [(1, 1)]))], [], [(60000, (0, []), (0, [(0, 1)])), (60002, (0, []), (0, [(10, 1)])), (7170, (0, []), (0, [(11, 1)])), (60010, (0, []), (0, [(12, 1)])), (60020, (0, []), (0, [(13, 1)])), (20055, (0, []), (0, [(14, 1)])), (257, (0, []), (0, [(15, 1)])), (19969, (0, []), (0, [(15, 1)])), (10, (0, []), (0, [(16, 1)])), (19977, (0, []), (0, [(16, 1)])), (1536, (0, []), (0, [(17, 1)])), (19978, (0, []), (0, [(17, 1)]))])
def lwC : ly_P := ([], 10, lwB, [((-7), [(0, 1), (1, (-1))])], lwL, [], lwK)
def lwX : ly_P := ([], 10, lwB, [], [], [.inl (1, [])], [])
/-- what holds at the loop's head -/
def lw_I (cst : am_K) (n p : Int) (h : am_H) (l : am_L) : Prop := ly_hy m_tt ly_TH h ∧ ly_hv cst h 60000 0 = some n ∧ 0 ≤ n ∧ n ≤ 3584 ∧ 0 ≤ p ∧ p ≤ n ∧ (∃ t s, ly_hv cst h 60002 0 = some t ∧ ly_hv cst h 7170 0 = some s ∧ t = 177 + 19 * s ∧ 0 ≤ s ∧ s ≤ 100) ∧ (∃ r, ly_hv cst h 20055 0 = some r ∧ 0 ≤ r ∧ 7 * r ≤ p) ∧ ly_hv cst h 60010 0 = some 1 ∧ ly_hv cst h 60020 0 = some 1 ∧ hp_a l 0 4 ∧ hp_a l 1 16 ∧ hp_a l 2 94 ∧ hp_i l 3 p ∧ (∃ v, ly_hv cst h 257 0 = some v ∧ ly_hv cst h 19969 0 = some v ∧ 0 ≤ v ∧ v ≤ 1200) ∧ (∃ v, ly_hv cst h 10 0 = some v ∧ ly_hv cst h 19977 0 = some v ∧ 0 ≤ v ∧ v ≤ 399) ∧ (∃ v, ly_hv cst h 1536 0 = some v ∧ ly_hv cst h 19978 0 = some v ∧ 0 ≤ v ∧ v ≤ 120) ∧ tp_H cst h h ∧ LW cst h p ∧ mt_H cst h ∧ mo_H cst h ∧ zr_H cst h h ∧ wf_H cst h h
theorem lw_ys8 {ys : List Int} (h : ys.length = 8) : ∃ t2 s2 g2 e2 r2 w0 w1 w2, ys = [t2, s2, g2, e2, r2, w0, w1, w2] := match ys, h with
  | [t2, s2, g2, e2, r2, w0, w1, w2], _ => ⟨t2, s2, g2, e2, r2, w0, w1, w2, rfl⟩
/-- a road of the switch, back to the loop's head -/
theorem lw_case {cst : am_K} {Φ : am_Q → Prop} {Y : List (List (List ly_C))} {mods : List Nat} {pc : Nat} (gC : ly_gC sx_KK cst) (hY : ∀ d, ly_Yok cst m_cl m_tt m_P m_strs ly_TH Y d) (hr : lw_chk Y pc lw_n lwB lwF lwL [] lwK mods [(18, lwE)] [] 19 261 = true) (hm0 : ly_has 512 mods = false) (hm1 : ly_has 20224 mods = false) (hm2 : [3584, 3588, 3594, 3596, 3840, 4096, 4352, 4608, 4864, 5120, 5632, 5888, 6656, 6912, 5376].all (fun x => !ly_has x mods) = true) (hm3 : [19989, 22784, 23040, 23296, 23552, 23808, 24064, 24320, 24576, 24832, 25088, 25344, 25600, 25856, 26112, 26368, 26624, 26880, 27136].all (fun x => !ly_has x mods) = true) (hm4 : ly_has 7170 mods = false) (hm5 : ly_has 20024 mods = false) (hm6 : ly_has 7170 mods = false) (hm7 : ly_has 7424 mods = false) (hm8 : ly_has 7170 mods = false) (hm9 : [60090, 45313].all (fun q => !ly_has q mods) = true) (hm10 : [60091, 28416].all (fun q => !ly_has q mods) = true) (hm11 : ly_has 7170 mods = false) (hm12 : [45312, 45315, 45317, 45570, 45571, 46338, 46339, 45824, 46592, 46848].all (fun x => !ly_has x mods) = true) (hm13 : [30208, 29696, 29184, 33280, 33536, 33792, 33024, 60092, 60093, 60094].all (fun x => !ly_has x mods) = true) {n p : Int} {h : am_H} {l : am_L} (I : lw_I cst n p h l) (hp7 : p + 7 ≤ n)
    (k : ∀ (h' : am_H) (l' : am_L) (ca sa : Nat), ca ≤ 19 → sa ≤ 261 → lw_I cst n (p + 7) h' l' → lw_F cst Φ 18 l' [] h' ca sa) : lw_F cst Φ pc l [] h 0 0 := by
  obtain ⟨hy, k0, n0, n1, p0, p1, ⟨t, s, k2, k3, et, s0, s1⟩, ⟨r, kr, r0, r1⟩, k4, k5, l0, l1, l2, l3, ⟨v0, vk0, vm0, vb0, vt0⟩, ⟨v1, vk1, vm1, vb1, vt1⟩, ⟨v2, vk2, vm2, vb2, vt2⟩, er0, er1, er2, er3, er4, er5⟩ := I
  refine lw_arc gC hY hr [n, p, t, s, 1, 1, r, v0, v1, v2] rfl hy (hp_Bc (z := n) rfl n0 n1 (hp_Bc (z := p) rfl p0 (by omega) (hp_Bc (z := t) rfl (by omega) (by omega) (hp_Bc (z := s) rfl s0 s1 (hp_Bc (z := 1) rfl (by omega) (by omega) (hp_Bc (z := 1) rfl (by omega) (by omega) (hp_Bc (z := r) rfl r0 (by omega) (hp_Bc (z := v0) rfl vb0 vt0 (hp_Bc (z := v1) rfl vb1 vt1 (hp_Bc (z := v2) rfl vb2 vt2 hp_Bn)))))))))) (hp_Fc (z := ((-177) + (1 * t + ((-19) * s + 0)))) rfl (by omega) (hp_Fc (z := (177 + ((-1) * t + (19 * s + 0)))) rfl (by omega) (hp_Fc (z := ((-7) + (1 * n + ((-1) * p + 0)))) rfl (by omega) (hp_Fc (z := (0 + (1 * p + ((-7) * r + 0)))) rfl (by omega) hp_Fn)))) (hp_Kc (zi := 0) (zv := (0 + (1 * n + 0))) k0 rfl rfl rfl (by omega) (hp_Kc (zi := 0) (zv := (0 + (1 * t + 0))) k2 rfl rfl rfl (by omega) (hp_Kc (zi := 0) (zv := (0 + (1 * s + 0))) k3 rfl rfl rfl (by omega) (hp_Kc (zi := 0) (zv := (0 + (1 * 1 + 0))) k4 rfl rfl rfl (by omega) (hp_Kc (zi := 0) (zv := (0 + (1 * 1 + 0))) k5 rfl rfl rfl (by omega) (hp_Kc (zi := 0) (zv := (0 + (1 * r + 0))) kr rfl rfl rfl (by omega) (hp_Kc (zi := 0) (zv := (0 + (1 * v0 + 0))) vk0 rfl rfl rfl (by omega) (hp_Kc (zi := 0) (zv := (0 + (1 * v0 + 0))) vm0 rfl rfl rfl (by omega) (hp_Kc (zi := 0) (zv := (0 + (1 * v1 + 0))) vk1 rfl rfl rfl (by omega) (hp_Kc (zi := 0) (zv := (0 + (1 * v1 + 0))) vm1 rfl rfl rfl (by omega) (hp_Kc (zi := 0) (zv := (0 + (1 * v2 + 0))) vk2 rfl rfl rfl (by omega) (hp_Kc (zi := 0) (zv := (0 + (1 * v2 + 0))) vm2 rfl rfl rfl (by omega) hp_Kn)))))))))))) (hp_La l0 (hp_La l1 (hp_La l2 (hp_Li (z := (0 + (1 * p + 0))) l3 rfl (by omega) hp_Ln)))) trivial ?_ ?_
  · intro q hq ys l' st' h' ca sa ha hs hys hu hfr gZ gL gS
    rcases List.mem_cons.mp hq with rfl | hq
    · obtain ⟨t2, s2, g2, e2, r2, w0, w1, w2, rfl⟩ := lw_ys8 hys
      cases hp_gSn gS
      have f0 := hp_gF (z := ((-177) + (1 * t2 + ((-19) * s2 + 0)))) gZ.2.2.1 (List.mem_of_getElem? (i := 0) rfl) rfl
      have f1 := hp_gF (z := (177 + ((-1) * t2 + (19 * s2 + 0)))) gZ.2.2.1 (List.mem_of_getElem? (i := 1) rfl) rfl
      have f2 := hp_gF (z := (7 + (1 * p + ((-7) * r2 + 0)))) gZ.2.2.1 (List.mem_of_getElem? (i := 2) rfl) rfl
      have br2 := hp_gB (z := r2) gZ.2.1 (List.mem_of_getElem? (i := 14) rfl) rfl
      have bs2 := hp_gB (z := s2) gZ.2.1 (List.mem_of_getElem? (i := 11) rfl) rfl
      have bg2 := hp_gB (z := g2) gZ.2.1 (List.mem_of_getElem? (i := 12) rfl) rfl
      have be2 := hp_gB (z := e2) gZ.2.1 (List.mem_of_getElem? (i := 13) rfl) rfl
      have bw0 := hp_gB (z := w0) gZ.2.1 (List.mem_of_getElem? (i := 15) rfl) rfl
      have bw1 := hp_gB (z := w1) gZ.2.1 (List.mem_of_getElem? (i := 16) rfl) rfl
      have bw2 := hp_gB (z := w2) gZ.2.1 (List.mem_of_getElem? (i := 17) rfl) rfl
      have f3 := hp_gF (z := (20 + (1 * v0 + ((-1) * w0 + 0)))) gZ.2.2.1 (List.mem_of_getElem? (i := 3) rfl) rfl
      exact k h' l' ca sa ha hs ⟨hu, (hp_gK (zi := 0) (zv := (0 + (1 * n + 0))) gZ.2.2.2 (List.mem_of_getElem? (i := 0) rfl) rfl rfl rfl (by omega)), n0, n1, (by omega), (by omega), ⟨t2, s2, (hp_gK (zi := 0) (zv := (0 + (1 * t2 + 0))) (yv := t2) gZ.2.2.2 (List.mem_of_getElem? (i := 1) rfl) rfl rfl rfl (by omega)), (hp_gK (zi := 0) (zv := (0 + (1 * s2 + 0))) (yv := s2) gZ.2.2.2 (List.mem_of_getElem? (i := 2) rfl) rfl rfl rfl (by omega)), by omega, bs2.1, bs2.2⟩, ⟨r2, (hp_gK (zi := 0) (zv := (0 + (1 * r2 + 0))) (yv := r2) gZ.2.2.2 (List.mem_of_getElem? (i := 5) rfl) rfl rfl rfl (by omega)), br2.1, by omega⟩, (hp_gK (zi := 0) (zv := (0 + (1 * g2 + 0))) (yv := 1) gZ.2.2.2 (List.mem_of_getElem? (i := 3) rfl) rfl rfl rfl (by omega)), (hp_gK (zi := 0) (zv := (0 + (1 * e2 + 0))) (yv := 1) gZ.2.2.2 (List.mem_of_getElem? (i := 4) rfl) rfl rfl rfl (by omega)), (hp_gLa gL (List.mem_of_getElem? (i := 0) rfl) (by decide)), (hp_gLa gL (List.mem_of_getElem? (i := 1) rfl) (by decide)), (hp_gLa gL (List.mem_of_getElem? (i := 2) rfl) (by decide)), (hp_gLi (z := (7 + (1 * p + 0))) gL (List.mem_of_getElem? (i := 3) rfl) rfl (by omega)), ⟨w0, (hp_gK (zi := 0) (zv := (0 + (1 * w0 + 0))) (yv := w0) gZ.2.2.2 (List.mem_of_getElem? (i := 6) rfl) rfl rfl rfl (by omega)), (hp_gK (zi := 0) (zv := (0 + (1 * w0 + 0))) (yv := w0) gZ.2.2.2 (List.mem_of_getElem? (i := 7) rfl) rfl rfl rfl (by omega)), bw0.1, bw0.2⟩, ⟨w1, (hp_gK (zi := 0) (zv := (0 + (1 * w1 + 0))) (yv := w1) gZ.2.2.2 (List.mem_of_getElem? (i := 8) rfl) rfl rfl rfl (by omega)), (hp_gK (zi := 0) (zv := (0 + (1 * w1 + 0))) (yv := w1) gZ.2.2.2 (List.mem_of_getElem? (i := 9) rfl) rfl rfl rfl (by omega)), bw1.1, bw1.2⟩, ⟨w2, (hp_gK (zi := 0) (zv := (0 + (1 * w2 + 0))) (yv := w2) gZ.2.2.2 (List.mem_of_getElem? (i := 10) rfl) rfl rfl rfl (by omega)), (hp_gK (zi := 0) (zv := (0 + (1 * w2 + 0))) (yv := w2) gZ.2.2.2 (List.mem_of_getElem? (i := 11) rfl) rfl rfl rfl (by omega)), bw2.1, bw2.2⟩, (tp_mv er0 hy hu hy hu hfr hfr hm0 hm1), (LW_mv er1 hfr hm2 hm3 vk0 (hp_gK (zi := 0) (zv := (0 + (1 * w0 + 0))) (yv := w0) gZ.2.2.2 (List.mem_of_getElem? (i := 6) rfl) rfl rfl rfl (by omega)) bw0.1 (by omega)), (mt_mv er2 hfr hm4 hm5), (mo_mv er3 hfr hm6 hm7), (zr_mv er4 hfr hfr hm8 hm9 hm10), (wf_mv er5 hfr hfr hm11 hm12 hm13)⟩
    · cases hq
  · intro q hq
    cases hq
theorem lw_head_k : lw_chk ly_Y 18 lw_n lwB lwF0 lwL [] lwK [] (lw_tg.map fun pc => (pc, lwC)) [lwX] 0 0 = true := by decide +kernel
theorem lw_head {cst : am_K} {Φ : am_Q → Prop} (gC : ly_gC sx_KK cst) (hY : ∀ d, ly_Yok cst m_cl m_tt m_P m_strs ly_TH ly_Y d) {n p : Int} {h : am_H} {l : am_L} (I : lw_I cst n p h l)
    (k : ∀ pc ∈ lw_tg, ∀ (h' : am_H) (l' : am_L), p + 7 ≤ n → lw_I cst n p h' l' → lw_F cst Φ pc l' [] h' 0 0) (k1 : ∀ h' : am_H, Φ (some (.int 1), h', 0, 0)) : lw_F cst Φ 18 l [] h 0 0 := by
  obtain ⟨hy, k0, n0, n1, p0, p1, ⟨t, s, k2, k3, et, s0, s1⟩, ⟨r, kr, r0, r1⟩, k4, k5, l0, l1, l2, l3, ⟨v0, vk0, vm0, vb0, vt0⟩, ⟨v1, vk1, vm1, vb1, vt1⟩, ⟨v2, vk2, vm2, vb2, vt2⟩, er0, er1, er2, er3, er4, er5⟩ := I
  refine lw_arc gC hY lw_head_k [n, p, t, s, 1, 1, r, v0, v1, v2] rfl hy (hp_Bc (z := n) rfl n0 n1 (hp_Bc (z := p) rfl p0 (by omega) (hp_Bc (z := t) rfl (by omega) (by omega) (hp_Bc (z := s) rfl s0 s1 (hp_Bc (z := 1) rfl (by omega) (by omega) (hp_Bc (z := 1) rfl (by omega) (by omega) (hp_Bc (z := r) rfl r0 (by omega) (hp_Bc (z := v0) rfl vb0 vt0 (hp_Bc (z := v1) rfl vb1 vt1 (hp_Bc (z := v2) rfl vb2 vt2 hp_Bn)))))))))) (hp_Fc (z := ((-177) + (1 * t + ((-19) * s + 0)))) rfl (by omega) (hp_Fc (z := (177 + ((-1) * t + (19 * s + 0)))) rfl (by omega) (hp_Fc (z := (0 + (1 * n + ((-1) * p + 0)))) rfl (by omega) (hp_Fc (z := (0 + (1 * p + ((-7) * r + 0)))) rfl (by omega) hp_Fn)))) (hp_Kc (zi := 0) (zv := (0 + (1 * n + 0))) k0 rfl rfl rfl (by omega) (hp_Kc (zi := 0) (zv := (0 + (1 * t + 0))) k2 rfl rfl rfl (by omega) (hp_Kc (zi := 0) (zv := (0 + (1 * s + 0))) k3 rfl rfl rfl (by omega) (hp_Kc (zi := 0) (zv := (0 + (1 * 1 + 0))) k4 rfl rfl rfl (by omega) (hp_Kc (zi := 0) (zv := (0 + (1 * 1 + 0))) k5 rfl rfl rfl (by omega) (hp_Kc (zi := 0) (zv := (0 + (1 * r + 0))) kr rfl rfl rfl (by omega) (hp_Kc (zi := 0) (zv := (0 + (1 * v0 + 0))) vk0 rfl rfl rfl (by omega) (hp_Kc (zi := 0) (zv := (0 + (1 * v0 + 0))) vm0 rfl rfl rfl (by omega) (hp_Kc (zi := 0) (zv := (0 + (1 * v1 + 0))) vk1 rfl rfl rfl (by omega) (hp_Kc (zi := 0) (zv := (0 + (1 * v1 + 0))) vm1 rfl rfl rfl (by omega) (hp_Kc (zi := 0) (zv := (0 + (1 * v2 + 0))) vk2 rfl rfl rfl (by omega) (hp_Kc (zi := 0) (zv := (0 + (1 * v2 + 0))) vm2 rfl rfl rfl (by omega) hp_Kn)))))))))))) (hp_La l0 (hp_La l1 (hp_La l2 (hp_Li (z := (0 + (1 * p + 0))) l3 rfl (by omega) hp_Ln)))) trivial ?_ ?_
  · intro q hq ys l' st' h' ca sa ha hs hys hu hfr gZ gL gS
    obtain ⟨pc, hpc, rfl⟩ := List.mem_map.mp hq
    obtain rfl := hp_y0 hys
    cases hp_gSn gS
    have f0 := hp_gF (z := ((-7) + (1 * n + ((-1) * p + 0)))) gZ.2.2.1 (List.mem_of_getElem? (i := 0) rfl) rfl
    have ea : ca = 0 := Nat.le_zero.mp ha
    have eb : sa = 0 := Nat.le_zero.mp hs
    subst ea
    subst eb
    exact k pc hpc h' l' (by omega) ⟨hu, (hp_gK (zi := 0) (zv := (0 + (1 * n + 0))) gZ.2.2.2 (List.mem_of_getElem? (i := 0) rfl) rfl rfl rfl (by omega)), n0, n1, p0, p1, ⟨t, s, (hp_gK (zi := 0) (zv := (0 + (1 * t + 0))) gZ.2.2.2 (List.mem_of_getElem? (i := 1) rfl) rfl rfl rfl (by omega)), (hp_gK (zi := 0) (zv := (0 + (1 * s + 0))) gZ.2.2.2 (List.mem_of_getElem? (i := 2) rfl) rfl rfl rfl (by omega)), et, s0, s1⟩, ⟨r, (hp_gK (zi := 0) (zv := (0 + (1 * r + 0))) gZ.2.2.2 (List.mem_of_getElem? (i := 5) rfl) rfl rfl rfl (by omega)), r0, r1⟩, (hp_gK (zi := 0) (zv := (0 + (1 * 1 + 0))) gZ.2.2.2 (List.mem_of_getElem? (i := 3) rfl) rfl rfl rfl (by omega)), (hp_gK (zi := 0) (zv := (0 + (1 * 1 + 0))) gZ.2.2.2 (List.mem_of_getElem? (i := 4) rfl) rfl rfl rfl (by omega)), (hp_gLa gL (List.mem_of_getElem? (i := 0) rfl) (by decide)), (hp_gLa gL (List.mem_of_getElem? (i := 1) rfl) (by decide)), (hp_gLa gL (List.mem_of_getElem? (i := 2) rfl) (by decide)), (hp_gLi (z := (0 + (1 * p + 0))) gL (List.mem_of_getElem? (i := 3) rfl) rfl (by omega)), ⟨v0, (hp_gK (zi := 0) (zv := (0 + (1 * v0 + 0))) gZ.2.2.2 (List.mem_of_getElem? (i := 6) rfl) rfl rfl rfl (by omega)), (hp_gK (zi := 0) (zv := (0 + (1 * v0 + 0))) gZ.2.2.2 (List.mem_of_getElem? (i := 7) rfl) rfl rfl rfl (by omega)), vb0, vt0⟩, ⟨v1, (hp_gK (zi := 0) (zv := (0 + (1 * v1 + 0))) gZ.2.2.2 (List.mem_of_getElem? (i := 8) rfl) rfl rfl rfl (by omega)), (hp_gK (zi := 0) (zv := (0 + (1 * v1 + 0))) gZ.2.2.2 (List.mem_of_getElem? (i := 9) rfl) rfl rfl rfl (by omega)), vb1, vt1⟩, ⟨v2, (hp_gK (zi := 0) (zv := (0 + (1 * v2 + 0))) gZ.2.2.2 (List.mem_of_getElem? (i := 10) rfl) rfl rfl rfl (by omega)), (hp_gK (zi := 0) (zv := (0 + (1 * v2 + 0))) gZ.2.2.2 (List.mem_of_getElem? (i := 11) rfl) rfl rfl rfl (by omega)), vb2, vt2⟩, (tp_mv er0 hy hu hy hu hfr hfr (by exact rfl) (by exact rfl)), (LW_mv er1 hfr (by exact rfl) (by exact rfl) vk0 (hp_gK (zi := 0) (zv := (0 + (1 * v0 + 0))) gZ.2.2.2 (List.mem_of_getElem? (i := 6) rfl) rfl rfl rfl (by omega)) vb0 (by omega)), (mt_mv er2 hfr (by exact rfl) (by exact rfl)), (mo_mv er3 hfr (by exact rfl) (by exact rfl)), (zr_mv er4 hfr hfr (by exact rfl) (by exact rfl) (by exact rfl)), (wf_mv er5 hfr hfr (by exact rfl) (by exact rfl) (by exact rfl))⟩
  · intro q hq ys v h' hys gS
    rcases List.mem_cons.mp hq with rfl | hq
    · obtain rfl := hp_y0 hys
      cases v with
      | none => cases gS
      | some w =>
        obtain ⟨y0, t0, q0, q1, -⟩ := hp_gSi (z := 1 + 0) gS rfl
        cases q0
        have : y0 = 1 := Int32.toInt_inj.mp q1
        subst this
        exact k1 h'
    · cases hq
def lw_Phi (r : am_Q) : Prop := r.1 = some (.int 1) ∧ r.2.2.1 ≤ 600000 ∧ r.2.2.2 ≤ 7302249
theorem lw_loop {cst : am_K} (gC : ly_gC sx_KK cst) (hY : ∀ d, ly_Yok cst m_cl m_tt m_P m_strs ly_TH ly_Y d) {n : Int}
    (hc : ∀ pc ∈ lw_tg, ∀ (Φ : am_Q → Prop) (p : Int) (h : am_H) (l : am_L), lw_I cst n p h l → p + 7 ≤ n → (∀ (h' : am_H) (l' : am_L) (ca sa : Nat), ca ≤ 19 → sa ≤ 261 → lw_I cst n (p + 7) h' l' → lw_F cst Φ 18 l' [] h' ca sa) → lw_F cst Φ pc l [] h 0 0) :
    ∀ (N : Nat) (p : Int) (h : am_H) (l : am_L) (ca sa : Nat), (n - p).toNat < N → lw_I cst n p h l → (ca : Int) + 3 * (n - p) ≤ 11000 → (sa : Int) + 38 * (n - p) ≤ 430000 → lw_F cst lw_Phi 18 l [] h ca sa := by
  intro N
  induction N with
  | zero => intro p h l ca sa hN; omega
  | succ N ih =>
    intro p h l ca sa hN I hca hsa
    have hpn : p ≤ n := I.2.2.2.2.2.1
    refine lw_shift (lw_head gC hY I (fun pc hpc h1 l1 hp7 I1 => ?_) (fun h1 => ⟨rfl, by show ca + 0 ≤ 600000; omega, by show sa + 0 ≤ 7302249; omega⟩))
    exact hc pc hpc _ p h1 l1 I1 hp7 (fun h2 l2 c2 s2 hc2 hs2 I2 => lw_back (ih (p + 7) h2 l2 (ca + c2) (sa + s2) (by omega) I2 (by omega) (by omega)))
