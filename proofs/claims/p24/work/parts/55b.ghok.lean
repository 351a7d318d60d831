/-! what is said of ghosts holds -/
section LY3G
variable {cst : am_K} {ν : ly_N} {Z : ly_Z} {h h' : am_H}
theorem ly_tv_iff {p : Prop} : ly_tv p = some 1 ↔ p := by
  unfold ly_tv
  by_cases hp : p
  · simp [hp]
  · simp [hp]
theorem ly_dg_hi {g r : Nat} (hd : ly_has g (ly_dg r) = true) : 60010 ≤ g := by
  unfold ly_has at hd
  obtain ⟨q, hq, hb⟩ := List.any_eq_true.mp hd
  rw [sx_beqn.mp hb] at hq
  unfold ly_dg at hq
  split at hq
  · rename_i l hl
    have hm := sx_get_mem hl
    unfold ly_dl at hm
    simp only [List.mem_cons, Prod.mk.injEq, List.not_mem_nil, or_false] at hm
    rcases hm with ⟨-, rfl⟩ | ⟨-, rfl⟩ | ⟨-, rfl⟩ | ⟨-, rfl⟩ | ⟨-, rfl⟩ | ⟨-, rfl⟩ | ⟨-, rfl⟩ | ⟨-, rfl⟩ | ⟨-, rfl⟩ | ⟨-, rfl⟩ | ⟨-, rfl⟩ | ⟨-, rfl⟩ | ⟨-, rfl⟩ | ⟨-, rfl⟩ | ⟨-, rfl⟩ | ⟨-, rfl⟩ | ⟨-, rfl⟩ | ⟨-, rfl⟩ | ⟨-, rfl⟩ | ⟨-, rfl⟩ | ⟨-, rfl⟩ | ⟨-, rfl⟩ <;> simp only [List.mem_cons, List.not_mem_nil, or_false] at hq <;> omega
  · cases hq
theorem ly_dg_ok {f f' : Nat → Int → Option Int} {g r : Nat} (hd : ly_has g (ly_dg r) = false) (e : ∀ r', r' ≠ r → ∀ i, f' r' i = f r' i) (i : Int) : ly_gv f' g i = ly_gv f g i := by
  have key : ∀ r', ly_has g (ly_dg r') = true → f' r' = f r' := fun r' h1 => funext fun i => e r' (fun er => by rw [er, hd] at h1; cases h1) i
  unfold ly_gv
  by_cases ha : g = 60090
  · subst ha
    rw [if_pos rfl, if_pos rfl, key 45319 rfl, key 45313 rfl]
  rw [if_neg ha, if_neg ha]
  by_cases hb : g = 60091
  · subst hb
    rw [if_pos rfl, if_pos rfl, key 30464 rfl, key 28416 rfl]
  rw [if_neg hb, if_neg hb]
  by_cases hc : g = 60092
  · subst hc
    rw [if_pos rfl, if_pos rfl, key 27904 rfl]
  rw [if_neg hc, if_neg hc]
  by_cases hd : g = 60093
  · subst hd
    rw [if_pos rfl, if_pos rfl, key 27392 rfl]
  rw [if_neg hd, if_neg hd]
  by_cases he : g = 60094
  · subst he
    rw [if_pos rfl, if_pos rfl, key 27648 rfl]
  rw [if_neg he, if_neg he]
  by_cases h1 : g = 60010
  · subst h1
    rw [if_pos rfl, if_pos rfl, key 3584 rfl, key 3588 rfl, key 4352 rfl, key 5376 rfl]
  rw [if_neg h1, if_neg h1]
  by_cases h2 : g = 60011
  · subst h2
    rw [if_pos rfl, if_pos rfl, key 3584 rfl, key 3588 rfl, key 4352 rfl, key 5376 rfl]
  rw [if_neg h2, if_neg h2]
  by_cases h3 : g = 60012
  · subst h3
    rw [if_pos rfl, if_pos rfl, key 3584 rfl, key 4352 rfl]
  rw [if_neg h3, if_neg h3]
  by_cases h4 : g = 60080
  · subst h4
    rw [if_pos rfl, if_pos rfl, key 6151 rfl, key 6400 rfl]
  rw [if_neg h4, if_neg h4]
  by_cases h5 : g = 60081
  · subst h5
    rw [if_pos rfl, if_pos rfl, key 6151 rfl, key 6400 rfl]
  rw [if_neg h5, if_neg h5]
  by_cases h6 : g = 60082
  · subst h6
    rw [if_pos rfl, if_pos rfl, key 6151 rfl, key 6400 rfl]
  rw [if_neg h6, if_neg h6]
  by_cases h7 : g = 60020
  · subst h7
    rw [if_pos rfl, if_pos rfl, key 19989 rfl, key 23296 rfl, key 23552 rfl, key 24064 rfl, key 24576 rfl, key 24832 rfl, key 25088 rfl, key 26880 rfl, key 20012 rfl]
  rw [if_neg h7, if_neg h7]
  by_cases h8 : g = 60050
  · subst h8
    rw [if_pos rfl, if_pos rfl, key 24832 rfl, key 26880 rfl]
  rw [if_neg h8, if_neg h8]
  by_cases h9 : g = 60060
  · subst h9
    rw [if_pos rfl, if_pos rfl, key 23296 rfl, key 24832 rfl, key 26880 rfl, key 20012 rfl]
  rw [if_neg h9, if_neg h9]
  by_cases h10 : g = 60061
  · subst h10
    rw [if_pos rfl, if_pos rfl, key 23296 rfl, key 24832 rfl, key 25088 rfl, key 26880 rfl, key 20012 rfl]
  rw [if_neg h10, if_neg h10]
  by_cases h11 : g = 60070
  · subst h11
    rw [if_pos rfl, if_pos rfl, key 19989 rfl, key 23552 rfl, key 24064 rfl, key 24576 rfl, key 24832 rfl, key 25088 rfl]
  rw [if_neg h11, if_neg h11]
  by_cases h12 : g = 60071
  · subst h12
    rw [if_pos rfl, if_pos rfl, key 19989 rfl, key 26880 rfl]
  rw [if_neg h12, if_neg h12]
  by_cases h13 : 60030 ≤ g ∧ g ≤ 60040
  · have all : ly_has g (ly_dg 19989) = true ∧ ly_has g (ly_dg 23296) = true ∧ ly_has g (ly_dg 23552) = true := by
      obtain ⟨k, rfl⟩ : ∃ k, g = 60030 + k := ⟨g - 60030, by omega⟩
      match k, h13 with
      | 0, _ => exact ⟨rfl, rfl, rfl⟩
      | 1, _ => exact ⟨rfl, rfl, rfl⟩
      | 2, _ => exact ⟨rfl, rfl, rfl⟩
      | 3, _ => exact ⟨rfl, rfl, rfl⟩
      | 4, _ => exact ⟨rfl, rfl, rfl⟩
      | 5, _ => exact ⟨rfl, rfl, rfl⟩
      | 6, _ => exact ⟨rfl, rfl, rfl⟩
      | 7, _ => exact ⟨rfl, rfl, rfl⟩
      | 8, _ => exact ⟨rfl, rfl, rfl⟩
      | 9, _ => exact ⟨rfl, rfl, rfl⟩
      | 10, _ => exact ⟨rfl, rfl, rfl⟩
      | k + 11, h => omega
    rw [if_pos h13, if_pos h13, key 19989 all.1, key 23296 all.2.1, key 23552 all.2.2]
  rw [if_neg h13, if_neg h13]
theorem gh_hv {r : Nat} {i : Int} (h1 : 60010 ≤ r) (h2 : r < 61000) : ly_hv cst h r i = ly_gv (ly_h0 cst h) r i := by
  unfold ly_hv
  rw [if_neg (by omega), if_pos h2]
theorem gh_k {r : Nat} {x v : ly_e} {zx : Int} (g : ly_gZ cst ν Z h) (hk : ly_kget r x Z.2.2.2 = some v) (hx : ly_ev ν x = some zx) : ∃ z, ly_ev ν v = some z ∧ ly_hv cst h r zx = some z := by
  obtain ⟨i, w, e1, e2, e3⟩ := g.2.2.2 _ (ly_kget_mem hk)
  simp only at e1 e2 e3
  rw [hx] at e1
  cases e1
  exact ⟨w, e2, e3⟩
theorem gh_k0 {r : Nat} {x v : ly_e} {zx : Int} (hr : r < 60010) (g : ly_gZ cst ν Z h) (hk : ly_kget r x Z.2.2.2 = some v) (hx : ly_ev ν x = some zx) : ∃ z, ly_ev ν v = some z ∧ ly_h0 cst h r zx = some z := by
  obtain ⟨z, e1, e2⟩ := gh_k g hk hx
  exact ⟨z, e1, by rw [← ly_hv0 hr]; exact e2⟩
theorem gh_kz {r : Nat} {v : ly_e} (hr : r < 60010) (g : ly_gZ cst ν Z h) (hk : ly_kz Z r = some v) : ∃ z, ly_ev ν v = some z ∧ ly_h0 cst h r 0 = some z := gh_k0 hr g hk (ly_ev_c ν 0)
theorem gh_k1 {r : Nat} {x : ly_e} {zx : Int} (g : ly_gZ cst ν Z h) (hk : ly_k1 Z r x = true) (hx : ly_ev ν x = some zx) : ly_hv cst h r zx = some 1 := by
  unfold ly_k1 at hk
  split at hk
  case h_2 => cases hk
  rename_i v hv
  split at hk
  case h_2 => cases hk
  rename_i c hc
  obtain ⟨z, e1, e2⟩ := gh_k g hv hx
  have := ly_con_ok g.2.1 hc
  rw [e1] at this
  cases this
  rw [e2, sx_eq_iff.mp hk]
theorem gh_kc {r : Nat} {x : ly_e} {c zx : Int} (hr : r < 60010) (g : ly_gZ cst ν Z h) (hk : ly_kc Z r x = some c) (hx : ly_ev ν x = some zx) : ly_h0 cst h r zx = some c := by
  unfold ly_kc at hk
  split at hk
  case h_2 => cases hk
  rename_i v hv
  obtain ⟨z, e1, e2⟩ := gh_k0 hr g hv hx
  have := ly_con_ok g.2.1 hk
  rw [e1] at this
  cases this
  exact e2
theorem gh_z {e : ly_e} {z : Int} (g : ly_gZ cst ν Z h) (hz : ly_z Z e = true) (he : ly_ev ν e = some z) : 0 ≤ z := ly_gs_ok g.2.1 g.2.2.1 hz he
/-- one ghost that is so -/
theorem gh_one {r : Nat} {p : Prop} {i : Int} (h1 : 60010 ≤ r) (h2 : r < 61000) (e : ly_gv (ly_h0 cst h) r i = ly_tv p) (hp : p) : ly_hv cst h r i = some 1 := by
  rw [gh_hv h1 h2, e]
  exact ly_tv_iff.mpr hp
theorem gh_of {r : Nat} {p : Prop} {i : Int} (h1 : 60010 ≤ r) (h2 : r < 61000) (e : ly_gv (ly_h0 cst h) r i = ly_tv p) (hh : ly_hv cst h r i = some 1) : p := by
  rw [gh_hv h1 h2, e] at hh
  exact ly_tv_iff.mp hh
theorem gv_10 (f : Nat → Int → Option Int) (i : Int) : ly_gv f 60010 i = ly_tv (gh_q5 (f 3584) (f 3588) (f 4352) (f 5376)) := rfl
theorem gv_11 (f : Nat → Int → Option Int) (i : Int) : ly_gv f 60011 i = ly_tv (gh_q6 (f 3584) (f 3588) (f 4352) (f 5376)) := rfl
theorem gv_12 (f : Nat → Int → Option Int) (i : Int) : ly_gv f 60012 i = ly_tv (gh_st (f 3584) (f 4352) i) := rfl
theorem gv_80 (f : Nat → Int → Option Int) (i : Int) : ly_gv f 60080 i = ly_tv (gh_wf (f 6151) (f 6400)) := rfl
theorem gv_81 (f : Nat → Int → Option Int) (i : Int) : ly_gv f 60081 i = ly_tv (gh_cl (f 6151) (f 6400) i) := rfl
theorem gv_82 (f : Nat → Int → Option Int) (i : Int) : ly_gv f 60082 i = gh_br (f 6151) (f 6400) := rfl
theorem gv_20 (f : Nat → Int → Option Int) (i : Int) : ly_gv f 60020 i = ly_tv (gh_qa (f 19989) (f 23296) (f 23552) (f 24064) (f 24576) (f 24832) (f 25088) (f 26880) (f 20012)) := rfl
theorem gv_50 (f : Nat → Int → Option Int) (i : Int) : ly_gv f 60050 i = gh_sd (f 24832) (f 26880) i := rfl
theorem gv_60 (f : Nat → Int → Option Int) (i : Int) : ly_gv f 60060 i = gh_dg (f 23296) (f 24832) (f 26880) (f 20012) := rfl
theorem gv_61 (f : Nat → Int → Option Int) (i : Int) : ly_gv f 60061 i = ly_tv (gh_dn (f 23296) (f 24832) (f 25088) (f 26880) (f 20012)) := rfl
theorem gv_70 (f : Nat → Int → Option Int) (i : Int) : ly_gv f 60070 i = ly_tv (gh_cp (f 19989) (f 23552) (f 24064) (f 24576) (f 24832) (f 25088) i) := rfl
theorem gv_71 (f : Nat → Int → Option Int) (i : Int) : ly_gv f 60071 i = ly_tv (gh_sp (f 19989) (f 26880) i) := rfl
theorem gv_3x (f : Nat → Int → Option Int) (k : Nat) (hk : k ≤ 10) (i : Int) : ly_gv f (60030 + k) i = ly_tv (gh_in (f 19989) (f 23296) (f 23552) (k : Int) i) := by
  unfold ly_gv
  rw [if_neg (by omega), if_neg (by omega), if_neg (by omega), if_neg (by omega), if_neg (by omega), if_neg (by omega), if_neg (by omega), if_neg (by omega), if_neg (by omega), if_neg (by omega), if_neg (by omega), if_neg (by omega), if_neg (by omega), if_neg (by omega), if_neg (by omega), if_neg (by omega), if_neg (by omega), if_pos ⟨by omega, by omega⟩, show 60030 + k - 60030 = k by omega]
theorem gh_in1 {q : Nat × ly_e × ly_e} {b : Bool} (hq : q ∈ (bif b then [(60010, ly_i0, ly_i1)] else [])) : b = true ∧ q = (60010, ly_i0, ly_i1) := by
  cases b with
  | false => cases hq
  | true => exact ⟨rfl, List.mem_singleton.mp hq⟩
theorem om_owners_ok {i v : ly_e} {zi zv : Int} (g : ly_gZ cst ν Z h) (hi : ly_ev ν i = some zi) (hv : ly_ev ν v = some zv) (e1 : ly_h0 cst h' 5376 zi = some zv) (e2 : ∀ r' i', r' ≠ 5376 ∨ i' ≠ zi → ly_h0 cst h' r' i' = ly_h0 cst h r' i') : ly_gK cst ν h' (om_owners Z i v) := by
  intro q hq
  unfold om_owners at hq
  split at hq
  case h_2 => cases hq
  rename_i c a hc ha
  obtain ⟨hb, rfl⟩ := gh_in1 hq
  simp only [Bool.and_eq_true] at hb
  obtain ⟨h1, h2, h3⟩ := hb
  obtain ⟨zc, c1, c2⟩ := gh_kz (by decide) g hc
  obtain ⟨za, a1, a2⟩ := gh_kz (by decide) g ha
  rw [ly_eq_eq h2, hi] at c1
  cases c1
  rw [ly_eq_eq h3, hv] at a1
  cases a1
  refine ⟨0, 1, ly_ev_c ν 0, ly_ev_c ν 1, gh_one (by decide) (by decide) (gv_10 _ _) ?_⟩
  obtain ⟨A, C, F, fA, fC, A0, fF, FC, C1, all, mono, low⟩ := gh_of (by decide) (by decide) (gv_10 _ _) (gh_k1 g h1 (ly_ev_c ν 0))
  rw [a2] at fA
  cases fA
  rw [c2] at fC
  cases fC
  refine ⟨zv, zi, F, by rw [e2 _ _ (Or.inl (by decide))]; exact a2, by rw [e2 _ _ (Or.inl (by decide))]; exact c2, A0, by rw [e2 _ _ (Or.inl (by decide))]; exact fF, FC, C1, fun c c0 cm => ?_, fun a n a0 aA hn => mono a n a0 aA (by rw [← e2 _ _ (Or.inl (by decide))]; exact hn), fun c c0 cF => ?_⟩
  · by_cases ec : c = zi
    · subst ec; exact ⟨zv, e1, Int.le_refl _⟩
    · rw [e2 _ _ (Or.inr ec)]; exact all c c0 cm
  · rw [e2 _ _ (Or.inr (by omega))]
    exact low c c0 cF
theorem om_clauses_ok {i v : ly_e} {zi zv : Int} (g : ly_gZ cst ν Z h) (hi : ly_ev ν i = some zi) (hv : ly_ev ν v = some zv) (e1 : ly_h0 cst h' 3588 zi = some zv) (e2 : ∀ r' i', r' ≠ 3588 ∨ i' ≠ zi → ly_h0 cst h' r' i' = ly_h0 cst h r' i') : ly_gK cst ν h' (om_clauses Z i v) := by
  intro q hq
  unfold om_clauses at hq
  obtain ⟨hb, rfl⟩ := gh_in1 hq
  simp only [Bool.and_eq_true] at hb
  obtain ⟨h1, h2, h3, h4⟩ := hb
  rw [ly_eq_eq h2, ly_ev_c] at hi
  cases hi
  refine ⟨0, 1, ly_ev_c ν 0, ly_ev_c ν 1, gh_one (by decide) (by decide) (gv_10 _ _) ?_⟩
  obtain ⟨A, C, F, fA, fC, A0, fF, FC, C1, all, mono, low⟩ := gh_of (by decide) (by decide) (gv_10 _ _) (gh_k1 g h1 (ly_ev_c ν 0))
  have b1 := gh_z g h3 (ly_sub_ok (ly_ev_c ν 1240) hv)
  have hF : F ≤ zv := by
    rcases Bool.or_eq_true_iff.mp h4 with h5 | h5
    · split at h5
      case h_2 => cases h5
      rename_i c hc
      obtain ⟨zc, c1, c2⟩ := gh_kz (by decide) g hc
      rw [fC] at c2
      cases c2
      have := gh_z g h5 (ly_sub_ok hv c1)
      omega
    · split at h5
      case h_2 => cases h5
      rename_i a ha
      split at h5
      case h_2 => cases h5
      rename_i f hf
      obtain ⟨za, a1, a2⟩ := gh_kz (by decide) g ha
      rw [fA] at a2
      cases a2
      obtain ⟨zf, f1, f2⟩ := gh_k0 (by decide) g hf a1
      rw [fF] at f2
      cases f2
      have := gh_z g h5 (ly_sub_ok hv f1)
      omega
  have e3 : ∀ r' i', r' ≠ 3588 → ly_h0 cst h' r' i' = ly_h0 cst h r' i' := fun r' i' hr => e2 r' i' (Or.inl hr)
  refine ⟨A, zv, F, by rw [e3 _ _ (by decide)]; exact fA, e1, A0, by rw [e3 _ _ (by decide)]; exact fF, hF, by omega, fun c c0 cm => by rw [e3 _ _ (by decide)]; exact all c c0 cm, fun a n a0 aA hn => mono a n a0 aA (by rw [← e3 _ _ (by decide)]; exact hn), fun c c0 cF => by rw [e3 _ _ (by decide)]; exact low c c0 cF⟩
theorem om_acts_ok {i v : ly_e} {zi zv : Int} (g : ly_gZ cst ν Z h) (hi : ly_ev ν i = some zi) (hv : ly_ev ν v = some zv) (e1 : ly_h0 cst h' 3584 zi = some zv) (e2 : ∀ r' i', r' ≠ 3584 ∨ i' ≠ zi → ly_h0 cst h' r' i' = ly_h0 cst h r' i') : ly_gK cst ν h' (om_acts Z i v) := by
  intro q hq
  unfold om_acts at hq
  split at hq
  case h_2 => cases hq
  rename_i a ha
  cases hb : (ly_k1 Z 60010 ly_i0 && (ly_eq i ly_i0 && (ly_eq v (ly_add ly_i1 a) && ly_z Z (ly_sub (29, []) a)))) with
  | false => rw [hb] at hq; cases hq
  | true =>
    rw [hb] at hq
    have eq := List.mem_singleton.mp hq
    subst eq
    simp only [Bool.and_eq_true] at hb
    obtain ⟨h1, h2, h3, h4⟩ := hb
    rw [ly_eq_eq h2, ly_ev_c] at hi
    cases hi
    obtain ⟨za, a1, a2⟩ := gh_kz (by decide) g ha
    rw [ly_eq_eq h3, ly_add_ok (ly_ev_c ν 1) a1] at hv
    cases hv
    have b1 := gh_z g h4 (ly_sub_ok (ly_ev_c ν 29) a1)
    refine ⟨0, 1, ly_ev_c ν 0, ly_ev_c ν 1, gh_one (by decide) (by decide) (gv_11 _ _) ?_⟩
    obtain ⟨A, C, F, fA, fC, A0, fF, FC, C1, all, mono, low⟩ := gh_of (by decide) (by decide) (gv_10 _ _) (gh_k1 g h1 (ly_ev_c ν 0))
    rw [a2] at fA
    cases fA
    have e3 : ∀ r' i', r' ≠ 3584 → ly_h0 cst h' r' i' = ly_h0 cst h r' i' := fun r' i' hr => e2 r' i' (Or.inl hr)
    refine ⟨1 + za, C, e1, by rw [e3 _ _ (by decide)]; exact fC, by omega, C1, fun c c0 cm => ?_, fun a n a0 aA hn => ?_⟩
    · obtain ⟨v, v1, v2⟩ := all c c0 cm
      exact ⟨v, by rw [e3 _ _ (by decide)]; exact v1, by omega⟩
    · rw [e3 _ _ (by decide)] at hn
      have := mono a n a0 (by omega) hn
      omega
theorem om_firsts_ok {i v : ly_e} {zi zv : Int} (g : ly_gZ cst ν Z h) (hi : ly_ev ν i = some zi) (hv : ly_ev ν v = some zv) (e1 : ly_h0 cst h' 4352 zi = some zv) (e2 : ∀ r' i', r' ≠ 4352 ∨ i' ≠ zi → ly_h0 cst h' r' i' = ly_h0 cst h r' i') : ly_gK cst ν h' (om_firsts Z i v) := by
  intro q hq
  unfold om_firsts at hq
  split at hq
  case h_2 => cases hq
  rename_i c a hc ha
  obtain ⟨hb, rfl⟩ := gh_in1 hq
  simp only [Bool.and_eq_true] at hb
  obtain ⟨h1, h2, h3⟩ := hb
  obtain ⟨zc, c1, c2⟩ := gh_kz (by decide) g hc
  obtain ⟨za, a1, a2⟩ := gh_kz (by decide) g ha
  rw [ly_eq_eq h2, hi] at a1
  cases a1
  rw [ly_eq_eq h3, hv] at c1
  cases c1
  refine ⟨0, 1, ly_ev_c ν 0, ly_ev_c ν 1, gh_one (by decide) (by decide) (gv_10 _ _) ?_⟩
  obtain ⟨A, C, fA, fC, A1, C1, all, mono⟩ := gh_of (by decide) (by decide) (gv_11 _ _) (gh_k1 g h1 (ly_ev_c ν 0))
  rw [a2] at fA
  cases fA
  rw [c2] at fC
  cases fC
  have e3 : ∀ r' i', r' ≠ 4352 → ly_h0 cst h' r' i' = ly_h0 cst h r' i' := fun r' i' hr => e2 r' i' (Or.inl hr)
  refine ⟨zi, zv, zv, by rw [e3 _ _ (by decide)]; exact a2, by rw [e3 _ _ (by decide)]; exact c2, by omega, e1, Int.le_refl _, C1, fun c c0 cm => ?_, fun a n a0 aA hn => ?_, fun c c0 cF => ?_⟩
  · obtain ⟨v, v1, v2⟩ := all c c0 cm
    exact ⟨v, by rw [e3 _ _ (by decide)]; exact v1, by omega⟩
  · by_cases ea : a + 1 = zi
    · rw [ea, e1] at hn
      cases hn
      exact Int.le_refl _
    · rw [e2 _ _ (Or.inr ea)] at hn
      exact mono a n a0 (by omega) hn
  · obtain ⟨v, v1, v2⟩ := all c c0 (by omega)
    exact ⟨v, by rw [e3 _ _ (by decide)]; exact v1, by omega⟩
end LY3G
