/-! the law: the two constructors, the loop's head -/
def lw_sameL : sx_L → sx_L → Bool
  | [], [] => true
  | a :: l, b :: k => Nat.beq a.1 b.1 && (sx_same a.2 b.2 && lw_sameL l k)
  | _, _ => false
theorem lw_sameL_eq : ∀ {l k : sx_L}, lw_sameL l k = true → l = k
  | [], [], _ => rfl
  | a :: l, b :: k, h => by
    simp only [lw_sameL, Bool.and_eq_true, sx_beqn] at h
    obtain ⟨h1, h2, h3⟩ := h
    obtain ⟨a1, a2⟩ := a
    obtain ⟨b1, b2⟩ := b
    simp only at h1 h2
    rw [h1, sx_same_eq h2, lw_sameL_eq h3]
theorem lw_strs : ∀ a, 8 ≤ a → a < 12 → a ∈ m_strs := by
  intro a h1 h2
  have : a = 8 ∨ a = 9 ∨ a = 10 ∨ a = 11 := by omega
  rcases this with rfl | rfl | rfl | rfl <;> decide
def lw_f0 (H : sx_H) (c k : Nat) : Bool := match sx_hget H c with
  | some (.inr (ci, ov, bs)) => (match sx_fld m_tt ci k ov bs with
    | some (.inl z) => sx_eq z 0
    | _ => false)
  | _ => false
def lw_r0 (H : sx_H) (c n : Nat) : Bool := match sx_hget H c with
  | some (.inl (.int, n', .inl z, [])) => Nat.beq n n' && sx_eq z 0
  | _ => false
def lw_l0 : sx_L := [(3, .inl 0), (2, .inr (.inr (.inr (some 94)))), (1, .inr (.inr (.inr (some 16)))), (0, .inr (.inr (.inr (some 4))))]
def lw_B : sx_B := [(sx_min, sx_max), (sx_min, sx_max), (sx_min, sx_max), (sx_min, sx_max), (sx_min, sx_max), (sx_min, sx_max), (sx_min, sx_max), (sx_min, sx_max)]
/-- fields that are 0 behind the constructors -/
def lw_fs : List (Nat × Nat) := [(14, 0), (14, 4), (78, 21), (1, 1), (78, 1), (28, 2), (0, 10), (78, 9), (6, 0), (78, 10), (6, 1), (78, 14), (43, 6), (78, 105), (78, 87), (78, 56), (14, 10), (14, 12), (24, 0), (78, 22)]
/-- rows of class and reference that are even behind the constructors: cell, cell, how many -/
def lw_rp : List (Nat × Nat × Nat) := []
/-- rows of zeros behind the constructors -/
def lw_rz : List (Nat × Nat) := [(2, 1200), (17, 31), (22, 1241)]
/-- rows known behind the constructors -/
def lw_rv : List (Nat × List Int) := []
/-- rows of longs known behind the constructors -/
def lw_rw : List (Nat × List Int) := [(27, [498, 1476, 14836, 719722099, 1130181, 2273783, 307]), (26, [136356, 24627347, 4359816, 206277, 113428729, 365744, 431556, 349785, 394692, 11566, 3574901946597, 9309407396, 75148, 736548, 659105125, 609441381, 20579780])]
/-- fields known behind the constructors -/
def lw_fv : List (Nat × Nat × Int) := []
/-- rows of bytes, zeros behind the constructors -/
def lw_rb : List (Nat × Nat) := [(79, 1200), (131, 100), (132, 100)]
def lw_b0 (H : sx_H) (c n : Nat) : Bool := match sx_hget H c with
  | some (.inl (.byte, n', .inl z, [])) => Nat.beq n n' && sx_eq z 0
  | some (.inl (.boolean, n', .inl z, [])) => Nat.beq n n' && sx_eq z 0
  | _ => false
def lw_rl (H : sx_H) (c : Nat) (L : List Int) : Bool := match sx_hget H c with
  | some (.inl (.int, n, d, o)) => Nat.beq n L.length && (List.range n).all fun j => match sx_elt d o j with
    | .inl x => sx_eq x (L.getD j 0)
    | _ => false
  | _ => false
def lw_rlj (H : sx_H) (c : Nat) (L : List Int) : Bool := match sx_hget H c with
  | some (.inl (.long, n, d, o)) => Nat.beq n L.length && (List.range n).all fun j => match sx_elt d o j with
    | .inr (.inr (.inl (some x))) => sx_eq x (L.getD j 0) && !sx_eq x sx_jt
    | _ => false
  | _ => false
def lw_f1 (H : sx_H) (c k : Nat) (v : Int) : Bool := match sx_hget H c with
  | some (.inr (ci, ov, bs)) => (match sx_fld m_tt ci k ov bs with
    | some (.inl z) => sx_eq z v
    | _ => false)
  | _ => false
def lw_er (H : sx_H) (a b n : Nat) : Bool := match sx_hget H a, sx_hget H b with
  | some (.inl (.int, n1, d1, o1)), some (.inl (.int, n2, d2, o2)) => Nat.beq n1 n && (Nat.beq n2 n && (List.range n).all fun j => match sx_elt d1 o1 j, sx_elt d2 o2 j with
    | .inl x, .inl y => sx_eq x y
    | _, _ => false)
  | _, _ => false
def lw_zs (H : sx_H) : Bool := (lw_fs.all (fun q => lw_f0 H q.1 q.2) && (lw_rp.all (fun q => lw_er H q.1 q.2.1 q.2.2) && (lw_rz.all (fun q => lw_r0 H q.1 q.2) && (lw_rv.all (fun q => lw_rl H q.1 q.2) && (lw_rw.all (fun q => lw_rlj H q.1 q.2) && (lw_fv.all (fun q => lw_f1 H q.1 q.2.1 q.2.2) && lw_rb.all (fun q => lw_b0 H q.1 q.2))))))) && (lw_r0 H 17 31 && (lw_r0 H 21 1240 && lw_r0 H 91 31))
noncomputable def lw_stop (g : sx_G) : Bool := match g with
  | (d, (_, _, l, st), fs, h, _, c, s) => Nat.beq d 50 && (fs.isEmpty && (st.isEmpty && (lw_sameL l lw_l0 && (Nat.beq c 177 && (Nat.beq s 288833 && (h0_ok m_tt ly_TH h && lw_zs h))))))
set_option maxRecDepth 1000000 in
theorem lw_con : sx_run sx_T sx_KK m_tt m_cl 18 419 lw_stop [] 0 (fun _ _ _ _ => false) 30000 (50, (sxmL, 0, [(0, .inr (.inr (.inr (some 4))))], []), [], ([], [], 0), lw_B, 0, 0) = true := by decide +kernel
set_option maxRecDepth 1000000 in
theorem lw_P419 : m_P.length = 419 := by decide +kernel
theorem lw_L419 : m_PL[419]? = some mtL := by
  unfold m_PL
  rw [List.getElem?_append_right (by rw [lw_P419]; exact Nat.le_refl _), lw_P419]
  rfl
theorem lw_mok : sx_mok m_PL sxmL mtL := ⟨lw_L419, sxoL.1, sxoL.2.1⟩
theorem lw_f0_ok {cst : am_K} {ρ : Nat → Int32} {H : sx_H} {h : am_H} {c k : Nat} (g : sx_gH m_tt ρ [] H h) (hc : c < 177) (hk : k < 256) (e : lw_f0 H c k = true) : ly_hv cst h (256 * c + k) 0 = some 0 := by
  unfold lw_f0 at e
  split at e
  case h_2 => cases e
  rename_i ci ov bs hg
  split at e
  case h_2 => cases e
  rename_i z hf
  have ez := sx_eq_iff.mp e
  subst ez
  obtain ⟨x, hx, fs, rfl, -, hfs⟩ := g.2.2.1 _ _ hg
  obtain ⟨w, hw, n, rfl, hn⟩ := hfs _ _ hf
  rw [ly_hv0 (by omega), ly_h0_of1 hc hk, hx]
  simp only [ly_hs]
  rw [if_pos trivial, hw]
  simp only [hn]
theorem lw_r0_ok {cst : am_K} {ρ : Nat → Int32} {H : sx_H} {h : am_H} {c n : Nat} (g : sx_gH m_tt ρ [] H h) (hc : c < 177) (e : lw_r0 H c n = true) {i : Int} (i0 : 0 ≤ i) (i1 : i < (n : Int)) : ly_h0 cst h (256 * c) i = some 0 := by
  unfold lw_r0 at e
  split at e
  case h_2 => cases e
  rename_i n' z hg
  rw [Bool.and_eq_true, sx_beqn, sx_eq_iff] at e
  obtain ⟨e1, e2⟩ := e
  subst e1
  subst e2
  obtain ⟨x, hx, cc, rfl, f, rfl, hf⟩ := g.2.2.1 _ _ hg
  have := ly_h0_of1 (cst := cst) (h := h) (k := 0) (i := i) hc (by omega)
  rw [Nat.add_zero] at this
  rw [this, hx]
  obtain ⟨m, em, hm⟩ := hf i.toNat (by omega)
  simp only [ly_hs]
  rw [if_pos ⟨trivial, i0, by omega⟩]
  cases em
  rw [hm]
theorem lw_rz_ok {cst : am_K} {ρ : Nat → Int32} {H : sx_H} {h : am_H} {c n : Nat} (g : sx_gH m_tt ρ [] H h) (hc : c < 177) (e : lw_r0 H c n = true) {i v : Int} (hv : ly_hv cst h (256 * c) i = some v) : v = 0 := by
  rw [ly_hv0 (by omega)] at hv
  by_cases hi : 0 ≤ i ∧ i < (n : Int)
  · rw [lw_r0_ok g hc e hi.1 hi.2] at hv
    cases hv
    rfl
  · unfold lw_r0 at e
    split at e
    case h_2 => cases e
    rename_i n' z hg
    rw [Bool.and_eq_true, sx_beqn, sx_eq_iff] at e
    obtain ⟨e1, e2⟩ := e
    rw [← e1] at hg
    obtain ⟨x, hx, cc, rfl, f, rfl, hf⟩ := g.2.2.1 _ _ hg
    have := ly_h0_of1 (cst := cst) (h := h) (k := 0) (i := i) hc (by omega)
    rw [Nat.add_zero] at this
    rw [this, hx] at hv
    simp only [ly_hs] at hv
    rw [if_neg (fun q => hi ⟨q.2.1, by have q1 := q.2.1; have q2 := q.2.2; omega⟩)] at hv
    cases hv
theorem lw_b0_ok {cst : am_K} {ρ : Nat → Int32} {H : sx_H} {h : am_H} {c n : Nat} (g : sx_gH m_tt ρ [] H h) (hc : c < 177) (e : lw_b0 H c n = true) {i v : Int} (hv : ly_hv cst h (256 * c) i = some v) : v = 0 ∧ 0 ≤ i ∧ i < (n : Int) := by
  rw [ly_hv0 (by omega)] at hv
  unfold lw_b0 at e
  split at e
  case h_3 => cases e
  all_goals
    rename_i n' z hg
    rw [Bool.and_eq_true, sx_beqn, sx_eq_iff] at e
    obtain ⟨e1, e2⟩ := e
    rw [← e1] at hg
    obtain ⟨x, hx, cc, rfl, f, rfl, hf⟩ := g.2.2.1 _ _ hg
    have := ly_h0_of1 (cst := cst) (h := h) (k := 0) (i := i) hc (by omega)
    rw [Nat.add_zero] at this
    rw [this, hx] at hv
    simp only [ly_hs] at hv
    by_cases hi : True ∧ 0 ≤ i ∧ i.toNat < n
    · rw [if_pos hi] at hv
      obtain ⟨m, em, hm⟩ := hf i.toNat hi.2.2
      cases em
      cases hv
      refine ⟨by rw [hm, e2], hi.2.1, ?_⟩
      have := hi.2.2
      omega
    · rw [if_neg hi] at hv
      cases hv
theorem lw_rl_ok {cst : am_K} {ρ : Nat → Int32} {H : sx_H} {h : am_H} {c : Nat} {L : List Int} (g : sx_gH m_tt ρ [] H h) (hc : c < 177) (e : lw_rl H c L = true) {i : Int} (i0 : 0 ≤ i) (i1 : i < (L.length : Int)) : ly_hv cst h (256 * c) i = some (L.getD i.toNat 0) := by
  unfold lw_rl at e
  split at e
  case h_2 => cases e
  rename_i n d o hg
  rw [Bool.and_eq_true, sx_beqn] at e
  obtain ⟨e1, e3⟩ := e
  obtain ⟨x, hx, cc, rfl, f, rfl, hf⟩ := g.2.2.1 _ _ hg
  rw [ly_hv0 (by omega)]
  have q1 := ly_h0_of1 (cst := cst) (h := h) (k := 0) (i := i) hc (by omega)
  rw [Nat.add_zero] at q1
  rw [q1, hx]
  simp only [ly_hs]
  have hi : True ∧ 0 ≤ i ∧ i.toNat < n := ⟨trivial, i0, by omega⟩
  rw [if_pos hi]
  have := List.all_eq_true.mp e3 i.toNat (List.mem_range.mpr hi.2.2)
  have g1 := hf i.toNat hi.2.2
  split at this
  · rename_i u hu
    rw [hu] at g1
    obtain ⟨m1, em1, hm1⟩ := g1
    cases em1
    have := sx_eq_iff.mp this
    rw [hm1, this]
  · cases this
theorem lw_rlj_ok {cst : am_K} {ρ : Nat → Int32} {H : sx_H} {h : am_H} {c : Nat} {L : List Int} (g : sx_gH m_tt ρ [] H h) (hc : c < 177) (e : lw_rlj H c L = true) {i : Int} (i0 : 0 ≤ i) (i1 : i < (L.length : Int)) : ly_hv cst h (256 * c) i = some (L.getD i.toNat 0) := by
  unfold lw_rlj at e
  split at e
  case h_2 => cases e
  rename_i n d o hg
  rw [Bool.and_eq_true, sx_beqn] at e
  obtain ⟨e1, e3⟩ := e
  obtain ⟨x, hx, cc, rfl, f, rfl, hf⟩ := g.2.2.1 _ _ hg
  rw [ly_hv0 (by omega)]
  have q1 := ly_h0_of1 (cst := cst) (h := h) (k := 0) (i := i) hc (by omega)
  rw [Nat.add_zero] at q1
  rw [q1, hx]
  simp only [ly_hs]
  have hi : True ∧ 0 ≤ i ∧ i.toNat < n := ⟨trivial, i0, by omega⟩
  rw [if_pos hi]
  have := List.all_eq_true.mp e3 i.toNat (List.mem_range.mpr hi.2.2)
  have g1 := hf i.toNat hi.2.2
  split at this
  · rename_i u hu
    rw [hu] at g1
    obtain ⟨m1, em1, hm1⟩ := g1
    cases em1
    rw [Bool.and_eq_true] at this
    obtain ⟨t1, t2⟩ := this
    have t1 := sx_eq_iff.mp t1
    have t3 : u ≠ sx_jt := fun z => by
      rw [sx_eq_iff.mpr z] at t2
      exact absurd t2 (by decide)
    rw [hm1 _ rfl, if_neg t3, t1]
  · cases this
theorem lw_f1_ok {cst : am_K} {ρ : Nat → Int32} {H : sx_H} {h : am_H} {c k : Nat} {v : Int} (g : sx_gH m_tt ρ [] H h) (hc : c < 177) (hk : k < 256) (e : lw_f1 H c k v = true) : ly_hv cst h (256 * c + k) 0 = some v := by
  unfold lw_f1 at e
  split at e
  case h_2 => cases e
  rename_i ci ov bs hg
  split at e
  case h_2 => cases e
  rename_i z hf
  have ez := sx_eq_iff.mp e
  subst ez
  obtain ⟨x, hx, fs, rfl, -, hfs⟩ := g.2.2.1 _ _ hg
  obtain ⟨w, hw, n, rfl, hn⟩ := hfs _ _ hf
  rw [ly_hv0 (by omega), ly_h0_of1 hc hk, hx]
  simp only [ly_hs]
  rw [if_pos trivial, hw]
  simp only [hn]
theorem lw_er_ok {cst : am_K} {ρ : Nat → Int32} {H : sx_H} {h : am_H} {a b n : Nat} (g : sx_gH m_tt ρ [] H h) (ha : a < 177) (hb : b < 177) (e : lw_er H a b n = true) : ly_hv cst h (256 * a) = ly_hv cst h (256 * b) := by
  unfold lw_er at e
  split at e
  case h_2 => cases e
  rename_i n1 d1 o1 n2 d2 o2 h1 h2
  rw [Bool.and_eq_true, Bool.and_eq_true, sx_beqn, sx_beqn] at e
  obtain ⟨e1, e2, e3⟩ := e
  rw [e1] at h1
  rw [e2] at h2
  obtain ⟨x, hx, cc, rfl, f, rfl, hf⟩ := g.2.2.1 _ _ h1
  obtain ⟨y, hy, cd, rfl, f', rfl, hf'⟩ := g.2.2.1 _ _ h2
  funext i
  rw [ly_hv0 (by omega), ly_hv0 (by omega)]
  have q1 := ly_h0_of1 (cst := cst) (h := h) (k := 0) (i := i) ha (by omega)
  have q2 := ly_h0_of1 (cst := cst) (h := h) (k := 0) (i := i) hb (by omega)
  rw [Nat.add_zero] at q1 q2
  rw [q1, q2, hx, hy]
  simp only [ly_hs]
  by_cases hi : True ∧ 0 ≤ i ∧ i.toNat < n
  · rw [if_pos hi, if_pos hi]
    have := List.all_eq_true.mp e3 i.toNat (List.mem_range.mpr hi.2.2)
    have g1 := hf i.toNat hi.2.2
    have g2 := hf' i.toNat hi.2.2
    split at this
    · rename_i u v hu hv
      rw [hu] at g1
      rw [hv] at g2
      obtain ⟨m1, em1, hm1⟩ := g1
      obtain ⟨m2, em2, hm2⟩ := g2
      cases em1
      cases em2
      have := sx_eq_iff.mp this
      rw [hm1, hm2, this]
    · cases this
  · rw [if_neg hi, if_neg hi]
theorem lw_h8 {i ci k : Nat} {fs : List (List ly_F)} {f : ly_F} (h : ly_ths ly_TH i = some (.inr (ci, fs))) (hk : sx_ch 8 k fs = some f) : k < 256 := by
  have big : ((List.range 177).all fun i => match ly_ths ly_TH i with
    | some (.inr (_, fs)) => Nat.ble fs.length 32
    | _ => true) = true := by decide +kernel
  have := List.all_eq_true.mp big i (List.mem_range.mpr (ly_ths_lt h))
  rw [h] at this
  simp only [sx_ble] at this
  unfold sx_ch at hk
  split at hk
  · rename_i r hr
    have := (List.getElem?_eq_some_iff.mp hr).1
    omega
  · cases hk
/-- what holds at the loop's head the first time -/
theorem lw_first {cst : am_K} {Φ : am_Q → Prop} (hK : sx_gK (fun _ => -1) sx_KK cst)
    (k : ∀ (l : am_L) (h : am_H), hp_a l 0 4 → hp_a l 1 16 → hp_a l 2 94 → hp_i l 3 0 → ly_hy m_tt ly_TH h → h.length = 177 → (∀ q ∈ lw_fs, ly_hv cst h (256 * q.1 + q.2) 0 = some 0) → (∀ q ∈ lw_rp, ly_hv cst h (256 * q.1) = ly_hv cst h (256 * q.2.1)) → (∀ q ∈ lw_rz, ∀ i v, ly_hv cst h (256 * q.1) i = some v → v = 0) → (∀ q ∈ lw_rv, ∀ i, 0 ≤ i → i < (q.2.length : Int) → ly_hv cst h (256 * q.1) i = some (q.2.getD i.toNat 0)) → (∀ q ∈ lw_rw, ∀ i, 0 ≤ i → i < (q.2.length : Int) → ly_hv cst h (256 * q.1) i = some (q.2.getD i.toNat 0)) → (∀ q ∈ lw_fv, ly_hv cst h (256 * q.1 + q.2.1) 0 = some q.2.2) → (∀ q ∈ lw_rb, ∀ i v, ly_hv cst h (256 * q.1) i = some v → v = 0 ∧ 0 ≤ i ∧ i < (q.2 : Int)) → ly_hv cst h 60010 0 = some 1 → ly_hv cst h 60020 0 = some 1 → sx_Fin cst m_cl m_tt m_P m_strs Φ [] 50 (mtL, 18, l, []) h 177 288833) :
    sx_Fin cst m_cl m_tt m_P m_strs Φ [] 50 (mtL, 0, lv_args 0 [.ref 4], []) [] 0 0 := by
  refine sx_run_ok (P := m_P) (h0 := []) (ρ := fun _ => -1) hK sx_tok_m lw_strs (fun _ h => by cases h) (fun g f1 fs1 h1 hst hpc hm b1 b2 b3 b4 => ?_) (fun v H c s v' h' hf => by cases hf) 30000 _ (mtL, 0, lv_args 0 [.ref 4], []) [] [] lw_con ?_ ⟨lw_mok, rfl, ⟨⟨rfl, Or.inl rfl⟩, trivial⟩, trivial⟩ trivial ⟨rfl, Nat.le_refl _, fun i e he => ?_, fun i hi => absurd hi (Nat.not_lt_zero i)⟩
  · obtain ⟨d, ⟨m, pc, l, st⟩, fs, H, B, c, s⟩ := g
    simp only [lw_stop, Bool.and_eq_true, sx_beqn] at hst
    obtain ⟨e1, e2, e3, e4, e5, e6, e7, e8⟩ := hst
    have e4 := lw_sameL_eq e4
    have e2 := List.isEmpty_iff.mp e2
    have e3 := List.isEmpty_iff.mp e3
    subst e1
    subst e2
    subst e3
    subst e4
    subst e5
    subst e6
    simp only at hpc hm b2 b3 b4
    subst hpc
    obtain ⟨M, pc', l', st'⟩ := f1
    obtain ⟨bm, bp, bl, bs⟩ := b2
    simp only at bm bp bl bs
    subst bp
    have eM : M = mtL := by
      have := bm.1
      rw [hm, lw_L419] at this
      cases this
      rfl
    subst eM
    match fs1, b3, st', bs, l', bl with
    | [], _, [], _, [w3, w2, w1, w0], ⟨⟨n3, g3⟩, ⟨n2, g2⟩, ⟨n1, g1⟩, ⟨n0, g0⟩, _⟩ =>
      obtain ⟨i3, v3⟩ := w3
      obtain ⟨i2, v2⟩ := w2
      obtain ⟨i1, v1⟩ := w1
      obtain ⟨i0, v0⟩ := w0
      simp only at n3 n2 n1 n0 g3 g2 g1 g0
      subst n3
      subst n2
      subst n1
      subst n0
      obtain ⟨x, rfl, hx⟩ := g3
      have g2 : v2 = .ref 94 := g2.resolve_right (fun q => absurd q.1 (by decide))
      have g1 : v1 = .ref 16 := g1.resolve_right (fun q => absurd q.1 (by decide))
      have g0 : v0 = .ref 4 := g0.resolve_right (fun q => absurd q.1 (by decide))
      subst g2
      subst g1
      subst g0
      obtain ⟨hy, hl⟩ := h0_hy (TH := ly_TH) e7 b4 (fun i ci fs k f h hk => lw_h8 h hk) (fun i t h => ly_ths_lt h)
      unfold lw_zs at e8
      simp only [Bool.and_eq_true] at e8
      obtain ⟨⟨z1, z9, z8, z7, z5, za, z6⟩, z2, z3, z4⟩ := e8
      have zs : ∀ q ∈ lw_fs, ly_hv cst h1 (256 * q.1 + q.2) 0 = some 0 := fun q hq => by
        have hb : q.1 < 177 ∧ q.2 < 256 := by
          have : (lw_fs.all fun q => Nat.blt q.1 177 && Nat.blt q.2 256) = true := rfl
          have := List.all_eq_true.mp this q hq
          simpa only [Bool.and_eq_true, sx_blt] using this
        exact lw_f0_ok b4 hb.1 hb.2 (List.all_eq_true.mp z1 q hq)
      have z0 : ∀ c k, (c, k) ∈ lw_fs → 256 * c + k < 60010 → ly_h0 cst h1 (256 * c + k) 0 = some 0 := fun c k hq hlt => by
        have := zs (c, k) hq
        rw [ly_hv0 hlt] at this
        exact this
      have zr : ∀ q ∈ lw_rp, ly_hv cst h1 (256 * q.1) = ly_hv cst h1 (256 * q.2.1) := fun q hq => by
        have hb : q.1 < 177 ∧ q.2.1 < 177 := by
          have : (lw_rp.all fun q => Nat.blt q.1 177 && Nat.blt q.2.1 177) = true := rfl
          have := List.all_eq_true.mp this q hq
          simpa only [Bool.and_eq_true, sx_blt] using this
        exact lw_er_ok b4 hb.1 hb.2 (List.all_eq_true.mp z9 q hq)
      have zz : ∀ q ∈ lw_rz, ∀ i v, ly_hv cst h1 (256 * q.1) i = some v → v = 0 := fun q hq i v hv => by
        have hb : q.1 < 177 := by
          have : (lw_rz.all fun q => Nat.blt q.1 177) = true := rfl
          have := List.all_eq_true.mp this q hq
          simpa only [sx_blt] using this
        exact lw_rz_ok b4 hb (List.all_eq_true.mp z8 q hq) hv
      have zv : ∀ q ∈ lw_rv, ∀ i, 0 ≤ i → i < (q.2.length : Int) → ly_hv cst h1 (256 * q.1) i = some (q.2.getD i.toNat 0) := fun q hq i i0 i1 => by
        have hb : q.1 < 177 := by
          have : (lw_rv.all fun q => Nat.blt q.1 177) = true := rfl
          have := List.all_eq_true.mp this q hq
          simpa only [sx_blt] using this
        exact lw_rl_ok b4 hb (List.all_eq_true.mp z7 q hq) i0 i1
      have zw : ∀ q ∈ lw_rw, ∀ i, 0 ≤ i → i < (q.2.length : Int) → ly_hv cst h1 (256 * q.1) i = some (q.2.getD i.toNat 0) := fun q hq i i0 i1 => by
        have hb : q.1 < 177 := by
          have : (lw_rw.all fun q => Nat.blt q.1 177) = true := rfl
          have := List.all_eq_true.mp this q hq
          simpa only [sx_blt] using this
        exact lw_rlj_ok b4 hb (List.all_eq_true.mp z5 q hq) i0 i1
      have zf : ∀ q ∈ lw_fv, ly_hv cst h1 (256 * q.1 + q.2.1) 0 = some q.2.2 := fun q hq => by
        have hb : q.1 < 177 ∧ q.2.1 < 256 := by
          have : (lw_fv.all fun q => Nat.blt q.1 177 && Nat.blt q.2.1 256) = true := rfl
          have := List.all_eq_true.mp this q hq
          simpa only [Bool.and_eq_true, sx_blt] using this
        exact lw_f1_ok b4 hb.1 hb.2 (List.all_eq_true.mp za q hq)
      have zb : ∀ q ∈ lw_rb, ∀ i v, ly_hv cst h1 (256 * q.1) i = some v → v = 0 ∧ 0 ≤ i ∧ i < (q.2 : Int) := fun q hq i v hv => by
        have hb : q.1 < 177 := by
          have : (lw_rb.all fun q => Nat.blt q.1 177) = true := rfl
          have := List.all_eq_true.mp this q hq
          simpa only [sx_blt] using this
        exact lw_b0_ok b4 hb (List.all_eq_true.mp z6 q hq) hv
      refine k _ h1 rfl rfl rfl ⟨x, rfl, hx⟩ hy hl zs zr zz zv zw zf zb ?_ ?_
      · refine gh_one (by decide) (by decide) (gv_10 _ _) ?_
        refine ⟨0, 0, 0, z0 14 0 (by decide) (by decide), z0 14 4 (by decide) (by decide), by omega, lw_r0_ok (c := 17) b4 (by decide) z2 (by omega) (by omega), by omega, by omega, fun c c0 c1 => ⟨0, lw_r0_ok (c := 21) b4 (by decide) z3 c0 (by omega), by omega⟩, fun a n a0 a1 => by omega, fun c c0 c1 => by omega⟩
      · refine gh_one (by decide) (by decide) (gv_20 _ _) ?_
        refine ⟨0, z0 78 21 (by decide) (by decide), by omega, by omega, fun a k M a0 ha hM k0 k1 k2 => ?_⟩
        have ea : a = 30 := by omega
        subst ea
        have := lw_r0_ok (cst := cst) (c := 91) (i := 30) b4 (by decide) z4 (by omega) (by omega)
        rw [show 256 * 91 = 23296 from rfl, hM] at this
        cases this
        omega
  · intro k p hp
    have : p = (sx_min, sx_max) := by
      match k, hp with
      | 0, hp => cases hp; rfl
      | 1, hp => cases hp; rfl
      | 2, hp => cases hp; rfl
      | 3, hp => cases hp; rfl
      | 4, hp => cases hp; rfl
      | 5, hp => cases hp; rfl
      | 6, hp => cases hp; rfl
      | 7, hp => cases hp; rfl
      | n + 8, hp => cases hp
    subst this
    exact ⟨show sx_min ≤ (-1 : Int32).toInt by decide, show (-1 : Int32).toInt ≤ sx_max by decide⟩
  · cases he
