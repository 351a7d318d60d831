/-! what rowCost answers -/
theorem th_RL : ly_ths ly_TH 172 = some (.inl (.int, 30, -2147483648, 2147483647)) := rfl
theorem th_RM : ly_ths ly_TH 173 = some (.inl (.int, 3, 0, 10)) := rfl
theorem th_JC : ly_ths ly_TH 176 = some (.inl (.int, 1331, -2147483648, 2147483647)) := rfl
def rc_c (x y : Int) : Int := if x = y then 0 else if x.tdiv 10 = y.tdiv 10 then 1 else 4
theorem rc_c0 (x : Int) : rc_c x x = 0 := if_pos rfl
theorem rc_c1 {x y : Int} (h : x ≠ y) (q : x.tdiv 10 = y.tdiv 10) : rc_c x y = 1 := by unfold rc_c; rw [if_neg h, if_pos q]
theorem rc_c4 {x y : Int} (h : x ≠ y) (q : x.tdiv 10 ≠ y.tdiv 10) : rc_c x y = 4 := by unfold rc_c; rw [if_neg h, if_neg q]
theorem rc_cb (x y : Int) : 0 ≤ rc_c x y ∧ rc_c x y ≤ 4 := by
  unfold rc_c
  split
  · omega
  · split <;> omega
def rc_v (u v w ma mb md s a b d : Int) : Int :=
  if s = 1 then (if a < ma then 2 else -1)
  else if s = 2 then (if b < mb then 2 else -1)
  else if s = 4 then (if d < md then 2 else -1)
  else if s = 3 then (if a < ma ∧ b < mb then rc_c v u + 1 else -1)
  else if s = 5 then (if a < ma ∧ d < md then rc_c w u + 1 else -1)
  else if s = 6 then (if b < mb ∧ d < md then rc_c w v + 1 else -1)
  else (if a < ma ∧ b < mb ∧ d < md then rc_c v u + rc_c w u + rc_c w v else -1)
def rc (f g : Int → Option Int) (s a b d : Int) : Int := rc_v ((f a).getD 0) ((f (b + 10)).getD 0) ((f (d + 20)).getD 0) ((g 0).getD 0) ((g 1).getD 0) ((g 2).getD 0) s a b d
theorem rc_of {f g : Int → Option Int} {s a b d ma mb md : Int} (k0 : g 0 = some ma) (k1 : g 1 = some mb) (k2 : g 2 = some md) : rc f g s a b d = rc_v ((f a).getD 0) ((f (b + 10)).getD 0) ((f (d + 20)).getD 0) ma mb md s a b d := by
  unfold rc
  rw [k0, k1, k2]
  rfl
theorem hp_dv {cst : am_K} {h : am_H} (x : Int) : ly_hv cst h 62010 x = some (x.tdiv 10) := hp_pure 10 x (by decide)
theorem hp_dvb {x : Int} (h1 : -2147483648 ≤ x) (h2 : x ≤ 2147483647) : -2147483648 ≤ x.tdiv 10 ∧ x.tdiv 10 ≤ 2147483647 := by
  by_cases h0 : 0 ≤ x
  · rw [Int.tdiv_eq_ediv_of_nonneg h0]
    omega
  · have e : x = -(-x) := by omega
    rw [e, Int.neg_tdiv, Int.tdiv_eq_ediv_of_nonneg (by omega)]
    omega

theorem rcs7 {cst : am_K} {strs : List Nat} {Φ : am_Q → Prop} {D : Nat} {M : am_M} {h : am_H} {l : am_L} (c : hp_C cst strs D) (hM : m_P[412]? = some M) (hD : (2 : Int) ≤ (D : Int) + 1) (hy : ly_hy m_tt ly_TH h) (a b d ma mb md : Int) (ba : 0 ≤ a) (ta : a ≤ 10) (bb : 0 ≤ b) (tb : b ≤ 10) (bd : 0 ≤ d) (td : d ≤ 10) (bma : 0 ≤ ma) (tma : ma ≤ 10) (bmb : 0 ≤ mb) (tmb : mb ≤ 10) (bmd : 0 ≤ md) (tmd : md ≤ 10) (k0 : ly_hv cst h 44288 0 = some ma) (k1 : ly_hv cst h 44288 1 = some mb) (k2 : ly_hv cst h 44288 2 = some md) (l0 : hp_a l 0 94) (l1 : hp_i l 1 7) (l2 : hp_i l 2 a) (l3 : hp_i l 3 b) (l4 : hp_i l 4 d) (r : ∀ (h' : am_H) (x : Int32), x.toInt = rc (ly_hv cst h 44032) (ly_hv cst h 44288) 7 a b d → ly_hy m_tt ly_TH h' → ly_fr cst [] h h' → h.length ≤ h'.length → Φ (some (.int x), h', 0, 0)) : hp_F cst strs Φ D M 0 l [] h := by
  have e := rc_of (f := ly_hv cst h 44032) (s := 7) (a := a) (b := b) (d := d) k0 k1 k2
  by_cases g0 : a < ma
  case neg =>
    exact rc7n0 c hM hD hy a b d ma mb md  ba ta bb tb bd td bma tma bmb tmb bmd tmd  (by omega) k0 k1 k2  l0 l1 l2 l3 l4 (fun h' x hx => r h' x (by rw [hx, e]; unfold rc_v; rw [if_neg (by decide), if_neg (by decide), if_neg (by decide), if_neg (by decide), if_neg (by decide), if_neg (by decide), if_neg (by omega)]))
  obtain ⟨u, hu, u0, u1⟩ := hp_row (cst := cst) (i := a) hy th_RL (by omega) (by omega)
  have du := hp_dvb u0 u1
  by_cases g1 : b < mb
  case neg =>
    exact rc7n1 c hM hD hy a b d ma mb md u ba ta bb tb bd td bma tma bmb tmb bmd tmd u0 u1 (by omega) (by omega) k0 k1 k2 hu l0 l1 l2 l3 l4 (fun h' x hx => r h' x (by rw [hx, e]; unfold rc_v; rw [if_neg (by decide), if_neg (by decide), if_neg (by decide), if_neg (by decide), if_neg (by decide), if_neg (by decide), if_neg (by omega)]))
  obtain ⟨v, hv, v0, v1⟩ := hp_row (cst := cst) (i := b + 10) hy th_RL (by omega) (by omega)
  have dv := hp_dvb v0 v1
  by_cases g2 : d < md
  case neg =>
    exact rc7n2 c hM hD hy a b d ma mb md u v ba ta bb tb bd td bma tma bmb tmb bmd tmd u0 u1 v0 v1 (by omega) (by omega) (by omega) k0 k1 k2 hu hv l0 l1 l2 l3 l4 (fun h' x hx => r h' x (by rw [hx, e]; unfold rc_v; rw [if_neg (by decide), if_neg (by decide), if_neg (by decide), if_neg (by decide), if_neg (by decide), if_neg (by decide), if_neg (by omega)]))
  obtain ⟨w, hw, w0, w1⟩ := hp_row (cst := cst) (i := d + 20) hy th_RL (by omega) (by omega)
  have dw := hp_dvb w0 w1
  have e2 : rc (ly_hv cst h 44032) (ly_hv cst h 44288) 7 a b d = rc_c v u + rc_c w u + rc_c w v := by
    rw [e, show ly_hv cst h 44032 a = some u from hu, show ly_hv cst h 44032 (b + 10) = some v from hv, show ly_hv cst h 44032 (d + 20) = some w from hw]; unfold rc_v; rw [if_neg (by decide), if_neg (by decide), if_neg (by decide), if_neg (by decide), if_neg (by decide), if_neg (by decide), if_pos ⟨g0, g1, g2⟩] <;> rfl
  by_cases q : v = u
  case pos =>
    rw [q] at hv
    by_cases q1 : w = u
    case pos => rw [q1] at hw; exact rc7a c hM hD hy a b d ma mb md u ba ta bb tb bd td bma tma bmb tmb bmd tmd u0 u1 (by omega) (by omega) (by omega) k0 k1 k2 hu hv hw  l0 l1 l2 l3 l4 (fun h' z hx => r h' z (by rw [hx, e2, q, q1, rc_c0] <;> rfl))
    have n1 : ly_hv cst h 61000 (w - u) = some 1 := hp_ne (by omega)
    by_cases q2 : w.tdiv 10 = u.tdiv 10
    case pos => exact rc7b c hM hD hy a b d ma mb md (w.tdiv 10) u w ba ta bb tb bd td bma tma bmb tmb bmd tmd dw.1 dw.2 u0 u1 w0 w1 (by omega) (by omega) (by omega) k0 k1 k2 hu hv hw n1 (hp_dv _) (by rw [q2]; exact hp_dv _) l0 l1 l2 l3 l4 (fun h' z hx => r h' z (by rw [hx, e2, q, rc_c0, rc_c1 q1 q2] <;> rfl))
    exact rc7c c hM hD hy a b d ma mb md (u.tdiv 10) (w.tdiv 10) u w ba ta bb tb bd td bma tma bmb tmb bmd tmd du.1 du.2 dw.1 dw.2 u0 u1 w0 w1 (by omega) (by omega) (by omega) k0 k1 k2 hu hv hw n1 (hp_dv _) (hp_dv _) (hp_ne (by omega)) l0 l1 l2 l3 l4 (fun h' z hx => r h' z (by rw [hx, e2, q, rc_c0, rc_c4 q1 q2] <;> rfl))
  have n0 : ly_hv cst h 61000 (v - u) = some 1 := hp_ne (by omega)
  by_cases q1 : w = u
  case pos =>
    rw [q1] at hw
    have q' : u ≠ v := fun t => q t.symm
    by_cases q2 : v.tdiv 10 = u.tdiv 10
    case pos => exact rc7d c hM hD hy a b d ma mb md (v.tdiv 10) u v ba ta bb tb bd td bma tma bmb tmb bmd tmd dv.1 dv.2 u0 u1 v0 v1 (by omega) (by omega) (by omega) k0 k1 k2 hu hv hw n0 (hp_dv _) (by rw [q2]; exact hp_dv _) l0 l1 l2 l3 l4 (fun h' z hx => r h' z (by rw [hx, e2, q1, rc_c0, rc_c1 q q2, rc_c1 q' q2.symm] <;> rfl))
    exact rc7e c hM hD hy a b d ma mb md (u.tdiv 10) (v.tdiv 10) u v ba ta bb tb bd td bma tma bmb tmb bmd tmd du.1 du.2 dv.1 dv.2 u0 u1 v0 v1 (by omega) (by omega) (by omega) k0 k1 k2 hu hv hw n0 (hp_dv _) (hp_dv _) (hp_ne (by omega)) l0 l1 l2 l3 l4 (fun h' z hx => r h' z (by rw [hx, e2, q1, rc_c0, rc_c4 q q2, rc_c4 q' (fun t => q2 t.symm)] <;> rfl))
  by_cases q3 : w = v
  case pos =>
    rw [q3] at hw
    by_cases q2 : v.tdiv 10 = u.tdiv 10
    case pos => exact rc7f c hM hD hy a b d ma mb md (v.tdiv 10) u v ba ta bb tb bd td bma tma bmb tmb bmd tmd dv.1 dv.2 u0 u1 v0 v1 (by omega) (by omega) (by omega) k0 k1 k2 hu hv hw n0 (hp_dv _) (by rw [q2]; exact hp_dv _) l0 l1 l2 l3 l4 (fun h' z hx => r h' z (by rw [hx, e2, q3, rc_c0, rc_c1 q q2] <;> rfl))
    exact rc7g c hM hD hy a b d ma mb md (u.tdiv 10) (v.tdiv 10) u v ba ta bb tb bd td bma tma bmb tmb bmd tmd du.1 du.2 dv.1 dv.2 u0 u1 v0 v1 (by omega) (by omega) (by omega) k0 k1 k2 hu hv hw n0 (hp_dv _) (hp_dv _) (hp_ne (by omega)) l0 l1 l2 l3 l4 (fun h' z hx => r h' z (by rw [hx, e2, q3, rc_c0, rc_c4 q q2] <;> rfl))
  have n1 : ly_hv cst h 61000 (w - u) = some 1 := hp_ne (by omega)
  have n2 : ly_hv cst h 61000 (w - v) = some 1 := hp_ne (by omega)
  by_cases p1 : v.tdiv 10 = u.tdiv 10
  case pos =>
    by_cases p2 : w.tdiv 10 = u.tdiv 10
    case pos => exact rc7h c hM hD hy a b d ma mb md (u.tdiv 10) u v w ba ta bb tb bd td bma tma bmb tmb bmd tmd du.1 du.2 u0 u1 v0 v1 w0 w1 (by omega) (by omega) (by omega) k0 k1 k2 hu hv hw n0 n1 n2 (hp_dv _) (by rw [← p1]; exact hp_dv _) (by rw [← p2]; exact hp_dv _) l0 l1 l2 l3 l4 (fun h' z hx => r h' z (by rw [hx, e2, rc_c1 q p1, rc_c1 q1 p2, rc_c1 q3 (p2.trans p1.symm)] <;> rfl))
    exact rc7i c hM hD hy a b d ma mb md (u.tdiv 10) (w.tdiv 10) u v w ba ta bb tb bd td bma tma bmb tmb bmd tmd du.1 du.2 dw.1 dw.2 u0 u1 v0 v1 w0 w1 (by omega) (by omega) (by omega) k0 k1 k2 hu hv hw n0 n1 n2 (hp_dv _) (by rw [← p1]; exact hp_dv _) (hp_dv _) (hp_ne (by omega)) l0 l1 l2 l3 l4 (fun h' z hx => r h' z (by rw [hx, e2, rc_c1 q p1, rc_c4 q1 p2, rc_c4 q3 (fun t => p2 (t.trans p1))] <;> rfl))
  by_cases p2 : w.tdiv 10 = u.tdiv 10
  case pos => exact rc7j c hM hD hy a b d ma mb md (u.tdiv 10) (v.tdiv 10) u v w ba ta bb tb bd td bma tma bmb tmb bmd tmd du.1 du.2 dv.1 dv.2 u0 u1 v0 v1 w0 w1 (by omega) (by omega) (by omega) k0 k1 k2 hu hv hw n0 n1 n2 (hp_dv _) (hp_dv _) (by rw [← p2]; exact hp_dv _) (hp_ne (by omega)) l0 l1 l2 l3 l4 (fun h' z hx => r h' z (by rw [hx, e2, rc_c4 q p1, rc_c1 q1 p2, rc_c4 q3 (fun t => p1 (t.symm.trans p2))] <;> rfl))
  by_cases p3 : w.tdiv 10 = v.tdiv 10
  case pos => exact rc7k c hM hD hy a b d ma mb md (u.tdiv 10) (v.tdiv 10) u v w ba ta bb tb bd td bma tma bmb tmb bmd tmd du.1 du.2 dv.1 dv.2 u0 u1 v0 v1 w0 w1 (by omega) (by omega) (by omega) k0 k1 k2 hu hv hw n0 n1 n2 (hp_dv _) (hp_dv _) (by rw [← p3]; exact hp_dv _) (hp_ne (by omega)) l0 l1 l2 l3 l4 (fun h' z hx => r h' z (by rw [hx, e2, rc_c4 q p1, rc_c4 q1 p2, rc_c1 q3 p3] <;> rfl))
  exact rc7l c hM hD hy a b d ma mb md (u.tdiv 10) (v.tdiv 10) (w.tdiv 10) u v w ba ta bb tb bd td bma tma bmb tmb bmd tmd du.1 du.2 dv.1 dv.2 dw.1 dw.2 u0 u1 v0 v1 w0 w1 (by omega) (by omega) (by omega) k0 k1 k2 hu hv hw n0 n1 n2 (hp_dv _) (hp_dv _) (hp_dv _) (hp_ne (by omega)) (hp_ne (by omega)) (hp_ne (by omega)) l0 l1 l2 l3 l4 (fun h' z hx => r h' z (by rw [hx, e2, rc_c4 q p1, rc_c4 q1 p2, rc_c4 q3 p3] <;> rfl))
theorem rcs3 {cst : am_K} {strs : List Nat} {Φ : am_Q → Prop} {D : Nat} {M : am_M} {h : am_H} {l : am_L} (c : hp_C cst strs D) (hM : m_P[412]? = some M) (hD : (2 : Int) ≤ (D : Int) + 1) (hy : ly_hy m_tt ly_TH h) (a b d ma mb md : Int) (ba : 0 ≤ a) (ta : a ≤ 10) (bb : 0 ≤ b) (tb : b ≤ 10) (bd : 0 ≤ d) (td : d ≤ 10) (bma : 0 ≤ ma) (tma : ma ≤ 10) (bmb : 0 ≤ mb) (tmb : mb ≤ 10) (bmd : 0 ≤ md) (tmd : md ≤ 10) (k0 : ly_hv cst h 44288 0 = some ma) (k1 : ly_hv cst h 44288 1 = some mb) (k2 : ly_hv cst h 44288 2 = some md) (l0 : hp_a l 0 94) (l1 : hp_i l 1 3) (l2 : hp_i l 2 a) (l3 : hp_i l 3 b) (l4 : hp_i l 4 d) (r : ∀ (h' : am_H) (x : Int32), x.toInt = rc (ly_hv cst h 44032) (ly_hv cst h 44288) 3 a b d → ly_hy m_tt ly_TH h' → ly_fr cst [] h h' → h.length ≤ h'.length → Φ (some (.int x), h', 0, 0)) : hp_F cst strs Φ D M 0 l [] h := by
  have e := rc_of (f := ly_hv cst h 44032) (s := 3) (a := a) (b := b) (d := d) k0 k1 k2
  by_cases g0 : a < ma
  case neg =>
    exact rc3n0 c hM hD hy a b d ma mb md  ba ta bb tb bd td bma tma bmb tmb bmd tmd  (by omega) k0 k1 k2  l0 l1 l2 l3 l4 (fun h' x hx => r h' x (by rw [hx, e]; unfold rc_v; rw [if_neg (by decide), if_neg (by decide), if_neg (by decide), if_pos rfl, if_neg (by omega)]))
  obtain ⟨u, hu, u0, u1⟩ := hp_row (cst := cst) (i := a) hy th_RL (by omega) (by omega)
  have du := hp_dvb u0 u1
  by_cases g1 : b < mb
  case neg =>
    exact rc3n1 c hM hD hy a b d ma mb md u ba ta bb tb bd td bma tma bmb tmb bmd tmd u0 u1 (by omega) (by omega) k0 k1 k2 hu l0 l1 l2 l3 l4 (fun h' x hx => r h' x (by rw [hx, e]; unfold rc_v; rw [if_neg (by decide), if_neg (by decide), if_neg (by decide), if_pos rfl, if_neg (by omega)]))
  obtain ⟨v, hv, v0, v1⟩ := hp_row (cst := cst) (i := b + 10) hy th_RL (by omega) (by omega)
  have dv := hp_dvb v0 v1
  have e2 : rc (ly_hv cst h 44032) (ly_hv cst h 44288) 3 a b d = rc_c v u + 1 := by
    rw [e, show ly_hv cst h 44032 (a) = some u from hu, show ly_hv cst h 44032 (b + 10) = some v from hv]; unfold rc_v; rw [if_neg (by decide), if_neg (by decide), if_neg (by decide), if_pos rfl, if_pos ⟨g0, g1⟩] <;> rfl
  by_cases q : v = u
  case pos => rw [q] at hv; exact rc3a c hM hD hy a b d ma mb md u ba ta bb tb bd td bma tma bmb tmb bmd tmd u0 u1 (by omega) (by omega) k0 k1 k2 hu hv l0 l1 l2 l3 l4 (fun h' z hx => r h' z (by rw [hx, e2, q, rc_c0] <;> rfl))
  have hn : ly_hv cst h 61000 (v - u) = some 1 := hp_ne (by omega)
  by_cases q2 : v.tdiv 10 = u.tdiv 10
  case pos => exact rc3b c hM hD hy a b d ma mb md (v.tdiv 10) u v ba ta bb tb bd td bma tma bmb tmb bmd tmd dv.1 dv.2 u0 u1 v0 v1 (by omega) (by omega) k0 k1 k2 hu hv hn (hp_dv _) (by rw [q2]; exact hp_dv _) l0 l1 l2 l3 l4 (fun h' z hx => r h' z (by rw [hx, e2, rc_c1 q q2] <;> rfl))
  exact rc3c c hM hD hy a b d ma mb md (u.tdiv 10) (v.tdiv 10) u v ba ta bb tb bd td bma tma bmb tmb bmd tmd du.1 du.2 dv.1 dv.2 u0 u1 v0 v1 (by omega) (by omega) k0 k1 k2 hu hv hn (hp_dv _) (hp_dv _) (hp_ne (by omega)) l0 l1 l2 l3 l4 (fun h' z hx => r h' z (by rw [hx, e2, rc_c4 q q2] <;> rfl))
theorem rcs5 {cst : am_K} {strs : List Nat} {Φ : am_Q → Prop} {D : Nat} {M : am_M} {h : am_H} {l : am_L} (c : hp_C cst strs D) (hM : m_P[412]? = some M) (hD : (2 : Int) ≤ (D : Int) + 1) (hy : ly_hy m_tt ly_TH h) (a b d ma mb md : Int) (ba : 0 ≤ a) (ta : a ≤ 10) (bb : 0 ≤ b) (tb : b ≤ 10) (bd : 0 ≤ d) (td : d ≤ 10) (bma : 0 ≤ ma) (tma : ma ≤ 10) (bmb : 0 ≤ mb) (tmb : mb ≤ 10) (bmd : 0 ≤ md) (tmd : md ≤ 10) (k0 : ly_hv cst h 44288 0 = some ma) (k1 : ly_hv cst h 44288 1 = some mb) (k2 : ly_hv cst h 44288 2 = some md) (l0 : hp_a l 0 94) (l1 : hp_i l 1 5) (l2 : hp_i l 2 a) (l3 : hp_i l 3 b) (l4 : hp_i l 4 d) (r : ∀ (h' : am_H) (x : Int32), x.toInt = rc (ly_hv cst h 44032) (ly_hv cst h 44288) 5 a b d → ly_hy m_tt ly_TH h' → ly_fr cst [] h h' → h.length ≤ h'.length → Φ (some (.int x), h', 0, 0)) : hp_F cst strs Φ D M 0 l [] h := by
  have e := rc_of (f := ly_hv cst h 44032) (s := 5) (a := a) (b := b) (d := d) k0 k1 k2
  by_cases g0 : a < ma
  case neg =>
    exact rc5n0 c hM hD hy a b d ma mb md  ba ta bb tb bd td bma tma bmb tmb bmd tmd  (by omega) k0 k1 k2  l0 l1 l2 l3 l4 (fun h' x hx => r h' x (by rw [hx, e]; unfold rc_v; rw [if_neg (by decide), if_neg (by decide), if_neg (by decide), if_neg (by decide), if_pos rfl, if_neg (by omega)]))
  obtain ⟨u, hu, u0, u1⟩ := hp_row (cst := cst) (i := a) hy th_RL (by omega) (by omega)
  have du := hp_dvb u0 u1
  by_cases g1 : d < md
  case neg =>
    exact rc5n1 c hM hD hy a b d ma mb md u ba ta bb tb bd td bma tma bmb tmb bmd tmd u0 u1 (by omega) (by omega) k0 k1 k2 hu l0 l1 l2 l3 l4 (fun h' x hx => r h' x (by rw [hx, e]; unfold rc_v; rw [if_neg (by decide), if_neg (by decide), if_neg (by decide), if_neg (by decide), if_pos rfl, if_neg (by omega)]))
  obtain ⟨w, hw, w0, w1⟩ := hp_row (cst := cst) (i := d + 20) hy th_RL (by omega) (by omega)
  have dw := hp_dvb w0 w1
  have e2 : rc (ly_hv cst h 44032) (ly_hv cst h 44288) 5 a b d = rc_c w u + 1 := by
    rw [e, show ly_hv cst h 44032 (a) = some u from hu, show ly_hv cst h 44032 (d + 20) = some w from hw]; unfold rc_v; rw [if_neg (by decide), if_neg (by decide), if_neg (by decide), if_neg (by decide), if_pos rfl, if_pos ⟨g0, g1⟩] <;> rfl
  by_cases q : w = u
  case pos => rw [q] at hw; exact rc5a c hM hD hy a b d ma mb md u ba ta bb tb bd td bma tma bmb tmb bmd tmd u0 u1 (by omega) (by omega) k0 k1 k2 hu hw l0 l1 l2 l3 l4 (fun h' z hx => r h' z (by rw [hx, e2, q, rc_c0] <;> rfl))
  have hn : ly_hv cst h 61000 (w - u) = some 1 := hp_ne (by omega)
  by_cases q2 : w.tdiv 10 = u.tdiv 10
  case pos => exact rc5b c hM hD hy a b d ma mb md (w.tdiv 10) u w ba ta bb tb bd td bma tma bmb tmb bmd tmd dw.1 dw.2 u0 u1 w0 w1 (by omega) (by omega) k0 k1 k2 hu hw hn (hp_dv _) (by rw [q2]; exact hp_dv _) l0 l1 l2 l3 l4 (fun h' z hx => r h' z (by rw [hx, e2, rc_c1 q q2] <;> rfl))
  exact rc5c c hM hD hy a b d ma mb md (u.tdiv 10) (w.tdiv 10) u w ba ta bb tb bd td bma tma bmb tmb bmd tmd du.1 du.2 dw.1 dw.2 u0 u1 w0 w1 (by omega) (by omega) k0 k1 k2 hu hw hn (hp_dv _) (hp_dv _) (hp_ne (by omega)) l0 l1 l2 l3 l4 (fun h' z hx => r h' z (by rw [hx, e2, rc_c4 q q2] <;> rfl))
theorem rcs6 {cst : am_K} {strs : List Nat} {Φ : am_Q → Prop} {D : Nat} {M : am_M} {h : am_H} {l : am_L} (c : hp_C cst strs D) (hM : m_P[412]? = some M) (hD : (2 : Int) ≤ (D : Int) + 1) (hy : ly_hy m_tt ly_TH h) (a b d ma mb md : Int) (ba : 0 ≤ a) (ta : a ≤ 10) (bb : 0 ≤ b) (tb : b ≤ 10) (bd : 0 ≤ d) (td : d ≤ 10) (bma : 0 ≤ ma) (tma : ma ≤ 10) (bmb : 0 ≤ mb) (tmb : mb ≤ 10) (bmd : 0 ≤ md) (tmd : md ≤ 10) (k0 : ly_hv cst h 44288 0 = some ma) (k1 : ly_hv cst h 44288 1 = some mb) (k2 : ly_hv cst h 44288 2 = some md) (l0 : hp_a l 0 94) (l1 : hp_i l 1 6) (l2 : hp_i l 2 a) (l3 : hp_i l 3 b) (l4 : hp_i l 4 d) (r : ∀ (h' : am_H) (x : Int32), x.toInt = rc (ly_hv cst h 44032) (ly_hv cst h 44288) 6 a b d → ly_hy m_tt ly_TH h' → ly_fr cst [] h h' → h.length ≤ h'.length → Φ (some (.int x), h', 0, 0)) : hp_F cst strs Φ D M 0 l [] h := by
  have e := rc_of (f := ly_hv cst h 44032) (s := 6) (a := a) (b := b) (d := d) k0 k1 k2
  by_cases g0 : b < mb
  case neg =>
    exact rc6n0 c hM hD hy a b d ma mb md  ba ta bb tb bd td bma tma bmb tmb bmd tmd  (by omega) k0 k1 k2  l0 l1 l2 l3 l4 (fun h' x hx => r h' x (by rw [hx, e]; unfold rc_v; rw [if_neg (by decide), if_neg (by decide), if_neg (by decide), if_neg (by decide), if_neg (by decide), if_pos rfl, if_neg (by omega)]))
  obtain ⟨v, hv, v0, v1⟩ := hp_row (cst := cst) (i := b + 10) hy th_RL (by omega) (by omega)
  have dv := hp_dvb v0 v1
  by_cases g1 : d < md
  case neg =>
    exact rc6n1 c hM hD hy a b d ma mb md v ba ta bb tb bd td bma tma bmb tmb bmd tmd v0 v1 (by omega) (by omega) k0 k1 k2 hv l0 l1 l2 l3 l4 (fun h' x hx => r h' x (by rw [hx, e]; unfold rc_v; rw [if_neg (by decide), if_neg (by decide), if_neg (by decide), if_neg (by decide), if_neg (by decide), if_pos rfl, if_neg (by omega)]))
  obtain ⟨w, hw, w0, w1⟩ := hp_row (cst := cst) (i := d + 20) hy th_RL (by omega) (by omega)
  have dw := hp_dvb w0 w1
  have e2 : rc (ly_hv cst h 44032) (ly_hv cst h 44288) 6 a b d = rc_c w v + 1 := by
    rw [e, show ly_hv cst h 44032 (b + 10) = some v from hv, show ly_hv cst h 44032 (d + 20) = some w from hw]; unfold rc_v; rw [if_neg (by decide), if_neg (by decide), if_neg (by decide), if_neg (by decide), if_neg (by decide), if_pos rfl, if_pos ⟨g0, g1⟩] <;> rfl
  by_cases q : w = v
  case pos => rw [q] at hw; exact rc6a c hM hD hy a b d ma mb md v ba ta bb tb bd td bma tma bmb tmb bmd tmd v0 v1 (by omega) (by omega) k0 k1 k2 hv hw l0 l1 l2 l3 l4 (fun h' z hx => r h' z (by rw [hx, e2, q, rc_c0] <;> rfl))
  have hn : ly_hv cst h 61000 (w - v) = some 1 := hp_ne (by omega)
  by_cases q2 : w.tdiv 10 = v.tdiv 10
  case pos => exact rc6b c hM hD hy a b d ma mb md (w.tdiv 10) v w ba ta bb tb bd td bma tma bmb tmb bmd tmd dw.1 dw.2 v0 v1 w0 w1 (by omega) (by omega) k0 k1 k2 hv hw hn (hp_dv _) (by rw [q2]; exact hp_dv _) l0 l1 l2 l3 l4 (fun h' z hx => r h' z (by rw [hx, e2, rc_c1 q q2] <;> rfl))
  exact rc6c c hM hD hy a b d ma mb md (v.tdiv 10) (w.tdiv 10) v w ba ta bb tb bd td bma tma bmb tmb bmd tmd dv.1 dv.2 dw.1 dw.2 v0 v1 w0 w1 (by omega) (by omega) k0 k1 k2 hv hw hn (hp_dv _) (hp_dv _) (hp_ne (by omega)) l0 l1 l2 l3 l4 (fun h' z hx => r h' z (by rw [hx, e2, rc_c4 q q2] <;> rfl))
theorem rcs1 {cst : am_K} {strs : List Nat} {Φ : am_Q → Prop} {D : Nat} {M : am_M} {h : am_H} {l : am_L} (c : hp_C cst strs D) (hM : m_P[412]? = some M) (hD : (2 : Int) ≤ (D : Int) + 1) (hy : ly_hy m_tt ly_TH h) (a b d ma mb md : Int) (ba : 0 ≤ a) (ta : a ≤ 10) (bb : 0 ≤ b) (tb : b ≤ 10) (bd : 0 ≤ d) (td : d ≤ 10) (bma : 0 ≤ ma) (tma : ma ≤ 10) (bmb : 0 ≤ mb) (tmb : mb ≤ 10) (bmd : 0 ≤ md) (tmd : md ≤ 10) (k0 : ly_hv cst h 44288 0 = some ma) (k1 : ly_hv cst h 44288 1 = some mb) (k2 : ly_hv cst h 44288 2 = some md) (l0 : hp_a l 0 94) (l1 : hp_i l 1 1) (l2 : hp_i l 2 a) (l3 : hp_i l 3 b) (l4 : hp_i l 4 d) (r : ∀ (h' : am_H) (x : Int32), x.toInt = rc (ly_hv cst h 44032) (ly_hv cst h 44288) 1 a b d → ly_hy m_tt ly_TH h' → ly_fr cst [] h h' → h.length ≤ h'.length → Φ (some (.int x), h', 0, 0)) : hp_F cst strs Φ D M 0 l [] h := by
  have e := rc_of (f := ly_hv cst h 44032) (s := 1) (a := a) (b := b) (d := d) k0 k1 k2
  by_cases g0 : a < ma
  case neg =>
    exact rc1n0 c hM hD hy a b d ma mb md  ba ta bb tb bd td bma tma bmb tmb bmd tmd  (by omega) k0 k1 k2  l0 l1 l2 l3 l4 (fun h' x hx => r h' x (by rw [hx, e]; unfold rc_v; rw [if_pos rfl, if_neg (by omega)]))
  exact rc1 c hM hD hy a b d ma mb md ba ta bb tb bd td bma tma bmb tmb bmd tmd (by omega) k0 k1 k2 l0 l1 l2 l3 l4 (fun h' x hx => r h' x (by rw [hx, e]; unfold rc_v; rw [if_pos rfl, if_pos g0]))
theorem rcs2 {cst : am_K} {strs : List Nat} {Φ : am_Q → Prop} {D : Nat} {M : am_M} {h : am_H} {l : am_L} (c : hp_C cst strs D) (hM : m_P[412]? = some M) (hD : (2 : Int) ≤ (D : Int) + 1) (hy : ly_hy m_tt ly_TH h) (a b d ma mb md : Int) (ba : 0 ≤ a) (ta : a ≤ 10) (bb : 0 ≤ b) (tb : b ≤ 10) (bd : 0 ≤ d) (td : d ≤ 10) (bma : 0 ≤ ma) (tma : ma ≤ 10) (bmb : 0 ≤ mb) (tmb : mb ≤ 10) (bmd : 0 ≤ md) (tmd : md ≤ 10) (k0 : ly_hv cst h 44288 0 = some ma) (k1 : ly_hv cst h 44288 1 = some mb) (k2 : ly_hv cst h 44288 2 = some md) (l0 : hp_a l 0 94) (l1 : hp_i l 1 2) (l2 : hp_i l 2 a) (l3 : hp_i l 3 b) (l4 : hp_i l 4 d) (r : ∀ (h' : am_H) (x : Int32), x.toInt = rc (ly_hv cst h 44032) (ly_hv cst h 44288) 2 a b d → ly_hy m_tt ly_TH h' → ly_fr cst [] h h' → h.length ≤ h'.length → Φ (some (.int x), h', 0, 0)) : hp_F cst strs Φ D M 0 l [] h := by
  have e := rc_of (f := ly_hv cst h 44032) (s := 2) (a := a) (b := b) (d := d) k0 k1 k2
  by_cases g0 : b < mb
  case neg =>
    exact rc2n0 c hM hD hy a b d ma mb md  ba ta bb tb bd td bma tma bmb tmb bmd tmd  (by omega) k0 k1 k2  l0 l1 l2 l3 l4 (fun h' x hx => r h' x (by rw [hx, e]; unfold rc_v; rw [if_neg (by decide), if_pos rfl, if_neg (by omega)]))
  exact rc2 c hM hD hy a b d ma mb md ba ta bb tb bd td bma tma bmb tmb bmd tmd (by omega) k0 k1 k2 l0 l1 l2 l3 l4 (fun h' x hx => r h' x (by rw [hx, e]; unfold rc_v; rw [if_neg (by decide), if_pos rfl, if_pos g0]))
theorem rcs4 {cst : am_K} {strs : List Nat} {Φ : am_Q → Prop} {D : Nat} {M : am_M} {h : am_H} {l : am_L} (c : hp_C cst strs D) (hM : m_P[412]? = some M) (hD : (2 : Int) ≤ (D : Int) + 1) (hy : ly_hy m_tt ly_TH h) (a b d ma mb md : Int) (ba : 0 ≤ a) (ta : a ≤ 10) (bb : 0 ≤ b) (tb : b ≤ 10) (bd : 0 ≤ d) (td : d ≤ 10) (bma : 0 ≤ ma) (tma : ma ≤ 10) (bmb : 0 ≤ mb) (tmb : mb ≤ 10) (bmd : 0 ≤ md) (tmd : md ≤ 10) (k0 : ly_hv cst h 44288 0 = some ma) (k1 : ly_hv cst h 44288 1 = some mb) (k2 : ly_hv cst h 44288 2 = some md) (l0 : hp_a l 0 94) (l1 : hp_i l 1 4) (l2 : hp_i l 2 a) (l3 : hp_i l 3 b) (l4 : hp_i l 4 d) (r : ∀ (h' : am_H) (x : Int32), x.toInt = rc (ly_hv cst h 44032) (ly_hv cst h 44288) 4 a b d → ly_hy m_tt ly_TH h' → ly_fr cst [] h h' → h.length ≤ h'.length → Φ (some (.int x), h', 0, 0)) : hp_F cst strs Φ D M 0 l [] h := by
  have e := rc_of (f := ly_hv cst h 44032) (s := 4) (a := a) (b := b) (d := d) k0 k1 k2
  by_cases g0 : d < md
  case neg =>
    exact rc4n0 c hM hD hy a b d ma mb md  ba ta bb tb bd td bma tma bmb tmb bmd tmd  (by omega) k0 k1 k2  l0 l1 l2 l3 l4 (fun h' x hx => r h' x (by rw [hx, e]; unfold rc_v; rw [if_neg (by decide), if_neg (by decide), if_pos rfl, if_neg (by omega)]))
  exact rc4 c hM hD hy a b d ma mb md ba ta bb tb bd td bma tma bmb tmb bmd tmd (by omega) k0 k1 k2 l0 l1 l2 l3 l4 (fun h' x hx => r h' x (by rw [hx, e]; unfold rc_v; rw [if_neg (by decide), if_neg (by decide), if_pos rfl, if_pos g0]))
/-- rowCost as a call -/
def rc_Φ (cst : am_K) (h : am_H) (z : Int) (r : am_Q) : Prop := (∃ x : Int32, r.1 = some (.int x) ∧ x.toInt = z) ∧ r.2.2.1 = 0 ∧ r.2.2.2 = 0 ∧ ly_hy m_tt ly_TH r.2.1 ∧ ly_fr cst [] h r.2.1 ∧ h.length ≤ r.2.1.length
theorem rc_run {cst : am_K} {strs : List Nat} {D : Nat} {h : am_H} (c : hp_C cst strs D) (hD : (2 : Int) ≤ (D : Int) + 1) (hy : ly_hy m_tt ly_TH h) {xs xa xb xd : Int32} (hs : xs.toInt = 7 ∨ xs.toInt = 3 ∨ xs.toInt = 5 ∨ xs.toInt = 6 ∨ xs.toInt = 1 ∨ xs.toInt = 2 ∨ xs.toInt = 4) (a0 : 0 ≤ xa.toInt) (a1 : xa.toInt ≤ 10) (b0 : 0 ≤ xb.toInt) (b1 : xb.toInt ≤ 10) (d0 : 0 ≤ xd.toInt) (d1 : xd.toInt ≤ 10) :
    ∃ r, am_Run cst m_cl m_tt m_P strs sx_bi (D + 1) 412 [.ref 94, .int xs, .int xa, .int xb, .int xd] h r ∧ rc_Φ cst h (rc (ly_hv cst h 44032) (ly_hv cst h 44288) xs.toInt xa.toInt xb.toInt xd.toInt) r := by
  obtain ⟨M, hM, hl⟩ := hp_M (mi := 412) (k := 5) (by decide +kernel)
  obtain ⟨ma, k0, p0, p1⟩ := hp_row (cst := cst) (i := 0) hy th_RM (by omega) (by omega)
  obtain ⟨mb, k1, q0, q1⟩ := hp_row (cst := cst) (i := 1) hy th_RM (by omega) (by omega)
  obtain ⟨md, k2, r0, r1⟩ := hp_row (cst := cst) (i := 2) hy th_RM (by omega) (by omega)
  have go : hp_F cst strs (rc_Φ cst h (rc (ly_hv cst h 44032) (ly_hv cst h 44288) xs.toInt xa.toInt xb.toInt xd.toInt)) D M 0 (lv_args 0 [.ref 94, .int xs, .int xa, .int xb, .int xd]) [] h := by
    have fin : ∀ (h' : am_H) (x : Int32), x.toInt = rc (ly_hv cst h 44032) (ly_hv cst h 44288) xs.toInt xa.toInt xb.toInt xd.toInt → ly_hy m_tt ly_TH h' → ly_fr cst [] h h' → h.length ≤ h'.length → rc_Φ cst h (rc (ly_hv cst h 44032) (ly_hv cst h 44288) xs.toInt xa.toInt xb.toInt xd.toInt) (some (.int x), h', 0, 0) := fun h' x hx u1 u2 u3 => ⟨⟨x, rfl, hx⟩, rfl, rfl, u1, u2, u3⟩
    rcases hs with e | e | e | e | e | e | e <;> rw [e] at fin ⊢
    · exact rcs7 c hM hD hy xa.toInt xb.toInt xd.toInt ma mb md a0 a1 b0 b1 d0 d1 p0 p1 q0 q1 r0 r1 k0 k1 k2 rfl ⟨xs, rfl, e⟩ ⟨xa, rfl, rfl⟩ ⟨xb, rfl, rfl⟩ ⟨xd, rfl, rfl⟩ fin
    · exact rcs3 c hM hD hy xa.toInt xb.toInt xd.toInt ma mb md a0 a1 b0 b1 d0 d1 p0 p1 q0 q1 r0 r1 k0 k1 k2 rfl ⟨xs, rfl, e⟩ ⟨xa, rfl, rfl⟩ ⟨xb, rfl, rfl⟩ ⟨xd, rfl, rfl⟩ fin
    · exact rcs5 c hM hD hy xa.toInt xb.toInt xd.toInt ma mb md a0 a1 b0 b1 d0 d1 p0 p1 q0 q1 r0 r1 k0 k1 k2 rfl ⟨xs, rfl, e⟩ ⟨xa, rfl, rfl⟩ ⟨xb, rfl, rfl⟩ ⟨xd, rfl, rfl⟩ fin
    · exact rcs6 c hM hD hy xa.toInt xb.toInt xd.toInt ma mb md a0 a1 b0 b1 d0 d1 p0 p1 q0 q1 r0 r1 k0 k1 k2 rfl ⟨xs, rfl, e⟩ ⟨xa, rfl, rfl⟩ ⟨xb, rfl, rfl⟩ ⟨xd, rfl, rfl⟩ fin
    · exact rcs1 c hM hD hy xa.toInt xb.toInt xd.toInt ma mb md a0 a1 b0 b1 d0 d1 p0 p1 q0 q1 r0 r1 k0 k1 k2 rfl ⟨xs, rfl, e⟩ ⟨xa, rfl, rfl⟩ ⟨xb, rfl, rfl⟩ ⟨xd, rfl, rfl⟩ fin
    · exact rcs2 c hM hD hy xa.toInt xb.toInt xd.toInt ma mb md a0 a1 b0 b1 d0 d1 p0 p1 q0 q1 r0 r1 k0 k1 k2 rfl ⟨xs, rfl, e⟩ ⟨xa, rfl, rfl⟩ ⟨xb, rfl, rfl⟩ ⟨xd, rfl, rfl⟩ fin
    · exact rcs4 c hM hD hy xa.toInt xb.toInt xd.toInt ma mb md a0 a1 b0 b1 d0 d1 p0 p1 q0 q1 r0 r1 k0 k1 k2 rfl ⟨xs, rfl, e⟩ ⟨xa, rfl, rfl⟩ ⟨xb, rfl, rfl⟩ ⟨xd, rfl, rfl⟩ fin
  obtain ⟨n, r, hgo, hx, h1, h2, h3⟩ := go
  simp only [Nat.zero_add] at h1 h2
  exact ⟨r, Or.inr ⟨M, n, hM, hl, hgo⟩, hx, h1, h2, h3⟩
