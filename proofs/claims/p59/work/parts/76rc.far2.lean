/-! PRINTED by wip/p2/hp_far2.py: far of class and reference, road with its ways -/
def fa_Φ (cst : am_K) (h : am_H) (mods : List Nat) (P : Int → Prop) (r : am_Q) : Prop := ∃ a : Int32, r.1 = some (.int a) ∧ r.2.2.1 = 0 ∧ r.2.2.2 = 0 ∧ ly_hy m_tt ly_TH r.2.1 ∧ ly_fr cst mods h r.2.1 ∧ P a.toInt
def fa_ok (s o : Int) : Prop := 0 ≤ s ∧ s ≤ 5 ∧ 0 ≤ o ∧ o ≤ 5
theorem db_run {cst : am_K} {strs : List Nat} {D : Nat} {h : am_H} (c : hp_C cst strs D) (hD : (2 : Int) ≤ (D : Int) + 1) (hy : ly_hy m_tt ly_TH h) {xs xo : Int32} (ok : fa_ok xs.toInt xo.toInt) {W : Int → Int} (H : fw_R (ly_hv cst h 16128) W) :
    ∃ r, am_Run cst m_cl m_tt m_P strs sx_bi (D + 1) 234 [.ref 77, .int xs, .int xo] h r ∧ fa_Φ cst h [] (fun a => a = W (6 * xs.toInt + xo.toInt)) r := by
  obtain ⟨M, hM, hl⟩ := hp_M (mi := 234) (k := 3) (by decide +kernel)
  obtain ⟨o1, o2, o3, o4⟩ := ok
  have go : hp_F cst strs (fa_Φ cst h [] (fun a => a = W (6 * xs.toInt + xo.toInt))) D M 0 (lv_args 0 [.ref 77, .int xs, .int xo]) [] h := by
    obtain ⟨v, hv, v0, v1⟩ := hp_row (cst := cst) (i := 6 * xs.toInt + xo.toInt) hy th_W (by omega) (by omega)
    have e : v = W (6 * xs.toInt + xo.toInt) := Option.some.inj (hv.symm.trans (H _ (by omega) (by omega)))
    exact fd0 c hM hD hy xs.toInt xo.toInt v o1 o2 o3 o4 v0 v1 hv rfl ⟨xs, rfl, rfl⟩ ⟨xo, rfl, rfl⟩ (fun h2 a ha u1 u2 u3 => ⟨a, rfl, rfl, rfl, u1, u2, by rw [ha]; exact e⟩)
  obtain ⟨n, r, hgo, a, r1, r2, r3, r4⟩ := go
  simp only [Nat.zero_add] at r2 r3
  exact ⟨r, Or.inr ⟨M, n, hM, hl, hgo⟩, a, r1, r2, r3, r4⟩
theorem fzc_run {cst : am_K} {strs : List Nat} {D : Nat} {h : am_H} (c1 : hp_C cst strs D) (c : hp_C cst strs (D + 1)) (hD : (3 : Int) ≤ (D : Int) + 1) (hy : ly_hy m_tt ly_TH h) {xs xo : Int32} {W : Int → Int} (H : fw_R (ly_hv cst h 16128) W) :
    ∃ r, am_Run cst m_cl m_tt m_P strs sx_bi (D + 1 + 1) 233 [.ref 16, .int xs, .int xo] h r ∧ fa_Φ cst h [] (fun a => (¬ fa_ok xs.toInt xo.toInt → a = -2) ∧ (fa_ok xs.toInt xo.toInt → a = W (6 * xs.toInt + xo.toInt))) r := by
  obtain ⟨M, hM, hl⟩ := hp_M (mi := 233) (k := 3) (by decide +kernel)
  have a0 := xs.le_toInt
  have a1 := xs.toInt_le
  have b0 := xo.le_toInt
  have b1 := xo.toInt_le
  have go : hp_F cst strs (fa_Φ cst h [] (fun a => (¬ fa_ok xs.toInt xo.toInt → a = -2) ∧ (fa_ok xs.toInt xo.toInt → a = W (6 * xs.toInt + xo.toInt)))) (D + 1) M 0 (lv_args 0 [.ref 16, .int xs, .int xo]) [] h := by
    have no : ¬ fa_ok xs.toInt xo.toInt → ∀ (h' : am_H) (w : Int32), w.toInt = -2 → ly_hy m_tt ly_TH h' → ly_fr cst [] h h' → h.length ≤ h'.length → fa_Φ cst h [] (fun a => (¬ fa_ok xs.toInt xo.toInt → a = -2) ∧ (fa_ok xs.toInt xo.toInt → a = W (6 * xs.toInt + xo.toInt))) (some (.int w), h', 0, 0) := fun nk h' w hw w1 w2 w3 => ⟨w, rfl, rfl, rfl, w1, w2, fun _ => hw, fun ok => absurd ok nk⟩
    by_cases p1 : xs.toInt ≤ -1
    · exact fzc0 c hM (by omega) hy xs.toInt xo.toInt a0 p1 b0 b1 rfl ⟨xs, rfl, rfl⟩ ⟨xo, rfl, rfl⟩ (no (fun k => by have := k.1; omega))
    by_cases p2 : 6 ≤ xs.toInt
    · exact fzc1 c hM (by omega) hy xs.toInt xo.toInt p2 a1 b0 b1 rfl ⟨xs, rfl, rfl⟩ ⟨xo, rfl, rfl⟩ (no (fun k => by have := k.2.1; omega))
    by_cases p3 : xo.toInt ≤ -1
    · exact fzc2 c hM (by omega) hy xs.toInt xo.toInt (by omega) (by omega) b0 p3 rfl ⟨xs, rfl, rfl⟩ ⟨xo, rfl, rfl⟩ (no (fun k => by have := k.2.2.1; omega))
    by_cases p4 : 6 ≤ xo.toInt
    · exact fzc3 c hM (by omega) hy xs.toInt xo.toInt (by omega) (by omega) p4 b1 rfl ⟨xs, rfl, rfl⟩ ⟨xo, rfl, rfl⟩ (no (fun k => by have := k.2.2.2; omega))
    have ok : fa_ok xs.toInt xo.toInt := ⟨by omega, by omega, by omega, by omega⟩
    refine fzc4 c hM (by omega) hy xs.toInt xo.toInt (by omega) (by omega) (by omega) (by omega) rfl ⟨xs, rfl, rfl⟩ ⟨xo, rfl, rfl⟩ (fun l' h2 w0 w1 f0 f1 g1 g2 g3 j0 => ?_)
    obtain ⟨r, hrun, a, r1, r2, r3, rhy, rfr, ra⟩ := db_run (xs := w1) (xo := w0) c1 (by omega) g1 (by rw [f0, f1]; exact ok) (W := W) (by rw [hp_same th_W rfl hy g1 g2]; exact H)
    refine hp_call (mi := 233) (pc := 20) (tg := 234) (na := 3) (c := 61) (ci := 9) (st0 := [.int w0, .int w1, .ref 77]) (st := []) (av := [.int w1, .int w0]) hM (by decide +kernel) g1 rfl rfl rfl (by decide) hrun r2 r3 ?_
    rw [r1]
    rw [f0, f1] at ra
    exact fzc5 c hM (by omega) rhy a.toInt a rfl a.le_toInt a.toInt_le j0 (fun h3 w hw v1 v2 v3 => ⟨w, rfl, rfl, rfl, v1, ly_fr_tr g2 (ly_fr_tr rfr v2), fun nk => absurd ok nk, fun _ => by rw [hw]; exact ra⟩)
  obtain ⟨n, r, hgo, a, r1, r2, r3, r4⟩ := go
  simp only [Nat.zero_add] at r2 r3
  exact ⟨r, Or.inr ⟨M, n, hM, hl, hgo⟩, a, r1, r2, r3, r4⟩
theorem fzm_run {cst : am_K} {strs : List Nat} {D : Nat} {h : am_H} (c1 : hp_C cst strs D) (c2 : hp_C cst strs (D + 1)) (c : hp_C cst strs (D + 1 + 1)) (hD : (3 : Int) ≤ (D : Int) + 1) (hy : ly_hy m_tt ly_TH h) {xs xo : Int32} {R : Int → Int} (HR : fw_R (ly_hv cst h 20480) R) (okR : fw_ok R) :
    ∃ r, am_Run cst m_cl m_tt m_P strs sx_bi (D + 1 + 1 + 1) 403 [.ref 94, .int xs, .int xo] h r ∧ fa_Φ cst h [42240] (fun a => (¬ fa_ok xs.toInt xo.toInt → a = -2) ∧ (fa_ok xs.toInt xo.toInt → a = fw_b fw_h (fw_0 R) 6 (6 * xs.toInt + xo.toInt))) r := by
  obtain ⟨M, hM, hl⟩ := hp_M (mi := 403) (k := 3) (by decide +kernel)
  have a0 := xs.le_toInt
  have a1 := xs.toInt_le
  have b0 := xo.le_toInt
  have b1 := xo.toInt_le
  have go : hp_F cst strs (fa_Φ cst h [42240] (fun a => (¬ fa_ok xs.toInt xo.toInt → a = -2) ∧ (fa_ok xs.toInt xo.toInt → a = fw_b fw_h (fw_0 R) 6 (6 * xs.toInt + xo.toInt)))) (D + 1 + 1) M 0 (lv_args 0 [.ref 94, .int xs, .int xo]) [] h := by
    have no : ¬ fa_ok xs.toInt xo.toInt → ∀ (h' : am_H) (w : Int32), w.toInt = -2 → ly_hy m_tt ly_TH h' → ly_fr cst [] h h' → h.length ≤ h'.length → fa_Φ cst h [42240] (fun a => (¬ fa_ok xs.toInt xo.toInt → a = -2) ∧ (fa_ok xs.toInt xo.toInt → a = fw_b fw_h (fw_0 R) 6 (6 * xs.toInt + xo.toInt))) (some (.int w), h', 0, 0) := fun nk h' w hw w1 w2 w3 => ⟨w, rfl, rfl, rfl, w1, (fun r i v _ e => w2 r i v rfl e), fun _ => hw, fun ok => absurd ok nk⟩
    by_cases p1 : xs.toInt ≤ -1
    · exact fzm0 c hM (by omega) hy xs.toInt xo.toInt a0 p1 b0 b1 rfl ⟨xs, rfl, rfl⟩ ⟨xo, rfl, rfl⟩ (no (fun k => by have := k.1; omega))
    by_cases p2 : 6 ≤ xs.toInt
    · exact fzm1 c hM (by omega) hy xs.toInt xo.toInt p2 a1 b0 b1 rfl ⟨xs, rfl, rfl⟩ ⟨xo, rfl, rfl⟩ (no (fun k => by have := k.2.1; omega))
    by_cases p3 : xo.toInt ≤ -1
    · exact fzm2 c hM (by omega) hy xs.toInt xo.toInt (by omega) (by omega) b0 p3 rfl ⟨xs, rfl, rfl⟩ ⟨xo, rfl, rfl⟩ (no (fun k => by have := k.2.2.1; omega))
    by_cases p4 : 6 ≤ xo.toInt
    · exact fzm3 c hM (by omega) hy xs.toInt xo.toInt (by omega) (by omega) p4 b1 rfl ⟨xs, rfl, rfl⟩ ⟨xo, rfl, rfl⟩ (no (fun k => by have := k.2.2.2; omega))
    have ok : fa_ok xs.toInt xo.toInt := ⟨by omega, by omega, by omega, by omega⟩
    refine fzm4 c hM (by omega) hy xs.toInt xo.toInt (by omega) (by omega) (by omega) (by omega) rfl ⟨xs, rfl, rfl⟩ ⟨xo, rfl, rfl⟩ (fun l' h2 g1 g2 g3 j0 j1 j2 => ?_)
    obtain ⟨r, hrun, r1, r2, r3, rhy, rfr, rP⟩ := gg_run c1 c2 (by omega) g1 (R := R) (by rw [hp_same th_R2 rfl hy g1 g2]; exact HR) okR
    refine hp_call (mi := 403) (pc := 18) (tg := 404) (na := 1) (c := 78) (ci := 12) (st0 := [.ref 94]) (st := []) (av := []) hM (by decide +kernel) g1 rfl rfl rfl (by decide) hrun r2 r3 ?_
    rw [r1]
    have E := fw_Eb okR 6 (by omega) (6 * xs.toInt + xo.toInt) (by omega) (by omega)
    have kv := rP (6 * xs.toInt + xo.toInt) (by omega) (by omega)
    have bd := (fw_Pb okR 6 (by omega)).1 (6 * xs.toInt + xo.toInt) (by omega) (by omega)
    have mb := fw_M1 (b := 6) (by omega)
    rcases E with ⟨e1, e2⟩ | ⟨e1, e2⟩
    · rw [e2] at kv
      exact fzm6 c hM (by omega) rhy xs.toInt xo.toInt (by omega) (by omega) (by omega) (by omega) kv j0 j1 j2 (fun h3 w hw v1 v2 v3 => ⟨w, rfl, rfl, rfl, v1, ly_fr_tr (fun r i v _ e => g2 r i v rfl e) (ly_fr_tr rfr (fun r i v _ e => v2 r i v rfl e)), fun nk => absurd ok nk, fun _ => by rw [hw, e1]⟩)
    · rw [e2] at kv
      exact fzm5 c hM (by omega) rhy xs.toInt xo.toInt (fw_b fw_h (fw_0 R) 6 (6 * xs.toInt + xo.toInt)) (by omega) (by omega) (by omega) (by omega) e1 (by omega) kv j0 j1 j2 (fun h3 w hw v1 v2 v3 => ⟨w, rfl, rfl, rfl, v1, ly_fr_tr (fun r i v _ e => g2 r i v rfl e) (ly_fr_tr rfr (fun r i v _ e => v2 r i v rfl e)), fun nk => absurd ok nk, fun _ => hw⟩)
  obtain ⟨n, r, hgo, a, r1, r2, r3, r4⟩ := go
  simp only [Nat.zero_add] at r2 r3
  exact ⟨r, Or.inr ⟨M, n, hM, hl, hgo⟩, a, r1, r2, r3, r4⟩
/-- roads behind a road -/
def rd_g (R : Int → Int) (x y z : Int) : Int → Int := fw_u (fw_u R (6 * x + y) z) (6 * y + x) z
theorem rd_gR {f : Int → Option Int} {R : Int → Int} (H : fw_R f R) (x y z : Int) : fw_R (rd_f f x y z) (rd_g R x y z) := by
  intro i i0 i1
  unfold rd_f rd_g
  by_cases q1 : i = 6 * y + x
  · rw [if_pos q1, q1, fw_at]
  · rw [if_neg q1, fw_ne _ q1]
    by_cases q2 : i = 6 * x + y
    · rw [if_pos q2, q2, fw_at]
    · rw [if_neg q2, fw_ne _ q2]
      exact H i i0 i1
theorem rd_gok {R : Int → Int} (H : fw_ok R) {x y z : Int} (ok : rd_ok x y z) : fw_ok (rd_g R x y z) := by
  intro i i0 i1
  have oz := ok.2.2.2.2.2
  unfold rd_g
  by_cases q1 : i = 6 * y + x
  · rw [q1, fw_at]
    exact oz
  · rw [fw_ne _ q1]
    by_cases q2 : i = 6 * x + y
    · rw [q2, fw_at]
      exact oz
    · rw [fw_ne _ q2]
      exact H i i0 i1
def rf_Φ (cst : am_K) (h : am_H) (R : Int → Int) (x y z : Int) (q : am_Q) : Prop := (∃ a : Int32, q.1 = some (.int a)) ∧ q.2.2.1 = 0 ∧ q.2.2.2 = 0 ∧ ly_hy m_tt ly_TH q.2.1 ∧ ly_fr cst [15872, 16128] h q.2.1 ∧ ((¬ rd_ok x y z → ly_hv cst q.2.1 15872 = ly_hv cst h 15872 ∧ ly_hv cst q.2.1 16128 = ly_hv cst h 16128) ∧ (rd_ok x y z → ly_hv cst q.2.1 15872 = rd_f (ly_hv cst h 15872) x y z ∧ fw_R (ly_hv cst q.2.1 16128) (fw_b fw_h (fw_0 (rd_g R x y z)) 6)))
theorem sf_run {cst : am_K} {strs : List Nat} {D : Nat} {h : am_H} (c1 : hp_C cst strs D) (c2 : hp_C cst strs (D + 1)) (c : hp_C cst strs (D + 1 + 1)) (hD : (5 : Int) ≤ (D : Int) + 1) (hy : ly_hy m_tt ly_TH h) {xx yy zz : Int32} (ok : rd_ok xx.toInt yy.toInt zz.toInt) {R : Int → Int} (HR : fw_R (ly_hv cst h 15872) R) (okR : fw_ok R) :
    ∃ r, am_Run cst m_cl m_tt m_P strs sx_bi (D + 1 + 1 + 1) 28 [.ref 77, .int xx, .int yy, .int zz] h r ∧ rf_Φ cst h R xx.toInt yy.toInt zz.toInt r := by
  obtain ⟨M, hM, hl⟩ := hp_M (mi := 28) (k := 4) (by decide +kernel)
  obtain ⟨o1, o2, o3, o4, o5, o6⟩ := id ok
  have go : hp_F cst strs (rf_Φ cst h R xx.toInt yy.toInt zz.toInt) (D + 1 + 1) M 0 (lv_args 0 [.ref 77, .int xx, .int yy, .int zz]) [] h := by
    obtain ⟨v, hv, v0, v1⟩ := hp_row (cst := cst) (i := 6 * xx.toInt + yy.toInt) hy th_R1 (by omega) (by omega)
    refine sr0 c hM (by omega) hy xx.toInt yy.toInt zz.toInt v o1 o2 o3 o4 (by omega) (by omega) v0 v1 hv rfl ⟨xx, rfl, rfl⟩ ⟨yy, rfl, rfl⟩ ⟨zz, rfl, rfl⟩ (fun l1 h1 w0 w1 f0 f1 u1 u2 u3 g0 g1 g2 g3 g4 => ?_)
    refine hp_st (c := 62) hM (by decide +kernel) u1 th_R1 rfl (by omega) (by omega) w0.le_toInt w0.toInt_le (fun h2 q1 q2 q3 => ?_)
    refine sr1 c hM (by omega) q1 xx.toInt yy.toInt zz.toInt v o1 o2 o3 o4 (by omega) (by omega) v0 v1 g0 g1 g2 g3 g4 (fun l3 h3 w2 w3 f2 f3 u4 u5 u6 g5 g6 g7 g8 g9 => ?_)
    refine hp_st (c := 62) hM (by decide +kernel) u4 th_R1 rfl (by omega) (by omega) w2.le_toInt w2.toInt_le (fun h4 q4 q5 q6 => ?_)
    have row : ly_hv cst h4 15872 = rd_f (ly_hv cst h 15872) xx.toInt yy.toInt zz.toInt := by
      rw [f0, f1] at q3
      rw [f2, f3] at q6
      have e1 : ly_hv cst h1 15872 = ly_hv cst h 15872 := hp_same th_R1 rfl hy u1 u2
      have e3 : ly_hv cst h3 15872 = ly_hv cst h2 15872 := hp_same th_R1 rfl q1 u4 u5
      funext i
      unfold rd_f
      by_cases z1 : i = 6 * yy.toInt + xx.toInt
      · rw [if_pos z1, z1]
        exact q6.1
      · rw [if_neg z1, q6.2 15872 i (Or.inr z1), e3]
        by_cases z2 : i = 6 * xx.toInt + yy.toInt
        · rw [if_pos z2, z2]
          exact q3.1
        · rw [if_neg z2, q3.2 15872 i (Or.inr z2), e1]
    have s0 : ∀ {a b : am_H}, ly_fr cst [] a b → ly_fr cst [15872, 16128] a b := fun f r i v _ e => f r i v rfl e
    have fr4 : ly_fr cst [15872, 16128] h h4 := ly_fr_tr (s0 u2) (ly_fr_tr (hp_put_fr (by rfl) q3) (ly_fr_tr (s0 u5) (hp_put_fr (by rfl) q6)))
    refine sf2 c hM (by omega) q4 v v0 v1 g5 g9 (fun l5 h5 x1 x2 x3 j0 j4 => ?_)
    have row5 : ly_hv cst h5 15872 = rd_f (ly_hv cst h 15872) xx.toInt yy.toInt zz.toInt := by rw [hp_same th_R1 rfl q4 x1 x2]; exact row
    obtain ⟨r, hrun, r1, r2, r3, rhy, rfr, rP⟩ := fy_run c1 c2 (by omega) x1 (R := rd_g R xx.toInt yy.toInt zz.toInt) (by rw [row5]; exact rd_gR HR _ _ _) (rd_gok okR ok)
    refine hp_call (mi := 28) (pc := 38) (tg := 29) (na := 1) (c := 61) (ci := 9) (st0 := [.ref 77]) (st := []) (av := []) hM (by decide +kernel) x1 rfl rfl rfl (by decide) hrun r2 r3 ?_
    rw [r1]
    refine sf3 c hM (by omega) rhy v v0 v1 j0 j4 (fun h6 a ha k1 k2 k3 => ⟨⟨a, rfl⟩, rfl, rfl, k1, ly_fr_tr fr4 (ly_fr_tr (s0 x2) (ly_fr_tr (fun r i v hr e => rfr r i v ?_ e) (s0 k2))), fun no => absurd ok no, fun _ => ⟨?_, ?_⟩⟩)
    · simp only [ly_has, List.any_cons, List.any_nil, Bool.or_false, Bool.or_eq_false_iff] at hr ⊢
      exact hr.2
    · rw [hp_same th_R1 rfl rhy k1 k2, hp_same th_R1 (by rfl) x1 rhy rfr]
      exact row5
    · rw [hp_same th_W rfl rhy k1 k2]
      exact rP
  obtain ⟨n, r, hgo, ⟨a, r1⟩, r2, r3, r4⟩ := go
  simp only [Nat.zero_add] at r2 r3
  exact ⟨r, Or.inr ⟨M, n, hM, hl, hgo⟩, ⟨a, r1⟩, r2, r3, r4⟩
theorem cf_run {cst : am_K} {strs : List Nat} {D : Nat} {h : am_H} (c1 : hp_C cst strs D) (c2 : hp_C cst strs (D + 1)) (c3 : hp_C cst strs (D + 1 + 1)) (c : hp_C cst strs (D + 1 + 1 + 1)) (hD : (5 : Int) ≤ (D : Int) + 1) (hy : ly_hy m_tt ly_TH h) {xx yy zz : Int32} {R : Int → Int} (HR : fw_R (ly_hv cst h 15872) R) (okR : fw_ok R) :
    ∃ r, am_Run cst m_cl m_tt m_P strs sx_bi (D + 1 + 1 + 1 + 1) 26 [.ref 16, .int xx, .int yy, .int zz] h r ∧ rf_Φ cst h R xx.toInt yy.toInt zz.toInt r := by
  obtain ⟨M, hM, hl⟩ := hp_M (mi := 26) (k := 4) (by decide +kernel)
  have a0 := xx.le_toInt
  have a1 := xx.toInt_le
  have b0 := yy.le_toInt
  have b1 := yy.toInt_le
  have e0 := zz.le_toInt
  have e1 := zz.toInt_le
  have go : hp_F cst strs (rf_Φ cst h R xx.toInt yy.toInt zz.toInt) (D + 1 + 1 + 1) M 0 (lv_args 0 [.ref 16, .int xx, .int yy, .int zz]) [] h := by
    have no : ¬ rd_ok xx.toInt yy.toInt zz.toInt → ∀ (h' : am_H) (w : Int32), w.toInt = -2 → ly_hy m_tt ly_TH h' → ly_fr cst [] h h' → h.length ≤ h'.length → rf_Φ cst h R xx.toInt yy.toInt zz.toInt (some (.int w), h', 0, 0) := fun nk h' w hw w1 w2 w3 => ⟨⟨w, rfl⟩, rfl, rfl, w1, (fun r i v _ e => w2 r i v rfl e), fun _ => ⟨hp_same th_R1 rfl hy w1 w2, hp_same th_W rfl hy w1 w2⟩, fun ok => absurd ok nk⟩
    by_cases p1 : xx.toInt ≤ -1
    · exact cr0 c hM (by omega) hy xx.toInt yy.toInt zz.toInt a0 p1 b0 b1 e0 e1 rfl ⟨xx, rfl, rfl⟩ ⟨yy, rfl, rfl⟩ ⟨zz, rfl, rfl⟩ (no (fun k => by have := k.1; omega))
    by_cases p2 : 6 ≤ xx.toInt
    · exact cr1 c hM (by omega) hy xx.toInt yy.toInt zz.toInt p2 a1 b0 b1 e0 e1 rfl ⟨xx, rfl, rfl⟩ ⟨yy, rfl, rfl⟩ ⟨zz, rfl, rfl⟩ (no (fun k => by have := k.2.1; omega))
    by_cases p3 : yy.toInt ≤ -1
    · exact cr2 c hM (by omega) hy xx.toInt yy.toInt zz.toInt (by omega) (by omega) b0 p3 e0 e1 rfl ⟨xx, rfl, rfl⟩ ⟨yy, rfl, rfl⟩ ⟨zz, rfl, rfl⟩ (no (fun k => by have := k.2.2.1; omega))
    by_cases p4 : 6 ≤ yy.toInt
    · exact cr3 c hM (by omega) hy xx.toInt yy.toInt zz.toInt (by omega) (by omega) p4 b1 e0 e1 rfl ⟨xx, rfl, rfl⟩ ⟨yy, rfl, rfl⟩ ⟨zz, rfl, rfl⟩ (no (fun k => by have := k.2.2.2.1; omega))
    by_cases p5 : xx.toInt = yy.toInt
    · exact cr4 c hM (by omega) hy xx.toInt zz.toInt (by omega) (by omega) e0 e1 rfl ⟨xx, rfl, rfl⟩ ⟨yy, rfl, p5.symm⟩ ⟨zz, rfl, rfl⟩ (no (fun k => k.2.2.2.2.1 p5))
    have ne : ly_hv cst h 61000 (xx.toInt - yy.toInt) = some 1 := hp_ne (by omega)
    by_cases p6 : zz.toInt ≤ -2
    · exact cr5 c hM (by omega) hy xx.toInt yy.toInt zz.toInt (by omega) (by omega) (by omega) (by omega) e0 p6 ne rfl ⟨xx, rfl, rfl⟩ ⟨yy, rfl, rfl⟩ ⟨zz, rfl, rfl⟩ (no (fun k => by have := k.2.2.2.2.2; omega))
    by_cases p7 : zz.toInt = 0
    · exact cr6 c hM (by omega) hy xx.toInt yy.toInt (by omega) (by omega) (by omega) (by omega) ne rfl ⟨xx, rfl, rfl⟩ ⟨yy, rfl, rfl⟩ ⟨zz, rfl, p7⟩ (no (fun k => by have := k.2.2.2.2.2; omega))
    by_cases p8 : 10 ≤ zz.toInt
    · exact cr7 c hM (by omega) hy xx.toInt yy.toInt zz.toInt (by omega) (by omega) (by omega) (by omega) p8 e1 ne rfl ⟨xx, rfl, rfl⟩ ⟨yy, rfl, rfl⟩ ⟨zz, rfl, rfl⟩ (no (fun k => by have := k.2.2.2.2.2; omega))
    have ok : rd_ok xx.toInt yy.toInt zz.toInt := ⟨by omega, by omega, by omega, by omega, p5, by omega⟩
    have call : ∀ (l' : am_L) (h' : am_H) (w0 w1 w2 : Int32), w0.toInt = zz.toInt → w1.toInt = yy.toInt → w2.toInt = xx.toInt → ly_hy m_tt ly_TH h' → ly_fr cst [] h h' → h.length ≤ h'.length → hp_a l' 0 16 → hp_F cst strs (rf_Φ cst h R xx.toInt yy.toInt zz.toInt) (D + 1 + 1 + 1) M 44 l' [.int w0, .int w1, .int w2, .ref 77] h' := by
      intro l' h' w0 w1 w2 f0 f1 f2 u1 u2 u3 g0
      have e1 : ly_hv cst h' 15872 = ly_hv cst h 15872 := hp_same th_R1 rfl hy u1 u2
      obtain ⟨r, hrun, ⟨a, r1⟩, r2, r3, rhy, rfr, -, rok⟩ := sf_run (xx := w2) (yy := w1) (zz := w0) c1 c2 c3 hD u1 (by rw [f0, f1, f2]; exact ok) (R := R) (by rw [e1]; exact HR) okR
      refine hp_call (mi := 26) (pc := 44) (tg := 28) (na := 4) (c := 61) (ci := 9) (st0 := [.int w0, .int w1, .int w2, .ref 77]) (st := []) (av := [.int w2, .int w1, .int w0]) hM (by decide +kernel) u1 rfl rfl rfl (by decide) hrun r2 r3 ?_
      rw [r1]
      rw [f0, f1, f2] at rok
      obtain ⟨k1, k2⟩ := rok ok
      rw [e1] at k1
      exact crr c hM (by omega) rhy a.toInt a rfl a.le_toInt a.toInt_le g0 (fun h2 a2 ha2 v1 v2 v3 => ⟨⟨a2, rfl⟩, rfl, rfl, v1, ly_fr_tr (fun r i v _ e => u2 r i v rfl e) (ly_fr_tr rfr (fun r i v _ e => v2 r i v rfl e)), fun no => absurd ok no, fun _ => ⟨by rw [hp_same th_R1 rfl rhy v1 v2]; exact k1, by rw [hp_same th_W rfl rhy v1 v2]; exact k2⟩⟩)
    by_cases pz : zz.toInt = -1
    · exact cr8 c hM (by omega) hy xx.toInt yy.toInt (by omega) (by omega) (by omega) (by omega) ne rfl ⟨xx, rfl, rfl⟩ ⟨yy, rfl, rfl⟩ ⟨zz, rfl, pz⟩ (fun l' h' w0 w1 w2 f0 => call l' h' w0 w1 w2 (by omega))
    · exact cr9 c hM (by omega) hy xx.toInt yy.toInt zz.toInt (by omega) (by omega) (by omega) (by omega) (by omega) (by omega) ne rfl ⟨xx, rfl, rfl⟩ ⟨yy, rfl, rfl⟩ ⟨zz, rfl, rfl⟩ call
  obtain ⟨n, r, hgo, ⟨a, r1⟩, r2, r3, r4⟩ := go
  simp only [Nat.zero_add] at r2 r3
  exact ⟨r, Or.inr ⟨M, n, hM, hl, hgo⟩, ⟨a, r1⟩, r2, r3, r4⟩
/-- roads even, the class's ways those of its roads -/
def fa_I (cst : am_K) (h : am_H) : Prop := ∃ R, fw_ok R ∧ fw_R (ly_hv cst h 15872) R ∧ fw_R (ly_hv cst h 20480) R ∧ fw_R (ly_hv cst h 16128) (fw_b fw_h (fw_0 R) 6)
theorem fa_init {cst : am_K} {h : am_H} {L1 L2 L3 : List Int} (h1 : ∀ i, 0 ≤ i → i < (36 : Int) → ly_hv cst h 15872 i = some (L1.getD i.toNat 0)) (h2 : ∀ i, 0 ≤ i → i < (36 : Int) → ly_hv cst h 20480 i = some (L2.getD i.toNat 0)) (h3 : ∀ i, 0 ≤ i → i < (36 : Int) → ly_hv cst h 16128 i = some (L3.getD i.toNat 0)) (q1 : ∀ j : Nat, j < 36 → L1.getD j 0 = -1) (q2 : ∀ j : Nat, j < 36 → L2.getD j 0 = -1) (q3 : ∀ j : Nat, j < 36 → L3.getD j 0 = fw_0 (fun _ => -1) (j : Int)) : fa_I cst h := by
  refine ⟨fun _ => -1, fun i _ _ => Or.inl rfl, fun i i0 i1 => ?_, fun i i0 i1 => ?_, fun i i0 i1 => ?_⟩
  · rw [h1 i i0 i1, q1 i.toNat (by omega)]
  · rw [h2 i i0 i1, q2 i.toNat (by omega)]
  · rw [h3 i i0 i1, q3 i.toNat (by omega), fw_nob 6 (by omega), show ((i.toNat : Nat) : Int) = i by omega]
theorem fa_mv {cst : am_K} {ms : List Nat} {h h' : am_H} (I : fa_I cst h) (u : ly_hy m_tt ly_TH h) (u' : ly_hy m_tt ly_TH h') (f : ly_fr cst ms h h') (q1 : ly_has 15872 ms = false) (q2 : ly_has 20480 ms = false) (q3 : ly_has 16128 ms = false) : fa_I cst h' := by
  obtain ⟨R, ok, r1, r2, r3⟩ := I
  exact ⟨R, ok, by rw [hp_same th_R1 q1 u u' f]; exact r1, by rw [hp_same th_R2 q2 u u' f]; exact r2, by rw [hp_same th_W q3 u u' f]; exact r3⟩
