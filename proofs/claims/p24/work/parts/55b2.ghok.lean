/-! what waits in the class's reader -/
section LY3H
variable {cst : am_K} {ν : ly_N} {Z : ly_Z} {h h' : am_H}
theorem ct_ext {fw fw' : Int → Option Int} : ∀ (n : Nat), (∀ i : Int, 0 ≤ i → i < n → fw' i = fw i) → gh_ct fw' n = gh_ct fw n
  | 0, _ => rfl
  | n + 1, e => by
    unfold gh_ct
    rw [e n (Int.natCast_nonneg n) (by omega), ct_ext n (fun i h1 h2 => e i h1 (by omega))]
theorem wf_ext {fn fw fw' : Int → Option Int} {N : Int} (hN : fn 0 = some N) (e : ∀ i, 0 ≤ i → i < N → fw' i = fw i) (w : gh_wf fn fw) : gh_wf fn fw' := by
  obtain ⟨M, hM, M0, all, ord⟩ := w
  rw [hN] at hM
  cases hM
  refine ⟨N, hN, M0, fun i i0 iN => by rw [e i i0 iN]; exact all i i0 iN, fun i v w i0 iN h1 h2 => ?_⟩
  rw [e i i0 (by omega)] at h1
  rw [e (i + 1) (by omega) iN] at h2
  exact ord i v w i0 iN h1 h2
theorem cl_ext {fn fw fw' : Int → Option Int} {N j : Int} (hN : fn 0 = some N) (e : ∀ i, 0 ≤ i → i < N → fw' i = fw i) (w : gh_cl fn fw j) : gh_cl fn fw' j := by
  obtain ⟨M, hM, hh⟩ := w
  rw [hN] at hM
  cases hM
  refine ⟨N, hN, ?_⟩
  by_cases h0 : N ≤ 0
  · exact Or.inl h0
  · rw [e (N - 1) (by omega) (by omega)]
    exact hh
theorem br_ext {fn fw fw' : Int → Option Int} {N : Int} (hN : fn 0 = some N) (e : ∀ i, 0 ≤ i → i < N → fw' i = fw i) : gh_br fn fw' = gh_br fn fw := by
  unfold gh_br
  rw [hN]
  simp only
  rw [ct_ext N.toNat (fun i h1 h2 => e i h1 (by omega))]
theorem gh_kp {q : Nat × ly_e × ly_e} : ∀ {L : List (Nat × ly_e)}, q ∈ ly_kp Z L → (q.1, q.2.1) ∈ L ∧ ly_kget q.1 q.2.1 Z.2.2.2 = some q.2.2
  | [], hq => by cases hq
  | p :: L, hq => by
    unfold ly_kp at hq
    split at hq
    · rename_i v hv
      rcases List.mem_cons.mp hq with rfl | hq
      · exact ⟨List.mem_cons_self, hv⟩
      · obtain ⟨h1, h2⟩ := gh_kp hq
        exact ⟨List.mem_cons_of_mem _ h1, h2⟩
    · obtain ⟨h1, h2⟩ := gh_kp hq
      exact ⟨List.mem_cons_of_mem _ h1, h2⟩
theorem gh_tv {p q : Prop} (e : p ↔ q) : ly_tv p = ly_tv q := by rw [propext e]
theorem om_waiting_ok {i v : ly_e} {zi zv : Int} (g : ly_gZ cst ν Z h) (hi : ly_ev ν i = some zi) (e2 : ∀ r' i', r' ≠ 6400 ∨ i' ≠ zi → ly_h0 cst h' r' i' = ly_h0 cst h r' i') : ly_gK cst ν h' (om_waiting Z i v) := by
  intro q hq
  unfold om_waiting at hq
  split at hq
  case h_2 => cases hq
  rename_i n hn
  cases hb : ly_eq n i with
  | false => rw [hb] at hq; cases hq
  | true =>
    rw [hb] at hq
    obtain ⟨hL, hk⟩ := gh_kp hq
    obtain ⟨zn, n1, n2⟩ := gh_kz (by decide) g hn
    rw [ly_eq_eq hb, hi] at n1
    cases n1
    have en : ly_h0 cst h' 6151 = ly_h0 cst h 6151 := funext fun i => e2 _ _ (Or.inl (by decide))
    have ew : ∀ i, 0 ≤ i → i < zi → ly_h0 cst h' 6400 i = ly_h0 cst h 6400 i := fun i _ h2 => e2 _ _ (Or.inr (by omega))
    have ew' : ∀ i, 0 ≤ i → i < zi → ly_h0 cst h 6400 i = ly_h0 cst h' 6400 i := fun i h1 h2 => (ew i h1 h2).symm
    have fin : ∀ r x, q.1 = r → 60010 ≤ r → r < 61000 → (∀ i, ly_gv (ly_h0 cst h') r i = ly_gv (ly_h0 cst h) r i) → q.2.1 = x → (∃ zx, ly_ev ν x = some zx) → ∃ i v, ly_ev ν q.2.1 = some i ∧ ly_ev ν q.2.2 = some v ∧ ly_hv cst h' q.1 i = some v := by
      intro r x er h1 h2 hgv ex ⟨zx, hx⟩
      rw [ex, er] at hk
      obtain ⟨z, z1, z2⟩ := gh_k g hk hx
      refine ⟨zx, z, by rw [ex]; exact hx, z1, ?_⟩
      rw [er, gh_hv h1 h2, hgv, ← gh_hv h1 h2]
      exact z2
    have g80 : ∀ i, ly_gv (ly_h0 cst h') 60080 i = ly_gv (ly_h0 cst h) 60080 i := fun i => by
      rw [gv_80, gv_80, en]
      exact gh_tv ⟨wf_ext n2 ew', wf_ext n2 ew⟩
    have g81 : ∀ i, ly_gv (ly_h0 cst h') 60081 i = ly_gv (ly_h0 cst h) 60081 i := fun i => by
      rw [gv_81, gv_81, en]
      exact gh_tv ⟨cl_ext n2 ew', cl_ext n2 ew⟩
    have g82 : ∀ i, ly_gv (ly_h0 cst h') 60082 i = ly_gv (ly_h0 cst h) 60082 i := fun i => by
      rw [gv_82, gv_82, en]
      exact br_ext n2 ew
    simp only [List.mem_cons, Prod.mk.injEq, List.not_mem_nil, or_false] at hL
    rcases hL with ⟨a, b⟩ | ⟨a, b⟩ | ⟨a, b⟩ | ⟨a, b⟩ | ⟨a, b⟩ | ⟨a, b⟩
    · exact fin _ _ a (by decide) (by decide) g80 b ⟨_, ly_ev_c ν 0⟩
    · exact fin _ _ a (by decide) (by decide) g81 b ⟨_, ly_ev_c ν 0⟩
    · exact fin _ _ a (by decide) (by decide) g81 b ⟨_, ly_ev_c ν 1⟩
    · exact fin _ _ a (by decide) (by decide) g81 b ⟨_, ly_ev_c ν 2⟩
    · exact fin _ _ a (by decide) (by decide) g81 b ⟨_, ly_ev_c ν 3⟩
    · exact fin _ _ a (by decide) (by decide) g82 b ⟨_, ly_ev_c ν 0⟩
theorem wf_val {fn fw : Int → Option Int} {N : Int} (w : gh_wf fn fw) (hN : fn 0 = some N) {i : Int} (i0 : 0 ≤ i) (iN : i < N) : ∃ v, fw i = some v ∧ (v = 0 ∨ v = 1 ∨ v = 2 ∨ v = 7) := by
  obtain ⟨M, hM, -, all, -⟩ := w
  rw [hN] at hM
  cases hM
  exact all i i0 iN
theorem cl_3 {fn fw : Int → Option Int} {j : Int} (w : gh_wf fn fw) (hj : 3 ≤ j) : gh_cl fn fw j := by
  have w' := w
  obtain ⟨N, hN, -, -, -⟩ := w'
  refine ⟨N, hN, ?_⟩
  by_cases h0 : N ≤ 0
  · exact Or.inl h0
  · obtain ⟨v, hv, hh⟩ := wf_val w hN (i := N - 1) (by omega) (by omega)
    exact Or.inr ⟨v, hv, by omega⟩
theorem ly_nek_ok {k : ly_e} {c zk : Int} (g : ly_gZ cst ν Z h) (hk : ly_ev ν k = some zk) (hn : ly_nek Z k c = true) : zk ≠ c := by
  unfold ly_nek at hn
  rcases Bool.or_eq_true_iff.mp hn with h1 | h1
  · have := gh_z g h1 (ly_add_ok (ly_ev_c ν _) hk)
    have e : Int.neg (Int.add c 1) = -(c + 1) := rfl
    omega
  · have := gh_z g h1 (ly_sub_ok (ly_ev_c ν _) hk)
    have e : Int.sub c 1 = c - 1 := rfl
    omega
theorem ri_cl_ok {x : ly_e} {zx : Int} (g : ly_gZ cst ν Z h) (hx : ly_ev ν x = some zx) (hs : ri_cl Z x = true) : gh_cl (ly_h0 cst h 6151) (ly_h0 cst h 6400) zx := by
  unfold ri_cl at hs
  split at hs
  case h_2 => cases hs
  rename_i j hj
  have := ly_con_ok g.2.1 hj
  rw [hx] at this
  cases this
  have up : ∀ {k : Int}, gh_cl (ly_h0 cst h 6151) (ly_h0 cst h 6400) k → k ≤ zx → gh_cl (ly_h0 cst h 6151) (ly_h0 cst h 6400) zx := fun {k} ⟨N, hN, hh⟩ hk => by
    refine ⟨N, hN, ?_⟩
    rcases hh with hh | ⟨v, hv, hh⟩
    · exact Or.inl hh
    · exact Or.inr ⟨v, hv, by omega⟩
  rcases Bool.or_eq_true_iff.mp hs with h1 | h1
  · rw [Bool.and_eq_true, sx_le_iff] at h1
    exact up (gh_of (by decide) (by decide) (gv_81 _ _) (gh_k1 g h1.2 (ly_ev_c ν 0))) h1.1
  rcases Bool.or_eq_true_iff.mp h1 with h1 | h1
  · rw [Bool.and_eq_true, sx_le_iff] at h1
    exact up (gh_of (by decide) (by decide) (gv_81 _ _) (gh_k1 g h1.2 (ly_ev_c ν 1))) h1.1
  rcases Bool.or_eq_true_iff.mp h1 with h1 | h1
  · rw [Bool.and_eq_true, sx_le_iff] at h1
    exact up (gh_of (by decide) (by decide) (gv_81 _ _) (gh_k1 g h1.2 (ly_ev_c ν 2))) h1.1
  rcases Bool.or_eq_true_iff.mp h1 with h1 | h1
  · rw [Bool.and_eq_true, sx_le_iff] at h1
    exact cl_3 (gh_of (by decide) (by decide) (gv_80 _ _) (gh_k1 g h1.2 (ly_ev_c ν 0))) h1.1
  · split at h1
    case h_2 => cases h1
    rename_i n hn
    obtain ⟨N, n1, n2⟩ := gh_kz (by decide) g hn
    refine ⟨N, n2, ?_⟩
    rcases Bool.or_eq_true_iff.mp h1 with h1 | h1
    · have := gh_z g h1 (ly_neg_ok n1)
      exact Or.inl (by omega)
    · split at h1
      case h_2 => cases h1
      rename_i t ht
      obtain ⟨zt, t1, t2⟩ := gh_k0 (by decide) g ht (ly_add_ok (ly_ev_c ν (-1)) n1)
      have fin : ∀ k : Int, gh_cl (ly_h0 cst h 6151) (ly_h0 cst h 6400) k → (zt = 7 ∨ zt < k → zt = 7 ∨ zt < zx) → N ≤ 0 ∨ ∃ v, ly_h0 cst h 6400 (N - 1) = some v ∧ (v = 7 ∨ v < zx) := fun k ⟨M, hM, hh⟩ himp => by
        rw [n2] at hM
        cases hM
        rcases hh with hh | ⟨v, hv, hh⟩
        · exact Or.inl hh
        · rw [show N - 1 = -1 + N by omega, t2] at hv
          cases hv
          exact Or.inr ⟨zt, by rw [show N - 1 = -1 + N by omega]; exact t2, himp hh⟩
      have ea : Int.add zx 1 = zx + 1 := rfl
      have eb : Int.add zx 2 = zx + 2 := rfl
      rcases Bool.or_eq_true_iff.mp h1 with h1 | h1
      · rw [Bool.and_eq_true] at h1
        have n3 := ly_nek_ok g t1 h1.1
        rcases Bool.or_eq_true_iff.mp h1.2 with h2 | h2
        · exact fin (zx + 1) (gh_of (by decide) (by decide) (gv_81 _ _) (gh_k1 g h2 (ly_ev_c ν _))) (by omega)
        · rw [Bool.and_eq_true] at h2
          have := sx_eq_iff.mp h2.1
          exact fin (zx + 1) (cl_3 (gh_of (by decide) (by decide) (gv_80 _ _) (gh_k1 g h2.2 (ly_ev_c ν 0))) (by omega)) (by omega)
      · simp only [Bool.and_eq_true] at h1
        have n3 := ly_nek_ok g t1 h1.1
        have n4 := ly_nek_ok g t1 h1.2.1
        exact fin (zx + 2) (gh_of (by decide) (by decide) (gv_81 _ _) (gh_k1 g h1.2.2 (ly_ev_c ν _))) (by omega)
theorem gh_lst {c j : Int} (w : gh_wf (ly_h0 cst h' 6151) (ly_h0 cst h' 6400)) (hj : ∀ k, j ≤ k → gh_cl (ly_h0 cst h' 6151) (ly_h0 cst h' 6400) k) (hb : ∀ b, ly_kz Z 60082 = some b → ∃ zb, ly_ev ν b = some zb ∧ gh_br (ly_h0 cst h' 6151) (ly_h0 cst h' 6400) = some (c + zb)) : ly_gK cst ν h' ((60080, ly_i0, ly_i1) :: (om_brk Z c ++ om_cls j)) := by
  have cl : ∀ k : Int, gh_cl (ly_h0 cst h' 6151) (ly_h0 cst h' 6400) k → ∃ i v, ly_ev ν (k, []) = some i ∧ ly_ev ν ly_i1 = some v ∧ ly_hv cst h' 60081 i = some v := fun k hk => ⟨k, 1, ly_ev_c ν k, ly_ev_c ν 1, gh_one (by decide) (by decide) (gv_81 _ _) hk⟩
  have two : ∀ {b : Bool} {x q : Nat × ly_e × ly_e}, q ∈ (bif b then [x] else []) → b = true ∧ q = x := fun {b x q} hq => by
    cases b with
    | false => cases hq
    | true => exact ⟨rfl, List.mem_singleton.mp hq⟩
  intro q hq
  rcases List.mem_cons.mp hq with rfl | hq
  · exact ⟨0, 1, ly_ev_c ν 0, ly_ev_c ν 1, gh_one (by decide) (by decide) (gv_80 _ _) w⟩
  rcases List.mem_append.mp hq with hq | hq
  · unfold om_brk at hq
    split at hq
    case h_2 => cases hq
    rename_i b hk
    obtain ⟨zb, b1, b2⟩ := hb b hk
    rw [List.mem_singleton.mp hq]
    refine ⟨0, c + zb, ly_ev_c ν 0, ly_add_ok (ly_ev_c ν c) b1, ?_⟩
    show ly_hv cst h' 60082 0 = _
    rw [gh_hv (by decide) (by decide), gv_82]
    exact b2
  · unfold om_cls at hq
    rcases List.mem_append.mp hq with hq | hq
    · obtain ⟨hb, rfl⟩ := two hq
      exact cl 0 (hj 0 (sx_le_iff.mp hb))
    rcases List.mem_append.mp hq with hq | hq
    · obtain ⟨hb, rfl⟩ := two hq
      exact cl 1 (hj 1 (sx_le_iff.mp hb))
    rcases List.mem_append.mp hq with hq | hq
    · obtain ⟨hb, rfl⟩ := two hq
      exact cl 2 (hj 2 (sx_le_iff.mp hb))
    · rw [List.mem_singleton.mp hq]
      exact cl 3 (cl_3 w (Int.le_refl 3))
theorem ct_push {fw : Int → Option Int} {N t : Int} (h0 : 0 ≤ N) (ht : fw N = some t) : gh_ct fw (N + 1).toNat = gh_ct fw N.toNat + (if t = 7 then 1 else 0) := by
  rw [show (N + 1).toNat = N.toNat + 1 by omega]
  show (if fw ((N.toNat : Nat) : Int) = some 7 then gh_ct fw N.toNat + 1 else gh_ct fw N.toNat) = _
  rw [show ((N.toNat : Nat) : Int) = N by omega, ht]
  by_cases h7 : t = 7
  · rw [if_pos (by rw [h7]), if_pos h7]
  · rw [if_neg (by rw [Option.some.injEq]; exact h7), if_neg h7]
    omega
theorem om_waits_ok {i w : ly_e} {zi zv : Int} (g : ly_gZ cst ν Z h) (hi : ly_ev ν i = some zi) (hv : ly_ev ν w = some zv) (e1 : ly_h0 cst h' 6151 zi = some zv) (e2 : ∀ r' i', r' ≠ 6151 ∨ i' ≠ zi → ly_h0 cst h' r' i' = ly_h0 cst h r' i') : ly_gK cst ν h' (om_waits Z i w) := by
  have nil : ly_gK cst ν h' [] := fun q hq => by cases hq
  unfold om_waits
  cases hi0 : ly_eq i ly_i0 with
  | false => exact nil
  | true =>
    rw [ly_eq_eq hi0, ly_ev_c] at hi
    cases hi
    simp only [cond_true]
    have ew : ly_h0 cst h' 6400 = ly_h0 cst h 6400 := funext fun i => e2 _ _ (Or.inl (by decide))
    cases hw0 : ly_eq w ly_i0 with
    | true =>
      rw [ly_eq_eq hw0, ly_ev_c] at hv
      cases hv
      simp only [cond_true]
      have w : gh_wf (ly_h0 cst h' 6151) (ly_h0 cst h' 6400) := ⟨0, e1, Int.le_refl 0, fun i h1 h2 => by omega, fun i v w h1 h2 => by omega⟩
      have := gh_lst (Z := (0, [], [], [])) (c := 0) (j := 0) (ν := ν) w (fun k _ => ⟨0, e1, Or.inl (Int.le_refl 0)⟩) (fun b hb => by cases hb)
      intro q hq
      rcases List.mem_cons.mp hq with rfl | hq
      · exact this _ List.mem_cons_self
      rcases List.mem_cons.mp hq with rfl | hq
      · exact ⟨0, 0, ly_ev_c ν 0, ly_ev_c ν 0, by rw [gh_hv (by decide) (by decide), gv_82]; unfold gh_br; rw [e1]; rfl⟩
      · exact this _ (List.mem_cons_of_mem _ hq)
    | false =>
      simp only [cond_false]
      split
      case h_2 => exact nil
      rename_i n hn
      obtain ⟨N, n1, n2⟩ := gh_kz (by decide) g hn
      cases hk : ly_k1 Z 60080 ly_i0 with
      | false => exact nil
      | true =>
        simp only [cond_true]
        have W := gh_of (by decide) (by decide) (gv_80 _ _) (gh_k1 g hk (ly_ev_c ν 0))
        have N0 : 0 ≤ N := by
          obtain ⟨M, hM, M0, -, -⟩ := W
          rw [n2] at hM
          cases hM
          exact M0
        have ord : ∀ i v w, 0 ≤ i → i + 1 < N → ly_h0 cst h 6400 i = some v → ly_h0 cst h 6400 (i + 1) = some w → w = 7 ∨ v = 7 ∨ v < w := by
          obtain ⟨M, hM, -, -, o⟩ := W
          rw [n2] at hM
          cases hM
          exact o
        have br : ∀ b, ly_kz Z 60082 = some b → ly_ev ν b = some (gh_ct (ly_h0 cst h 6400) N.toNat) := by
          intro b hb
          obtain ⟨z, z1, z2⟩ := gh_k g hb (ly_ev_c ν 0)
          rw [gh_hv (by decide) (by decide), gv_82] at z2
          unfold gh_br at z2
          rw [n2] at z2
          cases z2
          exact z1
        cases hp : ly_eq w (ly_add ly_i1 n) with
        | true =>
          rw [ly_eq_eq hp, ly_add_ok (ly_ev_c ν 1) n1] at hv
          cases hv
          simp only [cond_true]
          split
          case h_2 => exact nil
          rename_i t ht
          have hT := gh_kc (by decide) g ht n1
          have push : (t = 7 ∨ (0 ≤ t ∧ t ≤ 2 ∧ gh_cl (ly_h0 cst h 6151) (ly_h0 cst h 6400) t)) → gh_wf (ly_h0 cst h' 6151) (ly_h0 cst h' 6400) := fun hc => by
            rw [ew]
            refine ⟨1 + N, e1, by omega, fun i i0 iN => ?_, fun i v w i0 iN h1 h2 => ?_⟩
            · by_cases ei : i = N
              · rw [ei]; exact ⟨t, hT, by omega⟩
              · exact wf_val W n2 i0 (by omega)
            · by_cases ei : i + 1 = N
              · rw [ei, hT] at h2
                cases h2
                rcases hc with hc | ⟨-, -, M, hM, hh⟩
                · exact Or.inl hc
                · rw [n2] at hM
                  cases hM
                  rcases hh with hh | ⟨u, hu, hh⟩
                  · omega
                  · rw [show N - 1 = i by omega, h1] at hu
                    cases hu
                    exact Or.inr hh
              · exact ord i v w i0 (by omega) h1 h2
          have hcl : ∀ k, (t = 7 ∨ t < k) → gh_cl (ly_h0 cst h' 6151) (ly_h0 cst h' 6400) k := fun k hk => ⟨1 + N, e1, Or.inr ⟨t, by rw [show 1 + N - 1 = N by omega, ew]; exact hT, hk⟩⟩
          have hbr : ∀ c : Int, c = (if t = 7 then 1 else 0) → ∀ b, ly_kz Z 60082 = some b → ∃ zb, ly_ev ν b = some zb ∧ gh_br (ly_h0 cst h' 6151) (ly_h0 cst h' 6400) = some (c + zb) := fun c hc b hb => by
            refine ⟨_, br b hb, ?_⟩
            unfold gh_br
            rw [e1, ew]
            simp only
            rw [Int.add_comm 1 N, ct_push N0 hT, hc, Int.add_comm]
          cases h7 : sx_eq t 7 with
          | true =>
            have h7 := sx_eq_iff.mp h7
            exact gh_lst (push (Or.inl h7)) (fun k _ => hcl k (Or.inl h7)) (hbr 1 (by rw [if_pos h7]))
          | false =>
            simp only [cond_false]
            have h7' : t ≠ 7 := fun e => by rw [sx_eq_iff.mpr e] at h7; cases h7
            cases hc : (sx_le 0 t && (sx_le t 2 && ri_cl Z (t, []))) with
            | false => exact nil
            | true =>
              simp only [Bool.and_eq_true, sx_le_iff] at hc
              have hC := ri_cl_ok g (ly_ev_c ν t) hc.2.2
              exact gh_lst (push (Or.inr ⟨hc.1, hc.2.1, hC⟩)) (fun k hk => hcl k (Or.inr (by have : Int.add t 1 = t + 1 := rfl; omega))) (hbr 0 (by rw [if_neg h7']))
        | false =>
          simp only [cond_false]
          cases hq : (ly_eq w (ly_add (-1, []) n) && ly_z Z w) with
          | false => exact nil
          | true =>
            simp only [cond_true]
            rw [Bool.and_eq_true] at hq
            have hv0 := hv
            rw [ly_eq_eq hq.1, ly_add_ok (ly_ev_c ν (-1)) n1] at hv
            cases hv
            have z0 := gh_z g hq.2 hv0
            have pop : gh_wf (ly_h0 cst h' 6151) (ly_h0 cst h' 6400) := by
              rw [ew]
              exact ⟨-1 + N, e1, z0, fun i i0 iN => wf_val W n2 i0 (by omega), fun i v w i0 iN h1 h2 => ord i v w i0 (by omega) h1 h2⟩
            have hbr : ∀ (t c : Int), ly_h0 cst h 6400 (-1 + N) = some t → c = (if t = 7 then -1 else 0) → ∀ b, ly_kz Z 60082 = some b → ∃ zb, ly_ev ν b = some zb ∧ gh_br (ly_h0 cst h' 6151) (ly_h0 cst h' 6400) = some (c + zb) := fun t c ht hc b hb => by
              refine ⟨_, br b hb, ?_⟩
              unfold gh_br
              rw [e1, ew]
              simp only
              have := ct_push z0 ht
              rw [show -1 + N + 1 = N by omega] at this
              rw [this, hc]
              by_cases h7 : t = 7
              · rw [if_pos h7, if_pos h7]
                congr 1
                omega
              · rw [if_neg h7, if_neg h7]
                congr 1
                omega
            split
            · rename_i t ht
              have hT := gh_kc (by decide) g ht hv0
              cases h7 : sx_eq t 7 with
              | true =>
                have h7 := sx_eq_iff.mp h7
                exact gh_lst pop (fun k hk => cl_3 pop hk) (hbr t (-1) hT (by rw [if_pos h7]))
              | false =>
                simp only [cond_false]
                have h7' : t ≠ 7 := fun e => by rw [sx_eq_iff.mpr e] at h7; cases h7
                cases hc : (sx_le 0 t && sx_le t 2) with
                | false => exact nil
                | true =>
                  simp only [Bool.and_eq_true, sx_le_iff] at hc
                  refine gh_lst pop (fun k hk => ⟨-1 + N, e1, ?_⟩) (hbr t 0 hT (by rw [if_neg h7']))
                  by_cases hN : -1 + N ≤ 0
                  · exact Or.inl hN
                  · obtain ⟨u, hu, -⟩ := wf_val W n2 (i := -1 + N - 1) (by omega) (by omega)
                    refine Or.inr ⟨u, by rw [ew]; exact hu, ?_⟩
                    have := ord (-1 + N - 1) u t (by omega) (by omega) hu (by rw [show -1 + N - 1 + 1 = -1 + N by omega]; exact hT)
                    omega
            · cases hc : ly_k1 Z 60081 ly_i0 with
              | false => exact nil
              | true =>
                obtain ⟨M, hM, hh⟩ := gh_of (by decide) (by decide) (gv_81 _ _) (gh_k1 g hc (ly_ev_c ν 0))
                rw [n2] at hM
                cases hM
                have hT : ly_h0 cst h 6400 (-1 + N) = some 7 := by
                  rcases hh with hh | ⟨u, hu, hh⟩
                  · omega
                  · obtain ⟨u', hu', hv'⟩ := wf_val W n2 (i := N - 1) (by omega) (by omega)
                    rw [hu] at hu'
                    cases hu'
                    rw [show -1 + N = N - 1 by omega, hu]
                    congr 1
                    omega
                exact gh_lst pop (fun k hk => cl_3 pop hk) (hbr 7 (-1) hT (by rw [if_pos rfl]))
/-- how many wait -/
theorem wf_bnd {fn fw : Int → Option Int} {N : Int} (W : gh_wf fn fw) (hN : fn 0 = some N) : ∀ (n : Nat), (n : Int) ≤ N → gh_ct fw n ≤ n ∧ (n : Int) ≤ 4 * gh_ct fw n + 3 ∧ ∀ j : Int, 0 ≤ j → (n = 0 ∨ ∃ v, fw ((n : Int) - 1) = some v ∧ (v = 7 ∨ v < j)) → (n : Int) ≤ 4 * gh_ct fw n + j := by
  have ord : ∀ i v w, 0 ≤ i → i + 1 < N → fw i = some v → fw (i + 1) = some w → w = 7 ∨ v = 7 ∨ v < w := by
    obtain ⟨M, hM, -, -, o⟩ := W
    rw [hN] at hM
    cases hM
    exact o
  intro n
  induction n with
  | zero =>
    intro _
    refine ⟨Int.le_refl _, by show (0 : Int) ≤ 4 * 0 + 3; omega, fun j hj _ => ?_⟩
    show (0 : Int) ≤ 4 * 0 + j
    omega
  | succ n ih =>
    intro hn
    obtain ⟨i1, i2, i3⟩ := ih (by omega)
    obtain ⟨v, hv, vv⟩ := wf_val W hN (i := (n : Int)) (Int.natCast_nonneg n) (by omega)
    have hc : gh_ct fw (n + 1) = gh_ct fw n + (if v = 7 then 1 else 0) := by
      have := ct_push (fw := fw) (N := (n : Int)) (Int.natCast_nonneg n) hv
      rw [show ((n : Int) + 1).toNat = n + 1 by omega, show ((n : Int)).toNat = n by omega] at this
      exact this
    have low : v ≠ 7 → (n : Int) ≤ 4 * gh_ct fw n + v := fun h7 => by
      refine i3 v (by omega) ?_
      by_cases h0 : n = 0
      · exact Or.inl h0
      · obtain ⟨u, hu, -⟩ := wf_val W hN (i := (n : Int) - 1) (by omega) (by omega)
        refine Or.inr ⟨u, hu, ?_⟩
        have := ord ((n : Int) - 1) u v (by omega) (by omega) hu (by rw [show (n : Int) - 1 + 1 = n by omega]; exact hv)
        omega
    by_cases h7 : v = 7
    · rw [hc, if_pos h7]
      refine ⟨by omega, by omega, fun j hj _ => by omega⟩
    · rw [hc, if_neg h7]
      have := low h7
      refine ⟨by omega, by omega, fun j hj hh => ?_⟩
      rcases hh with hh | ⟨u, hu, hh⟩
      · omega
      · rw [show ((n + 1 : Nat) : Int) - 1 = (n : Int) by omega, hv] at hu
        cases hu
        omega
end LY3H
