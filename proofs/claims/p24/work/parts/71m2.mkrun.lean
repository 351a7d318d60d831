/-! beginMatter: a run to the making of a matter, the making, and a run behind it -/
section MK3
variable {cst : am_K} {strs : List Nat}
/-- a heap that has grown by a matter: all regions but its length stand as they stood -/
theorem mk_fr {h h' : am_H} (hh : 177 ≤ h.length) (hold : ∀ i, i < h.length → h'[i]? = h[i]?) {r : Nat} {i v : Int} (hr : r ≠ 60002) (hv : ly_hv cst h r i = some v) : ly_hv cst h' r i = some v := by
  have st : ∀ r, r / 256 < 177 → ly_h0 cst h' r = ly_h0 cst h r := fun r h1 => funext fun i => by
    unfold ly_h0
    rw [if_pos h1, if_pos h1, hold _ (by omega)]
  have mf : ∀ r i v, ¬ r / 256 < 177 → r / 256 < 196 → ly_h0 cst h r i = some v → ly_h0 cst h' r i = some v := fun r i v h2 h3 hv => by
    unfold ly_h0 at hv ⊢
    rw [if_neg h2, if_pos h3] at hv ⊢
    by_cases h4 : 0 ≤ i
    · rw [if_pos h4] at hv ⊢
      by_cases ha : r / 256 - 177 ≠ 0 ∧ ∃ y, h[177 + 19 * (i.toNat / 32) + (r / 256 - 177)]? = some (.inl y)
      · obtain ⟨h0, y, ha⟩ := ha
        have hl := (List.getElem?_eq_some_iff.mp ha).1
        rw [ly_h2_a h0 ha] at hv
        rw [ly_h2_a h0 ((hold _ hl).trans ha)]
        exact hv
      · have hn : r / 256 - 177 ≠ 0 → ∀ y, h[177 + 19 * (i.toNat / 32) + (r / 256 - 177)]? ≠ some (.inl y) := fun q y e => ha ⟨q, y, e⟩
        rw [ly_h2_o hn] at hv
        by_cases h5 : 177 + 19 * i.toNat + (r / 256 - 177) < h.length
        · rw [ly_h2_o (fun q y e => hn q y ((hold _ (by omega)).symm.trans e)), hold _ h5]
          exact hv
        · rw [List.getElem?_eq_none (by omega)] at hv
          cases hv
    · rw [if_neg h4] at hv
      cases hv
  have gz : ∀ i v, ly_gv (ly_h0 cst h) 60090 i = some v → ly_gv (ly_h0 cst h') 60090 i = some v := fun i v hv => by
    have hv : gz_s (ly_h0 cst h 45319) (ly_h0 cst h 45313) (-1) i = some v := hv
    show gz_s (ly_h0 cst h' 45319) (ly_h0 cst h' 45313) (-1) i = some v
    unfold gz_s at hv ⊢
    split at hv
    case h_2 => cases hv
    rename_i s p h1 h2
    rw [mf 45319 i s (by decide) (by decide) h1, mf 45313 i p (by decide) (by decide) h2]
    exact hv
  have gv : ∀ g i, g ≠ 60090 → ly_gv (ly_h0 cst h') g i = ly_gv (ly_h0 cst h) g i := fun g i hg => by
    unfold ly_gv
    rw [if_neg hg, if_neg hg, st 30464 (by decide), st 28416 (by decide), st 27904 (by decide), st 27392 (by decide), st 27648 (by decide), st 3584 (by decide), st 3588 (by decide), st 4352 (by decide), st 5376 (by decide), st 6151 (by decide), st 6400 (by decide), st 19989 (by decide), st 23296 (by decide), st 23552 (by decide), st 24064 (by decide), st 24576 (by decide), st 24832 (by decide), st 25088 (by decide), st 26880 (by decide), st 20012 (by decide)]
  unfold ly_hv at hv ⊢
  by_cases h1 : r < 60010
  · rw [if_pos h1] at hv ⊢
    by_cases h2 : r / 256 < 177
    · rw [st r h2]
      exact hv
    · by_cases h3 : r / 256 < 196
      · exact mf r i v h2 h3 hv
      · unfold ly_h0 at hv ⊢
        rw [if_neg h2, if_neg h3, if_neg hr] at hv ⊢
        exact hv
  · rw [if_neg h1] at hv ⊢
    by_cases h2 : r < 61000
    · rw [if_pos h2] at hv ⊢
      by_cases h3 : r = 60090
      · rw [h3] at hv ⊢
        exact gz i v hv
      · rw [gv r i h3]
        exact hv
    · rw [if_neg h2] at hv ⊢
      exact hv
/-- the instructions between -/
theorem mk_go {M : am_M} {d n : Nat} {l : am_L} {h h2 : am_H} {r0 r : am_Q} {x : Int64} {i1 i2 i3 i4 i5 i6 : Int32} (hm : sx_mok m_PL sxm133 M) (hd : 5 ≤ d)
    (l7 : am_ld 7 l = some (.long x)) (l1 : am_ld 1 l = some (.int i1)) (l2 : am_ld 2 l = some (.int i2)) (l3 : am_ld 3 l = some (.int i3)) (l4 : am_ld 4 l = some (.int i4)) (l5 : am_ld 5 l = some (.int i5)) (l6 : am_ld 6 l = some (.int i6))
    (h0 : am_Run cst m_cl m_tt m_P strs sx_bi 5 135 [.ref (16 + h.length), .long x, .int i1, .int i2, .int i3, .int i4, .int i5, .int i6] (h ++ [.inr (11, (m_tt.getD 11 []).map defaultValue)]) r0) (e0 : r0.1 = none) (eh : r0.2.1 = h2)
    (hgo : am_Go cst m_cl m_tt m_P strs (am_Run cst m_cl m_tt m_P strs sx_bi d) M n 49 l [.ref (16 + h.length)] h2 r) :
    am_Go cst m_cl m_tt m_P strs (am_Run cst m_cl m_tt m_P strs sx_bi d) M (n + 10) 31 l [] h (r.1, r.2.1, 1 + (r0.2.2.1 + r.2.2.1), 21 + (r0.2.2.2 + r.2.2.2)) := by
  have f := fun pc q e => hm.2.2 pc q e
  have g46 : am_Go cst m_cl m_tt m_P strs (am_Run cst m_cl m_tt m_P strs sx_bi d) M (n + 1) 46 l [.int i6, .int i5, .int i4, .int i3, .int i2, .int i1, .long x, .ref (16 + h.length), .ref (16 + h.length)] (h ++ [.inr (11, (m_tt.getD 11 []).map defaultValue)]) (r.1, r.2.1, r0.2.2.1 + r.2.2.1, r0.2.2.2 + r.2.2.2) := by
    refine ⟨_, _, f 46 (.invokespecial 233, (135, 8, 0)) rfl, Or.inr (Or.inr (Or.inr (Or.inl ⟨r0, r, ⟨Nat.le_of_ble_eq_true rfl, Nat.le_of_ble_eq_true rfl, rfl, _, _, rfl⟩, am_Run_le hd h0, ?_, rfl⟩)))⟩
    rw [e0, eh]
    exact hgo
  refine ⟨_, _, f 31 (.new 231, (11, 0, 0)) rfl, Or.inr (Or.inl ⟨(34, l, [.ref (16 + h.length)], h ++ [.inr (11, (m_tt.getD 11 []).map defaultValue)]), 21, (r.1, r.2.1, r0.2.2.1 + r.2.2.1, r0.2.2.2 + r.2.2.2), rfl, ?_, rfl⟩)⟩
  refine ⟨_, _, f 34 (.dup, mX) rfl, Or.inl ⟨(35, l, [.ref (16 + h.length), .ref (16 + h.length)], (h ++ [.inr (11, (m_tt.getD 11 []).map defaultValue)])), rfl, ?_⟩⟩
  refine ⟨_, _, f 35 (.lload 7, mX) rfl, Or.inl ⟨(37, l, [.long x, .ref (16 + h.length), .ref (16 + h.length)], (h ++ [.inr (11, (m_tt.getD 11 []).map defaultValue)])), by first | (simp only [am_s, l7]; done) | (simp only [am_s, l7]; rfl), ?_⟩⟩
  refine ⟨_, _, f 37 (.iload_n 1, mX) rfl, Or.inl ⟨(38, l, [.int i1, .long x, .ref (16 + h.length), .ref (16 + h.length)], (h ++ [.inr (11, (m_tt.getD 11 []).map defaultValue)])), by first | (simp only [am_s]; rw [show ((1 : Fin 4).val) = 1 from rfl, l1]; done) | (simp only [am_s]; rw [show ((1 : Fin 4).val) = 1 from rfl, l1]; rfl) | (simp only [am_s, l1]; rfl) | (unfold am_s; simp only []; rw [show am_ld ((1 : Fin 4).val) l = _ from l1]; rfl), ?_⟩⟩
  refine ⟨_, _, f 38 (.iload_n 2, mX) rfl, Or.inl ⟨(39, l, [.int i2, .int i1, .long x, .ref (16 + h.length), .ref (16 + h.length)], (h ++ [.inr (11, (m_tt.getD 11 []).map defaultValue)])), by first | (simp only [am_s]; rw [show ((2 : Fin 4).val) = 2 from rfl, l2]; done) | (simp only [am_s]; rw [show ((2 : Fin 4).val) = 2 from rfl, l2]; rfl) | (simp only [am_s, l2]; rfl) | (unfold am_s; simp only []; rw [show am_ld ((2 : Fin 4).val) l = _ from l2]; rfl), ?_⟩⟩
  refine ⟨_, _, f 39 (.iload_n 3, mX) rfl, Or.inl ⟨(40, l, [.int i3, .int i2, .int i1, .long x, .ref (16 + h.length), .ref (16 + h.length)], (h ++ [.inr (11, (m_tt.getD 11 []).map defaultValue)])), by first | (simp only [am_s]; rw [show ((3 : Fin 4).val) = 3 from rfl, l3]; done) | (simp only [am_s]; rw [show ((3 : Fin 4).val) = 3 from rfl, l3]; rfl) | (simp only [am_s, l3]; rfl) | (unfold am_s; simp only []; rw [show am_ld ((3 : Fin 4).val) l = _ from l3]; rfl), ?_⟩⟩
  refine ⟨_, _, f 40 (.iload 4, mX) rfl, Or.inl ⟨(42, l, [.int i4, .int i3, .int i2, .int i1, .long x, .ref (16 + h.length), .ref (16 + h.length)], (h ++ [.inr (11, (m_tt.getD 11 []).map defaultValue)])), by first | (simp only [am_s, l4]; done) | (simp only [am_s, l4]; rfl), ?_⟩⟩
  refine ⟨_, _, f 42 (.iload 5, mX) rfl, Or.inl ⟨(44, l, [.int i5, .int i4, .int i3, .int i2, .int i1, .long x, .ref (16 + h.length), .ref (16 + h.length)], (h ++ [.inr (11, (m_tt.getD 11 []).map defaultValue)])), by first | (simp only [am_s, l5]; done) | (simp only [am_s, l5]; rfl), ?_⟩⟩
  refine ⟨_, _, f 44 (.iload 6, mX) rfl, Or.inl ⟨(46, l, [.int i6, .int i5, .int i4, .int i3, .int i2, .int i1, .long x, .ref (16 + h.length), .ref (16 + h.length)], (h ++ [.inr (11, (m_tt.getD 11 []).map defaultValue)])), by first | (simp only [am_s, l6]; done) | (simp only [am_s, l6]; rfl), ?_⟩⟩
  exact g46
end MK3
