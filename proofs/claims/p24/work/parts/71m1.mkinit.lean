/-! its constructor, by these runs -/
section MK2
variable {cst : am_K} {strs : List Nat}
/-- a long out of two ints -/
theorem mk_two (x : Int64) : ∃ a b : Int32, x.toInt = a.toInt * 4294967296 + b.toInt + 2147483648 := by
  have h1 : x.toInt < 9223372036854775808 := Int64.toInt_lt x
  have h2 : -9223372036854775808 ≤ x.toInt := Int64.le_toInt x
  refine ⟨Int32.ofInt (x.toInt / 4294967296), Int32.ofInt (x.toInt % 4294967296 - 2147483648), ?_⟩
  rw [Int32.toInt_ofInt_of_le (show -2147483648 ≤ x.toInt / 4294967296 by omega) (show x.toInt / 4294967296 < 2147483648 by omega), Int32.toInt_ofInt_of_le (show -2147483648 ≤ x.toInt % 4294967296 - 2147483648 by omega) (show x.toInt % 4294967296 - 2147483648 < 2147483648 by omega)]
  omega
abbrev mk_ro (i1 i3 i5 a b : Int32) : Nat → Int32 := fun k => if k = 5 then i1 else if k = 8 then i3 else if k = 9 then i5 else if k = 10 then a else if k = 11 then b else (-1 : Int32)
theorem mk_init (hstr : ∀ a, 8 ≤ a → a < 12 → a ∈ strs) (hc4 : ∃ L : List Int32, cst.1[4]? = some L) (hc2 : cst.2.1.length = 4) (hc3 : cst.2.2 = .ref 7 ∨ cst.2.2 = .null) {n : Nat} {h : am_H} (hn : n ≤ 99) (hy : ly_hy m_tt ly_TH h) (hlen : h.length = 177 + 19 * n) (x : Int64) (i1 i2 i3 i4 i5 i6 : Int32) :
    ∃ r : am_Q, am_Run cst m_cl m_tt m_P strs sx_bi 5 135 [.ref (16 + h.length), .long x, .int i1, .int i2, .int i3, .int i4, .int i5, .int i6] (h ++ [.inr (11, (m_tt.getD 11 []).map defaultValue)]) r ∧ r.1 = none ∧ ly_hy m_tt ly_TH r.2.1 ∧ r.2.1.length = 177 + 19 * (n + 1) ∧ (∀ i, i < h.length → r.2.1[i]? = h[i]?) ∧ r.2.2.1 ≤ 18 ∧ r.2.2.2 ≤ 240 ∧ ly_hv cst r.2.1 45322 (n : Int) = some 1 ∧ ly_hv cst r.2.1 45319 (n : Int) = some 0 ∧ ly_hv cst r.2.1 45313 (n : Int) = some i1.toInt ∧ ly_hv cst r.2.1 45315 (n : Int) = some i3.toInt ∧ ly_hv cst r.2.1 45317 (n : Int) = some i5.toInt ∧ ly_hv cst r.2.1 45312 (n : Int) = some x.toInt ∧ ly_hv cst r.2.1 45571 (n : Int) = some 0 ∧ ly_hv cst r.2.1 46339 (n : Int) = some 0 := by
  have hr := mk_all n (by omega)
  obtain ⟨xa, xb, hab⟩ := mk_two x
  obtain ⟨M, hM, hmok, hml, -⟩ := sx_tok_m 135 sxm135 rfl rfl
  have top : ∀ i : Int32, sx_g (mk_ro i1 i3 i5 xa xb) sx_top (.int i) := fun i => ⟨i, rfl, (ly_top i).1, (ly_top i).2, fun k c hk => by cases hk⟩
  have := sx_run_ok (ρ := mk_ro i1 i3 i5 xa xb) (K := []) (cst := cst) (h0 := h) (Φ := fun r => r.1 = none ∧ ly_hy m_tt ly_TH r.2.1 ∧ r.2.1.length = 177 + 19 * (n + 1) ∧ (∀ i, i < h.length → r.2.1[i]? = h[i]?) ∧ r.2.2.1 ≤ 18 ∧ r.2.2.2 ≤ 240 ∧ ly_hv cst r.2.1 45322 (n : Int) = some 1 ∧ ly_hv cst r.2.1 45319 (n : Int) = some 0 ∧ ly_hv cst r.2.1 45313 (n : Int) = some i1.toInt ∧ ly_hv cst r.2.1 45315 (n : Int) = some i3.toInt ∧ ly_hv cst r.2.1 45317 (n : Int) = some i5.toInt ∧ ly_hv cst r.2.1 45312 (n : Int) = some x.toInt ∧ ly_hv cst r.2.1 45571 (n : Int) = some 0 ∧ ly_hv cst r.2.1 46339 (n : Int) = some 0)
    ⟨fun a r hr => (by cases hr), hc4.elim (fun L hL => ⟨L, hL, fun hneg => absurd hneg (show ¬ (0 : Int) ≤ (-1 : Int32).toInt by decide)⟩), hc2, hc3⟩ sx_tok_m hstr (fun y hy => by cases hy) (fun g f' fs' h' hs => by cases hs)
    (fun v H c s v' h' hf gO gH => by
      obtain ⟨e1, e2, e3, e4, e5, e6, e7, e8, e9, e10, e11, e12, e13, e14⟩ := mk_hy (cst := cst) hy hn hlen hf gH mk_8
      subst e1
      cases v' with
      | none => exact ⟨rfl, e2, e3, e4, e5, e6, e7, e8, e9, e10, e11, by rw [hab]; exact e12, e13, e14⟩
      | some w => exact gO.elim)
    300 (mk_g0 n) (M, 0, lv_args 0 [.ref (16 + h.length), .long x, .int i1, .int i2, .int i3, .int i4, .int i5, .int i6], []) [] (h ++ [.inr (11, (m_tt.getD 11 []).map defaultValue)]) hr (fun k p hk => by cases hk) ⟨hmok, rfl, ?_, trivial⟩ trivial ?_
  · obtain ⟨k, r, hgo, hP⟩ := this
    obtain ⟨p1, p2, p3, p4, p5, p6, p7⟩ := hP
    have p5 : 0 + r.2.2.1 ≤ 18 := p5
    have p6 : 0 + r.2.2.2 ≤ 240 := p6
    refine ⟨r, Or.inr ⟨M, k, hM, ?_, hgo⟩, p1, p2, p3, p4, by omega, by omega, p7⟩
    rw [← hml]
    have e9 : 9 ≤ sxm135.2.2.1 := by decide
    exact e9
  · rw [hlen]
    exact ⟨⟨rfl, Or.inl rfl⟩, ⟨rfl, ⟨x, rfl, fun c hc => by
      cases hc
      unfold sx_jm
      rw [if_pos rfl]
      exact hab⟩⟩, ⟨rfl, ⟨i1, rfl, (ly_top i1).1, (ly_top i1).2, fun k c hk => by cases hk; exact (Int.add_zero _).symm⟩⟩, ⟨rfl, top i2⟩, ⟨rfl, ⟨i3, rfl, (ly_top i3).1, (ly_top i3).2, fun k c hk => by cases hk; exact (Int.add_zero _).symm⟩⟩, ⟨rfl, top i4⟩, ⟨rfl, ⟨i5, rfl, (ly_top i5).1, (ly_top i5).2, fun k c hk => by cases hk; exact (Int.add_zero _).symm⟩⟩, ⟨rfl, top i6⟩, trivial⟩
  · refine ⟨?_, ?_, fun i e he => ?_, fun i hi _ => List.getElem?_append_left hi⟩
    · show (h ++ _).length = if 1000000000 ≤ 178 + 19 * n then h.length else 178 + 19 * n
      rw [if_neg (by omega), List.length_append]
      show h.length + 1 = _
      omega
    · rw [List.length_append]; omega
    · have hi : i = 177 + 19 * n ∧ e = .inr (11, [], []) := by
        simp only [mk_g0, sx_hget] at he
        split at he
        · rename_i e' he'
          cases he
          have := sx_get_mem he'
          simp only [List.mem_singleton, Prod.mk.injEq] at this
          exact this
        · simp at he
      obtain ⟨rfl, rfl⟩ := hi
      refine ⟨_, by rw [← hlen, List.getElem?_append_right (Nat.le_refl _), Nat.sub_self]; rfl, _, rfl, by rw [List.length_map], fun j v hv => ?_⟩
      simp only [sx_fld, sx_get] at hv
      split at hv
      · rename_i t ht
        refine ⟨defaultValue t, by rw [List.getElem?_map, ht]; rfl, ?_⟩
        cases t <;> simp only [sx_zero, Option.some.injEq] at hv <;> first | (subst hv; exact ⟨_, rfl, rfl⟩) | (subst hv; exact ⟨0, rfl, fun c hc => sx_jm_of (by cases hc; rfl)⟩) | (subst hv; rfl) | cases hv
      · cases hv
end MK2
