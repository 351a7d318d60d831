/-! its constructor, by these runs -/
section MK2
variable {cst : am_K} {strs : List Nat}
theorem mk_init (hstr : ∀ a, 8 ≤ a → a < 12 → a ∈ strs) (hc4 : ∃ L : List Int32, cst.1[4]? = some L) (hc2 : cst.2.1.length = 4) (hc3 : cst.2.2 = .ref 7 ∨ cst.2.2 = .null) {n : Nat} {h : am_H} (hn : n ≤ 99) (hy : ly_hy m_tt ly_TH h) (hlen : h.length = 177 + 19 * n) (x : Int64) (i1 i2 i3 i4 i5 i6 : Int32) :
    ∃ r : am_Q, am_Run cst m_cl m_tt m_P strs sx_bi 5 135 [.ref (16 + h.length), .long x, .int i1, .int i2, .int i3, .int i4, .int i5, .int i6] (h ++ [.inr (11, (m_tt.getD 11 []).map defaultValue)]) r ∧ r.1 = none ∧ ly_hy m_tt ly_TH r.2.1 ∧ r.2.1.length = 177 + 19 * (n + 1) ∧ (∀ i, i < h.length → r.2.1[i]? = h[i]?) ∧ r.2.2.1 ≤ 18 ∧ r.2.2.2 ≤ 240 := by
  have hr := mk_all n (by omega)
  obtain ⟨M, hM, hmok, hml, -⟩ := sx_tok_m 135 sxm135 rfl rfl
  have top : ∀ i : Int32, sx_g (fun _ => (-1 : Int32)) sx_top (.int i) := fun i => ⟨i, rfl, (ly_top i).1, (ly_top i).2, fun k c hk => by cases hk⟩
  have := sx_run_ok (ρ := fun _ => (-1 : Int32)) (K := []) (cst := cst) (h0 := h) (Φ := fun r => r.1 = none ∧ ly_hy m_tt ly_TH r.2.1 ∧ r.2.1.length = 177 + 19 * (n + 1) ∧ (∀ i, i < h.length → r.2.1[i]? = h[i]?) ∧ r.2.2.1 ≤ 18 ∧ r.2.2.2 ≤ 240)
    ⟨fun a r hr => (by cases hr), hc4.elim (fun L hL => ⟨L, hL, fun hneg => absurd hneg (by decide)⟩), hc2, hc3⟩ sx_tok_m hstr (fun y hy => by cases hy) (fun g f' fs' h' hs => by cases hs)
    (fun v H c s v' h' hf gO gH => by
      obtain ⟨e1, e2, e3, e4, e5, e6⟩ := mk_hy hy hn hlen hf gH mk_8
      subst e1
      cases v' with
      | none => exact ⟨rfl, e2, e3, e4, e5, e6⟩
      | some w => exact gO.elim)
    300 (mk_g0 n) (M, 0, lv_args 0 [.ref (16 + h.length), .long x, .int i1, .int i2, .int i3, .int i4, .int i5, .int i6], []) [] (h ++ [.inr (11, (m_tt.getD 11 []).map defaultValue)]) hr (fun k p hk => by cases hk) ⟨hmok, rfl, ?_, trivial⟩ trivial ?_
  · obtain ⟨k, r, hgo, hP⟩ := this
    obtain ⟨p1, p2, p3, p4, p5, p6⟩ := hP
    have p5 : 0 + r.2.2.1 ≤ 18 := p5
    have p6 : 0 + r.2.2.2 ≤ 240 := p6
    refine ⟨r, Or.inr ⟨M, k, hM, ?_, hgo⟩, p1, p2, p3, p4, by omega, by omega⟩
    rw [← hml]
    have e9 : 9 ≤ sxm135.2.2.1 := by decide
    exact e9
  · rw [hlen]
    exact ⟨⟨rfl, Or.inl rfl⟩, ⟨rfl, ⟨x, rfl, fun c hc => by cases hc⟩⟩, ⟨rfl, top i1⟩, ⟨rfl, top i2⟩, ⟨rfl, top i3⟩, ⟨rfl, top i4⟩, ⟨rfl, top i5⟩, ⟨rfl, top i6⟩, trivial⟩
  · refine ⟨?_, ?_, fun i e he => ?_, fun i hi _ => List.getElem?_append_left hi⟩
    · show (h ++ _).length = if 1000000000 ≤ 178 + 19 * n then h.length else 178 + 19 * n
      rw [if_neg (by omega), List.length_append]
      show h.length + 1 = _
      omega
    · rw [List.length_append]; omega
    · have hi : i = 177 + 19 * n ∧ e = .inr (11, [], []) := by
        simp only [mk_g0, sx_hget] at he
        split at he
        · rename_i e' he'
          cases he
          have := sx_get_mem he'
          simp only [List.mem_singleton, Prod.mk.injEq] at this
          exact this
        · simp at he
      obtain ⟨rfl, rfl⟩ := hi
      refine ⟨_, by rw [← hlen, List.getElem?_append_right (Nat.le_refl _), Nat.sub_self]; rfl, _, rfl, by rw [List.length_map], fun j v hv => ?_⟩
      simp only [sx_fld, sx_get] at hv
      split at hv
      · rename_i t ht
        refine ⟨defaultValue t, by rw [List.getElem?_map, ht]; rfl, ?_⟩
        cases t <;> simp only [sx_zero, Option.some.injEq] at hv <;> first | (subst hv; exact ⟨_, rfl, rfl⟩) | (subst hv; exact ⟨0, rfl, fun c hc => by cases hc; rfl⟩) | (subst hv; rfl) | cases hv
      · cases hv
end MK2
