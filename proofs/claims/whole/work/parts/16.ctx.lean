/-- a class' layout words, by their places -/
def am_cwb (Tc : List (List Cond)) (C : String) (T : u_T) (ps : List Nat) (N : Nat) : Bool := decide (ps.length = N) && (List.range N).all fun k => am_hit Tc (ps.getD k 0) (u_lay C T k)
theorem am_cwb_ok {Ts : List Cond} {Tc : List (List Cond)} (hTc : ∀ c ∈ Tc, ∀ w ∈ c, w ∈ Ts) {C : String} {T : u_T} {ps : List Nat} {N : Nat} (h : am_cwb Tc C T ps N = true) : ∀ w ∈ u_ws C T N, w ∈ Ts := by
  intro w hw
  unfold am_cwb at h
  rw [Bool.and_eq_true] at h
  obtain ⟨k, hk, rfl⟩ := List.mem_map.mp hw
  exact am_hit_mem hTc (List.all_eq_true.mp h.2 k hk)
theorem am_code_ok {Ts : List Cond} {Tc : List (List Cond)} (hTc : ∀ c ∈ Tc, ∀ w ∈ c, w ∈ Ts) {P : List am_M} {ps : List Nat} (h : ((P.zip ps).all fun q => am_hit Tc q.2 (.code q.1.1 q.1.2.1 q.1.2.2.1 q.1.2.2.2.1) && decide (q.1.2.2.1 ≤ 100)) = true) (hl : P.length = ps.length) {mi : Nat} {M : am_M} (hM : P[mi]? = some M) : Cond.code M.1 M.2.1 M.2.2.1 M.2.2.2.1 ∈ Ts ∧ M.2.2.1 ≤ 100 := by
  have hlt := (List.getElem?_eq_some_iff.mp hM).1
  have hz : (P.zip ps)[mi]? = some (M, ps[mi]'(by omega)) := by
    rw [List.getElem?_zip_eq_some]
    exact ⟨hM, List.getElem?_eq_getElem _⟩
  have hq := List.all_eq_true.mp h _ (List.mem_of_getElem? hz)
  rw [Bool.and_eq_true] at hq
  exact ⟨am_hit_mem hTc hq.1, of_decide_eq_true hq.2⟩
