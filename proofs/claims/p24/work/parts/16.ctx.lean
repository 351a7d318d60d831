/-- a class' layout words, by their places -/
def am_cwb (Tc : List (List Cond)) (C : String) (T : u_T) (ps : List Nat) (N : Nat) : Bool := decide (ps.length = N) && (List.range N).all fun k => am_hit Tc (ps.getD k 0) (u_lay C T k)
theorem am_cwb_ok {Ts : List Cond} {Tc : List (List Cond)} (hTc : ∀ c ∈ Tc, ∀ w ∈ c, goodWord w = true → w ∈ Ts) {C : String} {T : u_T} {ps : List Nat} {N : Nat} (h : am_cwb Tc C T ps N = true) : ∀ w ∈ u_ws C T N, w ∈ Ts := by
  intro w hw
  unfold am_cwb at h
  rw [Bool.and_eq_true] at h
  obtain ⟨k, hk, rfl⟩ := List.mem_map.mp hw
  exact am_hit_mem hTc (List.all_eq_true.mp h.2 k hk)
