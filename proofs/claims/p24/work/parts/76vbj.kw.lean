/-! PRINTED by wip/p2/hp_key.py: which of the 24 words -/
def kwl : List Int → Int → Int → Int
  | [], _, _ => -1
  | x :: xs, i, v => if v = x then i else kwl xs (i + 1) v
def kwt : List Int := [136356, 24627347, 4359816, 206277, 113428729, 609441381, 365744, 431556, 349785, 394692, 11566, 3574901946597, 9309407396, 75148, 736548, 20579780, 659105125, 719722099, 498, 1476, 14836, 1130181, 2273783, 307]
/-- which of the 24 words -/
def kw (v : Int) : Int := kwl kwt 0 v
theorem kwl_in : ∀ (xs : List Int) (i v : Int), kwl xs i v = -1 ∨ (i ≤ kwl xs i v ∧ xs[(kwl xs i v - i).toNat]? = some v)
  | [], _, _ => Or.inl rfl
  | x :: xs, i, v => by
    rw [kwl]
    by_cases e : v = x
    · rw [if_pos e]
      exact Or.inr ⟨Int.le_refl _, by rw [show (i - i).toNat = 0 by omega, e]; rfl⟩
    · rw [if_neg e]
      rcases kwl_in xs (i + 1) v with z | ⟨z1, z2⟩
      · exact Or.inl z
      · exact Or.inr ⟨by omega, by rw [show (kwl xs (i + 1) v - i).toNat = (kwl xs (i + 1) v - (i + 1)).toNat + 1 by omega]; exact z2⟩
theorem kw_b (v : Int) : -1 ≤ kw v ∧ kw v ≤ 23 := by
  unfold kw
  rcases kwl_in kwt 0 v with z | ⟨z1, z2⟩
  · omega
  · have := (List.getElem?_eq_some_iff.mp z2).1
    have e : kwt.length = 24 := rfl
    omega
theorem kw_0 {v : Int} (h : kw v = 0) : v = 136356 := by
  unfold kw at h
  rcases kwl_in kwt 0 v with z | ⟨-, z2⟩
  · omega
  · rw [h, show kwt[((0 : Int) - 0).toNat]? = some 136356 from rfl] at z2
    exact (Option.some.inj z2).symm
theorem kw_1 {v : Int} (h : kw v = 1) : v = 24627347 := by
  unfold kw at h
  rcases kwl_in kwt 0 v with z | ⟨-, z2⟩
  · omega
  · rw [h, show kwt[((1 : Int) - 0).toNat]? = some 24627347 from rfl] at z2
    exact (Option.some.inj z2).symm
theorem kw_2 {v : Int} (h : kw v = 2) : v = 4359816 := by
  unfold kw at h
  rcases kwl_in kwt 0 v with z | ⟨-, z2⟩
  · omega
  · rw [h, show kwt[((2 : Int) - 0).toNat]? = some 4359816 from rfl] at z2
    exact (Option.some.inj z2).symm
theorem kw_3 {v : Int} (h : kw v = 3) : v = 206277 := by
  unfold kw at h
  rcases kwl_in kwt 0 v with z | ⟨-, z2⟩
  · omega
  · rw [h, show kwt[((3 : Int) - 0).toNat]? = some 206277 from rfl] at z2
    exact (Option.some.inj z2).symm
theorem kw_4 {v : Int} (h : kw v = 4) : v = 113428729 := by
  unfold kw at h
  rcases kwl_in kwt 0 v with z | ⟨-, z2⟩
  · omega
  · rw [h, show kwt[((4 : Int) - 0).toNat]? = some 113428729 from rfl] at z2
    exact (Option.some.inj z2).symm
theorem kw_5 {v : Int} (h : kw v = 5) : v = 609441381 := by
  unfold kw at h
  rcases kwl_in kwt 0 v with z | ⟨-, z2⟩
  · omega
  · rw [h, show kwt[((5 : Int) - 0).toNat]? = some 609441381 from rfl] at z2
    exact (Option.some.inj z2).symm
theorem kw_6 {v : Int} (h : kw v = 6) : v = 365744 := by
  unfold kw at h
  rcases kwl_in kwt 0 v with z | ⟨-, z2⟩
  · omega
  · rw [h, show kwt[((6 : Int) - 0).toNat]? = some 365744 from rfl] at z2
    exact (Option.some.inj z2).symm
theorem kw_7 {v : Int} (h : kw v = 7) : v = 431556 := by
  unfold kw at h
  rcases kwl_in kwt 0 v with z | ⟨-, z2⟩
  · omega
  · rw [h, show kwt[((7 : Int) - 0).toNat]? = some 431556 from rfl] at z2
    exact (Option.some.inj z2).symm
theorem kw_8 {v : Int} (h : kw v = 8) : v = 349785 := by
  unfold kw at h
  rcases kwl_in kwt 0 v with z | ⟨-, z2⟩
  · omega
  · rw [h, show kwt[((8 : Int) - 0).toNat]? = some 349785 from rfl] at z2
    exact (Option.some.inj z2).symm
theorem kw_9 {v : Int} (h : kw v = 9) : v = 394692 := by
  unfold kw at h
  rcases kwl_in kwt 0 v with z | ⟨-, z2⟩
  · omega
  · rw [h, show kwt[((9 : Int) - 0).toNat]? = some 394692 from rfl] at z2
    exact (Option.some.inj z2).symm
theorem kw_10 {v : Int} (h : kw v = 10) : v = 11566 := by
  unfold kw at h
  rcases kwl_in kwt 0 v with z | ⟨-, z2⟩
  · omega
  · rw [h, show kwt[((10 : Int) - 0).toNat]? = some 11566 from rfl] at z2
    exact (Option.some.inj z2).symm
theorem kw_11 {v : Int} (h : kw v = 11) : v = 3574901946597 := by
  unfold kw at h
  rcases kwl_in kwt 0 v with z | ⟨-, z2⟩
  · omega
  · rw [h, show kwt[((11 : Int) - 0).toNat]? = some 3574901946597 from rfl] at z2
    exact (Option.some.inj z2).symm
theorem kw_12 {v : Int} (h : kw v = 12) : v = 9309407396 := by
  unfold kw at h
  rcases kwl_in kwt 0 v with z | ⟨-, z2⟩
  · omega
  · rw [h, show kwt[((12 : Int) - 0).toNat]? = some 9309407396 from rfl] at z2
    exact (Option.some.inj z2).symm
theorem kw_13 {v : Int} (h : kw v = 13) : v = 75148 := by
  unfold kw at h
  rcases kwl_in kwt 0 v with z | ⟨-, z2⟩
  · omega
  · rw [h, show kwt[((13 : Int) - 0).toNat]? = some 75148 from rfl] at z2
    exact (Option.some.inj z2).symm
theorem kw_14 {v : Int} (h : kw v = 14) : v = 736548 := by
  unfold kw at h
  rcases kwl_in kwt 0 v with z | ⟨-, z2⟩
  · omega
  · rw [h, show kwt[((14 : Int) - 0).toNat]? = some 736548 from rfl] at z2
    exact (Option.some.inj z2).symm
theorem kw_15 {v : Int} (h : kw v = 15) : v = 20579780 := by
  unfold kw at h
  rcases kwl_in kwt 0 v with z | ⟨-, z2⟩
  · omega
  · rw [h, show kwt[((15 : Int) - 0).toNat]? = some 20579780 from rfl] at z2
    exact (Option.some.inj z2).symm
theorem kw_16 {v : Int} (h : kw v = 16) : v = 659105125 := by
  unfold kw at h
  rcases kwl_in kwt 0 v with z | ⟨-, z2⟩
  · omega
  · rw [h, show kwt[((16 : Int) - 0).toNat]? = some 659105125 from rfl] at z2
    exact (Option.some.inj z2).symm
theorem kw_17 {v : Int} (h : kw v = 17) : v = 719722099 := by
  unfold kw at h
  rcases kwl_in kwt 0 v with z | ⟨-, z2⟩
  · omega
  · rw [h, show kwt[((17 : Int) - 0).toNat]? = some 719722099 from rfl] at z2
    exact (Option.some.inj z2).symm
theorem kw_18 {v : Int} (h : kw v = 18) : v = 498 := by
  unfold kw at h
  rcases kwl_in kwt 0 v with z | ⟨-, z2⟩
  · omega
  · rw [h, show kwt[((18 : Int) - 0).toNat]? = some 498 from rfl] at z2
    exact (Option.some.inj z2).symm
theorem kw_19 {v : Int} (h : kw v = 19) : v = 1476 := by
  unfold kw at h
  rcases kwl_in kwt 0 v with z | ⟨-, z2⟩
  · omega
  · rw [h, show kwt[((19 : Int) - 0).toNat]? = some 1476 from rfl] at z2
    exact (Option.some.inj z2).symm
theorem kw_20 {v : Int} (h : kw v = 20) : v = 14836 := by
  unfold kw at h
  rcases kwl_in kwt 0 v with z | ⟨-, z2⟩
  · omega
  · rw [h, show kwt[((20 : Int) - 0).toNat]? = some 14836 from rfl] at z2
    exact (Option.some.inj z2).symm
theorem kw_21 {v : Int} (h : kw v = 21) : v = 1130181 := by
  unfold kw at h
  rcases kwl_in kwt 0 v with z | ⟨-, z2⟩
  · omega
  · rw [h, show kwt[((21 : Int) - 0).toNat]? = some 1130181 from rfl] at z2
    exact (Option.some.inj z2).symm
theorem kw_22 {v : Int} (h : kw v = 22) : v = 2273783 := by
  unfold kw at h
  rcases kwl_in kwt 0 v with z | ⟨-, z2⟩
  · omega
  · rw [h, show kwt[((22 : Int) - 0).toNat]? = some 2273783 from rfl] at z2
    exact (Option.some.inj z2).symm
theorem kw_23 {v : Int} (h : kw v = 23) : v = 307 := by
  unfold kw at h
  rcases kwl_in kwt 0 v with z | ⟨-, z2⟩
  · omega
  · rw [h, show kwt[((23 : Int) - 0).toNat]? = some 307 from rfl] at z2
    exact (Option.some.inj z2).symm
theorem kw_v0 : kw 136356 = 0 := by decide
theorem kw_v1 : kw 24627347 = 1 := by decide
theorem kw_v2 : kw 4359816 = 2 := by decide
theorem kw_v3 : kw 206277 = 3 := by decide
theorem kw_v4 : kw 113428729 = 4 := by decide
theorem kw_v5 : kw 609441381 = 5 := by decide
theorem kw_v6 : kw 365744 = 6 := by decide
theorem kw_v7 : kw 431556 = 7 := by decide
theorem kw_v8 : kw 349785 = 8 := by decide
theorem kw_v9 : kw 394692 = 9 := by decide
theorem kw_v10 : kw 11566 = 10 := by decide
theorem kw_v11 : kw 3574901946597 = 11 := by decide
theorem kw_v12 : kw 9309407396 = 12 := by decide
theorem kw_v13 : kw 75148 = 13 := by decide
theorem kw_v14 : kw 736548 = 14 := by decide
theorem kw_v15 : kw 20579780 = 15 := by decide
theorem kw_v16 : kw 659105125 = 16 := by decide
theorem kw_v17 : kw 719722099 = 17 := by decide
theorem kw_v18 : kw 498 = 18 := by decide
theorem kw_v19 : kw 1476 = 19 := by decide
theorem kw_v20 : kw 14836 = 20 := by decide
theorem kw_v21 : kw 1130181 = 21 := by decide
theorem kw_v22 : kw 2273783 = 22 := by decide
theorem kw_v23 : kw 307 = 23 := by decide
theorem kw_none {v : Int} (h0 : v ≠ 136356) (h1 : v ≠ 24627347) (h2 : v ≠ 4359816) (h3 : v ≠ 206277) (h4 : v ≠ 113428729) (h5 : v ≠ 609441381) (h6 : v ≠ 365744) (h7 : v ≠ 431556) (h8 : v ≠ 349785) (h9 : v ≠ 394692) (h10 : v ≠ 11566) (h11 : v ≠ 3574901946597) (h12 : v ≠ 9309407396) (h13 : v ≠ 75148) (h14 : v ≠ 736548) (h15 : v ≠ 20579780) (h16 : v ≠ 659105125) (h17 : v ≠ 719722099) (h18 : v ≠ 498) (h19 : v ≠ 1476) (h20 : v ≠ 14836) (h21 : v ≠ 1130181) (h22 : v ≠ 2273783) (h23 : v ≠ 307) : kw v = -1 := by
  have b := kw_b v
  have n0 : kw v ≠ 0 := fun e => h0 (kw_0 e)
  have n1 : kw v ≠ 1 := fun e => h1 (kw_1 e)
  have n2 : kw v ≠ 2 := fun e => h2 (kw_2 e)
  have n3 : kw v ≠ 3 := fun e => h3 (kw_3 e)
  have n4 : kw v ≠ 4 := fun e => h4 (kw_4 e)
  have n5 : kw v ≠ 5 := fun e => h5 (kw_5 e)
  have n6 : kw v ≠ 6 := fun e => h6 (kw_6 e)
  have n7 : kw v ≠ 7 := fun e => h7 (kw_7 e)
  have n8 : kw v ≠ 8 := fun e => h8 (kw_8 e)
  have n9 : kw v ≠ 9 := fun e => h9 (kw_9 e)
  have n10 : kw v ≠ 10 := fun e => h10 (kw_10 e)
  have n11 : kw v ≠ 11 := fun e => h11 (kw_11 e)
  have n12 : kw v ≠ 12 := fun e => h12 (kw_12 e)
  have n13 : kw v ≠ 13 := fun e => h13 (kw_13 e)
  have n14 : kw v ≠ 14 := fun e => h14 (kw_14 e)
  have n15 : kw v ≠ 15 := fun e => h15 (kw_15 e)
  have n16 : kw v ≠ 16 := fun e => h16 (kw_16 e)
  have n17 : kw v ≠ 17 := fun e => h17 (kw_17 e)
  have n18 : kw v ≠ 18 := fun e => h18 (kw_18 e)
  have n19 : kw v ≠ 19 := fun e => h19 (kw_19 e)
  have n20 : kw v ≠ 20 := fun e => h20 (kw_20 e)
  have n21 : kw v ≠ 21 := fun e => h21 (kw_21 e)
  have n22 : kw v ≠ 22 := fun e => h22 (kw_22 e)
  have n23 : kw v ≠ 23 := fun e => h23 (kw_23 e)
  omega
