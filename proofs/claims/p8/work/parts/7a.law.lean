/-! PRINTED by wip/p2/gen_law.py: the law -/
theorem lw_cases {cst : am_K} (gC : ly_gC sx_KK cst) {n : Int} : ∀ pc ∈ lw_tg, ∀ (Φ : am_Q → Prop) (p : Int) (h : am_H) (l : am_L), lw_I cst n p h l → p + 7 ≤ n → (∀ (h' : am_H) (l' : am_L) (ca sa : Nat), ca ≤ 19 → sa ≤ 261 → lw_I cst n (p + 7) h' l' → lw_F cst Φ 18 l' [] h' ca sa) → lw_F cst Φ pc l [] h 0 0 := by
  intro pc hpc Φ p h l I h7 k
  have hY := ly_every (cst := cst) gC lw_strs
  simp only [lw_tg, List.mem_cons, List.not_mem_nil, or_false] at hpc
  rcases hpc with rfl | rfl | rfl | rfl | rfl | rfl | rfl | rfl | rfl | rfl | rfl | rfl | rfl | rfl | rfl | rfl | rfl | rfl | rfl | rfl | rfl | rfl | rfl | rfl | rfl | rfl | rfl | rfl | rfl | rfl | rfl | rfl | rfl | rfl | rfl | rfl | rfl | rfl | rfl | rfl | rfl | rfl | rfl | rfl | rfl | rfl | rfl | rfl | rfl | rfl | rfl | rfl | rfl | rfl | rfl | rfl | rfl | rfl | rfl | rfl | rfl | rfl | rfl | rfl | rfl | rfl | rfl | rfl | rfl
  · exact lw_case gC (hY) lc320 I h7 k
  · exact lw_case gC (hY) lc383 I h7 k
  · exact lw_case gC (hY) lc406 I h7 k
  · exact lw_case gC (hY) lc449 I h7 k
  · exact lw_case gC (fun d => lw_rm_ok (hY d)) lc472 I h7 k
  · exact lw_case gC (fun d => lw_rm_ok (hY d)) lc505 I h7 k
  · exact lw_case gC (fun d => lw_rm_ok (hY d)) lc548 I h7 k
  · exact lc_kin gC hY I h7 k
  · exact lw_case gC (hY) lc624 I h7 k
  · exact lw_case gC (hY) lc667 I h7 k
  · exact lw_case gC (hY) lc710 I h7 k
  · exact lw_case gC (hY) lc753 I h7 k
  · exact lw_case gC (hY) lc786 I h7 k
  · exact lw_case gC (hY) lc809 I h7 k
  · exact lw_case gC (hY) lc842 I h7 k
  · exact lw_case gC (hY) lc885 I h7 k
  · exact lw_case gC (hY) lc928 I h7 k
  · exact lw_case gC (hY) lc971 I h7 k
  · exact lw_case gC (hY) lc1004 I h7 k
  · exact lw_case gC (hY) lc1027 I h7 k
  · exact lw_case gC (hY) lc1080 I h7 k
  · exact lw_case gC (hY) lc1155 I h7 k
  · exact lw_case gC (hY) lc1178 I h7 k
  · exact lw_case gC (hY) lc1201 I h7 k
  · exact lw_case gC (hY) lc1224 I h7 k
  · exact lw_case gC (hY) lc1247 I h7 k
  · exact lw_case gC (hY) lc1280 I h7 k
  · exact lw_case gC (hY) lc1313 I h7 k
  · exact lw_case gC (hY) lc1346 I h7 k
  · exact lw_case gC (hY) lc1379 I h7 k
  · exact lw_case gC (hY) lc1402 I h7 k
  · exact lw_case gC (hY) lc1435 I h7 k
  · exact lw_case gC (hY) lc1468 I h7 k
  · exact lw_case gC (hY) lc1491 I h7 k
  · exact lw_case gC (hY) lc1514 I h7 k
  · exact lw_case gC (hY) lc1547 I h7 k
  · exact lw_case gC (hY) lc1570 I h7 k
  · exact lw_case gC (hY) lc1593 I h7 k
  · exact lw_case gC (hY) lc1616 I h7 k
  · exact lw_case gC (hY) lc1639 I h7 k
  · exact lw_case gC (hY) lc1678 I h7 k
  · exact lw_case gC (hY) lc1721 I h7 k
  · exact lw_case gC (hY) lc1744 I h7 k
  · exact lw_case gC (hY) lc1777 I h7 k
  · exact lw_case gC (hY) lc1800 I h7 k
  · exact lw_case gC (hY) lc1823 I h7 k
  · exact lw_case gC (hY) lc1856 I h7 k
  · exact lw_case gC (hY) lc1889 I h7 k
  · exact lw_case gC (hY) lc1952 I h7 k
  · exact lw_case gC (hY) lc1985 I h7 k
  · exact lw_case gC (hY) lc2018 I h7 k
  · exact lw_case gC (hY) lc2051 I h7 k
  · exact lw_case gC (hY) lc2064 I h7 k
  · exact lw_case gC (hY) lc2087 I h7 k
  · exact lw_case gC (hY) lc2110 I h7 k
  · exact lw_case gC (hY) lc2133 I h7 k
  · exact lw_case gC (hY) lc2156 I h7 k
  · exact lw_case gC (hY) lc2179 I h7 k
  · exact lw_case gC (hY) lc2212 I h7 k
  · exact lw_case gC (hY) lc2265 I h7 k
  · exact lw_case gC (hY) lc2298 I h7 k
  · exact lw_case gC (hY) lc2331 I h7 k
  · exact lw_case gC (hY) lc2354 I h7 k
  · exact lw_case gC (hY) lc2367 I h7 k
  · exact lw_case gC (hY) lc2400 I h7 k
  · exact lw_case gC (hY) lc2443 I h7 k
  · exact lw_case gC (hY) lc2486 I h7 k
  · exact lw_case gC (hY) lc2509 I h7 k
  · exact lw_case gC (hY) lc2532 I h7 k
theorem lw_law {cst : am_K} (gC : ly_gC sx_KK cst) (hK : sx_gK (fun _ => -1) sx_KK cst) : lw_F cst lw_Phi 0 (lv_args 0 [.ref 4]) [] [] 0 0 := by
  refine lw_first hK (fun l h l0 l1 l2 l3 hy hl hz hrp g5 ga => ?_)
  obtain ⟨L, eL, hL⟩ := gC.2.1
  have kn : ly_hv cst h 60000 0 = some (L.length : Int) := by
    rw [ly_hv0 (by decide)]
    unfold ly_h0
    rw [if_neg (by decide), if_neg (by decide), if_neg (by decide)]
    unfold ly_hk
    rw [eL]
    rfl
  have kt : ly_hv cst h 60002 0 = some 177 := by
    rw [ly_hv0 (by decide)]
    unfold ly_h0
    rw [if_neg (by decide), if_neg (by decide), if_pos rfl, if_pos rfl, hl]
    rfl
  have I : lw_I cst (L.length : Int) 0 h l := ⟨hy, kn, by omega, by omega, by omega, by omega, ⟨177, 0, kt, (hz _ (List.mem_of_getElem? (i := 5) (show lw_fs[5]? = some (28, 2) from rfl))), by omega, by omega, by omega⟩, ⟨0, (hz _ (List.mem_of_getElem? (i := 14) (show lw_fs[14]? = some (78, 87) from rfl))), by omega, by omega⟩, g5, ga, l0, l1, l2, l3, ⟨0, (hz _ (List.mem_of_getElem? (i := 8) (show lw_fs[8]? = some (6, 0) from rfl))), (hz _ (List.mem_of_getElem? (i := 9) (show lw_fs[9]? = some (78, 10) from rfl))), by omega, by omega⟩, ⟨0, (hz _ (List.mem_of_getElem? (i := 10) (show lw_fs[10]? = some (6, 1) from rfl))), (hz _ (List.mem_of_getElem? (i := 11) (show lw_fs[11]? = some (78, 14) from rfl))), by omega, by omega⟩⟩
  exact lw_loop gC (ly_every gC lw_strs) (lw_cases gC) ((L.length : Int) - 0).toNat.succ 0 h l 177 288833 (Nat.lt_succ_self _) I (by omega) (by omega)
