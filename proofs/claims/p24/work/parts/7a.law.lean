/-! PRINTED by wip/p2/gen_law.py: the law -/
theorem lw_cases {cst : am_K} (gC : ly_gC sx_KK cst) {n : Int} : ∀ pc ∈ lw_tg, ∀ (Φ : am_Q → Prop) (p : Int) (h : am_H) (l : am_L), lw_I cst n p h l → p + 7 ≤ n → (∀ (h' : am_H) (l' : am_L) (ca sa : Nat), ca ≤ 19 → sa ≤ 261 → lw_I cst n (p + 7) h' l' → lw_F cst Φ 18 l' [] h' ca sa) → lw_F cst Φ pc l [] h 0 0 := by
  intro pc hpc Φ p h l I h7 k
  have hY := ly_every (cst := cst) gC lw_strs
  simp only [lw_tg, List.mem_cons, List.not_mem_nil, or_false] at hpc
  rcases hpc with rfl | rfl | rfl | rfl | rfl | rfl | rfl | rfl | rfl | rfl | rfl | rfl | rfl | rfl | rfl | rfl | rfl | rfl | rfl | rfl | rfl | rfl | rfl | rfl | rfl | rfl | rfl | rfl | rfl | rfl | rfl | rfl | rfl | rfl | rfl | rfl | rfl | rfl | rfl | rfl | rfl | rfl | rfl | rfl | rfl | rfl | rfl | rfl | rfl | rfl | rfl | rfl | rfl | rfl | rfl | rfl | rfl | rfl | rfl | rfl | rfl | rfl | rfl | rfl | rfl | rfl | rfl | rfl | rfl
  · exact lc_feed gC hY I h7 k
  · exact lw_case gC (fun d => lw_rm_ok (hY d)) lc383 rfl rfl rfl rfl rfl rfl rfl rfl rfl rfl rfl rfl rfl rfl I h7 k
  · exact lw_case gC (hY) lc406 rfl rfl rfl rfl rfl rfl rfl rfl rfl rfl rfl rfl rfl rfl I h7 k
  · exact lc_pass gC hY I h7 k
  · exact lw_case gC (fun d => lw_rm_ok (hY d)) lc472 rfl rfl rfl rfl rfl rfl rfl rfl rfl rfl rfl rfl rfl rfl I h7 k
  · exact lw_case gC (hY) lc505 rfl rfl rfl rfl rfl rfl rfl rfl rfl rfl rfl rfl rfl rfl I h7 k
  · exact lw_case gC (hY) lc548 rfl rfl rfl rfl rfl rfl rfl rfl rfl rfl rfl rfl rfl rfl I h7 k
  · exact lw_case gC (hY) lc581 rfl rfl rfl rfl rfl rfl rfl rfl rfl rfl rfl rfl rfl rfl I h7 k
  · exact lw_case gC (hY) lc624 rfl rfl rfl rfl rfl rfl rfl rfl rfl rfl rfl rfl rfl rfl I h7 k
  · exact lw_case gC (hY) lc667 rfl rfl rfl rfl rfl rfl rfl rfl rfl rfl rfl rfl rfl rfl I h7 k
  · exact lw_case gC (hY) lc710 rfl rfl rfl rfl rfl rfl rfl rfl rfl rfl rfl rfl rfl rfl I h7 k
  · exact lc_act gC hY I h7 k
  · exact lw_case gC (hY) lc786 rfl rfl rfl rfl rfl rfl rfl rfl rfl rfl rfl rfl rfl rfl I h7 k
  · exact lw_case gC (hY) lc809 rfl rfl rfl rfl rfl rfl rfl rfl rfl rfl rfl rfl rfl rfl I h7 k
  · exact lw_case gC (hY) lc842 rfl rfl rfl rfl rfl rfl rfl rfl rfl rfl rfl rfl rfl rfl I h7 k
  · exact lw_case gC (hY) lc885 rfl rfl rfl rfl rfl rfl rfl rfl rfl rfl rfl rfl rfl rfl I h7 k
  · exact lw_case gC (hY) lc928 rfl rfl rfl rfl rfl rfl rfl rfl rfl rfl rfl rfl rfl rfl I h7 k
  · exact lw_case gC (hY) lc971 rfl rfl rfl rfl rfl rfl rfl rfl rfl rfl rfl rfl rfl rfl I h7 k
  · exact lw_case gC (hY) lc1004 rfl rfl rfl rfl rfl rfl rfl rfl rfl rfl rfl rfl rfl rfl I h7 k
  · exact lc_crown gC hY I h7 k
  · exact lc_plea gC hY I h7 k
  · exact lc_words gC hY I h7 k
  · exact lc_allege gC hY I h7 k
  · exact lc_bad gC hY I h7 k
  · exact lc_mend gC hY I h7 k
  · exact lc_bill gC hY I h7 k
  · exact lw_case gC (hY) lc1280 rfl rfl rfl rfl rfl rfl rfl rfl rfl rfl rfl rfl rfl rfl I h7 k
  · exact lw_case gC (hY) lc1313 rfl rfl rfl rfl rfl rfl rfl rfl rfl rfl rfl rfl rfl rfl I h7 k
  · exact lw_case gC (hY) lc1346 rfl rfl rfl rfl rfl rfl rfl rfl rfl rfl rfl rfl rfl rfl I h7 k
  · exact lw_case gC (hY) lc1379 rfl rfl rfl rfl rfl rfl rfl rfl rfl rfl rfl rfl rfl rfl I h7 k
  · exact lw_case gC (hY) lc1402 rfl rfl rfl rfl rfl rfl rfl rfl rfl rfl rfl rfl rfl rfl I h7 k
  · exact lw_case gC (hY) lc1435 rfl rfl rfl rfl rfl rfl rfl rfl rfl rfl rfl rfl rfl rfl I h7 k
  · exact lw_case gC (hY) lc1468 rfl rfl rfl rfl rfl rfl rfl rfl rfl rfl rfl rfl rfl rfl I h7 k
  · exact lw_case gC (hY) lc1491 rfl rfl rfl rfl rfl rfl rfl rfl rfl rfl rfl rfl rfl rfl I h7 k
  · exact lw_case gC (hY) lc1514 rfl rfl rfl rfl rfl rfl rfl rfl rfl rfl rfl rfl rfl rfl I h7 k
  · exact lw_case gC (hY) lc1547 rfl rfl rfl rfl rfl rfl rfl rfl rfl rfl rfl rfl rfl rfl I h7 k
  · exact lw_case gC (hY) lc1570 rfl rfl rfl rfl rfl rfl rfl rfl rfl rfl rfl rfl rfl rfl I h7 k
  · exact lw_case gC (hY) lc1593 rfl rfl rfl rfl rfl rfl rfl rfl rfl rfl rfl rfl rfl rfl I h7 k
  · exact lw_case gC (hY) lc1616 rfl rfl rfl rfl rfl rfl rfl rfl rfl rfl rfl rfl rfl rfl I h7 k
  · exact lw_case gC (hY) lc1639 rfl rfl rfl rfl rfl rfl rfl rfl rfl rfl rfl rfl rfl rfl I h7 k
  · exact lw_case gC (hY) lc1678 rfl rfl rfl rfl rfl rfl rfl rfl rfl rfl rfl rfl rfl rfl I h7 k
  · exact lw_case gC (hY) lc1721 rfl rfl rfl rfl rfl rfl rfl rfl rfl rfl rfl rfl rfl rfl I h7 k
  · exact lw_case gC (hY) lc1744 rfl rfl rfl rfl rfl rfl rfl rfl rfl rfl rfl rfl rfl rfl I h7 k
  · exact lw_case gC (hY) lc1777 rfl rfl rfl rfl rfl rfl rfl rfl rfl rfl rfl rfl rfl rfl I h7 k
  · exact lw_case gC (hY) lc1800 rfl rfl rfl rfl rfl rfl rfl rfl rfl rfl rfl rfl rfl rfl I h7 k
  · exact lw_case gC (hY) lc1823 rfl rfl rfl rfl rfl rfl rfl rfl rfl rfl rfl rfl rfl rfl I h7 k
  · exact lw_case gC (hY) lc1856 rfl rfl rfl rfl rfl rfl rfl rfl rfl rfl rfl rfl rfl rfl I h7 k
  · exact lw_case gC (hY) lc1889 rfl rfl rfl rfl rfl rfl rfl rfl rfl rfl rfl rfl rfl rfl I h7 k
  · exact lw_case gC (hY) lc1952 rfl rfl rfl rfl rfl rfl rfl rfl rfl rfl rfl rfl rfl rfl I h7 k
  · exact lw_case gC (hY) lc1985 rfl rfl rfl rfl rfl rfl rfl rfl rfl rfl rfl rfl rfl rfl I h7 k
  · exact lw_case gC (hY) lc2018 rfl rfl rfl rfl rfl rfl rfl rfl rfl rfl rfl rfl rfl rfl I h7 k
  · exact lw_case gC (hY) lc2051 rfl rfl rfl rfl rfl rfl rfl rfl rfl rfl rfl rfl rfl rfl I h7 k
  · exact lw_case gC (hY) lc2064 rfl rfl rfl rfl rfl rfl rfl rfl rfl rfl rfl rfl rfl rfl I h7 k
  · exact lw_case gC (hY) lc2087 rfl rfl rfl rfl rfl rfl rfl rfl rfl rfl rfl rfl rfl rfl I h7 k
  · exact lw_case gC (hY) lc2110 rfl rfl rfl rfl rfl rfl rfl rfl rfl rfl rfl rfl rfl rfl I h7 k
  · exact lw_case gC (hY) lc2133 rfl rfl rfl rfl rfl rfl rfl rfl rfl rfl rfl rfl rfl rfl I h7 k
  · exact lw_case gC (hY) lc2156 rfl rfl rfl rfl rfl rfl rfl rfl rfl rfl rfl rfl rfl rfl I h7 k
  · exact lw_case gC (hY) lc2179 rfl rfl rfl rfl rfl rfl rfl rfl rfl rfl rfl rfl rfl rfl I h7 k
  · exact lw_case gC (hY) lc2212 rfl rfl rfl rfl rfl rfl rfl rfl rfl rfl rfl rfl rfl rfl I h7 k
  · exact lw_case gC (hY) lc2265 rfl rfl rfl rfl rfl rfl rfl rfl rfl rfl rfl rfl rfl rfl I h7 k
  · exact lw_case gC (hY) lc2298 rfl rfl rfl rfl rfl rfl rfl rfl rfl rfl rfl rfl rfl rfl I h7 k
  · exact lw_case gC (hY) lc2331 rfl rfl rfl rfl rfl rfl rfl rfl rfl rfl rfl rfl rfl rfl I h7 k
  · exact lw_case gC (hY) lc2354 rfl rfl rfl rfl rfl rfl rfl rfl rfl rfl rfl rfl rfl rfl I h7 k
  · exact lw_case gC (hY) lc2367 rfl rfl rfl rfl rfl rfl rfl rfl rfl rfl rfl rfl rfl rfl I h7 k
  · exact lw_case gC (hY) lc2400 rfl rfl rfl rfl rfl rfl rfl rfl rfl rfl rfl rfl rfl rfl I h7 k
  · exact lw_case gC (hY) lc2443 rfl rfl rfl rfl rfl rfl rfl rfl rfl rfl rfl rfl rfl rfl I h7 k
  · exact lw_case gC (hY) lc2486 rfl rfl rfl rfl rfl rfl rfl rfl rfl rfl rfl rfl rfl rfl I h7 k
  · exact lw_case gC (hY) lc2509 rfl rfl rfl rfl rfl rfl rfl rfl rfl rfl rfl rfl rfl rfl I h7 k
  · exact lw_case gC (hY) lc2532 rfl rfl rfl rfl rfl rfl rfl rfl rfl rfl rfl rfl rfl rfl I h7 k
theorem lw_law {cst : am_K} (gC : ly_gC sx_KK cst) (hK : sx_gK (fun _ => -1) sx_KK cst) : lw_F cst lw_Phi 0 (lv_args 0 [.ref 4]) [] [] 0 0 := by
  refine lw_first hK (fun l h l0 l1 l2 l3 hy hl hz hrp hrz hrv hrw hfv hrb g5 ga => ?_)
  obtain ⟨L, eL, hL⟩ := gC.2.1
  have kn : ly_hv cst h 60000 0 = some (L.length : Int) := by
    rw [ly_hv0 (by decide)]
    unfold ly_h0
    rw [if_neg (by decide), if_neg (by decide), if_neg (by decide)]
    unfold ly_hk
    rw [eL]
    rfl
  have kt : ly_hv cst h 60002 0 = some 177 := by
    rw [ly_hv0 (by decide)]
    unfold ly_h0
    rw [if_neg (by decide), if_neg (by decide), if_pos rfl, if_pos rfl, hl]
    rfl
  have I : lw_I cst (L.length : Int) 0 h l := ⟨hy, kn, by omega, by omega, by omega, by omega, ⟨177, 0, kt, (hz _ (List.mem_of_getElem? (i := 5) (show lw_fs[5]? = some (28, 2) from rfl))), by omega, by omega, by omega⟩, ⟨0, (hz _ (List.mem_of_getElem? (i := 14) (show lw_fs[14]? = some (78, 87) from rfl))), by omega, by omega⟩, g5, ga, l0, l1, l2, l3, ⟨0, (hz _ (List.mem_of_getElem? (i := 3) (show lw_fs[3]? = some (1, 1) from rfl))), (hz _ (List.mem_of_getElem? (i := 4) (show lw_fs[4]? = some (78, 1) from rfl))), by omega, by omega⟩, ⟨0, (hz _ (List.mem_of_getElem? (i := 6) (show lw_fs[6]? = some (0, 10) from rfl))), (hz _ (List.mem_of_getElem? (i := 7) (show lw_fs[7]? = some (78, 9) from rfl))), by omega, by omega⟩, ⟨0, (hz _ (List.mem_of_getElem? (i := 8) (show lw_fs[8]? = some (6, 0) from rfl))), (hz _ (List.mem_of_getElem? (i := 9) (show lw_fs[9]? = some (78, 10) from rfl))), by omega, by omega⟩, tp_init hy (hrb _ (List.mem_of_getElem? (i := 0) (show lw_rb[0]? = some (79, 1200) from rfl))) (hrz _ (List.mem_of_getElem? (i := 0) (show lw_rz[0]? = some (2, 1200) from rfl))), LW_0 hy (hz _ (List.mem_of_getElem? (i := 0) (show lw_fs[0]? = some (14, 0) from rfl))) (hz _ (List.mem_of_getElem? (i := 1) (show lw_fs[1]? = some (14, 4) from rfl))) (hz _ (List.mem_of_getElem? (i := 16) (show lw_fs[16]? = some (14, 10) from rfl))) (hz _ (List.mem_of_getElem? (i := 17) (show lw_fs[17]? = some (14, 12) from rfl))) (hz _ (List.mem_of_getElem? (i := 2) (show lw_fs[2]? = some (78, 21) from rfl))) (hz _ (List.mem_of_getElem? (i := 3) (show lw_fs[3]? = some (1, 1) from rfl))) (hrz _ (List.mem_of_getElem? (i := 1) (show lw_rz[1]? = some (17, 31) from rfl))) (hrz _ (List.mem_of_getElem? (i := 2) (show lw_rz[2]? = some (22, 1241) from rfl))) (hrw _ (List.mem_of_getElem? (i := 0) (show lw_rw[0]? = some (27, _) from rfl))) (hrw _ (List.mem_of_getElem? (i := 1) (show lw_rw[1]? = some (26, _) from rfl))), ⟨0, (hz _ (List.mem_of_getElem? (i := 5) (show lw_fs[5]? = some (28, 2) from rfl))), (hz _ (List.mem_of_getElem? (i := 15) (show lw_fs[15]? = some (78, 56) from rfl)))⟩, ⟨0, (hz _ (List.mem_of_getElem? (i := 5) (show lw_fs[5]? = some (28, 2) from rfl))), fun j j0 j1 => by omega⟩, ⟨0, (hz _ (List.mem_of_getElem? (i := 5) (show lw_fs[5]? = some (28, 2) from rfl))), fun j j0 j1 => by omega⟩, ⟨0, (hz _ (List.mem_of_getElem? (i := 5) (show lw_fs[5]? = some (28, 2) from rfl))), fun j j0 j1 => by omega, fun j j0 j1 => ⟨by
    obtain ⟨v, hv, -, -⟩ := hp_rowz (cst := cst) (c := 131) hy (show ly_ths ly_TH 131 = some (.inl (.boolean, 100, 0, 1)) from rfl) j0 (by omega)
    have e := (hrb _ (List.mem_of_getElem? (i := 1) (show lw_rb[1]? = some (131, 100) from rfl)) j v hv).1
    rw [e] at hv
    exact hv, by
    obtain ⟨v, hv, -, -⟩ := hp_rowz (cst := cst) (c := 132) hy (show ly_ths ly_TH 132 = some (.inl (.boolean, 100, 0, 1)) from rfl) j0 (by omega)
    have e := (hrb _ (List.mem_of_getElem? (i := 2) (show lw_rb[2]? = some (132, 100) from rfl)) j v hv).1
    rw [e] at hv
    exact hv⟩⟩⟩
  exact lw_loop gC (ly_every gC lw_strs) (lw_cases gC) ((L.length : Int) - 0).toNat.succ 0 h l 177 288833 (Nat.lt_succ_self _) I (by omega) (by omega)
