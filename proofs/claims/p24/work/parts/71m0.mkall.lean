/-! the constructor of a matter, whatever number it has -/
noncomputable def mk_g0 (n : Nat) : sx_G := (4, (sxm135, 0, [(0, sx_a (16 + (177 + 19 * n))), (1, sx_j (some sx_jt)), (3, sx_i (-2147483648) 2147483647 (some (5, 0))), (4, sx_top), (5, sx_i (-2147483648) 2147483647 (some (8, 0))), (6, sx_top), (7, sx_i (-2147483648) 2147483647 (some (9, 0))), (8, sx_top)], []), [], ([(177 + 19 * n, .inr (11, [], []))], [], 178 + 19 * n), [], 0, 0)
noncomputable def mk_ok (n : Nat) : Bool := sx_run sx_T [] m_tt m_cl 9999 9999 (fun _ => false) [] 0 (mk_fin m_tt ly_TH n) 300 (mk_g0 n)
theorem mk_a00 : (mk_ok 0 && mk_ok 1 && mk_ok 2 && mk_ok 3) = true := by decide +kernel
theorem mk_a01 : (mk_ok 4 && mk_ok 5 && mk_ok 6 && mk_ok 7) = true := by decide +kernel
theorem mk_a02 : (mk_ok 8 && mk_ok 9 && mk_ok 10 && mk_ok 11) = true := by decide +kernel
theorem mk_a03 : (mk_ok 12 && mk_ok 13 && mk_ok 14 && mk_ok 15) = true := by decide +kernel
theorem mk_a04 : (mk_ok 16 && mk_ok 17 && mk_ok 18 && mk_ok 19) = true := by decide +kernel
theorem mk_a05 : (mk_ok 20 && mk_ok 21 && mk_ok 22 && mk_ok 23) = true := by decide +kernel
theorem mk_a06 : (mk_ok 24 && mk_ok 25 && mk_ok 26 && mk_ok 27) = true := by decide +kernel
theorem mk_a07 : (mk_ok 28 && mk_ok 29 && mk_ok 30 && mk_ok 31) = true := by decide +kernel
theorem mk_a08 : (mk_ok 32 && mk_ok 33 && mk_ok 34 && mk_ok 35) = true := by decide +kernel
theorem mk_a09 : (mk_ok 36 && mk_ok 37 && mk_ok 38 && mk_ok 39) = true := by decide +kernel
theorem mk_a10 : (mk_ok 40 && mk_ok 41 && mk_ok 42 && mk_ok 43) = true := by decide +kernel
theorem mk_a11 : (mk_ok 44 && mk_ok 45 && mk_ok 46 && mk_ok 47) = true := by decide +kernel
theorem mk_a12 : (mk_ok 48 && mk_ok 49 && mk_ok 50 && mk_ok 51) = true := by decide +kernel
theorem mk_a13 : (mk_ok 52 && mk_ok 53 && mk_ok 54 && mk_ok 55) = true := by decide +kernel
theorem mk_a14 : (mk_ok 56 && mk_ok 57 && mk_ok 58 && mk_ok 59) = true := by decide +kernel
theorem mk_a15 : (mk_ok 60 && mk_ok 61 && mk_ok 62 && mk_ok 63) = true := by decide +kernel
theorem mk_a16 : (mk_ok 64 && mk_ok 65 && mk_ok 66 && mk_ok 67) = true := by decide +kernel
theorem mk_a17 : (mk_ok 68 && mk_ok 69 && mk_ok 70 && mk_ok 71) = true := by decide +kernel
theorem mk_a18 : (mk_ok 72 && mk_ok 73 && mk_ok 74 && mk_ok 75) = true := by decide +kernel
theorem mk_a19 : (mk_ok 76 && mk_ok 77 && mk_ok 78 && mk_ok 79) = true := by decide +kernel
theorem mk_a20 : (mk_ok 80 && mk_ok 81 && mk_ok 82 && mk_ok 83) = true := by decide +kernel
theorem mk_a21 : (mk_ok 84 && mk_ok 85 && mk_ok 86 && mk_ok 87) = true := by decide +kernel
theorem mk_a22 : (mk_ok 88 && mk_ok 89 && mk_ok 90 && mk_ok 91) = true := by decide +kernel
theorem mk_a23 : (mk_ok 92 && mk_ok 93 && mk_ok 94 && mk_ok 95) = true := by decide +kernel
theorem mk_a24 : (mk_ok 96 && mk_ok 97 && mk_ok 98 && mk_ok 99) = true := by decide +kernel
theorem mk_all : ∀ n, n < 100 → mk_ok n = true := by
  intro n hn
  have b00 := mk_a00
  have b01 := mk_a01
  have b02 := mk_a02
  have b03 := mk_a03
  have b04 := mk_a04
  have b05 := mk_a05
  have b06 := mk_a06
  have b07 := mk_a07
  have b08 := mk_a08
  have b09 := mk_a09
  have b10 := mk_a10
  have b11 := mk_a11
  have b12 := mk_a12
  have b13 := mk_a13
  have b14 := mk_a14
  have b15 := mk_a15
  have b16 := mk_a16
  have b17 := mk_a17
  have b18 := mk_a18
  have b19 := mk_a19
  have b20 := mk_a20
  have b21 := mk_a21
  have b22 := mk_a22
  have b23 := mk_a23
  have b24 := mk_a24
  simp only [Bool.and_eq_true] at b00 b01 b02 b03 b04 b05 b06 b07 b08 b09 b10 b11 b12 b13 b14 b15 b16 b17 b18 b19 b20 b21 b22 b23 b24
  match n, hn with
  | 0, _ => exact b00.1.1.1
  | 1, _ => exact b00.1.1.2
  | 2, _ => exact b00.1.2
  | 3, _ => exact b00.2
  | 4, _ => exact b01.1.1.1
  | 5, _ => exact b01.1.1.2
  | 6, _ => exact b01.1.2
  | 7, _ => exact b01.2
  | 8, _ => exact b02.1.1.1
  | 9, _ => exact b02.1.1.2
  | 10, _ => exact b02.1.2
  | 11, _ => exact b02.2
  | 12, _ => exact b03.1.1.1
  | 13, _ => exact b03.1.1.2
  | 14, _ => exact b03.1.2
  | 15, _ => exact b03.2
  | 16, _ => exact b04.1.1.1
  | 17, _ => exact b04.1.1.2
  | 18, _ => exact b04.1.2
  | 19, _ => exact b04.2
  | 20, _ => exact b05.1.1.1
  | 21, _ => exact b05.1.1.2
  | 22, _ => exact b05.1.2
  | 23, _ => exact b05.2
  | 24, _ => exact b06.1.1.1
  | 25, _ => exact b06.1.1.2
  | 26, _ => exact b06.1.2
  | 27, _ => exact b06.2
  | 28, _ => exact b07.1.1.1
  | 29, _ => exact b07.1.1.2
  | 30, _ => exact b07.1.2
  | 31, _ => exact b07.2
  | 32, _ => exact b08.1.1.1
  | 33, _ => exact b08.1.1.2
  | 34, _ => exact b08.1.2
  | 35, _ => exact b08.2
  | 36, _ => exact b09.1.1.1
  | 37, _ => exact b09.1.1.2
  | 38, _ => exact b09.1.2
  | 39, _ => exact b09.2
  | 40, _ => exact b10.1.1.1
  | 41, _ => exact b10.1.1.2
  | 42, _ => exact b10.1.2
  | 43, _ => exact b10.2
  | 44, _ => exact b11.1.1.1
  | 45, _ => exact b11.1.1.2
  | 46, _ => exact b11.1.2
  | 47, _ => exact b11.2
  | 48, _ => exact b12.1.1.1
  | 49, _ => exact b12.1.1.2
  | 50, _ => exact b12.1.2
  | 51, _ => exact b12.2
  | 52, _ => exact b13.1.1.1
  | 53, _ => exact b13.1.1.2
  | 54, _ => exact b13.1.2
  | 55, _ => exact b13.2
  | 56, _ => exact b14.1.1.1
  | 57, _ => exact b14.1.1.2
  | 58, _ => exact b14.1.2
  | 59, _ => exact b14.2
  | 60, _ => exact b15.1.1.1
  | 61, _ => exact b15.1.1.2
  | 62, _ => exact b15.1.2
  | 63, _ => exact b15.2
  | 64, _ => exact b16.1.1.1
  | 65, _ => exact b16.1.1.2
  | 66, _ => exact b16.1.2
  | 67, _ => exact b16.2
  | 68, _ => exact b17.1.1.1
  | 69, _ => exact b17.1.1.2
  | 70, _ => exact b17.1.2
  | 71, _ => exact b17.2
  | 72, _ => exact b18.1.1.1
  | 73, _ => exact b18.1.1.2
  | 74, _ => exact b18.1.2
  | 75, _ => exact b18.2
  | 76, _ => exact b19.1.1.1
  | 77, _ => exact b19.1.1.2
  | 78, _ => exact b19.1.2
  | 79, _ => exact b19.2
  | 80, _ => exact b20.1.1.1
  | 81, _ => exact b20.1.1.2
  | 82, _ => exact b20.1.2
  | 83, _ => exact b20.2
  | 84, _ => exact b21.1.1.1
  | 85, _ => exact b21.1.1.2
  | 86, _ => exact b21.1.2
  | 87, _ => exact b21.2
  | 88, _ => exact b22.1.1.1
  | 89, _ => exact b22.1.1.2
  | 90, _ => exact b22.1.2
  | 91, _ => exact b22.2
  | 92, _ => exact b23.1.1.1
  | 93, _ => exact b23.1.1.2
  | 94, _ => exact b23.1.2
  | 95, _ => exact b23.2
  | 96, _ => exact b24.1.1.1
  | 97, _ => exact b24.1.1.2
  | 98, _ => exact b24.1.2
  | 99, _ => exact b24.2
  | n + 100, hn => exact absurd hn (by omega)
theorem mk_k256 : (List.range 19).all (fun j => match ly_thm ly_TH j with
  | some (.inr (_, fs)) => Nat.ble fs.length 30
  | _ => true) = true := by decide +kernel
section MK2
variable {cst : am_K} {strs : List Nat}
theorem mk_8 : ∀ j ci fs k f, ly_thm ly_TH j = some (.inr (ci, fs)) → sx_ch 8 k fs = some f → k < 256 := by
  intro j ci fs k f h1 h2
  have := List.all_eq_true.mp mk_k256 j (List.mem_range.mpr (ly_thm_lt h1))
  rw [h1] at this
  have hl := sx_ble.mp this
  unfold sx_ch at h2
  split at h2
  · rename_i r hr
    have := (List.getElem?_eq_some_iff.mp hr).1
    omega
  · cases h2
end MK2
