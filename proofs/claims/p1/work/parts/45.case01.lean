/-! PRINTED by wip/p1/gencases.py: the roads behind the switch -/
set_option maxRecDepth 1000000 in
theorem sxc0 : (sx_cuts [] sx_B7).all (sx_go 5000 320) = true := by decide +kernel
set_option maxRecDepth 1000000 in
theorem sxc1 : (sx_cuts [] sx_B7).all (sx_go 5000 383) = true := by decide +kernel
set_option maxRecDepth 1000000 in
theorem sxc3 : (sx_cuts [(1, [1, 2, 3, 4, 5, 6, 7, 8, 9, 10, 11, 12, 13, 14, 15, 16, 17, 18, 19, 20, 21, 22, 23, 24, 25, 26, 27, 28, 29, 30, 31, 32, 33, 34, 35, 36, 37, 38, 39, 40, 41, 42, 43, 44, 45, 46, 47, 48, 49, 50, 51, 52, 53, 54, 55, 56, 57, 58, 59, 60, 61, 62, 63, 64, 65, 66, 67, 68, 69, 70, 71, 72, 73, 74, 75, 76, 77, 78, 79, 80, 81, 82, 83, 84, 85, 86, 87, 88, 89, 90, 91, 92, 93, 94, 95, 96, 97, 98, 99, 100])] sx_B7).all (sx_go 5000 449) = true := by decide +kernel
set_option maxRecDepth 1000000 in
theorem sxc4 : (sx_cuts [] sx_B7).all (sx_go 5000 472) = true := by decide +kernel
set_option maxRecDepth 1000000 in
theorem sxc5 : (sx_cuts [] sx_B7).all (sx_go 5000 505) = true := by decide +kernel
set_option maxRecDepth 1000000 in
theorem sxc6 : (sx_cuts [] sx_B7).all (sx_go 5000 548) = true := by decide +kernel
set_option maxRecDepth 1000000 in
theorem sxc7 : (sx_cuts [] sx_B7).all (sx_go 5000 581) = true := by decide +kernel
set_option maxRecDepth 1000000 in
theorem sxc8 : (sx_cuts [] sx_B7).all (sx_go 5000 624) = true := by decide +kernel
set_option maxRecDepth 1000000 in
theorem sxc9 : (sx_cuts [] sx_B7).all (sx_go 5000 667) = true := by decide +kernel
set_option maxRecDepth 1000000 in
theorem sxc10 : (sx_cuts [] sx_B7).all (sx_go 5000 710) = true := by decide +kernel
set_option maxRecDepth 1000000 in
theorem sxc12 : (sx_cuts [] sx_B7).all (sx_go 5000 786) = true := by decide +kernel
set_option maxRecDepth 1000000 in
theorem sxc13 : (sx_cuts [] sx_B7).all (sx_go 5000 809) = true := by decide +kernel
set_option maxRecDepth 1000000 in
theorem sxc14 : (sx_cuts [] sx_B7).all (sx_go 5000 842) = true := by decide +kernel
set_option maxRecDepth 1000000 in
theorem sxc15 : (sx_cuts [(1, [0, 1, 2, 3, 4, 5, 6, 7, 8, 9, 10, 11, 12, 13])] sx_B7).all (sx_go 5000 885) = true := by decide +kernel
set_option maxRecDepth 1000000 in
theorem sxc16 : (sx_cuts [] sx_B7).all (sx_go 5000 928) = true := by decide +kernel
set_option maxRecDepth 1000000 in
theorem sxc17 : (sx_cuts [] sx_B7).all (sx_go 5000 971) = true := by decide +kernel
set_option maxRecDepth 1000000 in
theorem sxc18 : (sx_cuts [] sx_B7).all (sx_go 5000 1004) = true := by decide +kernel
set_option maxRecDepth 1000000 in
theorem sxc19 : (sx_cuts [] sx_B7).all (sx_go 5000 1027) = true := by decide +kernel
set_option maxRecDepth 1000000 in
theorem sxc20 : (sx_cuts [] sx_B7).all (sx_go 5000 1080) = true := by decide +kernel
set_option maxRecDepth 1000000 in
theorem sxc21 : (sx_cuts [] sx_B7).all (sx_go 5000 1155) = true := by decide +kernel
