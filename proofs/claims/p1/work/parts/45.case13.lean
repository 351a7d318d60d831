/-! PRINTED by wip/p1/gencases.py: the roads behind the switch -/
set_option maxRecDepth 1000000 in
theorem sxc58_6_1 : (sx_cuts [(3, [1, 2, 3, 4, 5, 6, 7, 8])] sx_b58_6_1).all (sx_go 20000 2212) = true := by decide +kernel
set_option maxRecDepth 1000000 in
theorem sxc58_6_2 : (sx_cuts [(3, [9, 10, 11, 12, 13, 14, 15, 16])] sx_b58_6_2).all (sx_go 20000 2212) = true := by decide +kernel
set_option maxRecDepth 1000000 in
theorem sxc58_6_3 : (sx_cuts [(3, [17, 18, 19, 20, 21, 22, 23, 24])] sx_b58_6_3).all (sx_go 20000 2212) = true := by decide +kernel
set_option maxRecDepth 1000000 in
theorem sxc58_6_4 : (sx_cuts [(3, [25, 26, 27, 28, 29, 30, 31, 32])] sx_b58_6_4).all (sx_go 20000 2212) = true := by decide +kernel
set_option maxRecDepth 1000000 in
theorem sxc58_6_5 : (sx_cuts [(3, [33, 34, 35, 36, 37, 38, 39, 40])] sx_b58_6_5).all (sx_go 20000 2212) = true := by decide +kernel
set_option maxRecDepth 1000000 in
theorem sxc58_6_6 : (sx_cuts [(3, [41, 42, 43, 44, 45, 46, 47, 48])] sx_b58_6_6).all (sx_go 20000 2212) = true := by decide +kernel
set_option maxRecDepth 1000000 in
theorem sxc58_6_7 : (sx_cuts [(3, [49, 50, 51, 52, 53, 54, 55, 56])] sx_b58_6_7).all (sx_go 20000 2212) = true := by decide +kernel
set_option maxRecDepth 1000000 in
theorem sxc58_6_8 : (sx_cuts [(3, [57, 58, 59, 60, 61, 62, 63])] sx_b58_6_8).all (sx_go 20000 2212) = true := by decide +kernel
