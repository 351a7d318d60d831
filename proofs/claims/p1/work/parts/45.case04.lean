/-! PRINTED by wip/p1/gencases.py: the roads behind the switch -/
set_option maxRecDepth 1000000 in
theorem sxc64 : (sx_cuts [] sx_B7).all (sx_go 5000 2400) = true := by decide +kernel
set_option maxRecDepth 1000000 in
theorem sxc65 : (sx_cuts [] sx_B7).all (sx_go 5000 2443) = true := by decide +kernel
set_option maxRecDepth 1000000 in
theorem sxc66 : (sx_cuts [] sx_B7).all (sx_go 5000 2486) = true := by decide +kernel
set_option maxRecDepth 1000000 in
theorem sxc67 : (sx_cuts [(1, [0, 1, 2, 3, 4, 5, 6, 7, 8, 9, 10, 11, 12, 13, 14, 15, 16, 17, 18, 19, 20, 21, 22, 23, 24, 25, 26, 27, 28, 29, 30, 31, 32, 33, 34, 35, 36, 37, 38, 39])] sx_B7).all (sx_go 5000 2509) = true := by decide +kernel
set_option maxRecDepth 1000000 in
theorem sxc68 : (sx_cuts [] sx_B7).all (sx_go 5000 2532) = true := by decide +kernel
