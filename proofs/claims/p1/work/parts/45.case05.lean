/-! PRINTED by wip/p1/gencases.py: the roads behind the switch -/
set_option maxRecDepth 1000000 in
theorem sxc2 : (sx_cuts [(1, [0, 1, 2, 3, 4, 5]), (2, [0, 1, 2, 3, 4, 5])] sx_B7).all (sx_go 5000 406) = true := by decide +kernel
set_option maxRecDepth 1000000 in
theorem sxc57 : (sx_cuts [(1, [0, 1, 2, 3, 4, 5]), (2, [0, 1, 2, 3, 4, 5])] sx_B7).all (sx_go 5000 2179) = true := by decide +kernel
