/-! PRINTED by wip/p1/gencases.py: the roads behind the switch -/
set_option maxRecDepth 1000000 in
theorem sxc11 : (sx_cuts [] sx_B7).all (sx_go 100000 753) = true := by sorry
