/-! PRINTED by wip/p1/gencases.py: the roads behind the switch -/
def sx_b58_0 : sx_B := [(sx_min, sx_max), (sx_min, (.negSucc 0)), (sx_min, sx_max), (sx_min, sx_max), (sx_min, sx_max), (sx_min, sx_max), (sx_min, sx_max), (7, 7)]
def sx_b58_1 : sx_B := [(sx_min, sx_max), ((.ofNat 0), (.ofNat 0)), (sx_min, sx_max), (sx_min, sx_max), (sx_min, sx_max), (sx_min, sx_max), (sx_min, sx_max), (7, 7)]
def sx_b58_2 : sx_B := [(sx_min, sx_max), ((.ofNat 1), (.ofNat 1)), (sx_min, sx_max), (sx_min, sx_max), (sx_min, sx_max), (sx_min, sx_max), (sx_min, sx_max), (7, 7)]
def sx_b58_3 : sx_B := [(sx_min, sx_max), ((.ofNat 2), (.ofNat 2)), (sx_min, sx_max), (sx_min, sx_max), (sx_min, sx_max), (sx_min, sx_max), (sx_min, sx_max), (7, 7)]
def sx_b58_4 : sx_B := [(sx_min, sx_max), ((.ofNat 3), (.ofNat 3)), (sx_min, sx_max), (sx_min, sx_max), (sx_min, sx_max), (sx_min, sx_max), (sx_min, sx_max), (7, 7)]
def sx_b58_5 : sx_B := [(sx_min, sx_max), ((.ofNat 4), (.ofNat 4)), (sx_min, sx_max), (sx_min, sx_max), (sx_min, sx_max), (sx_min, sx_max), (sx_min, sx_max), (7, 7)]
def sx_b58_6 : sx_B := [(sx_min, sx_max), ((.ofNat 5), (.ofNat 5)), (sx_min, sx_max), (sx_min, sx_max), (sx_min, sx_max), (sx_min, sx_max), (sx_min, sx_max), (7, 7)]
def sx_b58_7 : sx_B := [(sx_min, sx_max), ((.ofNat 6), sx_max), (sx_min, sx_max), (sx_min, sx_max), (sx_min, sx_max), (sx_min, sx_max), (sx_min, sx_max), (7, 7)]
set_option maxRecDepth 1000000 in
theorem sxc58_0 : (sx_cuts [] sx_b58_0).all (sx_go 5000 2212) = true := by decide +kernel
set_option maxRecDepth 1000000 in
theorem sxc58_7 : (sx_cuts [] sx_b58_7).all (sx_go 5000 2212) = true := by decide +kernel
theorem sxc58_b : sx_cut 1 [0, 1, 2, 3, 4, 5] sx_B7 = [sx_b58_0, sx_b58_1, sx_b58_2, sx_b58_3, sx_b58_4, sx_b58_5, sx_b58_6, sx_b58_7] := by decide +kernel
