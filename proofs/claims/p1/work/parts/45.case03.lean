/-! PRINTED by wip/p1/gencases.py: the roads behind the switch -/
set_option maxRecDepth 1000000 in
theorem sxc42 : (sx_cuts [] sx_B7).all (sx_go 5000 1744) = true := by decide +kernel
set_option maxRecDepth 1000000 in
theorem sxc43 : (sx_cuts [] sx_B7).all (sx_go 5000 1777) = true := by decide +kernel
set_option maxRecDepth 1000000 in
theorem sxc44 : (sx_cuts [] sx_B7).all (sx_go 5000 1800) = true := by decide +kernel
set_option maxRecDepth 1000000 in
theorem sxc45 : (sx_cuts [] sx_B7).all (sx_go 5000 1823) = true := by decide +kernel
set_option maxRecDepth 1000000 in
theorem sxc46 : (sx_cuts [] sx_B7).all (sx_go 5000 1856) = true := by decide +kernel
set_option maxRecDepth 1000000 in
theorem sxc47 : (sx_cuts [] sx_B7).all (sx_go 5000 1889) = true := by decide +kernel
set_option maxRecDepth 1000000 in
theorem sxc48 : (sx_cuts [] sx_B7).all (sx_go 5000 1952) = true := by decide +kernel
set_option maxRecDepth 1000000 in
theorem sxc49 : (sx_cuts [] sx_B7).all (sx_go 5000 1985) = true := by decide +kernel
set_option maxRecDepth 1000000 in
theorem sxc50 : (sx_cuts [] sx_B7).all (sx_go 5000 2018) = true := by decide +kernel
set_option maxRecDepth 1000000 in
theorem sxc51 : (sx_cuts [] sx_B7).all (sx_go 5000 2051) = true := by decide +kernel
set_option maxRecDepth 1000000 in
theorem sxc52 : (sx_cuts [] sx_B7).all (sx_go 5000 2064) = true := by decide +kernel
set_option maxRecDepth 1000000 in
theorem sxc53 : (sx_cuts [] sx_B7).all (sx_go 5000 2087) = true := by decide +kernel
set_option maxRecDepth 1000000 in
theorem sxc54 : (sx_cuts [] sx_B7).all (sx_go 5000 2110) = true := by decide +kernel
set_option maxRecDepth 1000000 in
theorem sxc55 : (sx_cuts [] sx_B7).all (sx_go 5000 2133) = true := by decide +kernel
set_option maxRecDepth 1000000 in
theorem sxc56 : (sx_cuts [] sx_B7).all (sx_go 5000 2156) = true := by decide +kernel
set_option maxRecDepth 1000000 in
theorem sxc59 : (sx_cuts [] sx_B7).all (sx_go 5000 2265) = true := by decide +kernel
set_option maxRecDepth 1000000 in
theorem sxc60 : (sx_cuts [] sx_B7).all (sx_go 5000 2298) = true := by decide +kernel
set_option maxRecDepth 1000000 in
theorem sxc61 : (sx_cuts [(1, [0, 1, 2])] sx_B7).all (sx_go 5000 2331) = true := by decide +kernel
set_option maxRecDepth 1000000 in
theorem sxc62 : (sx_cuts [] sx_B7).all (sx_go 5000 2354) = true := by decide +kernel
set_option maxRecDepth 1000000 in
theorem sxc63 : (sx_cuts [] sx_B7).all (sx_go 5000 2367) = true := by decide +kernel
