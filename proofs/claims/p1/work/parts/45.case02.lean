/-! PRINTED by wip/p1/gencases.py: the roads behind the switch -/
set_option maxRecDepth 1000000 in
theorem sxc22 : (sx_cuts [] sx_B7).all (sx_go 5000 1178) = true := by decide +kernel
set_option maxRecDepth 1000000 in
theorem sxc23 : (sx_cuts [] sx_B7).all (sx_go 5000 1201) = true := by decide +kernel
set_option maxRecDepth 1000000 in
theorem sxc24 : (sx_cuts [] sx_B7).all (sx_go 5000 1224) = true := by decide +kernel
set_option maxRecDepth 1000000 in
theorem sxc25 : (sx_cuts [] sx_B7).all (sx_go 5000 1247) = true := by decide +kernel
set_option maxRecDepth 1000000 in
theorem sxc26 : (sx_cuts [] sx_B7).all (sx_go 5000 1280) = true := by decide +kernel
set_option maxRecDepth 1000000 in
theorem sxc27 : (sx_cuts [] sx_B7).all (sx_go 5000 1313) = true := by decide +kernel
set_option maxRecDepth 1000000 in
theorem sxc28 : (sx_cuts [] sx_B7).all (sx_go 5000 1346) = true := by decide +kernel
set_option maxRecDepth 1000000 in
theorem sxc29 : (sx_cuts [] sx_B7).all (sx_go 5000 1379) = true := by decide +kernel
set_option maxRecDepth 1000000 in
theorem sxc30 : (sx_cuts [] sx_B7).all (sx_go 5000 1402) = true := by decide +kernel
set_option maxRecDepth 1000000 in
theorem sxc31 : (sx_cuts [] sx_B7).all (sx_go 5000 1435) = true := by decide +kernel
set_option maxRecDepth 1000000 in
theorem sxc32 : (sx_cuts [] sx_B7).all (sx_go 5000 1468) = true := by decide +kernel
set_option maxRecDepth 1000000 in
theorem sxc33 : (sx_cuts [] sx_B7).all (sx_go 5000 1491) = true := by decide +kernel
set_option maxRecDepth 1000000 in
theorem sxc34 : (sx_cuts [] sx_B7).all (sx_go 5000 1514) = true := by decide +kernel
set_option maxRecDepth 1000000 in
theorem sxc35 : (sx_cuts [] sx_B7).all (sx_go 5000 1547) = true := by decide +kernel
set_option maxRecDepth 1000000 in
theorem sxc36 : (sx_cuts [] sx_B7).all (sx_go 5000 1570) = true := by decide +kernel
set_option maxRecDepth 1000000 in
theorem sxc37 : (sx_cuts [] sx_B7).all (sx_go 5000 1593) = true := by decide +kernel
set_option maxRecDepth 1000000 in
theorem sxc38 : (sx_cuts [] sx_B7).all (sx_go 5000 1616) = true := by decide +kernel
set_option maxRecDepth 1000000 in
theorem sxc39 : (sx_cuts [] sx_B7).all (sx_go 5000 1639) = true := by decide +kernel
set_option maxRecDepth 1000000 in
theorem sxc40 : (sx_cuts [] sx_B7).all (sx_go 5000 1678) = true := by decide +kernel
set_option maxRecDepth 1000000 in
theorem sxc41 : (sx_cuts [] sx_B7).all (sx_go 5000 1721) = true := by decide +kernel
