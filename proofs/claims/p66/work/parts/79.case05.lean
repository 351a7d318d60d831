/-! PRINTED by wip/p2/gen_law.py: the roads of the switch -/
-- stateOn
theorem lc2443 : lw_chk ly_Y 2443 lw_n lwB lwF lwL [] lwK [] [(18, lwE)] [] 19 261 = true := by decide +kernel
-- check
theorem lc2486 : lw_chk ly_Y 2486 lw_n lwB lwF lwL [] lwK [28160] [(18, lwE)] [] 19 261 = true := by decide +kernel
-- count
theorem lc2509 : lw_chk ly_Y 2509 lw_n lwB lwF lwL [] lwK [] [(18, lwE)] [] 19 261 = true := by decide +kernel
-- None
theorem lc2532 : lw_chk ly_Y 2532 lw_n lwB lwF lwL [] lwK [] [(18, lwE)] [] 19 261 = true := by decide +kernel
