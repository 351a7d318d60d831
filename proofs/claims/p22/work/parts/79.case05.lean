/-! PRINTED by wip/p2/gen_law.py: the roads of the switch -/
-- putRight
theorem lc2400 : lw_chk ly_Y 2400 lw_n lwB lwF lwL [] lwK [7182, 8448, 8704, 8960, 9216, 9472, 20054, 20055, 36096, 36352, 36608, 36864, 37120] [(18, lwE)] [] 19 261 = true := by decide +kernel
-- stateOn
theorem lc2443 : lw_chk ly_Y 2443 lw_n lwB lwF lwL [] lwK [] [(18, lwE)] [] 19 261 = true := by decide +kernel
-- check
theorem lc2486 : lw_chk ly_Y 2486 lw_n lwB lwF lwL [] lwK [28160] [(18, lwE)] [] 19 261 = true := by decide +kernel
-- count
theorem lc2509 : lw_chk ly_Y 2509 lw_n lwB lwF lwL [] lwK [] [(18, lwE)] [] 19 261 = true := by decide +kernel
-- None
theorem lc2532 : lw_chk ly_Y 2532 lw_n lwB lwF lwL [] lwK [] [(18, lwE)] [] 19 261 = true := by decide +kernel
