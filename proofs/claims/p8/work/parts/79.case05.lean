/-! PRINTED by wip/p2/gen_law.py: the roads of the switch -/
-- roll
theorem lc2331 : lw_chk ly_Y 2331 lw_n lwB lwF lwL [] lwK [257, 17669, 17920, 18176, 19969, 20103, 44032, 44288] [(18, lwE)] [] 19 261 = true := by decide +kernel
-- join
theorem lc2354 : lw_chk ly_Y 2354 lw_n lwB lwF lwL [] lwK [17669, 18432, 18688, 18944, 20103, 20104, 44544, 44800, 45056] [(18, lwE)] [] 19 261 = true := by decide +kernel
-- joined
theorem lc2367 : lw_chk ly_Y 2367 lw_n lwB lwF lwL [] lwK [] [(18, lwE)] [] 19 261 = true := by decide +kernel
-- putRight
theorem lc2400 : lw_chk ly_Y 2400 lw_n lwB lwF lwL [] lwK [7182, 8448, 8704, 8960, 9216, 9472, 20054, 20055, 36096, 36352, 36608, 36864, 37120] [(18, lwE)] [] 19 261 = true := by decide +kernel
-- stateOn
theorem lc2443 : lw_chk ly_Y 2443 lw_n lwB lwF lwL [] lwK [] [(18, lwE)] [] 19 261 = true := by decide +kernel
-- check
theorem lc2486 : lw_chk ly_Y 2486 lw_n lwB lwF lwL [] lwK [28160] [(18, lwE)] [] 19 261 = true := by decide +kernel
-- count
theorem lc2509 : lw_chk ly_Y 2509 lw_n lwB lwF lwL [] lwK [] [(18, lwE)] [] 19 261 = true := by decide +kernel
-- None
theorem lc2532 : lw_chk ly_Y 2532 lw_n lwB lwF lwL [] lwK [] [(18, lwE)] [] 19 261 = true := by decide +kernel
