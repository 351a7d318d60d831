/-! PRINTED by wip/p2/gen_law.py: the roads of the switch -/
-- ride
theorem lc2212 : lw_chk ly_Y 2212 lw_n lwB lwF lwL [] lwK [15618, 15621, 15622, 15626, 15627, 16384, 16640, 16896, 17152, 17408, 20088, 20089, 20090, 20097, 20098, 20099, 20100, 42240, 42496, 42752, 43008, 43264, 43520, 43776] [(18, lwE)] [] 19 261 = true := by decide +kernel
-- late
theorem lc2265 : lw_chk ly_Y 2265 lw_n lwB lwF lwL [] lwK [15618, 15626, 15627, 16384, 16640, 16896, 17152, 17408, 20088, 20089, 20090, 20097, 20098, 20099, 20100, 42240, 42496, 42752, 43008, 43264, 43520, 43776] [(18, lwE)] [] 19 261 = true := by decide +kernel
-- rode
theorem lc2298 : lw_chk ly_Y 2298 lw_n lwB lwF lwL [] lwK [] [(18, lwE)] [] 19 261 = true := by decide +kernel
-- roll
theorem lc2331 : lw_chk ly_Y 2331 lw_n lwB lwF lwL [] lwK [257, 17669, 17920, 18176, 19969, 20103, 44032, 44288] [(18, lwE)] [] 19 261 = true := by decide +kernel
-- join
theorem lc2354 : lw_chk ly_Y 2354 lw_n lwB lwF lwL [] lwK [17669, 18432, 18688, 18944, 20103, 20104, 44544, 44800, 45056] [(18, lwE)] [] 19 261 = true := by decide +kernel
-- joined
theorem lc2367 : lw_chk ly_Y 2367 lw_n lwB lwF lwL [] lwK [] [(18, lwE)] [] 19 261 = true := by decide +kernel
-- putRight
theorem lc2400 : lw_chk ly_Y 2400 lw_n lwB lwF lwL [] lwK [7182, 8448, 8704, 8960, 9216, 9472, 20054, 20055, 36096, 36352, 36608, 36864, 37120] [(18, lwE)] [] 19 261 = true := by decide +kernel
-- stateOn
theorem lc2443 : lw_chk ly_Y 2443 lw_n lwB lwF lwL [] lwK [] [(18, lwE)] [] 19 261 = true := by decide +kernel
-- check
theorem lc2486 : lw_chk ly_Y 2486 lw_n lwB lwF lwL [] lwK [28160] [(18, lwE)] [] 19 261 = true := by decide +kernel
-- count
theorem lc2509 : lw_chk ly_Y 2509 lw_n lwB lwF lwL [] lwK [] [(18, lwE)] [] 19 261 = true := by decide +kernel
-- None
theorem lc2532 : lw_chk ly_Y 2532 lw_n lwB lwF lwL [] lwK [] [(18, lwE)] [] 19 261 = true := by decide +kernel
