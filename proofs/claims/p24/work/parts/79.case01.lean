/-! PRINTED by wip/p2/gen_law.py: the roads of the switch -/
-- tells
theorem lc885 : lw_chk ly_Y 885 lw_n lwB lwF lwL [] lwK [257, 261, 262, 768, 1024, 1280, 19969, 19970, 19971, 19972, 19973, 19974, 19975, 19976, 20017] [(18, lwE)] [] 19 261 = true := by decide +kernel
-- quarrel
theorem lc928 : lw_chk ly_Y 928 lw_n lwB lwF lwL [] lwK [257, 261, 262, 768, 1024, 1280, 19969, 19970, 19971, 19972, 19973, 19974, 19975, 19976, 20017] [(18, lwE)] [] 19 261 = true := by decide +kernel
-- weigh
theorem lc971 : lw_chk ly_Y 971 lw_n lwB lwF lwL [] lwK [11, 12, 257, 261, 262, 768, 1024, 1280, 19202, 19203, 19456, 19712, 19969, 19970, 19971, 19972, 19973, 19974, 19975, 19976, 20022, 20023, 27392, 27648, 27904, 28160] [(18, lwE)] [] 19 261 = true := by decide +kernel
-- why
theorem lc1004 : lw_chk ly_Y 1004 lw_n lwB lwF lwL [] lwK [] [(18, lwE)] [] 19 261 = true := by decide +kernel
-- matter
theorem lc1280 : lw_chk ly_Y 1280 lw_n lwB lwF lwL [] lwK [] [(18, lwE)] [] 19 261 = true := by decide +kernel
-- witness
theorem lc1313 : lw_chk ly_Y 1313 lw_n lwB lwF lwL [] lwK [34560, 34816, 47874, 48128, 48384] [(18, lwE)] [] 19 261 = true := by decide +kernel
-- may
theorem lc1346 : lw_chk ly_Y 1346 lw_n lwB lwF lwL [] lwK [] [(18, lwE)] [] 19 261 = true := by decide +kernel
-- list
theorem lc1379 : lw_chk ly_Y 1379 lw_n lwB lwF lwL [] lwK [9728] [(18, lwE)] [] 19 261 = true := by decide +kernel
-- draw
theorem lc1402 : lw_chk ly_Y 1402 lw_n lwB lwF lwL [] lwK [9728, 34048, 34304, 48642, 48896, 49152] [(18, lwE)] [] 19 261 = true := by decide +kernel
-- challenge
theorem lc1435 : lw_chk ly_Y 1435 lw_n lwB lwF lwL [] lwK [34048, 34304, 35072, 35328, 48642, 48896, 49152, 49410, 49664, 49920] [(18, lwE)] [] 19 261 = true := by decide +kernel
-- full
theorem lc1468 : lw_chk ly_Y 1468 lw_n lwB lwF lwL [] lwK [] [(18, lwE)] [] 19 261 = true := by decide +kernel
-- lacks
theorem lc1491 : lw_chk ly_Y 1491 lw_n lwB lwF lwL [] lwK [] [(18, lwE)] [] 19 261 = true := by decide +kernel
