/-! PRINTED by wip/p2/gen_law.py: the roads of the switch -/
-- bill
theorem lc1247 : lw_chk ly_Y 1247 lw_n lwB lwF lwL [] lwK [7182, 8704, 8960, 9216, 9472, 20054, 28160, 30464, 35584, 35840, 45319] [(18, lwE)] [] 19 261 = true := by decide +kernel
-- matter
theorem lc1280 : lw_chk ly_Y 1280 lw_n lwB lwF lwL [] lwK [] [(18, lwE)] [] 19 261 = true := by decide +kernel
-- witness
theorem lc1313 : lw_chk ly_Y 1313 lw_n lwB lwF lwL [] lwK [34560, 34816, 47874] [(18, lwE)] [] 19 261 = true := by decide +kernel
-- may
theorem lc1346 : lw_chk ly_Y 1346 lw_n lwB lwF lwL [] lwK [] [(18, lwE)] [] 19 261 = true := by decide +kernel
-- list
theorem lc1379 : lw_chk ly_Y 1379 lw_n lwB lwF lwL [] lwK [9728] [(18, lwE)] [] 19 261 = true := by decide +kernel
-- draw
theorem lc1402 : lw_chk ly_Y 1402 lw_n lwB lwF lwL [] lwK [9728, 34048, 34304, 48642] [(18, lwE)] [] 19 261 = true := by decide +kernel
-- challenge
theorem lc1435 : lw_chk ly_Y 1435 lw_n lwB lwF lwL [] lwK [34048, 34304, 35072, 35328, 48642, 49410] [(18, lwE)] [] 19 261 = true := by decide +kernel
-- full
theorem lc1468 : lw_chk ly_Y 1468 lw_n lwB lwF lwL [] lwK [] [(18, lwE)] [] 19 261 = true := by decide +kernel
-- lacks
theorem lc1491 : lw_chk ly_Y 1491 lw_n lwB lwF lwL [] lwK [] [(18, lwE)] [] 19 261 = true := by decide +kernel
-- juror
theorem lc1514 : lw_chk ly_Y 1514 lw_n lwB lwF lwL [] lwK [] [(18, lwE)] [] 19 261 = true := by decide +kernel
-- hear
theorem lc1547 : lw_chk ly_Y 1547 lw_n lwB lwF lwL [] lwK [257, 261, 262, 768, 1024, 1280, 7182, 8704, 8960, 9216, 9472, 19202, 19203, 19456, 19712, 19969, 19970, 19971, 19972, 19973, 19974, 19975, 19976, 20054, 27392, 27648, 27904, 28160, 30464, 31488, 31744, 32000, 35584, 35840, 45319, 45323, 47106, 47107] [(18, lwE)] [] 19 261 = true := by decide +kernel
-- judge
theorem lc1570 : lw_chk ly_Y 1570 lw_n lwB lwF lwL [] lwK [7171, 7182, 8704, 8960, 9216, 9472, 20053, 20054, 30464, 30720, 30976, 35584, 35840, 45319, 45320, 45321] [(18, lwE)] [] 19 261 = true := by decide +kernel
