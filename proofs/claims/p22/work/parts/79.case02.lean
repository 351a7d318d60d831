/-! PRINTED by wip/p2/gen_law.py: the roads of the switch -/
-- may
theorem lc1346 : lw_chk ly_Y 1346 lw_n lwB lwF lwL [] lwK [] [(18, lwE)] [] 19 261 = true := by decide +kernel
-- list
theorem lc1379 : lw_chk ly_Y 1379 lw_n lwB lwF lwL [] lwK [9728] [(18, lwE)] [] 19 261 = true := by decide +kernel
-- draw
theorem lc1402 : lw_chk ly_Y 1402 lw_n lwB lwF lwL [] lwK [9728, 34048, 34304, 48642] [(18, lwE)] [] 19 261 = true := by decide +kernel
-- challenge
theorem lc1435 : lw_chk ly_Y 1435 lw_n lwB lwF lwL [] lwK [34048, 34304, 35072, 35328, 48642, 49410] [(18, lwE)] [] 19 261 = true := by decide +kernel
-- full
theorem lc1468 : lw_chk ly_Y 1468 lw_n lwB lwF lwL [] lwK [] [(18, lwE)] [] 19 261 = true := by decide +kernel
-- lacks
theorem lc1491 : lw_chk ly_Y 1491 lw_n lwB lwF lwL [] lwK [] [(18, lwE)] [] 19 261 = true := by decide +kernel
-- juror
theorem lc1514 : lw_chk ly_Y 1514 lw_n lwB lwF lwL [] lwK [] [(18, lwE)] [] 19 261 = true := by decide +kernel
-- hear
theorem lc1547 : lw_chk ly_Y 1547 lw_n lwB lwF lwL [] lwK [257, 261, 262, 768, 1024, 1280, 7182, 8704, 8960, 9216, 9472, 19202, 19203, 19456, 19712, 19969, 19970, 19971, 19972, 19973, 19974, 19975, 19976, 20054, 27392, 27648, 27904, 28160, 30464, 31488, 31744, 32000, 35584, 35840, 45319, 45323, 47106, 47107] [(18, lwE)] [] 19 261 = true := by decide +kernel
-- judge
theorem lc1570 : lw_chk ly_Y 1570 lw_n lwB lwF lwL [] lwK [7171, 7182, 8704, 8960, 9216, 9472, 20053, 20054, 30464, 30720, 30976, 35584, 35840, 45319, 45320, 45321] [(18, lwE)] [] 19 261 = true := by decide +kernel
-- benefit
theorem lc1593 : lw_chk ly_Y 1593 lw_n lwB lwF lwL [] lwK [7182, 7680, 8704, 8960, 9216, 9472, 20054, 30464, 30720, 31232, 35584, 35840, 45319, 45320] [(18, lwE)] [] 19 261 = true := by decide +kernel
-- keep
theorem lc1616 : lw_chk ly_Y 1616 lw_n lwB lwF lwL [] lwK [7182, 8704, 8960, 9216, 9472, 20054, 30464, 35584, 35840, 45319] [(18, lwE)] [] 19 261 = true := by decide +kernel
-- settle
theorem lc1639 : lw_chk ly_Y 1639 lw_n lwB lwF lwL [] lwK [257, 261, 262, 768, 1024, 1280, 7171, 7176, 7182, 7936, 8192, 8704, 8960, 9216, 9472, 19969, 19970, 19971, 19972, 19973, 19974, 19975, 19976, 20053, 20054, 20064, 30464, 30720, 30976, 31488, 35584, 35840, 37632, 37888, 45319, 45320, 45321, 45324] [(18, lwE)] [] 19 261 = true := by decide +kernel
