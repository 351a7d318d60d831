/-! PRINTED by wip/p2/gen_law.py: the roads of the switch -/
-- juror
theorem lc1514 : lw_chk ly_Y 1514 lw_n lwB lwF lwL [] lwK [] [(18, lwE)] [] 19 261 = true := by decide +kernel
-- hear
theorem lc1547 : lw_chk ly_Y 1547 lw_n lwB lwF lwL [] lwK [257, 261, 262, 768, 1024, 1280, 7182, 8704, 8960, 9216, 9472, 19202, 19203, 19456, 19712, 19969, 19970, 19971, 19972, 19973, 19974, 19975, 19976, 20054, 27392, 27648, 27904, 28160, 30464, 31488, 31744, 32000, 35584, 35840, 45319, 45323, 47106, 47107, 47360, 47616] [(18, lwE)] [] 19 261 = true := by decide +kernel
-- judge
theorem lc1570 : lw_chk ly_Y 1570 lw_n lwB lwF lwL [] lwK [7171, 7182, 8704, 8960, 9216, 9472, 20053, 20054, 30464, 30720, 30976, 35584, 35840, 45319, 45320, 45321] [(18, lwE)] [] 19 261 = true := by decide +kernel
-- benefit
theorem lc1593 : lw_chk ly_Y 1593 lw_n lwB lwF lwL [] lwK [7182, 7680, 8704, 8960, 9216, 9472, 20054, 30464, 30720, 31232, 35584, 35840, 45319, 45320] [(18, lwE)] [] 19 261 = true := by decide +kernel
-- keep
theorem lc1616 : lw_chk ly_Y 1616 lw_n lwB lwF lwL [] lwK [7182, 8704, 8960, 9216, 9472, 20054, 30464, 35584, 35840, 45319] [(18, lwE)] [] 19 261 = true := by decide +kernel
-- settle
theorem lc1639 : lw_chk ly_Y 1639 lw_n lwB lwF lwL [] lwK [257, 261, 262, 768, 1024, 1280, 7171, 7176, 7182, 7936, 8192, 8704, 8960, 9216, 9472, 19969, 19970, 19971, 19972, 19973, 19974, 19975, 19976, 20053, 20054, 20064, 30464, 30720, 30976, 31488, 35584, 35840, 37632, 37888, 45319, 45320, 45321, 45324] [(18, lwE)] [] 19 261 = true := by decide +kernel
-- pardon
theorem lc1678 : lw_chk ly_Y 1678 lw_n lwB lwF lwL [] lwK [7182, 8704, 8960, 9216, 9472, 20054, 30464, 30720, 32256, 32512, 35584, 35840, 45319, 45320, 45325, 45326] [(18, lwE)] [] 19 261 = true := by decide +kernel
-- undo
theorem lc1721 : lw_chk ly_Y 1721 lw_n lwB lwF lwL [] lwK [7171, 7182, 7680, 8704, 8960, 9216, 9472, 20053, 20054, 27904, 30464, 30720, 30976, 31232, 31488, 32000, 34304, 35328, 35584, 35840, 45319, 45320, 45321, 45323, 45324, 47106, 47107, 48642, 48643, 49410, 49411] [(18, lwE)] [] 19 261 = true := by decide +kernel
-- commit
theorem lc1744 : lw_chk ly_Y 1744 lw_n lwB lwF lwL [] lwK [11264, 11520, 38144, 38400] [(18, lwE)] [] 19 261 = true := by decide +kernel
-- bail
theorem lc1777 : lw_chk ly_Y 1777 lw_n lwB lwF lwL [] lwK [11264, 11776, 38144, 38656] [(18, lwE)] [] 19 261 = true := by decide +kernel
-- deliver
theorem lc1800 : lw_chk ly_Y 1800 lw_n lwB lwF lwL [] lwK [11013, 11264, 11776, 12032, 12288, 20070, 38144, 38656, 38912, 39168] [(18, lwE)] [] 19 261 = true := by decide +kernel
-- left
theorem lc1823 : lw_chk ly_Y 1823 lw_n lwB lwF lwL [] lwK [] [(18, lwE)] [] 19 261 = true := by decide +kernel
