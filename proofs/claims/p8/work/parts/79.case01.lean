/-! PRINTED by wip/p2/gen_law.py: the roads of the switch -/
-- told
theorem lc809 : lw_chk ly_Y 809 lw_n lwB lwF lwL [] lwK [] [(18, lwE)] [] 19 261 = true := by decide +kernel
-- law
theorem lc842 : lw_chk ly_Y 842 lw_n lwB lwF lwL [] lwK [257, 261, 262, 768, 1024, 1280, 19969, 19970, 19971, 19972, 19973, 19974, 19975, 19976, 20017] [(18, lwE)] [] 19 261 = true := by decide +kernel
-- tells
theorem lc885 : lw_chk ly_Y 885 lw_n lwB lwF lwL [] lwK [257, 261, 262, 768, 1024, 1280, 19969, 19970, 19971, 19972, 19973, 19974, 19975, 19976, 20017] [(18, lwE)] [] 19 261 = true := by decide +kernel
-- quarrel
theorem lc928 : lw_chk ly_Y 928 lw_n lwB lwF lwL [] lwK [257, 261, 262, 768, 1024, 1280, 19969, 19970, 19971, 19972, 19973, 19974, 19975, 19976, 20017] [(18, lwE)] [] 19 261 = true := by decide +kernel
-- weigh
theorem lc971 : lw_chk ly_Y 971 lw_n lwB lwF lwL [] lwK [11, 12, 257, 261, 262, 768, 1024, 1280, 19202, 19203, 19456, 19712, 19969, 19970, 19971, 19972, 19973, 19974, 19975, 19976, 20022, 20023, 27392, 27648, 27904, 28160] [(18, lwE)] [] 19 261 = true := by decide +kernel
-- why
theorem lc1004 : lw_chk ly_Y 1004 lw_n lwB lwF lwL [] lwK [] [(18, lwE)] [] 19 261 = true := by decide +kernel
-- crown
theorem lc1027 : lw_chk ly_Y 1027 lw_n lwB lwF lwL [] lwK [257, 261, 262, 768, 1024, 1280, 7170, 7182, 8704, 8960, 9216, 9472, 19969, 19970, 19971, 19972, 19973, 19974, 19975, 19976, 20017, 20024, 20054, 28416, 28672, 28928, 29184, 29440, 29696, 29952, 30208, 30464, 32000, 32768, 35584, 35840, 60002] [(18, lwE)] [] 19 261 = true := by decide +kernel
-- plea
theorem lc1080 : lw_chk ly_Y 1080 lw_n lwB lwF lwL [] lwK [257, 261, 262, 768, 1024, 1280, 7170, 7182, 8704, 8960, 9216, 9472, 19969, 19970, 19971, 19972, 19973, 19974, 19975, 19976, 20017, 20024, 20054, 28416, 28672, 28928, 29184, 29440, 29696, 29952, 30208, 30464, 32000, 32768, 35584, 35840, 60002] [(18, lwE)] [] 19 261 = true := by decide +kernel
-- words
theorem lc1155 : lw_chk ly_Y 1155 lw_n lwB lwF lwL [] lwK [257, 261, 262, 768, 1024, 1280, 19969, 19970, 19971, 19972, 19973, 19974, 19975, 19976, 33024, 33280, 33536, 45570, 45571] [(18, lwE)] [] 19 261 = true := by decide +kernel
-- allege
theorem lc1178 : lw_chk ly_Y 1178 lw_n lwB lwF lwL [] lwK [257, 261, 262, 768, 1024, 1280, 19202, 19203, 19456, 19712, 19969, 19970, 19971, 19972, 19973, 19974, 19975, 19976, 27392, 27648, 27904, 33792, 46338, 46339] [(18, lwE)] [] 19 261 = true := by decide +kernel
-- bad
theorem lc1201 : lw_chk ly_Y 1201 lw_n lwB lwF lwL [] lwK [28160] [(18, lwE)] [] 19 261 = true := by decide +kernel
-- mend
theorem lc1224 : lw_chk ly_Y 1224 lw_n lwB lwF lwL [] lwK [9984, 10242, 10243, 10496, 10752, 33024, 33280, 37376, 45570, 45571] [(18, lwE)] [] 19 261 = true := by decide +kernel
