/-! PRINTED by wip/p2/gen_law.py: the roads of the switch -/
-- feed
theorem lc320 : lw_chk ly_Y 320 lw_n lwB lwF lwL [] lwK [257, 512, 19969, 20224] [(18, lwE)] [] 19 261 = true := by decide +kernel
-- end
theorem lc383 : lw_chk ly_Y 383 lw_n lwB lwF lwL [] lwK [257, 19969] [(18, lwE)] [] 19 261 = true := by decide +kernel
-- road
theorem lc406 : lw_chk ly_Y 406 lw_n lwB lwF lwL [] lwK [15872, 16128, 20480] [(18, lwE)] [] 19 261 = true := by decide +kernel
-- pass
theorem lc449 : lw_chk ly_Y 449 lw_n lwB lwF lwL [] lwK [10, 11015, 13824, 19977, 20053, 40704] [(18, lwE)] [] 19 261 = true := by decide +kernel
-- person
theorem lc472 : lw_chk (lw_rm [35, 274, 36] 0 ly_Y) 472 lw_n lwB lwF lwL [] lwK [1536, 1792, 2048, 19978, 20736, 20992, 38144] [(18, lwE)] [] 19 261 = true := by decide +kernel
-- land
theorem lc505 : lw_chk (lw_rm [37, 40, 275, 278] 0 ly_Y) 505 lw_n lwB lwF lwL [] lwK [1537, 2304, 2560, 2816, 3072, 3328, 19982, 21248, 21504, 21760, 22016, 22272, 22528] [(18, lwE)] [] 19 261 = true := by decide +kernel
-- dead
theorem lc548 : lw_chk (lw_rm [41, 40, 279, 278] 0 ly_Y) 548 lw_n lwB lwF lwL [] lwK [1537, 2304, 2560, 2816, 3072, 3328, 19982, 21248, 21504, 21760, 22016, 22272, 22528] [(18, lwE)] [] 19 261 = true := by decide +kernel
-- landOn
theorem lc624 : lw_chk ly_Y 624 lw_n lwB lwF lwL [] lwK [] [(18, lwE)] [] 19 261 = true := by decide +kernel
-- deadOn
theorem lc667 : lw_chk ly_Y 667 lw_n lwB lwF lwL [] lwK [] [(18, lwE)] [] 19 261 = true := by decide +kernel
-- kinOn
theorem lc710 : lw_chk ly_Y 710 lw_n lwB lwF lwL [] lwK [] [(18, lwE)] [] 19 261 = true := by decide +kernel
-- act
theorem lc753 : lw_chk ly_Y 753 lw_n lwB lwF lwL [] lwK [257, 261, 262, 768, 1024, 1280, 3584, 3588, 3594, 3596, 3840, 4096, 4352, 4608, 4864, 5120, 5376, 5632, 5888, 6144, 6145, 6151, 6152, 6153, 6154, 6155, 6156, 6157, 6158, 6159, 6160, 6400, 19969, 19970, 19971, 19972, 19973, 19974, 19975, 19976, 19989, 19990, 19991, 20010, 20011, 20012, 20013, 20014, 20015, 20016, 22784, 23040, 23296, 23552, 23808, 24064, 24320, 24576, 24832, 25088, 25344, 25600, 25856, 26112, 26368, 26624, 26880, 27136, 60010, 60011, 60012, 60020, 60030, 60031, 60032, 60033, 60034, 60035, 60036, 60037, 60038, 60039, 60040, 60050, 60060, 60061, 60070, 60071, 60080, 60081, 60082] [(18, lwE)] [] 19 261 = true := by decide +kernel
-- fault
theorem lc786 : lw_chk ly_Y 786 lw_n lwB lwF lwL [] lwK [] [(18, lwE)] [] 19 261 = true := by decide +kernel
