/-! PRINTED by wip/p2/gen_law.py: the roads of the switch -/
-- end
theorem lc383 : lw_chk (lw_rm [24, 270] 0 ly_Y) 383 lw_n lwB lwF lwL [] lwK [257, 19969] [(18, lwE)] [] 19 261 = true := by decide +kernel
-- road
theorem lc406 : lw_chk ly_Y 406 lw_n lwB lwF lwL [] lwK [15872, 16128, 20480] [(18, lwE)] [] 19 261 = true := by decide +kernel
-- person
theorem lc472 : lw_chk (lw_rm [35, 274, 36] 0 ly_Y) 472 lw_n lwB lwF lwL [] lwK [1536, 1792, 2048, 19978, 20736, 20992, 38144] [(18, lwE)] [] 19 261 = true := by decide +kernel
-- land
theorem lc505 : lw_chk ly_Y 505 lw_n lwB lwF lwL [] lwK [1537, 2304, 2560, 2816, 3072, 3328, 19982, 21248, 21504, 21760, 22016, 22272, 22528] [(18, lwE)] [] 19 261 = true := by decide +kernel
-- dead
theorem lc548 : lw_chk ly_Y 548 lw_n lwB lwF lwL [] lwK [1537, 2304, 2560, 2816, 3072, 3328, 19982, 21248, 21504, 21760, 22016, 22272, 22528] [(18, lwE)] [] 19 261 = true := by decide +kernel
-- kin
theorem lc581 : lw_chk ly_Y 581 lw_n lwB lwF lwL [] lwK [1537, 2304, 2560, 2816, 3072, 3328, 7171, 7182, 8704, 8960, 9216, 9472, 19982, 20053, 20054, 21248, 21504, 21760, 22016, 22272, 22528, 27904, 30464, 30720, 30976, 31232, 31488, 32000, 34304, 35328, 35584, 35840, 45319, 45320, 45321, 45323, 45324, 47106, 47107, 48642, 48643, 49410, 49411] [(18, lwE)] [] 19 261 = true := by decide +kernel
-- landOn
theorem lc624 : lw_chk ly_Y 624 lw_n lwB lwF lwL [] lwK [] [(18, lwE)] [] 19 261 = true := by decide +kernel
-- deadOn
theorem lc667 : lw_chk ly_Y 667 lw_n lwB lwF lwL [] lwK [] [(18, lwE)] [] 19 261 = true := by decide +kernel
-- kinOn
theorem lc710 : lw_chk ly_Y 710 lw_n lwB lwF lwL [] lwK [] [(18, lwE)] [] 19 261 = true := by decide +kernel
-- fault
theorem lc786 : lw_chk ly_Y 786 lw_n lwB lwF lwL [] lwK [] [(18, lwE)] [] 19 261 = true := by decide +kernel
-- told
theorem lc809 : lw_chk ly_Y 809 lw_n lwB lwF lwL [] lwK [] [(18, lwE)] [] 19 261 = true := by decide +kernel
-- law
theorem lc842 : lw_chk ly_Y 842 lw_n lwB lwF lwL [] lwK [257, 261, 262, 768, 1024, 1280, 19969, 19970, 19971, 19972, 19973, 19974, 19975, 19976, 20017] [(18, lwE)] [] 19 261 = true := by decide +kernel
