/-! PRINTED by wip/p2/gen_law.py: the roads of the switch -/
-- prisoner
theorem lc1856 : lw_chk ly_Y 1856 lw_n lwB lwF lwL [] lwK [] [(18, lwE)] [] 19 261 = true := by decide +kernel
-- bond
theorem lc1889 : lw_chk ly_Y 1889 lw_n lwB lwF lwL [] lwK [11014, 12544, 12800, 13056, 13312, 13568, 13824, 20073, 39424, 39680, 39936, 40192, 40448] [(18, lwE)] [] 19 261 = true := by decide +kernel
-- seen
theorem lc1952 : lw_chk ly_Y 1952 lw_n lwB lwF lwL [] lwK [7182, 8704, 8960, 9216, 9472, 13824, 20054, 30464, 30720, 35584, 35840, 40704, 45319, 45320] [(18, lwE)] [] 19 261 = true := by decide +kernel
-- bonded
theorem lc1985 : lw_chk ly_Y 1985 lw_n lwB lwF lwL [] lwK [] [(18, lwE)] [] 19 261 = true := by decide +kernel
-- hours
theorem lc2018 : lw_chk ly_Y 2018 lw_n lwB lwF lwL [] lwK [32768, 45322] [(18, lwE)] [] 19 261 = true := by decide +kernel
-- order
theorem lc2051 : lw_chk ly_Y 2051 lw_n lwB lwF lwL [] lwK [14080, 14083, 20080, 41216] [(18, lwE)] [] 19 261 = true := by decide +kernel
-- put
theorem lc2064 : lw_chk ly_Y 2064 lw_n lwB lwF lwL [] lwK [14080, 14083, 14336, 20080, 40960, 41216] [(18, lwE)] [] 19 261 = true := by decide +kernel
-- best
theorem lc2087 : lw_chk ly_Y 2087 lw_n lwB lwF lwL [] lwK [14083, 14087, 14088, 14592, 14848, 15104, 15360, 20085, 41216, 41472, 41728, 41984] [(18, lwE)] [] 19 261 = true := by decide +kernel
-- laid
theorem lc2110 : lw_chk ly_Y 2110 lw_n lwB lwF lwL [] lwK [] [(18, lwE)] [] 19 261 = true := by decide +kernel
-- bound
theorem lc2133 : lw_chk ly_Y 2133 lw_n lwB lwF lwL [] lwK [14087, 14848, 15104, 15360] [(18, lwE)] [] 19 261 = true := by decide +kernel
-- prove
theorem lc2156 : lw_chk ly_Y 2156 lw_n lwB lwF lwL [] lwK [257, 14087, 14848, 15104, 15360, 19969, 41472, 41984] [(18, lwE)] [] 19 261 = true := by decide +kernel
-- far
theorem lc2179 : lw_chk ly_Y 2179 lw_n lwB lwF lwL [] lwK [42240] [(18, lwE)] [] 19 261 = true := by decide +kernel
