/-! PRINTED by wip/p2/gen_law.py: the roads of the switch -/
-- bonded
theorem lc1985 : lw_chk ly_Y 1985 lw_n lwB lwF lwL [] lwK [] [(18, lwE)] [] 19 261 = true := by decide +kernel
-- hours
theorem lc2018 : lw_chk ly_Y 2018 lw_n lwB lwF lwL [] lwK [32768, 45322] [(18, lwE)] [] 19 261 = true := by decide +kernel
-- order
theorem lc2051 : lw_chk ly_Y 2051 lw_n lwB lwF lwL [] lwK [14080, 14083, 20080, 41216] [(18, lwE)] [] 19 261 = true := by decide +kernel
-- put
theorem lc2064 : lw_chk ly_Y 2064 lw_n lwB lwF lwL [] lwK [14080, 14083, 14336, 20080, 40960, 41216] [(18, lwE)] [] 19 261 = true := by decide +kernel
-- best
theorem lc2087 : lw_chk ly_Y 2087 lw_n lwB lwF lwL [] lwK [14083, 14087, 14088, 14592, 14848, 15104, 15360, 20085, 41216, 41472, 41728, 41984] [(18, lwE)] [] 19 261 = true := by decide +kernel
-- laid
theorem lc2110 : lw_chk ly_Y 2110 lw_n lwB lwF lwL [] lwK [] [(18, lwE)] [] 19 261 = true := by decide +kernel
-- bound
theorem lc2133 : lw_chk ly_Y 2133 lw_n lwB lwF lwL [] lwK [14087, 14848, 15104, 15360] [(18, lwE)] [] 19 261 = true := by decide +kernel
-- prove
theorem lc2156 : lw_chk ly_Y 2156 lw_n lwB lwF lwL [] lwK [257, 14087, 14848, 15104, 15360, 19969, 41472, 41984] [(18, lwE)] [] 19 261 = true := by decide +kernel
-- far
theorem lc2179 : lw_chk ly_Y 2179 lw_n lwB lwF lwL [] lwK [42240] [(18, lwE)] [] 19 261 = true := by decide +kernel
-- ride
theorem lc2212 : lw_chk ly_Y 2212 lw_n lwB lwF lwL [] lwK [15618, 15621, 15622, 15626, 15627, 16384, 16640, 16896, 17152, 17408, 20088, 20089, 20090, 20097, 20098, 20099, 20100, 42240, 42496, 42752, 43008, 43264, 43520, 43776] [(18, lwE)] [] 19 261 = true := by decide +kernel
-- late
theorem lc2265 : lw_chk ly_Y 2265 lw_n lwB lwF lwL [] lwK [15618, 15626, 15627, 16384, 16640, 16896, 17152, 17408, 20088, 20089, 20090, 20097, 20098, 20099, 20100, 42240, 42496, 42752, 43008, 43264, 43520, 43776] [(18, lwE)] [] 19 261 = true := by decide +kernel
-- rode
theorem lc2298 : lw_chk ly_Y 2298 lw_n lwB lwF lwL [] lwK [] [(18, lwE)] [] 19 261 = true := by decide +kernel
