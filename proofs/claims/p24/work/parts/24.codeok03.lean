/-! PRINTED by wip/whole/gen.py: the checks of the instructions -/
set_option maxRecDepth 100000 in
theorem mt275_ck : am_all mK18 (mt275.1.name == "<init>") mt275 = true := by decide +kernel
set_option maxRecDepth 100000 in
theorem mt276_ck : am_all mK18 (mt276.1.name == "<init>") mt276 = true := by decide +kernel
set_option maxRecDepth 100000 in
theorem mt277_ck : am_all mK18 (mt277.1.name == "<init>") mt277 = true := by decide +kernel
set_option maxRecDepth 100000 in
theorem mt278_ck : am_all mK18 (mt278.1.name == "<init>") mt278 = true := by decide +kernel
set_option maxRecDepth 100000 in
theorem mt279_ck : am_all mK18 (mt279.1.name == "<init>") mt279 = true := by decide +kernel
set_option maxRecDepth 100000 in
theorem mt280_ck : am_all mK18 (mt280.1.name == "<init>") mt280 = true := by decide +kernel
set_option maxRecDepth 100000 in
theorem mt281_ck : am_all mK18 (mt281.1.name == "<init>") mt281 = true := by decide +kernel
set_option maxRecDepth 100000 in
theorem mt282_ck : am_all mK18 (mt282.1.name == "<init>") mt282 = true := by decide +kernel
set_option maxRecDepth 100000 in
theorem mt283_ck : am_all mK18 (mt283.1.name == "<init>") mt283 = true := by decide +kernel
set_option maxRecDepth 100000 in
theorem mt284_ck : am_all mK18 (mt284.1.name == "<init>") mt284 = true := by decide +kernel
set_option maxRecDepth 100000 in
theorem mt285_ck : am_all mK18 (mt285.1.name == "<init>") mt285 = true := by decide +kernel
set_option maxRecDepth 100000 in
theorem mt286_ck : am_all mK18 (mt286.1.name == "<init>") mt286 = true := by decide +kernel
set_option maxRecDepth 100000 in
theorem mt287_ck : am_all mK18 (mt287.1.name == "<init>") mt287 = true := by decide +kernel
set_option maxRecDepth 100000 in
theorem mt288_ck : am_all mK18 (mt288.1.name == "<init>") mt288 = true := by decide +kernel
set_option maxRecDepth 100000 in
theorem mt289_ck : am_all mK18 (mt289.1.name == "<init>") mt289 = true := by decide +kernel
set_option maxRecDepth 100000 in
theorem mt290_ck : am_all mK18 (mt290.1.name == "<init>") mt290 = true := by decide +kernel
set_option maxRecDepth 100000 in
theorem mt291_ck : am_all mK18 (mt291.1.name == "<init>") mt291 = true := by decide +kernel
set_option maxRecDepth 100000 in
theorem mt292_ck : am_all mK18 (mt292.1.name == "<init>") mt292 = true := by decide +kernel
set_option maxRecDepth 100000 in
theorem mt293_ck : am_all mK18 (mt293.1.name == "<init>") mt293 = true := by decide +kernel
set_option maxRecDepth 100000 in
theorem mt294_ck : am_all mK18 (mt294.1.name == "<init>") mt294 = true := by decide +kernel
set_option maxRecDepth 100000 in
theorem mt295_ck : am_all mK18 (mt295.1.name == "<init>") mt295 = true := by decide +kernel
set_option maxRecDepth 100000 in
theorem mt296_ck : am_all mK18 (mt296.1.name == "<init>") mt296 = true := by decide +kernel
set_option maxRecDepth 100000 in
theorem mt297_ck : am_all mK18 (mt297.1.name == "<init>") mt297 = true := by decide +kernel
set_option maxRecDepth 100000 in
theorem mt298_ck : am_all mK18 (mt298.1.name == "<init>") mt298 = true := by decide +kernel
set_option maxRecDepth 100000 in
theorem mt299_ck : am_all mK18 (mt299.1.name == "<init>") mt299 = true := by decide +kernel
set_option maxRecDepth 100000 in
theorem mt300_ck : am_all mK18 (mt300.1.name == "<init>") mt300 = true := by decide +kernel
set_option maxRecDepth 100000 in
theorem mt301_ck : am_all mK18 (mt301.1.name == "<init>") mt301 = true := by decide +kernel
set_option maxRecDepth 100000 in
theorem mt302_ck : am_all mK18 (mt302.1.name == "<init>") mt302 = true := by decide +kernel
set_option maxRecDepth 100000 in
theorem mt303_ck : am_all mK18 (mt303.1.name == "<init>") mt303 = true := by decide +kernel
set_option maxRecDepth 100000 in
theorem mt304_ck : am_all mK18 (mt304.1.name == "<init>") mt304 = true := by decide +kernel
set_option maxRecDepth 100000 in
theorem mt305_ck : am_all mK18 (mt305.1.name == "<init>") mt305 = true := by decide +kernel
set_option maxRecDepth 100000 in
theorem mt306_ck : am_all mK18 (mt306.1.name == "<init>") mt306 = true := by decide +kernel
set_option maxRecDepth 100000 in
theorem mt307_ck : am_all mK18 (mt307.1.name == "<init>") mt307 = true := by decide +kernel
set_option maxRecDepth 100000 in
theorem mt308_ck : am_all mK18 (mt308.1.name == "<init>") mt308 = true := by decide +kernel
set_option maxRecDepth 100000 in
theorem mt309_ck : am_all mK18 (mt309.1.name == "<init>") mt309 = true := by decide +kernel
set_option maxRecDepth 100000 in
theorem mt310_ck : am_all mK18 (mt310.1.name == "<init>") mt310 = true := by decide +kernel
set_option maxRecDepth 100000 in
theorem mt311_ck : am_all mK18 (mt311.1.name == "<init>") mt311 = true := by decide +kernel
set_option maxRecDepth 100000 in
theorem mt312_ck : am_all mK18 (mt312.1.name == "<init>") mt312 = true := by decide +kernel
set_option maxRecDepth 100000 in
theorem mt313_ck : am_all mK18 (mt313.1.name == "<init>") mt313 = true := by decide +kernel
set_option maxRecDepth 100000 in
theorem mt314_ck : am_all mK18 (mt314.1.name == "<init>") mt314 = true := by decide +kernel
set_option maxRecDepth 100000 in
theorem mt315_ck : am_all mK18 (mt315.1.name == "<init>") mt315 = true := by decide +kernel
set_option maxRecDepth 100000 in
theorem mt316_ck : am_all mK18 (mt316.1.name == "<init>") mt316 = true := by decide +kernel
set_option maxRecDepth 100000 in
theorem mt317_ck : am_all mK18 (mt317.1.name == "<init>") mt317 = true := by decide +kernel
set_option maxRecDepth 100000 in
theorem mt318_ck : am_all mK18 (mt318.1.name == "<init>") mt318 = true := by decide +kernel
set_option maxRecDepth 100000 in
theorem mt319_ck : am_all mK18 (mt319.1.name == "<init>") mt319 = true := by decide +kernel
set_option maxRecDepth 100000 in
theorem mt320_ck : am_all mK18 (mt320.1.name == "<init>") mt320 = true := by decide +kernel
set_option maxRecDepth 100000 in
theorem mt321_ck : am_all mK18 (mt321.1.name == "<init>") mt321 = true := by decide +kernel
set_option maxRecDepth 100000 in
theorem mt322_ck : am_all mK18 (mt322.1.name == "<init>") mt322 = true := by decide +kernel
set_option maxRecDepth 100000 in
theorem mt323_ck : am_all mK18 (mt323.1.name == "<init>") mt323 = true := by decide +kernel
set_option maxRecDepth 100000 in
theorem mt324_ck : am_all mK18 (mt324.1.name == "<init>") mt324 = true := by decide +kernel
set_option maxRecDepth 100000 in
theorem mt325_ck : am_all mK18 (mt325.1.name == "<init>") mt325 = true := by decide +kernel
set_option maxRecDepth 100000 in
theorem mt326_ck : am_all mK18 (mt326.1.name == "<init>") mt326 = true := by decide +kernel
set_option maxRecDepth 100000 in
theorem mt327_ck : am_all mK18 (mt327.1.name == "<init>") mt327 = true := by decide +kernel
set_option maxRecDepth 100000 in
theorem mt328_ck : am_all mK18 (mt328.1.name == "<init>") mt328 = true := by decide +kernel
set_option maxRecDepth 100000 in
theorem mt329_ck : am_all mK18 (mt329.1.name == "<init>") mt329 = true := by decide +kernel
set_option maxRecDepth 100000 in
theorem mt330_ck : am_all mK18 (mt330.1.name == "<init>") mt330 = true := by decide +kernel
set_option maxRecDepth 100000 in
theorem mt331_ck : am_all mK18 (mt331.1.name == "<init>") mt331 = true := by decide +kernel
set_option maxRecDepth 100000 in
theorem mt332_ck : am_all mK18 (mt332.1.name == "<init>") mt332 = true := by decide +kernel
set_option maxRecDepth 100000 in
theorem mt333_ck : am_all mK18 (mt333.1.name == "<init>") mt333 = true := by decide +kernel
set_option maxRecDepth 100000 in
theorem mt334_ck : am_all mK18 (mt334.1.name == "<init>") mt334 = true := by decide +kernel
set_option maxRecDepth 100000 in
theorem mt335_ck : am_all mK18 (mt335.1.name == "<init>") mt335 = true := by decide +kernel
