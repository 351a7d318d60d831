/-! PRINTED by wip/whole/gen.py: the checks of the instructions -/
set_option maxRecDepth 100000 in
theorem mt275_ck : am_all mK18 false mt275 = true := by decide +kernel
set_option maxRecDepth 100000 in
theorem mt276_ck : am_all mK18 false mt276 = true := by decide +kernel
set_option maxRecDepth 100000 in
theorem mt277_ck : am_all mK18 false mt277 = true := by decide +kernel
set_option maxRecDepth 100000 in
theorem mt278_ck : am_all mK18 false mt278 = true := by decide +kernel
set_option maxRecDepth 100000 in
theorem mt279_ck : am_all mK18 false mt279 = true := by decide +kernel
set_option maxRecDepth 100000 in
theorem mt280_ck : am_all mK18 false mt280 = true := by decide +kernel
set_option maxRecDepth 100000 in
theorem mt281_ck : am_all mK18 false mt281 = true := by decide +kernel
set_option maxRecDepth 100000 in
theorem mt282_ck : am_all mK18 false mt282 = true := by decide +kernel
set_option maxRecDepth 100000 in
theorem mt283_ck : am_all mK18 false mt283 = true := by decide +kernel
set_option maxRecDepth 100000 in
theorem mt284_ck : am_all mK18 false mt284 = true := by decide +kernel
set_option maxRecDepth 100000 in
theorem mt285_ck : am_all mK18 false mt285 = true := by decide +kernel
set_option maxRecDepth 100000 in
theorem mt286_ck : am_all mK18 false mt286 = true := by decide +kernel
set_option maxRecDepth 100000 in
theorem mt287_ck : am_all mK18 false mt287 = true := by decide +kernel
set_option maxRecDepth 100000 in
theorem mt288_ck : am_all mK18 false mt288 = true := by decide +kernel
set_option maxRecDepth 100000 in
theorem mt289_ck : am_all mK18 false mt289 = true := by decide +kernel
set_option maxRecDepth 100000 in
theorem mt290_ck : am_all mK18 false mt290 = true := by decide +kernel
set_option maxRecDepth 100000 in
theorem mt291_ck : am_all mK18 false mt291 = true := by decide +kernel
set_option maxRecDepth 100000 in
theorem mt292_ck : am_all mK18 false mt292 = true := by decide +kernel
set_option maxRecDepth 100000 in
theorem mt293_ck : am_all mK18 false mt293 = true := by decide +kernel
set_option maxRecDepth 100000 in
theorem mt294_ck : am_all mK18 false mt294 = true := by decide +kernel
set_option maxRecDepth 100000 in
theorem mt295_ck : am_all mK18 false mt295 = true := by decide +kernel
set_option maxRecDepth 100000 in
theorem mt296_ck : am_all mK18 false mt296 = true := by decide +kernel
set_option maxRecDepth 100000 in
theorem mt297_ck : am_all mK18 false mt297 = true := by decide +kernel
set_option maxRecDepth 100000 in
theorem mt298_ck : am_all mK18 false mt298 = true := by decide +kernel
set_option maxRecDepth 100000 in
theorem mt299_ck : am_all mK18 false mt299 = true := by decide +kernel
set_option maxRecDepth 100000 in
theorem mt300_ck : am_all mK18 false mt300 = true := by decide +kernel
set_option maxRecDepth 100000 in
theorem mt301_ck : am_all mK18 false mt301 = true := by decide +kernel
set_option maxRecDepth 100000 in
theorem mt302_ck : am_all mK18 false mt302 = true := by decide +kernel
set_option maxRecDepth 100000 in
theorem mt303_ck : am_all mK18 false mt303 = true := by decide +kernel
set_option maxRecDepth 100000 in
theorem mt304_ck : am_all mK18 false mt304 = true := by decide +kernel
set_option maxRecDepth 100000 in
theorem mt305_ck : am_all mK18 false mt305 = true := by decide +kernel
set_option maxRecDepth 100000 in
theorem mt306_ck : am_all mK18 false mt306 = true := by decide +kernel
set_option maxRecDepth 100000 in
theorem mt307_ck : am_all mK18 false mt307 = true := by decide +kernel
set_option maxRecDepth 100000 in
theorem mt308_ck : am_all mK18 false mt308 = true := by decide +kernel
set_option maxRecDepth 100000 in
theorem mt309_ck : am_all mK18 false mt309 = true := by decide +kernel
set_option maxRecDepth 100000 in
theorem mt310_ck : am_all mK18 false mt310 = true := by decide +kernel
set_option maxRecDepth 100000 in
theorem mt311_ck : am_all mK18 false mt311 = true := by decide +kernel
set_option maxRecDepth 100000 in
theorem mt312_ck : am_all mK18 false mt312 = true := by decide +kernel
set_option maxRecDepth 100000 in
theorem mt313_ck : am_all mK18 false mt313 = true := by decide +kernel
set_option maxRecDepth 100000 in
theorem mt314_ck : am_all mK18 false mt314 = true := by decide +kernel
set_option maxRecDepth 100000 in
theorem mt315_ck : am_all mK18 false mt315 = true := by decide +kernel
set_option maxRecDepth 100000 in
theorem mt316_ck : am_all mK18 false mt316 = true := by decide +kernel
set_option maxRecDepth 100000 in
theorem mt317_ck : am_all mK18 false mt317 = true := by decide +kernel
set_option maxRecDepth 100000 in
theorem mt318_ck : am_all mK18 false mt318 = true := by decide +kernel
set_option maxRecDepth 100000 in
theorem mt319_ck : am_all mK18 false mt319 = true := by decide +kernel
set_option maxRecDepth 100000 in
theorem mt320_ck : am_all mK18 false mt320 = true := by decide +kernel
set_option maxRecDepth 100000 in
theorem mt321_ck : am_all mK18 false mt321 = true := by decide +kernel
set_option maxRecDepth 100000 in
theorem mt322_ck : am_all mK18 false mt322 = true := by decide +kernel
set_option maxRecDepth 100000 in
theorem mt323_ck : am_all mK18 false mt323 = true := by decide +kernel
set_option maxRecDepth 100000 in
theorem mt324_ck : am_all mK18 false mt324 = true := by decide +kernel
set_option maxRecDepth 100000 in
theorem mt325_ck : am_all mK18 false mt325 = true := by decide +kernel
set_option maxRecDepth 100000 in
theorem mt326_ck : am_all mK18 false mt326 = true := by decide +kernel
set_option maxRecDepth 100000 in
theorem mt327_ck : am_all mK18 false mt327 = true := by decide +kernel
set_option maxRecDepth 100000 in
theorem mt328_ck : am_all mK18 false mt328 = true := by decide +kernel
set_option maxRecDepth 100000 in
theorem mt329_ck : am_all mK18 false mt329 = true := by decide +kernel
set_option maxRecDepth 100000 in
theorem mt330_ck : am_all mK18 false mt330 = true := by decide +kernel
set_option maxRecDepth 100000 in
theorem mt331_ck : am_all mK18 false mt331 = true := by decide +kernel
set_option maxRecDepth 100000 in
theorem mt332_ck : am_all mK18 false mt332 = true := by decide +kernel
set_option maxRecDepth 100000 in
theorem mt333_ck : am_all mK18 false mt333 = true := by decide +kernel
set_option maxRecDepth 100000 in
theorem mt334_ck : am_all mK18 false mt334 = true := by decide +kernel
set_option maxRecDepth 100000 in
theorem mt335_ck : am_all mK18 false mt335 = true := by decide +kernel
