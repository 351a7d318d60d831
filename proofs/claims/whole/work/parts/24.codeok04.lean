/-! PRINTED by wip/whole/gen.py: the checks of the instructions -/
set_option maxRecDepth 100000 in
theorem mt336_ck : am_all mK18 false mt336 = true := by decide +kernel
set_option maxRecDepth 100000 in
theorem mt337_ck : am_all mK18 false mt337 = true := by decide +kernel
set_option maxRecDepth 100000 in
theorem mt338_ck : am_all mK18 false mt338 = true := by decide +kernel
set_option maxRecDepth 100000 in
theorem mt339_ck : am_all mK18 false mt339 = true := by decide +kernel
set_option maxRecDepth 100000 in
theorem mt340_ck : am_all mK18 false mt340 = true := by decide +kernel
set_option maxRecDepth 100000 in
theorem mt341_ck : am_all mK18 false mt341 = true := by decide +kernel
set_option maxRecDepth 100000 in
theorem mt342_ck : am_all mK18 false mt342 = true := by decide +kernel
set_option maxRecDepth 100000 in
theorem mt343_ck : am_all mK18 false mt343 = true := by decide +kernel
set_option maxRecDepth 100000 in
theorem mt344_ck : am_all mK18 false mt344 = true := by decide +kernel
set_option maxRecDepth 100000 in
theorem mt345_ck : am_all mK18 false mt345 = true := by decide +kernel
set_option maxRecDepth 100000 in
theorem mt346_ck : am_all mK18 false mt346 = true := by decide +kernel
set_option maxRecDepth 100000 in
theorem mt347_ck : am_all mK18 false mt347 = true := by decide +kernel
set_option maxRecDepth 100000 in
theorem mt348_ck : am_all mK18 false mt348 = true := by decide +kernel
set_option maxRecDepth 100000 in
theorem mt349_ck : am_all mK18 false mt349 = true := by decide +kernel
set_option maxRecDepth 100000 in
theorem mt350_ck : am_all mK18 false mt350 = true := by decide +kernel
set_option maxRecDepth 100000 in
theorem mt351_ck : am_all mK18 false mt351 = true := by decide +kernel
set_option maxRecDepth 100000 in
theorem mt352_ck : am_all mK18 false mt352 = true := by decide +kernel
set_option maxRecDepth 100000 in
theorem mt353_ck : am_all mK18 false mt353 = true := by decide +kernel
set_option maxRecDepth 100000 in
theorem mt354_ck : am_all mK18 false mt354 = true := by decide +kernel
set_option maxRecDepth 100000 in
theorem mt355_ck : am_all mK18 false mt355 = true := by decide +kernel
set_option maxRecDepth 100000 in
theorem mt356_ck : am_all mK18 false mt356 = true := by decide +kernel
set_option maxRecDepth 100000 in
theorem mt357_ck : am_all mK18 false mt357 = true := by decide +kernel
set_option maxRecDepth 100000 in
theorem mt358_ck : am_all mK18 false mt358 = true := by decide +kernel
set_option maxRecDepth 100000 in
theorem mt359_ck : am_all mK18 false mt359 = true := by decide +kernel
set_option maxRecDepth 100000 in
theorem mt360_ck : am_all mK18 false mt360 = true := by decide +kernel
set_option maxRecDepth 100000 in
theorem mt361_ck : am_all mK18 false mt361 = true := by decide +kernel
set_option maxRecDepth 100000 in
theorem mt362_ck : am_all mK18 false mt362 = true := by decide +kernel
set_option maxRecDepth 100000 in
theorem mt363_ck : am_all mK18 false mt363 = true := by decide +kernel
set_option maxRecDepth 100000 in
theorem mt364_ck : am_all mK18 false mt364 = true := by decide +kernel
set_option maxRecDepth 100000 in
theorem mt365_ck : am_all mK18 false mt365 = true := by decide +kernel
set_option maxRecDepth 100000 in
theorem mt366_ck : am_all mK18 false mt366 = true := by decide +kernel
set_option maxRecDepth 100000 in
theorem mt367_ck : am_all mK18 false mt367 = true := by decide +kernel
set_option maxRecDepth 100000 in
theorem mt368_ck : am_all mK18 false mt368 = true := by decide +kernel
set_option maxRecDepth 100000 in
theorem mt369_ck : am_all mK18 false mt369 = true := by decide +kernel
set_option maxRecDepth 100000 in
theorem mt370_ck : am_all mK18 false mt370 = true := by decide +kernel
set_option maxRecDepth 100000 in
theorem mt371_ck : am_all mK18 false mt371 = true := by decide +kernel
set_option maxRecDepth 100000 in
theorem mt372_ck : am_all mK18 false mt372 = true := by decide +kernel
set_option maxRecDepth 100000 in
theorem mt373_ck : am_all mK18 false mt373 = true := by decide +kernel
set_option maxRecDepth 100000 in
theorem mt374_ck : am_all mK18 false mt374 = true := by decide +kernel
set_option maxRecDepth 100000 in
theorem mt375_ck : am_all mK18 false mt375 = true := by decide +kernel
set_option maxRecDepth 100000 in
theorem mt376_ck : am_all mK18 false mt376 = true := by decide +kernel
set_option maxRecDepth 100000 in
theorem mt377_ck : am_all mK18 false mt377 = true := by decide +kernel
set_option maxRecDepth 100000 in
theorem mt378_ck : am_all mK18 false mt378 = true := by decide +kernel
set_option maxRecDepth 100000 in
theorem mt379_ck : am_all mK18 false mt379 = true := by decide +kernel
set_option maxRecDepth 100000 in
theorem mt380_ck : am_all mK18 false mt380 = true := by decide +kernel
set_option maxRecDepth 100000 in
theorem mt381_ck : am_all mK18 false mt381 = true := by decide +kernel
set_option maxRecDepth 100000 in
theorem mt382_ck : am_all mK18 false mt382 = true := by decide +kernel
set_option maxRecDepth 100000 in
theorem mt383_ck : am_all mK18 false mt383 = true := by decide +kernel
set_option maxRecDepth 100000 in
theorem mt384_ck : am_all mK18 false mt384 = true := by decide +kernel
set_option maxRecDepth 100000 in
theorem mt385_ck : am_all mK18 false mt385 = true := by decide +kernel
set_option maxRecDepth 100000 in
theorem mt386_ck : am_all mK18 false mt386 = true := by decide +kernel
set_option maxRecDepth 100000 in
theorem mt387_ck : am_all mK18 false mt387 = true := by decide +kernel
set_option maxRecDepth 100000 in
theorem mt388_ck : am_all mK18 false mt388 = true := by decide +kernel
set_option maxRecDepth 100000 in
theorem mt389_ck : am_all mK18 false mt389 = true := by decide +kernel
set_option maxRecDepth 100000 in
theorem mt390_ck : am_all mK18 false mt390 = true := by decide +kernel
set_option maxRecDepth 100000 in
theorem mt391_ck : am_all mK18 false mt391 = true := by decide +kernel
set_option maxRecDepth 100000 in
theorem mt392_ck : am_all mK18 false mt392 = true := by decide +kernel
set_option maxRecDepth 100000 in
theorem mt393_ck : am_all mK18 false mt393 = true := by decide +kernel
set_option maxRecDepth 100000 in
theorem mt394_ck : am_all mK18 false mt394 = true := by decide +kernel
set_option maxRecDepth 100000 in
theorem mt395_ck : am_all mK18 false mt395 = true := by decide +kernel
set_option maxRecDepth 100000 in
theorem mt396_ck : am_all mK18 false mt396 = true := by decide +kernel
set_option maxRecDepth 100000 in
theorem mt397_ck : am_all mK18 false mt397 = true := by decide +kernel
set_option maxRecDepth 100000 in
theorem mt398_ck : am_all mK18 false mt398 = true := by decide +kernel
set_option maxRecDepth 100000 in
theorem mt399_ck : am_all mK18 false mt399 = true := by decide +kernel
set_option maxRecDepth 100000 in
theorem mt400_ck : am_all mK18 false mt400 = true := by decide +kernel
set_option maxRecDepth 100000 in
theorem mt401_ck : am_all mK18 false mt401 = true := by decide +kernel
set_option maxRecDepth 100000 in
theorem mt402_ck : am_all mK18 false mt402 = true := by decide +kernel
