/-! PRINTED by wip/whole/gen.py: the checks of the instructions -/
set_option maxRecDepth 100000 in
theorem mt336_ck : am_all mK18 (mt336.1.name == "<init>") mt336 = true := by decide +kernel
set_option maxRecDepth 100000 in
theorem mt337_ck : am_all mK18 (mt337.1.name == "<init>") mt337 = true := by decide +kernel
set_option maxRecDepth 100000 in
theorem mt338_ck : am_all mK18 (mt338.1.name == "<init>") mt338 = true := by decide +kernel
set_option maxRecDepth 100000 in
theorem mt339_ck : am_all mK18 (mt339.1.name == "<init>") mt339 = true := by decide +kernel
set_option maxRecDepth 100000 in
theorem mt340_ck : am_all mK18 (mt340.1.name == "<init>") mt340 = true := by decide +kernel
set_option maxRecDepth 100000 in
theorem mt341_ck : am_all mK18 (mt341.1.name == "<init>") mt341 = true := by decide +kernel
set_option maxRecDepth 100000 in
theorem mt342_ck : am_all mK18 (mt342.1.name == "<init>") mt342 = true := by decide +kernel
set_option maxRecDepth 100000 in
theorem mt343_ck : am_all mK18 (mt343.1.name == "<init>") mt343 = true := by decide +kernel
set_option maxRecDepth 100000 in
theorem mt344_ck : am_all mK18 (mt344.1.name == "<init>") mt344 = true := by decide +kernel
set_option maxRecDepth 100000 in
theorem mt345_ck : am_all mK18 (mt345.1.name == "<init>") mt345 = true := by decide +kernel
set_option maxRecDepth 100000 in
theorem mt346_ck : am_all mK18 (mt346.1.name == "<init>") mt346 = true := by decide +kernel
set_option maxRecDepth 100000 in
theorem mt347_ck : am_all mK18 (mt347.1.name == "<init>") mt347 = true := by decide +kernel
set_option maxRecDepth 100000 in
theorem mt348_ck : am_all mK18 (mt348.1.name == "<init>") mt348 = true := by decide +kernel
set_option maxRecDepth 100000 in
theorem mt349_ck : am_all mK18 (mt349.1.name == "<init>") mt349 = true := by decide +kernel
set_option maxRecDepth 100000 in
theorem mt350_ck : am_all mK18 (mt350.1.name == "<init>") mt350 = true := by decide +kernel
set_option maxRecDepth 100000 in
theorem mt351_ck : am_all mK18 (mt351.1.name == "<init>") mt351 = true := by decide +kernel
set_option maxRecDepth 100000 in
theorem mt352_ck : am_all mK18 (mt352.1.name == "<init>") mt352 = true := by decide +kernel
set_option maxRecDepth 100000 in
theorem mt353_ck : am_all mK18 (mt353.1.name == "<init>") mt353 = true := by decide +kernel
set_option maxRecDepth 100000 in
theorem mt354_ck : am_all mK18 (mt354.1.name == "<init>") mt354 = true := by decide +kernel
set_option maxRecDepth 100000 in
theorem mt355_ck : am_all mK18 (mt355.1.name == "<init>") mt355 = true := by decide +kernel
set_option maxRecDepth 100000 in
theorem mt356_ck : am_all mK18 (mt356.1.name == "<init>") mt356 = true := by decide +kernel
set_option maxRecDepth 100000 in
theorem mt357_ck : am_all mK18 (mt357.1.name == "<init>") mt357 = true := by decide +kernel
set_option maxRecDepth 100000 in
theorem mt358_ck : am_all mK18 (mt358.1.name == "<init>") mt358 = true := by decide +kernel
set_option maxRecDepth 100000 in
theorem mt359_ck : am_all mK18 (mt359.1.name == "<init>") mt359 = true := by decide +kernel
set_option maxRecDepth 100000 in
theorem mt360_ck : am_all mK18 (mt360.1.name == "<init>") mt360 = true := by decide +kernel
set_option maxRecDepth 100000 in
theorem mt361_ck : am_all mK18 (mt361.1.name == "<init>") mt361 = true := by decide +kernel
set_option maxRecDepth 100000 in
theorem mt362_ck : am_all mK18 (mt362.1.name == "<init>") mt362 = true := by decide +kernel
set_option maxRecDepth 100000 in
theorem mt363_ck : am_all mK18 (mt363.1.name == "<init>") mt363 = true := by decide +kernel
set_option maxRecDepth 100000 in
theorem mt364_ck : am_all mK18 (mt364.1.name == "<init>") mt364 = true := by decide +kernel
set_option maxRecDepth 100000 in
theorem mt365_ck : am_all mK18 (mt365.1.name == "<init>") mt365 = true := by decide +kernel
set_option maxRecDepth 100000 in
theorem mt366_ck : am_all mK18 (mt366.1.name == "<init>") mt366 = true := by decide +kernel
set_option maxRecDepth 100000 in
theorem mt367_ck : am_all mK18 (mt367.1.name == "<init>") mt367 = true := by decide +kernel
set_option maxRecDepth 100000 in
theorem mt368_ck : am_all mK18 (mt368.1.name == "<init>") mt368 = true := by decide +kernel
set_option maxRecDepth 100000 in
theorem mt369_ck : am_all mK18 (mt369.1.name == "<init>") mt369 = true := by decide +kernel
set_option maxRecDepth 100000 in
theorem mt370_ck : am_all mK18 (mt370.1.name == "<init>") mt370 = true := by decide +kernel
set_option maxRecDepth 100000 in
theorem mt371_ck : am_all mK18 (mt371.1.name == "<init>") mt371 = true := by decide +kernel
set_option maxRecDepth 100000 in
theorem mt372_ck : am_all mK18 (mt372.1.name == "<init>") mt372 = true := by decide +kernel
set_option maxRecDepth 100000 in
theorem mt373_ck : am_all mK18 (mt373.1.name == "<init>") mt373 = true := by decide +kernel
set_option maxRecDepth 100000 in
theorem mt374_ck : am_all mK18 (mt374.1.name == "<init>") mt374 = true := by decide +kernel
set_option maxRecDepth 100000 in
theorem mt375_ck : am_all mK18 (mt375.1.name == "<init>") mt375 = true := by decide +kernel
set_option maxRecDepth 100000 in
theorem mt376_ck : am_all mK18 (mt376.1.name == "<init>") mt376 = true := by decide +kernel
set_option maxRecDepth 100000 in
theorem mt377_ck : am_all mK18 (mt377.1.name == "<init>") mt377 = true := by decide +kernel
set_option maxRecDepth 100000 in
theorem mt378_ck : am_all mK18 (mt378.1.name == "<init>") mt378 = true := by decide +kernel
set_option maxRecDepth 100000 in
theorem mt379_ck : am_all mK18 (mt379.1.name == "<init>") mt379 = true := by decide +kernel
set_option maxRecDepth 100000 in
theorem mt380_ck : am_all mK18 (mt380.1.name == "<init>") mt380 = true := by decide +kernel
set_option maxRecDepth 100000 in
theorem mt381_ck : am_all mK18 (mt381.1.name == "<init>") mt381 = true := by decide +kernel
set_option maxRecDepth 100000 in
theorem mt382_ck : am_all mK18 (mt382.1.name == "<init>") mt382 = true := by decide +kernel
set_option maxRecDepth 100000 in
theorem mt383_ck : am_all mK18 (mt383.1.name == "<init>") mt383 = true := by decide +kernel
set_option maxRecDepth 100000 in
theorem mt384_ck : am_all mK18 (mt384.1.name == "<init>") mt384 = true := by decide +kernel
set_option maxRecDepth 100000 in
theorem mt385_ck : am_all mK18 (mt385.1.name == "<init>") mt385 = true := by decide +kernel
set_option maxRecDepth 100000 in
theorem mt386_ck : am_all mK18 (mt386.1.name == "<init>") mt386 = true := by decide +kernel
set_option maxRecDepth 100000 in
theorem mt387_ck : am_all mK18 (mt387.1.name == "<init>") mt387 = true := by decide +kernel
set_option maxRecDepth 100000 in
theorem mt388_ck : am_all mK18 (mt388.1.name == "<init>") mt388 = true := by decide +kernel
set_option maxRecDepth 100000 in
theorem mt389_ck : am_all mK18 (mt389.1.name == "<init>") mt389 = true := by decide +kernel
set_option maxRecDepth 100000 in
theorem mt390_ck : am_all mK18 (mt390.1.name == "<init>") mt390 = true := by decide +kernel
set_option maxRecDepth 100000 in
theorem mt391_ck : am_all mK18 (mt391.1.name == "<init>") mt391 = true := by decide +kernel
set_option maxRecDepth 100000 in
theorem mt392_ck : am_all mK18 (mt392.1.name == "<init>") mt392 = true := by decide +kernel
set_option maxRecDepth 100000 in
theorem mt393_ck : am_all mK18 (mt393.1.name == "<init>") mt393 = true := by decide +kernel
set_option maxRecDepth 100000 in
theorem mt394_ck : am_all mK18 (mt394.1.name == "<init>") mt394 = true := by decide +kernel
set_option maxRecDepth 100000 in
theorem mt395_ck : am_all mK18 (mt395.1.name == "<init>") mt395 = true := by decide +kernel
set_option maxRecDepth 100000 in
theorem mt396_ck : am_all mK18 (mt396.1.name == "<init>") mt396 = true := by decide +kernel
set_option maxRecDepth 100000 in
theorem mt397_ck : am_all mK18 (mt397.1.name == "<init>") mt397 = true := by decide +kernel
set_option maxRecDepth 100000 in
theorem mt398_ck : am_all mK18 (mt398.1.name == "<init>") mt398 = true := by decide +kernel
set_option maxRecDepth 100000 in
theorem mt399_ck : am_all mK18 (mt399.1.name == "<init>") mt399 = true := by decide +kernel
set_option maxRecDepth 100000 in
theorem mt400_ck : am_all mK18 (mt400.1.name == "<init>") mt400 = true := by decide +kernel
set_option maxRecDepth 100000 in
theorem mt401_ck : am_all mK18 (mt401.1.name == "<init>") mt401 = true := by decide +kernel
set_option maxRecDepth 100000 in
theorem mt402_ck : am_all mK18 (mt402.1.name == "<init>") mt402 = true := by decide +kernel
