/-! PRINTED by wip/whole/gen.py: the checks of the instructions -/
set_option maxRecDepth 100000 in
theorem mt398_ck : am_all mK15 false mt398 = true := by decide +kernel
set_option maxRecDepth 100000 in
theorem mt399_ck : am_all mK15 false mt399 = true := by decide +kernel
set_option maxRecDepth 100000 in
theorem mt400_ck : am_all mK15 false mt400 = true := by decide +kernel
set_option maxRecDepth 100000 in
theorem mt401_ck : am_all mK15 false mt401 = true := by decide +kernel
set_option maxRecDepth 100000 in
theorem mt402_ck : am_all mK15 false mt402 = true := by decide +kernel
set_option maxRecDepth 100000 in
theorem mt403_ck : am_all mK15 false mt403 = true := by decide +kernel
set_option maxRecDepth 100000 in
theorem mt404_ck : am_all mK15 false mt404 = true := by decide +kernel
set_option maxRecDepth 100000 in
theorem mt405_ck : am_all mK15 false mt405 = true := by decide +kernel
set_option maxRecDepth 100000 in
theorem mt406_ck : am_all mK15 false mt406 = true := by decide +kernel
set_option maxRecDepth 100000 in
theorem mt407_ck : am_all mK15 false mt407 = true := by decide +kernel
set_option maxRecDepth 100000 in
theorem mt408_ck : am_all mK15 false mt408 = true := by decide +kernel
set_option maxRecDepth 100000 in
theorem mt409_ck : am_all mK15 false mt409 = true := by decide +kernel
set_option maxRecDepth 100000 in
theorem mt410_ck : am_all mK15 false mt410 = true := by decide +kernel
set_option maxRecDepth 100000 in
theorem mt411_ck : am_all mK15 false mt411 = true := by decide +kernel
set_option maxRecDepth 100000 in
theorem mt412_ck : am_all mK0 false mt412 = true := by decide +kernel
set_option maxRecDepth 100000 in
theorem mt413_ck : am_all mK0 false mt413 = true := by decide +kernel
