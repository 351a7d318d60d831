/-! PRINTED by wip/whole/gen.py: the checks of the instructions -/
set_option maxRecDepth 100000 in
theorem mt403_ck : am_all mK18 false mt403 = true := by decide +kernel
set_option maxRecDepth 100000 in
theorem mt404_ck : am_all mK18 false mt404 = true := by decide +kernel
set_option maxRecDepth 100000 in
theorem mt405_ck : am_all mK18 false mt405 = true := by decide +kernel
set_option maxRecDepth 100000 in
theorem mt406_ck : am_all mK18 false mt406 = true := by decide +kernel
set_option maxRecDepth 100000 in
theorem mt407_ck : am_all mK18 false mt407 = true := by decide +kernel
set_option maxRecDepth 100000 in
theorem mt408_ck : am_all mK18 false mt408 = true := by decide +kernel
set_option maxRecDepth 100000 in
theorem mt409_ck : am_all mK18 false mt409 = true := by decide +kernel
set_option maxRecDepth 100000 in
theorem mt410_ck : am_all mK18 false mt410 = true := by decide +kernel
set_option maxRecDepth 100000 in
theorem mt411_ck : am_all mK18 false mt411 = true := by decide +kernel
set_option maxRecDepth 100000 in
theorem mt412_ck : am_all mK18 false mt412 = true := by decide +kernel
set_option maxRecDepth 100000 in
theorem mt413_ck : am_all mK18 false mt413 = true := by decide +kernel
set_option maxRecDepth 100000 in
theorem mt414_ck : am_all mK18 false mt414 = true := by decide +kernel
set_option maxRecDepth 100000 in
theorem mt415_ck : am_all mK18 false mt415 = true := by decide +kernel
set_option maxRecDepth 100000 in
theorem mt416_ck : am_all mK18 false mt416 = true := by decide +kernel
set_option maxRecDepth 100000 in
theorem mt417_ck : am_all mK18 false mt417 = true := by decide +kernel
set_option maxRecDepth 100000 in
theorem mt418_ck : am_all mK18 false mt418 = true := by decide +kernel
