/-! PRINTED by wip/whole/gen.py: the checks of the instructions -/
set_option maxRecDepth 100000 in
theorem mt403_ck : am_all mK18 (mt403.1.name == "<init>") mt403 = true := by decide +kernel
set_option maxRecDepth 100000 in
theorem mt404_ck : am_all mK18 (mt404.1.name == "<init>") mt404 = true := by decide +kernel
set_option maxRecDepth 100000 in
theorem mt405_ck : am_all mK18 (mt405.1.name == "<init>") mt405 = true := by decide +kernel
set_option maxRecDepth 100000 in
theorem mt406_ck : am_all mK18 (mt406.1.name == "<init>") mt406 = true := by decide +kernel
set_option maxRecDepth 100000 in
theorem mt407_ck : am_all mK18 (mt407.1.name == "<init>") mt407 = true := by decide +kernel
set_option maxRecDepth 100000 in
theorem mt408_ck : am_all mK18 (mt408.1.name == "<init>") mt408 = true := by decide +kernel
set_option maxRecDepth 100000 in
theorem mt409_ck : am_all mK18 (mt409.1.name == "<init>") mt409 = true := by decide +kernel
set_option maxRecDepth 100000 in
theorem mt410_ck : am_all mK18 (mt410.1.name == "<init>") mt410 = true := by decide +kernel
set_option maxRecDepth 100000 in
theorem mt411_ck : am_all mK18 (mt411.1.name == "<init>") mt411 = true := by decide +kernel
set_option maxRecDepth 100000 in
theorem mt412_ck : am_all mK18 (mt412.1.name == "<init>") mt412 = true := by decide +kernel
set_option maxRecDepth 100000 in
theorem mt413_ck : am_all mK18 (mt413.1.name == "<init>") mt413 = true := by decide +kernel
set_option maxRecDepth 100000 in
theorem mt414_ck : am_all mK18 (mt414.1.name == "<init>") mt414 = true := by decide +kernel
set_option maxRecDepth 100000 in
theorem mt415_ck : am_all mK18 (mt415.1.name == "<init>") mt415 = true := by decide +kernel
set_option maxRecDepth 100000 in
theorem mt416_ck : am_all mK18 (mt416.1.name == "<init>") mt416 = true := by decide +kernel
set_option maxRecDepth 100000 in
theorem mt417_ck : am_all mK18 (mt417.1.name == "<init>") mt417 = true := by decide +kernel
set_option maxRecDepth 100000 in
theorem mt418_ck : am_all mK18 (mt418.1.name == "<init>") mt418 = true := by decide +kernel
