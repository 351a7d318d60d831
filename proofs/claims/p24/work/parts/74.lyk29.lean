/-! PRINTED by wip/p2/lyprint.py -/
-- $People landOf ((a, 22), i, i, i) (168)
theorem lyk369 : ly_chk sx_T sx_KK m_tt m_cl ly_TH ly_Y 66 6000 lyp369 lyc369 = true := by decide +kernel
--  deadOn ((a, 16), i, i, i) (188)
theorem lyk370 : ly_chk sx_T sx_KK m_tt m_cl ly_TH ly_Y 67 6000 lyp370 lyc370 = true := by decide +kernel
--  kinOn ((a, 16), i, i, i) (194)
theorem lyk371 : ly_chk sx_T sx_KK m_tt m_cl ly_TH ly_Y 68 6000 lyp371 lyc371 = true := by decide +kernel
-- $People kinOf ((a, 22), i, i, i) (228)
theorem lyk372 : ly_chk sx_T sx_KK m_tt m_cl ly_TH ly_Y 69 6000 lyp372 lyc372 = true := by decide +kernel
--  act ((a, 16), i, i) (272)
theorem lyk373 : ly_chk sx_T sx_KK m_tt m_cl ly_TH ly_Y 70 6000 lyp373 lyc373 = true := by decide +kernel
-- $Tape takeTokens ((a, 17),) (420)
theorem lyk374 : ly_chk sx_T sx_KK m_tt m_cl ly_TH ly_Y 71 6000 lyp374 lyc374 = true := by decide +kernel
-- $Tape kindOfByte (i,) (406)
theorem lyk375 : ly_chk sx_T sx_KK m_tt m_cl ly_TH ly_Y 73 6000 lyp375 lyc375 = true := by decide +kernel
-- $Tape growToken ((a, 17), i) (260)
theorem lyk376 : ly_chk sx_T sx_KK m_tt m_cl ly_TH ly_Y 74 6000 lyp376 lyc376 = true := by decide +kernel
-- $ActReader readText ((a, 40),) (330)
theorem lyk377 : ly_chk sx_T sx_KK m_tt m_cl ly_TH ly_Y 77 6000 lyp377 lyc377 = true := by decide +kernel
-- $ActReader look ((a, 40), i) (148)
theorem lyk378 : ly_chk sx_T sx_KK m_tt m_cl ly_TH ly_Y 78 6000 lyp378 lyc378 = true := by decide +kernel
-- $ActReader placeOf (j, (a, 42)) (38)
theorem lyk379 : ly_chk sx_T sx_KK m_tt m_cl ly_TH ly_Y 81 6000 lyp379 lyc379 = true := by decide +kernel
-- $ActReader placeOf (j, (a, 43)) (38)
theorem lyk380 : ly_chk sx_T sx_KK m_tt m_cl ly_TH ly_Y 81 6000 lyp380 lyc380 = true := by decide +kernel
-- $ActReader readHead ((a, 40),) (446)
theorem lyk381 : ly_chk sx_T sx_KK m_tt m_cl ly_TH ly_Y 82 6000 lyp381 lyc381 = true := by decide +kernel
-- $ActReader readDeedName ((a, 40),) (338)
theorem lyk382 : ly_chk sx_T sx_KK m_tt m_cl ly_TH ly_Y 87 6000 lyp382 lyc382 = true := by decide +kernel
