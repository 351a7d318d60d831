/-! PRINTED by wip/p2/lyprint.py -/
--  landOn ((a, 16), i, i, i) (178)
theorem lyk375 : ly_chk sx_T sx_KK m_tt m_cl ly_TH ly_Y 65 6000 lyp375 lyc375 = true := by decide +kernel
-- $People landOf ((a, 22), i, i, i) (168)
theorem lyk376 : ly_chk sx_T sx_KK m_tt m_cl ly_TH ly_Y 66 6000 lyp376 lyc376 = true := by decide +kernel
--  deadOn ((a, 16), i, i, i) (188)
theorem lyk377 : ly_chk sx_T sx_KK m_tt m_cl ly_TH ly_Y 67 6000 lyp377 lyc377 = true := by decide +kernel
--  kinOn ((a, 16), i, i, i) (194)
theorem lyk378 : ly_chk sx_T sx_KK m_tt m_cl ly_TH ly_Y 68 6000 lyp378 lyc378 = true := by decide +kernel
-- $People kinOf ((a, 22), i, i, i) (228)
theorem lyk379 : ly_chk sx_T sx_KK m_tt m_cl ly_TH ly_Y 69 6000 lyp379 lyc379 = true := by decide +kernel
--  act ((a, 16), i, i) (272)
theorem lyk380 : ly_chk sx_T sx_KK m_tt m_cl ly_TH ly_Y 70 6000 lyp380 lyc380 = true := by decide +kernel
-- $Tape takeTokens ((a, 17),) (420)
theorem lyk381 : ly_chk sx_T sx_KK m_tt m_cl ly_TH ly_Y 71 6000 lyp381 lyc381 = true := by decide +kernel
-- $Tape kindOfByte (i,) (406)
theorem lyk382 : ly_chk sx_T sx_KK m_tt m_cl ly_TH ly_Y 73 6000 lyp382 lyc382 = true := by decide +kernel
-- $Tape growToken ((a, 17), i) (260)
theorem lyk383 : ly_chk sx_T sx_KK m_tt m_cl ly_TH ly_Y 74 6000 lyp383 lyc383 = true := by decide +kernel
-- $ActReader readText ((a, 40),) (330)
theorem lyk384 : ly_chk sx_T sx_KK m_tt m_cl ly_TH ly_Y 77 6000 lyp384 lyc384 = true := by decide +kernel
-- $ActReader look ((a, 40), i) (148)
theorem lyk385 : ly_chk sx_T sx_KK m_tt m_cl ly_TH ly_Y 78 6000 lyp385 lyc385 = true := by decide +kernel
-- $ActReader placeOf (j, (a, 42)) (38)
theorem lyk386 : ly_chk sx_T sx_KK m_tt m_cl ly_TH ly_Y 81 6000 lyp386 lyc386 = true := by decide +kernel
-- $ActReader placeOf (j, (a, 43)) (38)
theorem lyk387 : ly_chk sx_T sx_KK m_tt m_cl ly_TH ly_Y 81 6000 lyp387 lyc387 = true := by decide +kernel
-- $ActReader readHead ((a, 40),) (446)
theorem lyk388 : ly_chk sx_T sx_KK m_tt m_cl ly_TH ly_Y 82 6000 lyp388 lyc388 = true := by decide +kernel
