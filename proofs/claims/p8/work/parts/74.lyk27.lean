/-! PRINTED by wip/p2/lyprint.py -/
-- $Tape takeTokens ((a, 17),) (420)
theorem lyk381 : ly_chk sx_T sx_KK m_tt m_cl ly_TH ly_Y 71 6000 lyp381 lyc381 = true := by decide +kernel
-- $Tape kindOfByte (i,) (406)
theorem lyk382 : ly_chk sx_T sx_KK m_tt m_cl ly_TH ly_Y 73 6000 lyp382 lyc382 = true := by decide +kernel
-- $Tape growToken ((a, 17), i) (260)
theorem lyk383 : ly_chk sx_T sx_KK m_tt m_cl ly_TH ly_Y 74 6000 lyp383 lyc383 = true := by decide +kernel
-- $ActReader readText ((a, 40),) (330)
theorem lyk384 : ly_chk sx_T sx_KK m_tt m_cl ly_TH ly_Y 77 6000 lyp384 lyc384 = true := by decide +kernel
-- $ActReader look ((a, 40), i) (148)
theorem lyk385 : ly_chk sx_T sx_KK m_tt m_cl ly_TH ly_Y 78 6000 lyp385 lyc385 = true := by decide +kernel
-- $ActReader placeOf (j, (a, 42)) (38)
theorem lyk386 : ly_chk sx_T sx_KK m_tt m_cl ly_TH ly_Y 81 6000 lyp386 lyc386 = true := by decide +kernel
-- $ActReader placeOf (j, (a, 43)) (38)
theorem lyk387 : ly_chk sx_T sx_KK m_tt m_cl ly_TH ly_Y 81 6000 lyp387 lyc387 = true := by decide +kernel
-- $ActReader readHead ((a, 40),) (446)
theorem lyk388 : ly_chk sx_T sx_KK m_tt m_cl ly_TH ly_Y 82 6000 lyp388 lyc388 = true := by decide +kernel
-- $ActReader readDeedName ((a, 40),) (338)
theorem lyk389 : ly_chk sx_T sx_KK m_tt m_cl ly_TH ly_Y 87 6000 lyp389 lyc389 = true := by decide +kernel
-- $ActReader readBody ((a, 40),) (278)
theorem lyk390 : ly_chk sx_T sx_KK m_tt m_cl ly_TH ly_Y 88 6000 lyp390 lyc390 = true := by decide +kernel
-- $ActReader readDeed ((a, 40),) (840)
theorem lyk391 : ly_chk sx_T sx_KK m_tt m_cl ly_TH ly_Y 89 6000 lyp391 lyc391 = true := by decide +kernel
-- $ActReader readOpenings ((a, 40),) (720)
theorem lyk392 : ly_chk sx_T sx_KK m_tt m_cl ly_TH ly_Y 90 6000 lyp392 lyc392 = true := by decide +kernel
-- $ActReader readTest ((a, 40),) (744)
theorem lyk393 : ly_chk sx_T sx_KK m_tt m_cl ly_TH ly_Y 94 6000 lyp393 lyc393 = true := by decide +kernel
-- $ActReader readSum ((a, 40),) (724)
theorem lyk394 : ly_chk sx_T sx_KK m_tt m_cl ly_TH ly_Y 96 6000 lyp394 lyc394 = true := by decide +kernel
