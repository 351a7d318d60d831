/-! PRINTED by wip/p2/lyprint.py -/
-- $Tape kindOfByte (i,)
theorem lyk319 : ly_chk sx_T sx_KK m_tt m_cl ly_TH ly_Y 73 6000 lyp319 lyc319 = true := by decide +kernel
-- $Tape growToken ((a, 17), i)
theorem lyk320 : ly_chk sx_T sx_KK m_tt m_cl ly_TH ly_Y 74 6000 lyp320 lyc320 = true := by decide +kernel
-- $ActReader readText ((a, 40),)
theorem lyk321 : ly_chk sx_T sx_KK m_tt m_cl ly_TH ly_Y 77 6000 lyp321 lyc321 = true := by decide +kernel
-- $ActReader look ((a, 40), i)
theorem lyk322 : ly_chk sx_T sx_KK m_tt m_cl ly_TH ly_Y 78 6000 lyp322 lyc322 = true := by decide +kernel
-- $ActReader placeOf ((j,), (a, 42))
theorem lyk323 : ly_chk sx_T sx_KK m_tt m_cl ly_TH ly_Y 81 6000 lyp323 lyc323 = true := by decide +kernel
-- $ActReader placeOf ((j,), (a, 43))
theorem lyk324 : ly_chk sx_T sx_KK m_tt m_cl ly_TH ly_Y 81 6000 lyp324 lyc324 = true := by decide +kernel
-- $ActReader readHead ((a, 40),)
theorem lyk325 : ly_chk sx_T sx_KK m_tt m_cl ly_TH ly_Y 82 6000 lyp325 lyc325 = true := by decide +kernel
-- $ActReader readDeedName ((a, 40),)
theorem lyk326 : ly_chk sx_T sx_KK m_tt m_cl ly_TH ly_Y 87 6000 lyp326 lyc326 = true := by decide +kernel
-- $ActReader readBody ((a, 40),)
theorem lyk327 : ly_chk sx_T sx_KK m_tt m_cl ly_TH ly_Y 88 6000 lyp327 lyc327 = true := by decide +kernel
-- $ActReader readDeed ((a, 40),)
theorem lyk328 : ly_chk sx_T sx_KK m_tt m_cl ly_TH ly_Y 89 6000 lyp328 lyc328 = true := by decide +kernel
-- $ActReader readOpenings ((a, 40),)
theorem lyk329 : ly_chk sx_T sx_KK m_tt m_cl ly_TH ly_Y 90 6000 lyp329 lyc329 = true := by decide +kernel
-- $ActReader readTest ((a, 40),)
theorem lyk330 : ly_chk sx_T sx_KK m_tt m_cl ly_TH ly_Y 94 6000 lyp330 lyc330 = true := by decide +kernel
