/-! PRINTED by wip/p2/lyprint.py -/
-- $People kinOf ((a, 22), i, i, i)
theorem lyk316 : ly_chk sx_T sx_KK m_tt m_cl ly_TH ly_Y 69 6000 lyp316 lyc316 = true := by decide +kernel
--  act ((a, 16), i, i)
theorem lyk317 : ly_chk sx_T sx_KK m_tt m_cl ly_TH ly_Y 70 6000 lyp317 lyc317 = true := by decide +kernel
-- $Tape takeTokens ((a, 17),)
theorem lyk318 : ly_chk sx_T sx_KK m_tt m_cl ly_TH ly_Y 71 6000 lyp318 lyc318 = true := by decide +kernel
-- $Tape kindOfByte (i,)
theorem lyk319 : ly_chk sx_T sx_KK m_tt m_cl ly_TH ly_Y 73 6000 lyp319 lyc319 = true := by decide +kernel
-- $Tape growToken ((a, 17), i)
theorem lyk320 : ly_chk sx_T sx_KK m_tt m_cl ly_TH ly_Y 74 6000 lyp320 lyc320 = true := by decide +kernel
-- $ActReader readText ((a, 40),)
theorem lyk321 : ly_chk sx_T sx_KK m_tt m_cl ly_TH ly_Y 77 6000 lyp321 lyc321 = true := by decide +kernel
-- $ActReader look ((a, 40), i)
theorem lyk322 : ly_chk sx_T sx_KK m_tt m_cl ly_TH ly_Y 78 6000 lyp322 lyc322 = true := by decide +kernel
-- $ActReader placeOf ((j,), (a, 42))
theorem lyk323 : ly_chk sx_T sx_KK m_tt m_cl ly_TH ly_Y 81 6000 lyp323 lyc323 = true := by decide +kernel
-- $ActReader placeOf ((j,), (a, 43))
theorem lyk324 : ly_chk sx_T sx_KK m_tt m_cl ly_TH ly_Y 81 6000 lyp324 lyc324 = true := by decide +kernel
-- $ActReader readHead ((a, 40),)
theorem lyk325 : ly_chk sx_T sx_KK m_tt m_cl ly_TH ly_Y 82 6000 lyp325 lyc325 = true := by decide +kernel
-- $ActReader readDeedName ((a, 40),)
theorem lyk326 : ly_chk sx_T sx_KK m_tt m_cl ly_TH ly_Y 87 6000 lyp326 lyc326 = true := by decide +kernel
-- $ActReader readBody ((a, 40),)
theorem lyk327 : ly_chk sx_T sx_KK m_tt m_cl ly_TH ly_Y 88 6000 lyp327 lyc327 = true := by decide +kernel
