/-! PRINTED by wip/p2/lyprint.py -/
-- $Docket beginAgain ((a, 44), i, (m, 0), i)
theorem lyk292 : ly_chk sx_T sx_KK m_tt m_cl ly_TH ly_Y 58 6000 lyp292 lyc292 = true := by decide +kernel
-- $Docket log ((a, 44), i, i, i, i)
theorem lyk293 : ly_chk sx_T sx_KK m_tt m_cl ly_TH ly_Y 64 6000 lyp293 lyc293 = true := by decide +kernel
--  landOn ((a, 16), i, i, i)
theorem lyk294 : ly_chk sx_T sx_KK m_tt m_cl ly_TH ly_Y 65 6000 lyp294 lyc294 = true := by decide +kernel
-- $People landOf ((a, 22), i, i, i)
theorem lyk295 : ly_chk sx_T sx_KK m_tt m_cl ly_TH ly_Y 66 6000 lyp295 lyc295 = true := by decide +kernel
--  deadOn ((a, 16), i, i, i)
theorem lyk296 : ly_chk sx_T sx_KK m_tt m_cl ly_TH ly_Y 67 6000 lyp296 lyc296 = true := by decide +kernel
--  kinOn ((a, 16), i, i, i)
theorem lyk297 : ly_chk sx_T sx_KK m_tt m_cl ly_TH ly_Y 68 6000 lyp297 lyc297 = true := by decide +kernel
-- $People kinOf ((a, 22), i, i, i)
theorem lyk298 : ly_chk sx_T sx_KK m_tt m_cl ly_TH ly_Y 69 6000 lyp298 lyc298 = true := by decide +kernel
--  act ((a, 16), i, i)
theorem lyk299 : ly_chk sx_T sx_KK m_tt m_cl ly_TH ly_Y 70 6000 lyp299 lyc299 = true := by decide +kernel
-- $Tape takeTokens ((a, 17),)
theorem lyk300 : ly_chk sx_T sx_KK m_tt m_cl ly_TH ly_Y 71 6000 lyp300 lyc300 = true := by decide +kernel
-- $Tape kindOfByte (i,)
theorem lyk301 : ly_chk sx_T sx_KK m_tt m_cl ly_TH ly_Y 73 6000 lyp301 lyc301 = true := by decide +kernel
-- $Tape growToken ((a, 17), i)
theorem lyk302 : ly_chk sx_T sx_KK m_tt m_cl ly_TH ly_Y 74 6000 lyp302 lyc302 = true := by decide +kernel
-- $ActReader readText ((a, 40),)
theorem lyk303 : ly_chk sx_T sx_KK m_tt m_cl ly_TH ly_Y 77 6000 lyp303 lyc303 = true := by decide +kernel
