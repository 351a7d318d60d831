/-! PRINTED by wip/p2/lyprint.py -/
-- Model stateOn ((a, 94), i, i, i)
theorem lyk292 : ly_chk sx_T sx_KK m_tt m_cl ly_TH ly_Y 416 6000 lyp292 lyc292 = true := by decide +kernel
-- Model check ((a, 94), i)
theorem lyk293 : ly_chk sx_T sx_KK m_tt m_cl ly_TH ly_Y 417 6000 lyp293 lyc293 = true := by decide +kernel
-- Model count ((a, 94), i)
theorem lyk294 : ly_chk sx_T sx_KK m_tt m_cl ly_TH ly_Y 418 6000 lyp294 lyc294 = true := by decide +kernel
--  kin ((a, 16), i, i, i)
theorem lyk295 : ly_chk sx_T sx_KK m_tt m_cl ly_TH ly_Y 42 6000 lyp295 lyc295 = true := by decide +kernel
-- $Docket kinFoundLater ((a, 44), i, i, i, i)
theorem lyk296 : ly_chk sx_T sx_KK m_tt m_cl ly_TH ly_Y 45 6000 lyp296 lyc296 = true := by decide +kernel
-- $Docket isJurorAndParty ((m, 0), i, i)
theorem lyk297 : ly_chk sx_T sx_KK m_tt m_cl ly_TH ly_Y 47 6000 lyp297 lyc297 = true := by decide +kernel
-- $Row find ((a, 91), (j,))
theorem lyk298 : ly_chk sx_T sx_KK m_tt m_cl ly_TH ly_Y 49 6000 lyp298 lyc298 = true := by decide +kernel
-- $Row find ((m, 10), (j,))
theorem lyk299 : ly_chk sx_T sx_KK m_tt m_cl ly_TH ly_Y 49 6000 lyp299 lyc299 = true := by decide +kernel
-- $Row find ((m, 13), (j,))
theorem lyk300 : ly_chk sx_T sx_KK m_tt m_cl ly_TH ly_Y 49 6000 lyp300 lyc300 = true := by decide +kernel
-- $Row find ((m, 16), (j,))
theorem lyk301 : ly_chk sx_T sx_KK m_tt m_cl ly_TH ly_Y 49 6000 lyp301 lyc301 = true := by decide +kernel
-- $Row find ((m, 4), (j,))
theorem lyk302 : ly_chk sx_T sx_KK m_tt m_cl ly_TH ly_Y 49 6000 lyp302 lyc302 = true := by decide +kernel
-- $Row find ((m, 7), (j,))
theorem lyk303 : ly_chk sx_T sx_KK m_tt m_cl ly_TH ly_Y 49 6000 lyp303 lyc303 = true := by decide +kernel
