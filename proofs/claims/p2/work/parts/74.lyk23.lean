/-! PRINTED by wip/p2/lyprint.py -/
--  kin ((a, 16), i, i, i)
theorem lyk295 : ly_chk sx_T sx_KK m_tt m_cl ly_TH ly_Y 42 6000 lyp295 lyc295 = true := by decide +kernel
-- $Docket kinFoundLater ((a, 44), i, i, i, i)
theorem lyk296 : ly_chk sx_T sx_KK m_tt m_cl ly_TH ly_Y 45 6000 lyp296 lyc296 = true := by decide +kernel
-- $Docket isJurorAndParty ((m, 0), i, i)
theorem lyk297 : ly_chk sx_T sx_KK m_tt m_cl ly_TH ly_Y 47 6000 lyp297 lyc297 = true := by decide +kernel
-- $Row find ((a, 91), (j,))
theorem lyk298 : ly_chk sx_T sx_KK m_tt m_cl ly_TH ly_Y 49 6000 lyp298 lyc298 = true := by decide +kernel
-- $Row find ((m, 10), (j,))
theorem lyk299 : ly_chk sx_T sx_KK m_tt m_cl ly_TH ly_Y 49 6000 lyp299 lyc299 = true := by decide +kernel
-- $Row find ((m, 13), (j,))
theorem lyk300 : ly_chk sx_T sx_KK m_tt m_cl ly_TH ly_Y 49 6000 lyp300 lyc300 = true := by decide +kernel
-- $Row find ((m, 16), (j,))
theorem lyk301 : ly_chk sx_T sx_KK m_tt m_cl ly_TH ly_Y 49 6000 lyp301 lyc301 = true := by decide +kernel
-- $Row find ((m, 4), (j,))
theorem lyk302 : ly_chk sx_T sx_KK m_tt m_cl ly_TH ly_Y 49 6000 lyp302 lyc302 = true := by decide +kernel
-- $Row find ((m, 7), (j,))
theorem lyk303 : ly_chk sx_T sx_KK m_tt m_cl ly_TH ly_Y 49 6000 lyp303 lyc303 = true := by decide +kernel
-- $Law numberInForce ((a, 30), i, (j,), i, i)
theorem lyk304 : ly_chk sx_T sx_KK m_tt m_cl ly_TH ly_Y 52 6000 lyp304 lyc304 = true := by decide +kernel
-- $Law clauseInForce ((a, 30), i, (j,), i, i)
theorem lyk305 : ly_chk sx_T sx_KK m_tt m_cl ly_TH ly_Y 53 6000 lyp305 lyc305 = true := by decide +kernel
-- $Law actsBegun ((a, 30), i, i)
theorem lyk306 : ly_chk sx_T sx_KK m_tt m_cl ly_TH ly_Y 54 6000 lyp306 lyc306 = true := by decide +kernel
