/-! PRINTED by wip/p2/lyprint.py -/
-- $Law numberInForce ((a, 30), i, (j,), i, i)
theorem lyk304 : ly_chk sx_T sx_KK m_tt m_cl ly_TH ly_Y 52 6000 lyp304 lyc304 = true := by decide +kernel
-- $Law clauseInForce ((a, 30), i, (j,), i, i)
theorem lyk305 : ly_chk sx_T sx_KK m_tt m_cl ly_TH ly_Y 53 6000 lyp305 lyc305 = true := by decide +kernel
-- $Law actsBegun ((a, 30), i, i)
theorem lyk306 : ly_chk sx_T sx_KK m_tt m_cl ly_TH ly_Y 54 6000 lyp306 lyc306 = true := by decide +kernel
-- $Law clauseHolding ((a, 30), i, i, (j,), i)
theorem lyk307 : ly_chk sx_T sx_KK m_tt m_cl ly_TH ly_Y 55 6000 lyp307 lyc307 = true := by decide +kernel
-- $Law clauseAmong ((a, 30), i, i, i, (j,))
theorem lyk308 : ly_chk sx_T sx_KK m_tt m_cl ly_TH ly_Y 56 6000 lyp308 lyc308 = true := by decide +kernel
-- $Law isStruck ((a, 30), i, (j,), i)
theorem lyk309 : ly_chk sx_T sx_KK m_tt m_cl ly_TH ly_Y 57 6000 lyp309 lyc309 = true := by decide +kernel
-- $Docket beginAgain ((a, 44), i, (m, 0), i)
theorem lyk310 : ly_chk sx_T sx_KK m_tt m_cl ly_TH ly_Y 58 6000 lyp310 lyc310 = true := by decide +kernel
-- $Docket log ((a, 44), i, i, i, i)
theorem lyk311 : ly_chk sx_T sx_KK m_tt m_cl ly_TH ly_Y 64 6000 lyp311 lyc311 = true := by decide +kernel
--  landOn ((a, 16), i, i, i)
theorem lyk312 : ly_chk sx_T sx_KK m_tt m_cl ly_TH ly_Y 65 6000 lyp312 lyc312 = true := by decide +kernel
-- $People landOf ((a, 22), i, i, i)
theorem lyk313 : ly_chk sx_T sx_KK m_tt m_cl ly_TH ly_Y 66 6000 lyp313 lyc313 = true := by decide +kernel
--  deadOn ((a, 16), i, i, i)
theorem lyk314 : ly_chk sx_T sx_KK m_tt m_cl ly_TH ly_Y 67 6000 lyp314 lyc314 = true := by decide +kernel
--  kinOn ((a, 16), i, i, i)
theorem lyk315 : ly_chk sx_T sx_KK m_tt m_cl ly_TH ly_Y 68 6000 lyp315 lyc315 = true := by decide +kernel
