/-! PRINTED by wip/p2/lyprint.py -/
-- $Row find ((a, 91), (j,))
theorem lyk280 : ly_chk sx_T sx_KK m_tt m_cl ly_TH ly_Y 49 6000 lyp280 lyc280 = true := by decide +kernel
-- $Row find ((m, 10), (j,))
theorem lyk281 : ly_chk sx_T sx_KK m_tt m_cl ly_TH ly_Y 49 6000 lyp281 lyc281 = true := by decide +kernel
-- $Row find ((m, 13), (j,))
theorem lyk282 : ly_chk sx_T sx_KK m_tt m_cl ly_TH ly_Y 49 6000 lyp282 lyc282 = true := by decide +kernel
-- $Row find ((m, 16), (j,))
theorem lyk283 : ly_chk sx_T sx_KK m_tt m_cl ly_TH ly_Y 49 6000 lyp283 lyc283 = true := by decide +kernel
-- $Row find ((m, 4), (j,))
theorem lyk284 : ly_chk sx_T sx_KK m_tt m_cl ly_TH ly_Y 49 6000 lyp284 lyc284 = true := by decide +kernel
-- $Row find ((m, 7), (j,))
theorem lyk285 : ly_chk sx_T sx_KK m_tt m_cl ly_TH ly_Y 49 6000 lyp285 lyc285 = true := by decide +kernel
-- $Law numberInForce ((a, 30), i, (j,), i, i)
theorem lyk286 : ly_chk sx_T sx_KK m_tt m_cl ly_TH ly_Y 52 6000 lyp286 lyc286 = true := by decide +kernel
-- $Law clauseInForce ((a, 30), i, (j,), i, i)
theorem lyk287 : ly_chk sx_T sx_KK m_tt m_cl ly_TH ly_Y 53 6000 lyp287 lyc287 = true := by decide +kernel
-- $Law actsBegun ((a, 30), i, i)
theorem lyk288 : ly_chk sx_T sx_KK m_tt m_cl ly_TH ly_Y 54 6000 lyp288 lyc288 = true := by decide +kernel
-- $Law clauseHolding ((a, 30), i, i, (j,), i)
theorem lyk289 : ly_chk sx_T sx_KK m_tt m_cl ly_TH ly_Y 55 6000 lyp289 lyc289 = true := by decide +kernel
-- $Law clauseAmong ((a, 30), i, i, i, (j,))
theorem lyk290 : ly_chk sx_T sx_KK m_tt m_cl ly_TH ly_Y 56 6000 lyp290 lyc290 = true := by decide +kernel
-- $Law isStruck ((a, 30), i, (j,), i)
theorem lyk291 : ly_chk sx_T sx_KK m_tt m_cl ly_TH ly_Y 57 6000 lyp291 lyc291 = true := by decide +kernel
