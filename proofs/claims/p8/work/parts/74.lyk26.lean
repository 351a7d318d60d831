/-! PRINTED by wip/p2/lyprint.py -/
-- $Law numberInForce ((a, 30), i, j, i, i) (58)
theorem lyk367 : ly_chk sx_T sx_KK m_tt m_cl ly_TH ly_Y 52 6000 lyp367 lyc367 = true := by decide +kernel
-- $Law clauseInForce ((a, 30), i, j, i, i) (64)
theorem lyk368 : ly_chk sx_T sx_KK m_tt m_cl ly_TH ly_Y 53 6000 lyp368 lyc368 = true := by decide +kernel
-- $Law actsBegun ((a, 30), i, i) (68)
theorem lyk369 : ly_chk sx_T sx_KK m_tt m_cl ly_TH ly_Y 54 6000 lyp369 lyc369 = true := by decide +kernel
-- $Law clauseHolding ((a, 30), i, i, j, i) (80)
theorem lyk370 : ly_chk sx_T sx_KK m_tt m_cl ly_TH ly_Y 55 6000 lyp370 lyc370 = true := by decide +kernel
-- $Law clauseAmong ((a, 30), i, i, i, j) (50)
theorem lyk371 : ly_chk sx_T sx_KK m_tt m_cl ly_TH ly_Y 56 6000 lyp371 lyc371 = true := by decide +kernel
-- $Law isStruck ((a, 30), i, j, i) (134)
theorem lyk372 : ly_chk sx_T sx_KK m_tt m_cl ly_TH ly_Y 57 6000 lyp372 lyc372 = true := by decide +kernel
-- $Docket beginAgain ((a, 44), i, (m, 0), i) (382)
theorem lyk373 : ly_chk sx_T sx_KK m_tt m_cl ly_TH ly_Y 58 6000 lyp373 lyc373 = true := by decide +kernel
-- $Docket log ((a, 44), i, i, i, i) (72)
theorem lyk374 : ly_chk sx_T sx_KK m_tt m_cl ly_TH ly_Y 64 6000 lyp374 lyc374 = true := by decide +kernel
--  landOn ((a, 16), i, i, i) (178)
theorem lyk375 : ly_chk sx_T sx_KK m_tt m_cl ly_TH ly_Y 65 6000 lyp375 lyc375 = true := by decide +kernel
-- $People landOf ((a, 22), i, i, i) (168)
theorem lyk376 : ly_chk sx_T sx_KK m_tt m_cl ly_TH ly_Y 66 6000 lyp376 lyc376 = true := by decide +kernel
--  deadOn ((a, 16), i, i, i) (188)
theorem lyk377 : ly_chk sx_T sx_KK m_tt m_cl ly_TH ly_Y 67 6000 lyp377 lyc377 = true := by decide +kernel
--  kinOn ((a, 16), i, i, i) (194)
theorem lyk378 : ly_chk sx_T sx_KK m_tt m_cl ly_TH ly_Y 68 6000 lyp378 lyc378 = true := by decide +kernel
-- $People kinOf ((a, 22), i, i, i) (228)
theorem lyk379 : ly_chk sx_T sx_KK m_tt m_cl ly_TH ly_Y 69 6000 lyp379 lyc379 = true := by decide +kernel
--  act ((a, 16), i, i) (272)
theorem lyk380 : ly_chk sx_T sx_KK m_tt m_cl ly_TH ly_Y 70 6000 lyp380 lyc380 = true := by decide +kernel
