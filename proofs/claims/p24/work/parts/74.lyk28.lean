/-! PRINTED by wip/p2/lyprint.py -/
-- $Row find ((a, 91), j) (40)
theorem lyk355 : ly_chk sx_T sx_KK m_tt m_cl ly_TH ly_Y 49 6000 lyp355 lyc355 = true := by decide +kernel
-- $Row find ((m, 10), j) (40)
theorem lyk356 : ly_chk sx_T sx_KK m_tt m_cl ly_TH ly_Y 49 6000 lyp356 lyc356 = true := by decide +kernel
-- $Row find ((m, 13), j) (40)
theorem lyk357 : ly_chk sx_T sx_KK m_tt m_cl ly_TH ly_Y 49 6000 lyp357 lyc357 = true := by decide +kernel
-- $Row find ((m, 16), j) (40)
theorem lyk358 : ly_chk sx_T sx_KK m_tt m_cl ly_TH ly_Y 49 6000 lyp358 lyc358 = true := by decide +kernel
-- $Row find ((m, 4), j) (40)
theorem lyk359 : ly_chk sx_T sx_KK m_tt m_cl ly_TH ly_Y 49 6000 lyp359 lyc359 = true := by decide +kernel
-- $Row find ((m, 7), j) (40)
theorem lyk360 : ly_chk sx_T sx_KK m_tt m_cl ly_TH ly_Y 49 6000 lyp360 lyc360 = true := by decide +kernel
-- $Law numberInForce ((a, 30), i, j, i, i) (58)
theorem lyk361 : ly_chk sx_T sx_KK m_tt m_cl ly_TH ly_Y 52 6000 lyp361 lyc361 = true := by decide +kernel
-- $Law clauseInForce ((a, 30), i, j, i, i) (64)
theorem lyk362 : ly_chk sx_T sx_KK m_tt m_cl ly_TH ly_Y 53 6000 lyp362 lyc362 = true := by decide +kernel
-- $Law actsBegun ((a, 30), i, i) (68)
theorem lyk363 : ly_chk sx_T sx_KK m_tt m_cl ly_TH ly_Y 54 6000 lyp363 lyc363 = true := by decide +kernel
-- $Law clauseHolding ((a, 30), i, i, j, i) (80)
theorem lyk364 : ly_chk sx_T sx_KK m_tt m_cl ly_TH ly_Y 55 6000 lyp364 lyc364 = true := by decide +kernel
-- $Law clauseAmong ((a, 30), i, i, i, j) (50)
theorem lyk365 : ly_chk sx_T sx_KK m_tt m_cl ly_TH ly_Y 56 6000 lyp365 lyc365 = true := by decide +kernel
-- $Law isStruck ((a, 30), i, j, i) (134)
theorem lyk366 : ly_chk sx_T sx_KK m_tt m_cl ly_TH ly_Y 57 6000 lyp366 lyc366 = true := by decide +kernel
-- $Docket log ((a, 44), i, i, i, i) (72)
theorem lyk367 : ly_chk sx_T sx_KK m_tt m_cl ly_TH ly_Y 64 6000 lyp367 lyc367 = true := by decide +kernel
--  landOn ((a, 16), i, i, i) (178)
theorem lyk368 : ly_chk sx_T sx_KK m_tt m_cl ly_TH ly_Y 65 6000 lyp368 lyc368 = true := by decide +kernel
