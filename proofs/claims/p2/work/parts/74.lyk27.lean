/-! PRINTED by wip/p2/lyprint.py -/
-- $Row find ((a, 91), j) (40)
theorem lyk361 : ly_chk sx_T sx_KK m_tt m_cl ly_TH ly_Y 49 6000 lyp361 lyc361 = true := by decide +kernel
-- $Row find ((m, 10), j) (40)
theorem lyk362 : ly_chk sx_T sx_KK m_tt m_cl ly_TH ly_Y 49 6000 lyp362 lyc362 = true := by decide +kernel
-- $Row find ((m, 13), j) (40)
theorem lyk363 : ly_chk sx_T sx_KK m_tt m_cl ly_TH ly_Y 49 6000 lyp363 lyc363 = true := by decide +kernel
-- $Row find ((m, 16), j) (40)
theorem lyk364 : ly_chk sx_T sx_KK m_tt m_cl ly_TH ly_Y 49 6000 lyp364 lyc364 = true := by decide +kernel
-- $Row find ((m, 4), j) (40)
theorem lyk365 : ly_chk sx_T sx_KK m_tt m_cl ly_TH ly_Y 49 6000 lyp365 lyc365 = true := by decide +kernel
-- $Row find ((m, 7), j) (40)
theorem lyk366 : ly_chk sx_T sx_KK m_tt m_cl ly_TH ly_Y 49 6000 lyp366 lyc366 = true := by decide +kernel
-- $Law numberInForce ((a, 30), i, j, i, i) (58)
theorem lyk367 : ly_chk sx_T sx_KK m_tt m_cl ly_TH ly_Y 52 6000 lyp367 lyc367 = true := by decide +kernel
-- $Law clauseInForce ((a, 30), i, j, i, i) (64)
theorem lyk368 : ly_chk sx_T sx_KK m_tt m_cl ly_TH ly_Y 53 6000 lyp368 lyc368 = true := by decide +kernel
-- $Law actsBegun ((a, 30), i, i) (68)
theorem lyk369 : ly_chk sx_T sx_KK m_tt m_cl ly_TH ly_Y 54 6000 lyp369 lyc369 = true := by decide +kernel
-- $Law clauseHolding ((a, 30), i, i, j, i) (80)
theorem lyk370 : ly_chk sx_T sx_KK m_tt m_cl ly_TH ly_Y 55 6000 lyp370 lyc370 = true := by decide +kernel
-- $Law clauseAmong ((a, 30), i, i, i, j) (50)
theorem lyk371 : ly_chk sx_T sx_KK m_tt m_cl ly_TH ly_Y 56 6000 lyp371 lyc371 = true := by decide +kernel
-- $Law isStruck ((a, 30), i, j, i) (134)
theorem lyk372 : ly_chk sx_T sx_KK m_tt m_cl ly_TH ly_Y 57 6000 lyp372 lyc372 = true := by decide +kernel
-- $Docket beginAgain ((a, 44), i, (m, 0), i) (382)
theorem lyk373 : ly_chk sx_T sx_KK m_tt m_cl ly_TH ly_Y 58 6000 lyp373 lyc373 = true := by decide +kernel
-- $Docket log ((a, 44), i, i, i, i) (72)
theorem lyk374 : ly_chk sx_T sx_KK m_tt m_cl ly_TH ly_Y 64 6000 lyp374 lyc374 = true := by decide +kernel
