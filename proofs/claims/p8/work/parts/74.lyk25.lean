/-! PRINTED by wip/p2/lyprint.py -/
-- Model joined ((a, 94), i, i) (158)
theorem lyk353 : ly_chk sx_T sx_KK m_tt m_cl ly_TH ly_Y 414 6000 lyp353 lyc353 = true := by decide +kernel
-- Model putRight ((a, 94), i, i, i) (294)
theorem lyk354 : ly_chk sx_T sx_KK m_tt m_cl ly_TH ly_Y 415 6000 lyp354 lyc354 = true := by decide +kernel
-- Model stateOn ((a, 94), i, i, i) (378)
theorem lyk355 : ly_chk sx_T sx_KK m_tt m_cl ly_TH ly_Y 416 6000 lyp355 lyc355 = true := by decide +kernel
-- Model check ((a, 94), i) (210)
theorem lyk356 : ly_chk sx_T sx_KK m_tt m_cl ly_TH ly_Y 417 6000 lyp356 lyc356 = true := by decide +kernel
-- Model count ((a, 94), i) (278)
theorem lyk357 : ly_chk sx_T sx_KK m_tt m_cl ly_TH ly_Y 418 6000 lyp357 lyc357 = true := by decide +kernel
--  kin ((a, 16), i, i, i) (372)
theorem lyk358 : ly_chk sx_T sx_KK m_tt m_cl ly_TH ly_Y 42 6000 lyp358 lyc358 = true := by decide +kernel
-- $Docket kinFoundLater ((a, 44), i, i, i, i) (502)
theorem lyk359 : ly_chk sx_T sx_KK m_tt m_cl ly_TH ly_Y 45 6000 lyp359 lyc359 = true := by decide +kernel
-- $Docket isJurorAndParty ((m, 0), i, i) (182)
theorem lyk360 : ly_chk sx_T sx_KK m_tt m_cl ly_TH ly_Y 47 6000 lyp360 lyc360 = true := by decide +kernel
-- $Row find ((a, 91), j) (40)
theorem lyk361 : ly_chk sx_T sx_KK m_tt m_cl ly_TH ly_Y 49 6000 lyp361 lyc361 = true := by decide +kernel
-- $Row find ((m, 10), j) (40)
theorem lyk362 : ly_chk sx_T sx_KK m_tt m_cl ly_TH ly_Y 49 6000 lyp362 lyc362 = true := by decide +kernel
-- $Row find ((m, 13), j) (40)
theorem lyk363 : ly_chk sx_T sx_KK m_tt m_cl ly_TH ly_Y 49 6000 lyp363 lyc363 = true := by decide +kernel
-- $Row find ((m, 16), j) (40)
theorem lyk364 : ly_chk sx_T sx_KK m_tt m_cl ly_TH ly_Y 49 6000 lyp364 lyc364 = true := by decide +kernel
-- $Row find ((m, 4), j) (40)
theorem lyk365 : ly_chk sx_T sx_KK m_tt m_cl ly_TH ly_Y 49 6000 lyp365 lyc365 = true := by decide +kernel
-- $Row find ((m, 7), j) (40)
theorem lyk366 : ly_chk sx_T sx_KK m_tt m_cl ly_TH ly_Y 49 6000 lyp366 lyc366 = true := by decide +kernel
