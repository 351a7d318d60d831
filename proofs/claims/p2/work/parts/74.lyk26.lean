/-! PRINTED by wip/p2/lyprint.py -/
-- Model rowCost ((a, 94), (c, 2), i, i, i) (182)
theorem lyk347 : ly_chk sx_T sx_KK m_tt m_cl ly_TH ly_Y 412 6000 lyp347 lyc347 = true := by decide +kernel
-- Model rowCost ((a, 94), (c, 3), i, i, i) (416)
theorem lyk348 : ly_chk sx_T sx_KK m_tt m_cl ly_TH ly_Y 412 6000 lyp348 lyc348 = true := by decide +kernel
-- Model rowCost ((a, 94), (c, 4), i, i, i) (206)
theorem lyk349 : ly_chk sx_T sx_KK m_tt m_cl ly_TH ly_Y 412 6000 lyp349 lyc349 = true := by decide +kernel
-- Model rowCost ((a, 94), (c, 5), i, i, i) (408)
theorem lyk350 : ly_chk sx_T sx_KK m_tt m_cl ly_TH ly_Y 412 6000 lyp350 lyc350 = true := by decide +kernel
-- Model rowCost ((a, 94), (c, 6), i, i, i) (382)
theorem lyk351 : ly_chk sx_T sx_KK m_tt m_cl ly_TH ly_Y 412 6000 lyp351 lyc351 = true := by decide +kernel
-- Model rowCost ((a, 94), (c, 7), i, i, i) (2230)
theorem lyk352 : ly_chk sx_T sx_KK m_tt m_cl ly_TH ly_Y 412 6000 lyp352 lyc352 = true := by decide +kernel
-- Model joined ((a, 94), i, i) (158)
theorem lyk353 : ly_chk sx_T sx_KK m_tt m_cl ly_TH ly_Y 414 6000 lyp353 lyc353 = true := by decide +kernel
-- Model putRight ((a, 94), i, i, i) (294)
theorem lyk354 : ly_chk sx_T sx_KK m_tt m_cl ly_TH ly_Y 415 6000 lyp354 lyc354 = true := by decide +kernel
-- Model stateOn ((a, 94), i, i, i) (378)
theorem lyk355 : ly_chk sx_T sx_KK m_tt m_cl ly_TH ly_Y 416 6000 lyp355 lyc355 = true := by decide +kernel
-- Model check ((a, 94), i) (210)
theorem lyk356 : ly_chk sx_T sx_KK m_tt m_cl ly_TH ly_Y 417 6000 lyp356 lyc356 = true := by decide +kernel
-- Model count ((a, 94), i) (278)
theorem lyk357 : ly_chk sx_T sx_KK m_tt m_cl ly_TH ly_Y 418 6000 lyp357 lyc357 = true := by decide +kernel
--  kin ((a, 16), i, i, i) (372)
theorem lyk358 : ly_chk sx_T sx_KK m_tt m_cl ly_TH ly_Y 42 6000 lyp358 lyc358 = true := by decide +kernel
-- $Docket kinFoundLater ((a, 44), i, i, i, i) (502)
theorem lyk359 : ly_chk sx_T sx_KK m_tt m_cl ly_TH ly_Y 45 6000 lyp359 lyc359 = true := by decide +kernel
-- $Docket isJurorAndParty ((m, 0), i, i) (182)
theorem lyk360 : ly_chk sx_T sx_KK m_tt m_cl ly_TH ly_Y 47 6000 lyp360 lyc360 = true := by decide +kernel
