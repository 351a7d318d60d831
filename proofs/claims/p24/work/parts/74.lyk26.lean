/-! PRINTED by wip/p2/lyprint.py -/
-- Model roll ((a, 94), i) (260)
theorem lyk339 : ly_chk sx_T sx_KK m_tt m_cl ly_TH ly_Y 410 6000 lyp339 lyc339 = true := by decide +kernel
-- Model rowCost ((a, 94), (c, 1), i, i, i) (158)
theorem lyk341 : ly_chk sx_T sx_KK m_tt m_cl ly_TH ly_Y 412 6000 lyp341 lyc341 = true := by decide +kernel
-- Model rowCost ((a, 94), (c, 2), i, i, i) (182)
theorem lyk342 : ly_chk sx_T sx_KK m_tt m_cl ly_TH ly_Y 412 6000 lyp342 lyc342 = true := by decide +kernel
-- Model rowCost ((a, 94), (c, 3), i, i, i) (416)
theorem lyk343 : ly_chk sx_T sx_KK m_tt m_cl ly_TH ly_Y 412 6000 lyp343 lyc343 = true := by decide +kernel
-- Model rowCost ((a, 94), (c, 4), i, i, i) (206)
theorem lyk344 : ly_chk sx_T sx_KK m_tt m_cl ly_TH ly_Y 412 6000 lyp344 lyc344 = true := by decide +kernel
-- Model rowCost ((a, 94), (c, 5), i, i, i) (408)
theorem lyk345 : ly_chk sx_T sx_KK m_tt m_cl ly_TH ly_Y 412 6000 lyp345 lyc345 = true := by decide +kernel
-- Model rowCost ((a, 94), (c, 6), i, i, i) (382)
theorem lyk346 : ly_chk sx_T sx_KK m_tt m_cl ly_TH ly_Y 412 6000 lyp346 lyc346 = true := by decide +kernel
-- Model rowCost ((a, 94), (c, 7), i, i, i) (2336)
theorem lyk347 : ly_chk sx_T sx_KK m_tt m_cl ly_TH ly_Y 412 6000 lyp347 lyc347 = true := by decide +kernel
-- Model joined ((a, 94), i, i) (158)
theorem lyk348 : ly_chk sx_T sx_KK m_tt m_cl ly_TH ly_Y 414 6000 lyp348 lyc348 = true := by decide +kernel
-- Model putRight ((a, 94), i, i, i) (294)
theorem lyk349 : ly_chk sx_T sx_KK m_tt m_cl ly_TH ly_Y 415 6000 lyp349 lyc349 = true := by decide +kernel
-- Model stateOn ((a, 94), i, i, i) (378)
theorem lyk350 : ly_chk sx_T sx_KK m_tt m_cl ly_TH ly_Y 416 6000 lyp350 lyc350 = true := by decide +kernel
-- Model check ((a, 94), i) (210)
theorem lyk351 : ly_chk sx_T sx_KK m_tt m_cl ly_TH ly_Y 417 6000 lyp351 lyc351 = true := by decide +kernel
-- Model count ((a, 94), i) (278)
theorem lyk352 : ly_chk sx_T sx_KK m_tt m_cl ly_TH ly_Y 418 6000 lyp352 lyc352 = true := by decide +kernel
--  kin ((a, 16), i, i, i) (372)
theorem lyk353 : ly_chk sx_T sx_KK m_tt m_cl ly_TH ly_Y 42 6000 lyp353 lyc353 = true := by decide +kernel
