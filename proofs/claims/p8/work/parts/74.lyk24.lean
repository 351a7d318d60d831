/-! PRINTED by wip/p2/lyprint.py -/
-- Model ride ((a, 94), i, i, i, i) (428)
theorem lyk338 : ly_chk sx_T sx_KK m_tt m_cl ly_TH ly_Y 405 6000 lyp338 lyc338 = true := by decide +kernel
-- Model rides ((a, 94), i, i, i, i, i, i) (290)
theorem lyk339 : ly_chk sx_T sx_KK m_tt m_cl ly_TH ly_Y 406 6000 lyp339 lyc339 = true := by decide +kernel
-- Model takeRide ((a, 94), i) (86)
theorem lyk340 : ly_chk sx_T sx_KK m_tt m_cl ly_TH ly_Y 407 6000 lyp340 lyc340 = true := by decide +kernel
-- Model late ((a, 94), i, i) (296)
theorem lyk341 : ly_chk sx_T sx_KK m_tt m_cl ly_TH ly_Y 408 6000 lyp341 lyc341 = true := by decide +kernel
-- Model rode ((a, 94), i, i) (92)
theorem lyk342 : ly_chk sx_T sx_KK m_tt m_cl ly_TH ly_Y 409 6000 lyp342 lyc342 = true := by decide +kernel
--  dead ((a, 16), i, i) (148)
theorem lyk343 : ly_chk sx_T sx_KK m_tt m_cl ly_TH ly_Y 41 6000 lyp343 lyc343 = true := by decide +kernel
-- Model roll ((a, 94), i) (260)
theorem lyk344 : ly_chk sx_T sx_KK m_tt m_cl ly_TH ly_Y 410 6000 lyp344 lyc344 = true := by decide +kernel
-- Model rowCost ((a, 94), (c, 1), i, i, i) (158)
theorem lyk346 : ly_chk sx_T sx_KK m_tt m_cl ly_TH ly_Y 412 6000 lyp346 lyc346 = true := by decide +kernel
-- Model rowCost ((a, 94), (c, 2), i, i, i) (182)
theorem lyk347 : ly_chk sx_T sx_KK m_tt m_cl ly_TH ly_Y 412 6000 lyp347 lyc347 = true := by decide +kernel
-- Model rowCost ((a, 94), (c, 3), i, i, i) (416)
theorem lyk348 : ly_chk sx_T sx_KK m_tt m_cl ly_TH ly_Y 412 6000 lyp348 lyc348 = true := by decide +kernel
-- Model rowCost ((a, 94), (c, 4), i, i, i) (206)
theorem lyk349 : ly_chk sx_T sx_KK m_tt m_cl ly_TH ly_Y 412 6000 lyp349 lyc349 = true := by decide +kernel
-- Model rowCost ((a, 94), (c, 5), i, i, i) (408)
theorem lyk350 : ly_chk sx_T sx_KK m_tt m_cl ly_TH ly_Y 412 6000 lyp350 lyc350 = true := by decide +kernel
-- Model rowCost ((a, 94), (c, 6), i, i, i) (382)
theorem lyk351 : ly_chk sx_T sx_KK m_tt m_cl ly_TH ly_Y 412 6000 lyp351 lyc351 = true := by decide +kernel
-- Model rowCost ((a, 94), (c, 7), i, i, i) (2336)
theorem lyk352 : ly_chk sx_T sx_KK m_tt m_cl ly_TH ly_Y 412 6000 lyp352 lyc352 = true := by decide +kernel
