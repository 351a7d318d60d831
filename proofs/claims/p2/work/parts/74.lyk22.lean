/-! PRINTED by wip/p2/lyprint.py -/
-- Model rode ((a, 94), i, i)
theorem lyk279 : ly_chk sx_T sx_KK m_tt m_cl ly_TH ly_Y 409 6000 lyp279 lyc279 = true := by decide +kernel
--  dead ((a, 16), i, i)
theorem lyk280 : ly_chk sx_T sx_KK m_tt m_cl ly_TH ly_Y 41 6000 lyp280 lyc280 = true := by decide +kernel
-- Model roll ((a, 94), i)
theorem lyk281 : ly_chk sx_T sx_KK m_tt m_cl ly_TH ly_Y 410 6000 lyp281 lyc281 = true := by decide +kernel
-- Model rowCost ((a, 94), (c, 1), i, i, i)
theorem lyk283 : ly_chk sx_T sx_KK m_tt m_cl ly_TH ly_Y 412 6000 lyp283 lyc283 = true := by decide +kernel
-- Model rowCost ((a, 94), (c, 2), i, i, i)
theorem lyk284 : ly_chk sx_T sx_KK m_tt m_cl ly_TH ly_Y 412 6000 lyp284 lyc284 = true := by decide +kernel
-- Model rowCost ((a, 94), (c, 3), i, i, i)
theorem lyk285 : ly_chk sx_T sx_KK m_tt m_cl ly_TH ly_Y 412 6000 lyp285 lyc285 = true := by decide +kernel
-- Model rowCost ((a, 94), (c, 4), i, i, i)
theorem lyk286 : ly_chk sx_T sx_KK m_tt m_cl ly_TH ly_Y 412 6000 lyp286 lyc286 = true := by decide +kernel
-- Model rowCost ((a, 94), (c, 5), i, i, i)
theorem lyk287 : ly_chk sx_T sx_KK m_tt m_cl ly_TH ly_Y 412 6000 lyp287 lyc287 = true := by decide +kernel
-- Model rowCost ((a, 94), (c, 6), i, i, i)
theorem lyk288 : ly_chk sx_T sx_KK m_tt m_cl ly_TH ly_Y 412 6000 lyp288 lyc288 = true := by decide +kernel
-- Model rowCost ((a, 94), (c, 7), i, i, i)
theorem lyk289 : ly_chk sx_T sx_KK m_tt m_cl ly_TH ly_Y 412 6000 lyp289 lyc289 = true := by decide +kernel
-- Model joined ((a, 94), i, i)
theorem lyk290 : ly_chk sx_T sx_KK m_tt m_cl ly_TH ly_Y 414 6000 lyp290 lyc290 = true := by decide +kernel
-- Model putRight ((a, 94), i, i, i)
theorem lyk291 : ly_chk sx_T sx_KK m_tt m_cl ly_TH ly_Y 415 6000 lyp291 lyc291 = true := by decide +kernel
