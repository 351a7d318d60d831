/-! PRINTED by wip/p2/lyprint.py -/
-- Model rowCost ((a, 94), (c, 1), i, i, i)
theorem lyk283 : ly_chk sx_T sx_KK m_tt m_cl ly_TH ly_Y 412 6000 lyp283 lyc283 = true := by decide +kernel
-- Model rowCost ((a, 94), (c, 2), i, i, i)
theorem lyk284 : ly_chk sx_T sx_KK m_tt m_cl ly_TH ly_Y 412 6000 lyp284 lyc284 = true := by decide +kernel
-- Model rowCost ((a, 94), (c, 3), i, i, i)
theorem lyk285 : ly_chk sx_T sx_KK m_tt m_cl ly_TH ly_Y 412 6000 lyp285 lyc285 = true := by decide +kernel
-- Model rowCost ((a, 94), (c, 4), i, i, i)
theorem lyk286 : ly_chk sx_T sx_KK m_tt m_cl ly_TH ly_Y 412 6000 lyp286 lyc286 = true := by decide +kernel
-- Model rowCost ((a, 94), (c, 5), i, i, i)
theorem lyk287 : ly_chk sx_T sx_KK m_tt m_cl ly_TH ly_Y 412 6000 lyp287 lyc287 = true := by decide +kernel
-- Model rowCost ((a, 94), (c, 6), i, i, i)
theorem lyk288 : ly_chk sx_T sx_KK m_tt m_cl ly_TH ly_Y 412 6000 lyp288 lyc288 = true := by decide +kernel
-- Model rowCost ((a, 94), (c, 7), i, i, i)
theorem lyk289 : ly_chk sx_T sx_KK m_tt m_cl ly_TH ly_Y 412 6000 lyp289 lyc289 = true := by decide +kernel
-- Model joined ((a, 94), i, i)
theorem lyk290 : ly_chk sx_T sx_KK m_tt m_cl ly_TH ly_Y 414 6000 lyp290 lyc290 = true := by decide +kernel
-- Model putRight ((a, 94), i, i, i)
theorem lyk291 : ly_chk sx_T sx_KK m_tt m_cl ly_TH ly_Y 415 6000 lyp291 lyc291 = true := by decide +kernel
-- Model stateOn ((a, 94), i, i, i)
theorem lyk292 : ly_chk sx_T sx_KK m_tt m_cl ly_TH ly_Y 416 6000 lyp292 lyc292 = true := by decide +kernel
-- Model check ((a, 94), i)
theorem lyk293 : ly_chk sx_T sx_KK m_tt m_cl ly_TH ly_Y 417 6000 lyp293 lyc293 = true := by decide +kernel
-- Model count ((a, 94), i)
theorem lyk294 : ly_chk sx_T sx_KK m_tt m_cl ly_TH ly_Y 418 6000 lyp294 lyc294 = true := by decide +kernel
