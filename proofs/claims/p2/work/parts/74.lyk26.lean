/-! PRINTED by wip/p2/lyprint.py -/
-- $ActReader readDeed ((a, 40),)
theorem lyk328 : ly_chk sx_T sx_KK m_tt m_cl ly_TH ly_Y 89 6000 lyp328 lyc328 = true := by decide +kernel
-- $ActReader readOpenings ((a, 40),)
theorem lyk329 : ly_chk sx_T sx_KK m_tt m_cl ly_TH ly_Y 90 6000 lyp329 lyc329 = true := by decide +kernel
-- $ActReader readTest ((a, 40),)
theorem lyk330 : ly_chk sx_T sx_KK m_tt m_cl ly_TH ly_Y 94 6000 lyp330 lyc330 = true := by decide +kernel
-- $ActReader readSum ((a, 40),)
theorem lyk331 : ly_chk sx_T sx_KK m_tt m_cl ly_TH ly_Y 96 6000 lyp331 lyc331 = true := by decide +kernel
