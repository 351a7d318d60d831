/-! PRINTED by wip/p2/lyprint.py -/
-- $ActReader readBody ((a, 40),) (278)
theorem lyk383 : ly_chk sx_T sx_KK m_tt m_cl ly_TH ly_Y 88 6000 lyp383 lyc383 = true := by decide +kernel
-- $ActReader readDeed ((a, 40),) (840)
theorem lyk384 : ly_chk sx_T sx_KK m_tt m_cl ly_TH ly_Y 89 6000 lyp384 lyc384 = true := by decide +kernel
-- $ActReader readOpenings ((a, 40),) (720)
theorem lyk385 : ly_chk sx_T sx_KK m_tt m_cl ly_TH ly_Y 90 6000 lyp385 lyc385 = true := by decide +kernel
-- $ActReader readTest ((a, 40),) (744)
theorem lyk386 : ly_chk sx_T sx_KK m_tt m_cl ly_TH ly_Y 94 6000 lyp386 lyc386 = true := by decide +kernel
-- $ActReader readSum ((a, 40),) (724)
theorem lyk387 : ly_chk sx_T sx_KK m_tt m_cl ly_TH ly_Y 96 6000 lyp387 lyc387 = true := by decide +kernel
-- $ActReader readClosings ((a, 40),) (274)
theorem lyk388 : ly_chk sx_T sx_KK m_tt m_cl ly_TH ly_Y 99 6000 lyp388 lyc388 = true := by decide +kernel
