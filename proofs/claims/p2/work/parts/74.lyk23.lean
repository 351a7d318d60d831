/-! PRINTED by wip/p2/lyprint.py -/
-- $ActReader look ((a, 40), i)
theorem lyk304 : ly_chk sx_T sx_KK m_tt m_cl ly_TH ly_Y 78 6000 lyp304 lyc304 = true := by decide +kernel
-- $ActReader placeOf ((j,), (a, 42))
theorem lyk305 : ly_chk sx_T sx_KK m_tt m_cl ly_TH ly_Y 81 6000 lyp305 lyc305 = true := by decide +kernel
-- $ActReader placeOf ((j,), (a, 43))
theorem lyk306 : ly_chk sx_T sx_KK m_tt m_cl ly_TH ly_Y 81 6000 lyp306 lyc306 = true := by decide +kernel
-- $ActReader readHead ((a, 40),)
theorem lyk307 : ly_chk sx_T sx_KK m_tt m_cl ly_TH ly_Y 82 6000 lyp307 lyc307 = true := by decide +kernel
-- $ActReader readDeedName ((a, 40),)
theorem lyk308 : ly_chk sx_T sx_KK m_tt m_cl ly_TH ly_Y 87 6000 lyp308 lyc308 = true := by decide +kernel
-- $ActReader readBody ((a, 40),)
theorem lyk309 : ly_chk sx_T sx_KK m_tt m_cl ly_TH ly_Y 88 6000 lyp309 lyc309 = true := by decide +kernel
-- $ActReader readDeed ((a, 40),)
theorem lyk310 : ly_chk sx_T sx_KK m_tt m_cl ly_TH ly_Y 89 6000 lyp310 lyc310 = true := by decide +kernel
-- $ActReader readSum ((a, 40),)
theorem lyk313 : ly_chk sx_T sx_KK m_tt m_cl ly_TH ly_Y 96 6000 lyp313 lyc313 = true := by decide +kernel
