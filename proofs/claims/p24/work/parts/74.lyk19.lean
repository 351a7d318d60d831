/-! PRINTED by wip/p2/lyprint.py -/
-- $People isDead ((a, 22), i, i, i) (110)
theorem lyk263 : ly_chk sx_T sx_KK m_tt m_cl ly_TH ly_Y 33 6000 lyp263 lyc263 = true := by decide +kernel
-- Model sumOf ((a, 94), i, i, i) (182)
theorem lyk264 : ly_chk sx_T sx_KK m_tt m_cl ly_TH ly_Y 330 6000 lyp264 lyc264 = true := by decide +kernel
-- Model lackOf ((a, 94), i, i) (60)
theorem lyk265 : ly_chk sx_T sx_KK m_tt m_cl ly_TH ly_Y 331 6000 lyp265 lyc265 = true := by decide +kernel
-- Model isMade ((a, 94), i, i) (402)
theorem lyk266 : ly_chk sx_T sx_KK m_tt m_cl ly_TH ly_Y 332 6000 lyp266 lyc266 = true := by decide +kernel
-- Model why ((a, 94), i) (30)
theorem lyk267 : ly_chk sx_T sx_KK m_tt m_cl ly_TH ly_Y 333 6000 lyp267 lyc267 = true := by decide +kernel
-- Model crown ((a, 94), i, i, i, i) (2174)
theorem lyk268 : ly_chk sx_T sx_KK m_tt m_cl ly_TH ly_Y 334 6000 lyp268 lyc268 = true := by decide +kernel
-- Model begins ((a, 94), i, i, i, i, i, i, i) (214)
theorem lyk269 : ly_chk sx_T sx_KK m_tt m_cl ly_TH ly_Y 335 6000 lyp269 lyc269 = true := by decide +kernel
-- Model plea ((a, 94), i, i, i, i, i, i) (3110)
theorem lyk270 : ly_chk sx_T sx_KK m_tt m_cl ly_TH ly_Y 336 6000 lyp270 lyc270 = true := by decide +kernel
-- Model words ((a, 94), i) (548)
theorem lyk271 : ly_chk sx_T sx_KK m_tt m_cl ly_TH ly_Y 337 6000 lyp271 lyc271 = true := by decide +kernel
