/-! PRINTED by wip/p2/lyprint.py -/
-- $People isDead ((a, 22), i, i, i) (110)
theorem lyk266 : ly_chk sx_T sx_KK m_tt m_cl ly_TH ly_Y 33 6000 lyp266 lyc266 = true := by decide +kernel
-- Model sumOf ((a, 94), i, i, i) (182)
theorem lyk267 : ly_chk sx_T sx_KK m_tt m_cl ly_TH ly_Y 330 6000 lyp267 lyc267 = true := by decide +kernel
-- Model lackOf ((a, 94), i, i) (60)
theorem lyk268 : ly_chk sx_T sx_KK m_tt m_cl ly_TH ly_Y 331 6000 lyp268 lyc268 = true := by decide +kernel
-- Model isMade ((a, 94), i, i) (402)
theorem lyk269 : ly_chk sx_T sx_KK m_tt m_cl ly_TH ly_Y 332 6000 lyp269 lyc269 = true := by decide +kernel
-- Model why ((a, 94), i) (30)
theorem lyk270 : ly_chk sx_T sx_KK m_tt m_cl ly_TH ly_Y 333 6000 lyp270 lyc270 = true := by decide +kernel
-- Model crown ((a, 94), i, i, i, i) (2174)
theorem lyk271 : ly_chk sx_T sx_KK m_tt m_cl ly_TH ly_Y 334 6000 lyp271 lyc271 = true := by decide +kernel
-- Model begins ((a, 94), i, i, i, i, i, i, i) (148)
theorem lyk272 : ly_chk sx_T sx_KK m_tt m_cl ly_TH ly_Y 335 6000 lyp272 lyc272 = true := by decide +kernel
-- Model plea ((a, 94), i, i, i, i, i, i) (3110)
theorem lyk273 : ly_chk sx_T sx_KK m_tt m_cl ly_TH ly_Y 336 6000 lyp273 lyc273 = true := by decide +kernel
-- Model words ((a, 94), i) (548)
theorem lyk274 : ly_chk sx_T sx_KK m_tt m_cl ly_TH ly_Y 337 6000 lyp274 lyc274 = true := by decide +kernel
-- Model allege ((a, 94), i) (544)
theorem lyk275 : ly_chk sx_T sx_KK m_tt m_cl ly_TH ly_Y 340 6000 lyp275 lyc275 = true := by decide +kernel
-- Model keepFacts ((a, 94), i) (88)
theorem lyk276 : ly_chk sx_T sx_KK m_tt m_cl ly_TH ly_Y 341 6000 lyp276 lyc276 = true := by decide +kernel
-- Model bad ((a, 94), i) (122)
theorem lyk277 : ly_chk sx_T sx_KK m_tt m_cl ly_TH ly_Y 342 6000 lyp277 lyc277 = true := by decide +kernel
-- Model badOf ((a, 94), i) (286)
theorem lyk278 : ly_chk sx_T sx_KK m_tt m_cl ly_TH ly_Y 343 6000 lyp278 lyc278 = true := by decide +kernel
-- Model bill ((a, 94), i, i) (234)
theorem lyk281 : ly_chk sx_T sx_KK m_tt m_cl ly_TH ly_Y 347 6000 lyp281 lyc281 = true := by decide +kernel
