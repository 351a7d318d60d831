/-! PRINTED by wip/p2/lyprint.py -/
-- Model isMeeting ((a, 94), i, i)
theorem lyk266 : ly_chk sx_T sx_KK m_tt m_cl ly_TH ly_Y 396 6000 lyp266 lyc266 = true := by decide +kernel
-- Model lays ((a, 94), i, i, i)
theorem lyk267 : ly_chk sx_T sx_KK m_tt m_cl ly_TH ly_Y 398 6000 lyp267 lyc267 = true := by decide +kernel
-- Model canBe ((a, 94), i, i)
theorem lyk268 : ly_chk sx_T sx_KK m_tt m_cl ly_TH ly_Y 399 6000 lyp268 lyc268 = true := by decide +kernel
-- $People tell ((a, 22), i, i, i, i, i)
theorem lyk269 : ly_chk sx_T sx_KK m_tt m_cl ly_TH ly_Y 40 6000 lyp269 lyc269 = true := by decide +kernel
-- Model laid ((a, 94), i)
theorem lyk270 : ly_chk sx_T sx_KK m_tt m_cl ly_TH ly_Y 400 6000 lyp270 lyc270 = true := by decide +kernel
-- Model bound ((a, 94), i)
theorem lyk271 : ly_chk sx_T sx_KK m_tt m_cl ly_TH ly_Y 401 6000 lyp271 lyc271 = true := by decide +kernel
-- Model prove ((a, 94), i)
theorem lyk272 : ly_chk sx_T sx_KK m_tt m_cl ly_TH ly_Y 402 6000 lyp272 lyc272 = true := by decide +kernel
-- Model far ((a, 94), i, i)
theorem lyk273 : ly_chk sx_T sx_KK m_tt m_cl ly_TH ly_Y 403 6000 lyp273 lyc273 = true := by decide +kernel
-- Model makeFars ((a, 94),)
theorem lyk274 : ly_chk sx_T sx_KK m_tt m_cl ly_TH ly_Y 404 6000 lyp274 lyc274 = true := by decide +kernel
-- Model ride ((a, 94), i, i, i, i)
theorem lyk275 : ly_chk sx_T sx_KK m_tt m_cl ly_TH ly_Y 405 6000 lyp275 lyc275 = true := by decide +kernel
-- Model takeRide ((a, 94), i)
theorem lyk277 : ly_chk sx_T sx_KK m_tt m_cl ly_TH ly_Y 407 6000 lyp277 lyc277 = true := by decide +kernel
-- Model late ((a, 94), i, i)
theorem lyk278 : ly_chk sx_T sx_KK m_tt m_cl ly_TH ly_Y 408 6000 lyp278 lyc278 = true := by decide +kernel
