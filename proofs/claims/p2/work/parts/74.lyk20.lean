/-! PRINTED by wip/p2/lyprint.py -/
-- Model bond ((a, 94), i, i, i, i, i)
theorem lyk256 : ly_chk sx_T sx_KK m_tt m_cl ly_TH ly_Y 386 6000 lyp256 lyc256 = true := by decide +kernel
-- Model pass ((a, 94), i)
theorem lyk257 : ly_chk sx_T sx_KK m_tt m_cl ly_TH ly_Y 387 6000 lyp257 lyc257 = true := by decide +kernel
-- Model seen ((a, 94), i, i)
theorem lyk258 : ly_chk sx_T sx_KK m_tt m_cl ly_TH ly_Y 388 6000 lyp258 lyc258 = true := by decide +kernel
-- Model bonded ((a, 94), i, i)
theorem lyk259 : ly_chk sx_T sx_KK m_tt m_cl ly_TH ly_Y 389 6000 lyp259 lyc259 = true := by decide +kernel
-- Model hours ((a, 94), i, i)
theorem lyk260 : ly_chk sx_T sx_KK m_tt m_cl ly_TH ly_Y 390 6000 lyp260 lyc260 = true := by decide +kernel
-- Model order ((a, 94),)
theorem lyk261 : ly_chk sx_T sx_KK m_tt m_cl ly_TH ly_Y 391 6000 lyp261 lyc261 = true := by decide +kernel
-- Model unlay ((a, 94),)
theorem lyk262 : ly_chk sx_T sx_KK m_tt m_cl ly_TH ly_Y 392 6000 lyp262 lyc262 = true := by decide +kernel
-- Model put ((a, 94), i)
theorem lyk263 : ly_chk sx_T sx_KK m_tt m_cl ly_TH ly_Y 393 6000 lyp263 lyc263 = true := by decide +kernel
-- Model best ((a, 94), i)
theorem lyk264 : ly_chk sx_T sx_KK m_tt m_cl ly_TH ly_Y 394 6000 lyp264 lyc264 = true := by decide +kernel
-- Model makeMeets ((a, 94),)
theorem lyk265 : ly_chk sx_T sx_KK m_tt m_cl ly_TH ly_Y 395 6000 lyp265 lyc265 = true := by decide +kernel
-- Model isMeeting ((a, 94), i, i)
theorem lyk266 : ly_chk sx_T sx_KK m_tt m_cl ly_TH ly_Y 396 6000 lyp266 lyc266 = true := by decide +kernel
-- Model canBe ((a, 94), i, i)
theorem lyk268 : ly_chk sx_T sx_KK m_tt m_cl ly_TH ly_Y 399 6000 lyp268 lyc268 = true := by decide +kernel
