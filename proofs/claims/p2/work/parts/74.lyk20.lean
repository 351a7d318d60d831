/-! PRINTED by wip/p2/lyprint.py -/
-- Model left ((a, 94), i, i)
theorem lyk254 : ly_chk sx_T sx_KK m_tt m_cl ly_TH ly_Y 384 6000 lyp254 lyc254 = true := by decide +kernel
-- Model prisoner ((a, 94), i, i)
theorem lyk255 : ly_chk sx_T sx_KK m_tt m_cl ly_TH ly_Y 385 6000 lyp255 lyc255 = true := by decide +kernel
-- Model bond ((a, 94), i, i, i, i, i)
theorem lyk256 : ly_chk sx_T sx_KK m_tt m_cl ly_TH ly_Y 386 6000 lyp256 lyc256 = true := by decide +kernel
-- Model pass ((a, 94), i)
theorem lyk257 : ly_chk sx_T sx_KK m_tt m_cl ly_TH ly_Y 387 6000 lyp257 lyc257 = true := by decide +kernel
-- Model seen ((a, 94), i, i)
theorem lyk258 : ly_chk sx_T sx_KK m_tt m_cl ly_TH ly_Y 388 6000 lyp258 lyc258 = true := by decide +kernel
-- Model bonded ((a, 94), i, i)
theorem lyk259 : ly_chk sx_T sx_KK m_tt m_cl ly_TH ly_Y 389 6000 lyp259 lyc259 = true := by decide +kernel
-- Model hours ((a, 94), i, i)
theorem lyk260 : ly_chk sx_T sx_KK m_tt m_cl ly_TH ly_Y 390 6000 lyp260 lyc260 = true := by decide +kernel
-- Model order ((a, 94),)
theorem lyk261 : ly_chk sx_T sx_KK m_tt m_cl ly_TH ly_Y 391 6000 lyp261 lyc261 = true := by decide +kernel
-- Model unlay ((a, 94),)
theorem lyk262 : ly_chk sx_T sx_KK m_tt m_cl ly_TH ly_Y 392 6000 lyp262 lyc262 = true := by decide +kernel
-- Model put ((a, 94), i)
theorem lyk263 : ly_chk sx_T sx_KK m_tt m_cl ly_TH ly_Y 393 6000 lyp263 lyc263 = true := by decide +kernel
-- Model best ((a, 94), i)
theorem lyk264 : ly_chk sx_T sx_KK m_tt m_cl ly_TH ly_Y 394 6000 lyp264 lyc264 = true := by decide +kernel
-- Model makeMeets ((a, 94),)
theorem lyk265 : ly_chk sx_T sx_KK m_tt m_cl ly_TH ly_Y 395 6000 lyp265 lyc265 = true := by decide +kernel
