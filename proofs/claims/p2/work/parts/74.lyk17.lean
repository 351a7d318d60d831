/-! PRINTED by wip/p2/lyprint.py -/
-- Model settledAs ((a, 94), (j,))
theorem lyk227 : ly_chk sx_T sx_KK m_tt m_cl ly_TH ly_Y 369 6000 lyp227 lyc227 = true := by decide +kernel
--  land ((a, 16), i, i, i)
theorem lyk228 : ly_chk sx_T sx_KK m_tt m_cl ly_TH ly_Y 37 6000 lyp228 lyc228 = true := by decide +kernel
-- Model judge ((a, 94), i)
theorem lyk229 : ly_chk sx_T sx_KK m_tt m_cl ly_TH ly_Y 370 6000 lyp229 lyc229 = true := by decide +kernel
-- Model judges ((a, 94), i)
theorem lyk230 : ly_chk sx_T sx_KK m_tt m_cl ly_TH ly_Y 371 6000 lyp230 lyc230 = true := by decide +kernel
-- Model benefit ((a, 94), i)
theorem lyk231 : ly_chk sx_T sx_KK m_tt m_cl ly_TH ly_Y 372 6000 lyp231 lyc231 = true := by decide +kernel
-- Model hadOne ((a, 94), i)
theorem lyk232 : ly_chk sx_T sx_KK m_tt m_cl ly_TH ly_Y 373 6000 lyp232 lyc232 = true := by decide +kernel
-- Model keep ((a, 94), i)
theorem lyk233 : ly_chk sx_T sx_KK m_tt m_cl ly_TH ly_Y 374 6000 lyp233 lyc233 = true := by decide +kernel
-- Model settle ((a, 94), i)
theorem lyk234 : ly_chk sx_T sx_KK m_tt m_cl ly_TH ly_Y 375 6000 lyp234 lyc234 = true := by decide +kernel
-- Model pardon ((a, 94), i, i, i)
theorem lyk235 : ly_chk sx_T sx_KK m_tt m_cl ly_TH ly_Y 376 6000 lyp235 lyc235 = true := by decide +kernel
-- Model undo ((a, 94), i)
theorem lyk236 : ly_chk sx_T sx_KK m_tt m_cl ly_TH ly_Y 377 6000 lyp236 lyc236 = true := by decide +kernel
-- Model commit ((a, 94), i, i)
theorem lyk237 : ly_chk sx_T sx_KK m_tt m_cl ly_TH ly_Y 378 6000 lyp237 lyc237 = true := by decide +kernel
-- Model inGaol ((a, 94), i)
theorem lyk238 : ly_chk sx_T sx_KK m_tt m_cl ly_TH ly_Y 379 6000 lyp238 lyc238 = true := by decide +kernel
