/-! PRINTED by wip/p2/lyprint.py -/
-- Model judges ((a, 94), i)
theorem lyk242 : ly_chk sx_T sx_KK m_tt m_cl ly_TH ly_Y 371 6000 lyp242 lyc242 = true := by decide +kernel
-- Model benefit ((a, 94), i)
theorem lyk243 : ly_chk sx_T sx_KK m_tt m_cl ly_TH ly_Y 372 6000 lyp243 lyc243 = true := by decide +kernel
-- Model hadOne ((a, 94), i)
theorem lyk244 : ly_chk sx_T sx_KK m_tt m_cl ly_TH ly_Y 373 6000 lyp244 lyc244 = true := by decide +kernel
-- Model keep ((a, 94), i)
theorem lyk245 : ly_chk sx_T sx_KK m_tt m_cl ly_TH ly_Y 374 6000 lyp245 lyc245 = true := by decide +kernel
-- Model settle ((a, 94), i)
theorem lyk246 : ly_chk sx_T sx_KK m_tt m_cl ly_TH ly_Y 375 6000 lyp246 lyc246 = true := by decide +kernel
-- Model pardon ((a, 94), i, i, i)
theorem lyk247 : ly_chk sx_T sx_KK m_tt m_cl ly_TH ly_Y 376 6000 lyp247 lyc247 = true := by decide +kernel
-- Model undo ((a, 94), i)
theorem lyk248 : ly_chk sx_T sx_KK m_tt m_cl ly_TH ly_Y 377 6000 lyp248 lyc248 = true := by decide +kernel
-- Model commit ((a, 94), i, i)
theorem lyk249 : ly_chk sx_T sx_KK m_tt m_cl ly_TH ly_Y 378 6000 lyp249 lyc249 = true := by decide +kernel
-- Model inGaol ((a, 94), i)
theorem lyk250 : ly_chk sx_T sx_KK m_tt m_cl ly_TH ly_Y 379 6000 lyp250 lyc250 = true := by decide +kernel
-- Model bail ((a, 94), i)
theorem lyk251 : ly_chk sx_T sx_KK m_tt m_cl ly_TH ly_Y 380 6000 lyp251 lyc251 = true := by decide +kernel
-- Model deliver ((a, 94), i)
theorem lyk252 : ly_chk sx_T sx_KK m_tt m_cl ly_TH ly_Y 382 6000 lyp252 lyc252 = true := by decide +kernel
-- Model staysBy ((a, 94), i)
theorem lyk253 : ly_chk sx_T sx_KK m_tt m_cl ly_TH ly_Y 383 6000 lyp253 lyc253 = true := by decide +kernel
