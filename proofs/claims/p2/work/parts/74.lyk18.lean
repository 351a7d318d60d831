/-! PRINTED by wip/p2/lyprint.py -/
-- Model bail ((a, 94), i)
theorem lyk239 : ly_chk sx_T sx_KK m_tt m_cl ly_TH ly_Y 380 6000 lyp239 lyc239 = true := by decide +kernel
-- Model deliver ((a, 94), i)
theorem lyk240 : ly_chk sx_T sx_KK m_tt m_cl ly_TH ly_Y 382 6000 lyp240 lyc240 = true := by decide +kernel
-- Model staysBy ((a, 94), i)
theorem lyk241 : ly_chk sx_T sx_KK m_tt m_cl ly_TH ly_Y 383 6000 lyp241 lyc241 = true := by decide +kernel
-- Model left ((a, 94), i, i)
theorem lyk242 : ly_chk sx_T sx_KK m_tt m_cl ly_TH ly_Y 384 6000 lyp242 lyc242 = true := by decide +kernel
-- Model prisoner ((a, 94), i, i)
theorem lyk243 : ly_chk sx_T sx_KK m_tt m_cl ly_TH ly_Y 385 6000 lyp243 lyc243 = true := by decide +kernel
-- Model bond ((a, 94), i, i, i, i, i)
theorem lyk244 : ly_chk sx_T sx_KK m_tt m_cl ly_TH ly_Y 386 6000 lyp244 lyc244 = true := by decide +kernel
-- Model pass ((a, 94), i)
theorem lyk245 : ly_chk sx_T sx_KK m_tt m_cl ly_TH ly_Y 387 6000 lyp245 lyc245 = true := by decide +kernel
-- Model seen ((a, 94), i, i)
theorem lyk246 : ly_chk sx_T sx_KK m_tt m_cl ly_TH ly_Y 388 6000 lyp246 lyc246 = true := by decide +kernel
-- Model bonded ((a, 94), i, i)
theorem lyk247 : ly_chk sx_T sx_KK m_tt m_cl ly_TH ly_Y 389 6000 lyp247 lyc247 = true := by decide +kernel
-- Model hours ((a, 94), i, i)
theorem lyk248 : ly_chk sx_T sx_KK m_tt m_cl ly_TH ly_Y 390 6000 lyp248 lyc248 = true := by decide +kernel
-- Model order ((a, 94),)
theorem lyk249 : ly_chk sx_T sx_KK m_tt m_cl ly_TH ly_Y 391 6000 lyp249 lyc249 = true := by decide +kernel
-- Model unlay ((a, 94),)
theorem lyk250 : ly_chk sx_T sx_KK m_tt m_cl ly_TH ly_Y 392 6000 lyp250 lyc250 = true := by decide +kernel
