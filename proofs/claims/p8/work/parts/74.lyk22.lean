/-! PRINTED by wip/p2/lyprint.py -/
-- Model pardon ((a, 94), i, i, i) (264)
theorem lyk310 : ly_chk sx_T sx_KK m_tt m_cl ly_TH ly_Y 376 6000 lyp310 lyc310 = true := by decide +kernel
-- Model undo ((a, 94), i) (132)
theorem lyk311 : ly_chk sx_T sx_KK m_tt m_cl ly_TH ly_Y 377 6000 lyp311 lyc311 = true := by decide +kernel
-- Model commit ((a, 94), i, i) (158)
theorem lyk312 : ly_chk sx_T sx_KK m_tt m_cl ly_TH ly_Y 378 6000 lyp312 lyc312 = true := by decide +kernel
-- Model inGaol ((a, 94), i) (48)
theorem lyk313 : ly_chk sx_T sx_KK m_tt m_cl ly_TH ly_Y 379 6000 lyp313 lyc313 = true := by decide +kernel
-- Model bail ((a, 94), i) (142)
theorem lyk314 : ly_chk sx_T sx_KK m_tt m_cl ly_TH ly_Y 380 6000 lyp314 lyc314 = true := by decide +kernel
-- Model deliver ((a, 94), i) (202)
theorem lyk315 : ly_chk sx_T sx_KK m_tt m_cl ly_TH ly_Y 382 6000 lyp315 lyc315 = true := by decide +kernel
-- Model staysBy ((a, 94), i) (88)
theorem lyk316 : ly_chk sx_T sx_KK m_tt m_cl ly_TH ly_Y 383 6000 lyp316 lyc316 = true := by decide +kernel
-- Model left ((a, 94), i, i) (92)
theorem lyk317 : ly_chk sx_T sx_KK m_tt m_cl ly_TH ly_Y 384 6000 lyp317 lyc317 = true := by decide +kernel
-- Model prisoner ((a, 94), i, i) (136)
theorem lyk318 : ly_chk sx_T sx_KK m_tt m_cl ly_TH ly_Y 385 6000 lyp318 lyc318 = true := by decide +kernel
-- Model bond ((a, 94), i, i, i, i, i) (344)
theorem lyk319 : ly_chk sx_T sx_KK m_tt m_cl ly_TH ly_Y 386 6000 lyp319 lyc319 = true := by decide +kernel
-- Model pass ((a, 94), i) (190)
theorem lyk320 : ly_chk sx_T sx_KK m_tt m_cl ly_TH ly_Y 387 6000 lyp320 lyc320 = true := by decide +kernel
-- Model seen ((a, 94), i, i) (328)
theorem lyk321 : ly_chk sx_T sx_KK m_tt m_cl ly_TH ly_Y 388 6000 lyp321 lyc321 = true := by decide +kernel
-- Model bonded ((a, 94), i, i) (126)
theorem lyk322 : ly_chk sx_T sx_KK m_tt m_cl ly_TH ly_Y 389 6000 lyp322 lyc322 = true := by decide +kernel
-- Model hours ((a, 94), i, i) (126)
theorem lyk323 : ly_chk sx_T sx_KK m_tt m_cl ly_TH ly_Y 390 6000 lyp323 lyc323 = true := by decide +kernel
