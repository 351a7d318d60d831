/-! PRINTED by wip/p2/lyprint.py -/
-- Model judge ((a, 94), i) (154)
theorem lyk304 : ly_chk sx_T sx_KK m_tt m_cl ly_TH ly_Y 370 6000 lyp304 lyc304 = true := by decide +kernel
-- Model judges ((a, 94), i) (164)
theorem lyk305 : ly_chk sx_T sx_KK m_tt m_cl ly_TH ly_Y 371 6000 lyp305 lyc305 = true := by decide +kernel
-- Model benefit ((a, 94), i) (236)
theorem lyk306 : ly_chk sx_T sx_KK m_tt m_cl ly_TH ly_Y 372 6000 lyp306 lyc306 = true := by decide +kernel
-- Model hadOne ((a, 94), i) (46)
theorem lyk307 : ly_chk sx_T sx_KK m_tt m_cl ly_TH ly_Y 373 6000 lyp307 lyc307 = true := by decide +kernel
-- Model keep ((a, 94), i) (192)
theorem lyk308 : ly_chk sx_T sx_KK m_tt m_cl ly_TH ly_Y 374 6000 lyp308 lyc308 = true := by decide +kernel
-- Model settle ((a, 94), i) (606)
theorem lyk309 : ly_chk sx_T sx_KK m_tt m_cl ly_TH ly_Y 375 6000 lyp309 lyc309 = true := by decide +kernel
-- Model pardon ((a, 94), i, i, i) (264)
theorem lyk310 : ly_chk sx_T sx_KK m_tt m_cl ly_TH ly_Y 376 6000 lyp310 lyc310 = true := by decide +kernel
-- Model undo ((a, 94), i) (132)
theorem lyk311 : ly_chk sx_T sx_KK m_tt m_cl ly_TH ly_Y 377 6000 lyp311 lyc311 = true := by decide +kernel
-- Model commit ((a, 94), i, i) (158)
theorem lyk312 : ly_chk sx_T sx_KK m_tt m_cl ly_TH ly_Y 378 6000 lyp312 lyc312 = true := by decide +kernel
-- Model inGaol ((a, 94), i) (48)
theorem lyk313 : ly_chk sx_T sx_KK m_tt m_cl ly_TH ly_Y 379 6000 lyp313 lyc313 = true := by decide +kernel
-- Model bail ((a, 94), i) (142)
theorem lyk314 : ly_chk sx_T sx_KK m_tt m_cl ly_TH ly_Y 380 6000 lyp314 lyc314 = true := by decide +kernel
-- Model deliver ((a, 94), i) (202)
theorem lyk315 : ly_chk sx_T sx_KK m_tt m_cl ly_TH ly_Y 382 6000 lyp315 lyc315 = true := by decide +kernel
-- Model staysBy ((a, 94), i) (88)
theorem lyk316 : ly_chk sx_T sx_KK m_tt m_cl ly_TH ly_Y 383 6000 lyp316 lyc316 = true := by decide +kernel
-- Model left ((a, 94), i, i) (92)
theorem lyk317 : ly_chk sx_T sx_KK m_tt m_cl ly_TH ly_Y 384 6000 lyp317 lyc317 = true := by decide +kernel
