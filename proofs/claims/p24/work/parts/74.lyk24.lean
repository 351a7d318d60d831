/-! PRINTED by wip/p2/lyprint.py -/
-- Model staysBy ((a, 94), i) (88)
theorem lyk311 : ly_chk sx_T sx_KK m_tt m_cl ly_TH ly_Y 383 6000 lyp311 lyc311 = true := by decide +kernel
-- Model left ((a, 94), i, i) (92)
theorem lyk312 : ly_chk sx_T sx_KK m_tt m_cl ly_TH ly_Y 384 6000 lyp312 lyc312 = true := by decide +kernel
-- Model prisoner ((a, 94), i, i) (136)
theorem lyk313 : ly_chk sx_T sx_KK m_tt m_cl ly_TH ly_Y 385 6000 lyp313 lyc313 = true := by decide +kernel
-- Model bond ((a, 94), i, i, i, i, i) (344)
theorem lyk314 : ly_chk sx_T sx_KK m_tt m_cl ly_TH ly_Y 386 6000 lyp314 lyc314 = true := by decide +kernel
-- Model pass ((a, 94), i) (190)
theorem lyk315 : ly_chk sx_T sx_KK m_tt m_cl ly_TH ly_Y 387 6000 lyp315 lyc315 = true := by decide +kernel
-- Model seen ((a, 94), i, i) (394)
theorem lyk316 : ly_chk sx_T sx_KK m_tt m_cl ly_TH ly_Y 388 6000 lyp316 lyc316 = true := by decide +kernel
-- Model bonded ((a, 94), i, i) (126)
theorem lyk317 : ly_chk sx_T sx_KK m_tt m_cl ly_TH ly_Y 389 6000 lyp317 lyc317 = true := by decide +kernel
-- Model hours ((a, 94), i, i) (126)
theorem lyk318 : ly_chk sx_T sx_KK m_tt m_cl ly_TH ly_Y 390 6000 lyp318 lyc318 = true := by decide +kernel
-- Model order ((a, 94),) (14)
theorem lyk319 : ly_chk sx_T sx_KK m_tt m_cl ly_TH ly_Y 391 6000 lyp319 lyc319 = true := by decide +kernel
-- Model unlay ((a, 94),) (26)
theorem lyk320 : ly_chk sx_T sx_KK m_tt m_cl ly_TH ly_Y 392 6000 lyp320 lyc320 = true := by decide +kernel
-- Model put ((a, 94), i) (192)
theorem lyk321 : ly_chk sx_T sx_KK m_tt m_cl ly_TH ly_Y 393 6000 lyp321 lyc321 = true := by decide +kernel
-- Model best ((a, 94), i) (106)
theorem lyk322 : ly_chk sx_T sx_KK m_tt m_cl ly_TH ly_Y 394 6000 lyp322 lyc322 = true := by decide +kernel
-- Model makeMeets ((a, 94),) (70)
theorem lyk323 : ly_chk sx_T sx_KK m_tt m_cl ly_TH ly_Y 395 6000 lyp323 lyc323 = true := by decide +kernel
-- Model isMeeting ((a, 94), i, i) (684)
theorem lyk324 : ly_chk sx_T sx_KK m_tt m_cl ly_TH ly_Y 396 6000 lyp324 lyc324 = true := by decide +kernel
