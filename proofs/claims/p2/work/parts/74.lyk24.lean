/-! PRINTED by wip/p2/lyprint.py -/
-- Model prisoner ((a, 94), i, i) (136)
theorem lyk318 : ly_chk sx_T sx_KK m_tt m_cl ly_TH ly_Y 385 6000 lyp318 lyc318 = true := by decide +kernel
-- Model bond ((a, 94), i, i, i, i, i) (344)
theorem lyk319 : ly_chk sx_T sx_KK m_tt m_cl ly_TH ly_Y 386 6000 lyp319 lyc319 = true := by decide +kernel
-- Model pass ((a, 94), i) (190)
theorem lyk320 : ly_chk sx_T sx_KK m_tt m_cl ly_TH ly_Y 387 6000 lyp320 lyc320 = true := by decide +kernel
-- Model seen ((a, 94), i, i) (328)
theorem lyk321 : ly_chk sx_T sx_KK m_tt m_cl ly_TH ly_Y 388 6000 lyp321 lyc321 = true := by decide +kernel
-- Model bonded ((a, 94), i, i) (126)
theorem lyk322 : ly_chk sx_T sx_KK m_tt m_cl ly_TH ly_Y 389 6000 lyp322 lyc322 = true := by decide +kernel
-- Model hours ((a, 94), i, i) (126)
theorem lyk323 : ly_chk sx_T sx_KK m_tt m_cl ly_TH ly_Y 390 6000 lyp323 lyc323 = true := by decide +kernel
-- Model order ((a, 94),) (14)
theorem lyk324 : ly_chk sx_T sx_KK m_tt m_cl ly_TH ly_Y 391 6000 lyp324 lyc324 = true := by decide +kernel
-- Model unlay ((a, 94),) (26)
theorem lyk325 : ly_chk sx_T sx_KK m_tt m_cl ly_TH ly_Y 392 6000 lyp325 lyc325 = true := by decide +kernel
-- Model put ((a, 94), i) (192)
theorem lyk326 : ly_chk sx_T sx_KK m_tt m_cl ly_TH ly_Y 393 6000 lyp326 lyc326 = true := by decide +kernel
-- Model best ((a, 94), i) (106)
theorem lyk327 : ly_chk sx_T sx_KK m_tt m_cl ly_TH ly_Y 394 6000 lyp327 lyc327 = true := by decide +kernel
-- Model makeMeets ((a, 94),) (70)
theorem lyk328 : ly_chk sx_T sx_KK m_tt m_cl ly_TH ly_Y 395 6000 lyp328 lyc328 = true := by decide +kernel
-- Model isMeeting ((a, 94), i, i) (684)
theorem lyk329 : ly_chk sx_T sx_KK m_tt m_cl ly_TH ly_Y 396 6000 lyp329 lyc329 = true := by decide +kernel
-- Model lays ((a, 94), i, i, i) (150)
theorem lyk330 : ly_chk sx_T sx_KK m_tt m_cl ly_TH ly_Y 398 6000 lyp330 lyc330 = true := by decide +kernel
-- Model canBe ((a, 94), i, i) (198)
theorem lyk331 : ly_chk sx_T sx_KK m_tt m_cl ly_TH ly_Y 399 6000 lyp331 lyc331 = true := by decide +kernel
