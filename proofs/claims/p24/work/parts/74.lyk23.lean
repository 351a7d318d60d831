/-! PRINTED by wip/p2/lyprint.py -/
-- Model isFoundMade ((a, 94), i) (80)
theorem lyk297 : ly_chk sx_T sx_KK m_tt m_cl ly_TH ly_Y 368 6000 lyp297 lyc297 = true := by decide +kernel
-- Model settledAs ((a, 94), j) (58)
theorem lyk298 : ly_chk sx_T sx_KK m_tt m_cl ly_TH ly_Y 369 6000 lyp298 lyc298 = true := by decide +kernel
--  land ((a, 16), i, i, i) (188)
theorem lyk299 : ly_chk sx_T sx_KK m_tt m_cl ly_TH ly_Y 37 6000 lyp299 lyc299 = true := by decide +kernel
-- Model judge ((a, 94), i) (482)
theorem lyk300 : ly_chk sx_T sx_KK m_tt m_cl ly_TH ly_Y 370 6000 lyp300 lyc300 = true := by decide +kernel
-- Model benefit ((a, 94), i) (302)
theorem lyk301 : ly_chk sx_T sx_KK m_tt m_cl ly_TH ly_Y 372 6000 lyp301 lyc301 = true := by decide +kernel
-- Model hadOne ((a, 94), i) (46)
theorem lyk302 : ly_chk sx_T sx_KK m_tt m_cl ly_TH ly_Y 373 6000 lyp302 lyc302 = true := by decide +kernel
-- Model keep ((a, 94), i) (258)
theorem lyk303 : ly_chk sx_T sx_KK m_tt m_cl ly_TH ly_Y 374 6000 lyp303 lyc303 = true := by decide +kernel
-- Model settle ((a, 94), i) (992)
theorem lyk304 : ly_chk sx_T sx_KK m_tt m_cl ly_TH ly_Y 375 6000 lyp304 lyc304 = true := by decide +kernel
-- Model pardon ((a, 94), i, i, i) (330)
theorem lyk305 : ly_chk sx_T sx_KK m_tt m_cl ly_TH ly_Y 376 6000 lyp305 lyc305 = true := by decide +kernel
-- Model undo ((a, 94), i) (408)
theorem lyk306 : ly_chk sx_T sx_KK m_tt m_cl ly_TH ly_Y 377 6000 lyp306 lyc306 = true := by decide +kernel
-- Model commit ((a, 94), i, i) (158)
theorem lyk307 : ly_chk sx_T sx_KK m_tt m_cl ly_TH ly_Y 378 6000 lyp307 lyc307 = true := by decide +kernel
-- Model inGaol ((a, 94), i) (48)
theorem lyk308 : ly_chk sx_T sx_KK m_tt m_cl ly_TH ly_Y 379 6000 lyp308 lyc308 = true := by decide +kernel
-- Model bail ((a, 94), i) (142)
theorem lyk309 : ly_chk sx_T sx_KK m_tt m_cl ly_TH ly_Y 380 6000 lyp309 lyc309 = true := by decide +kernel
-- Model deliver ((a, 94), i) (202)
theorem lyk310 : ly_chk sx_T sx_KK m_tt m_cl ly_TH ly_Y 382 6000 lyp310 lyc310 = true := by decide +kernel
