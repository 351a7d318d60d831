/-! PRINTED by wip/p2/lyprint.py -/
-- Model full ((a, 94), i) (212)
theorem lyk296 : ly_chk sx_T sx_KK m_tt m_cl ly_TH ly_Y 362 6000 lyp296 lyc296 = true := by decide +kernel
-- Model ofHundred ((a, 94), i) (72)
theorem lyk297 : ly_chk sx_T sx_KK m_tt m_cl ly_TH ly_Y 364 6000 lyp297 lyc297 = true := by decide +kernel
-- Model lacks ((a, 94), i) (132)
theorem lyk298 : ly_chk sx_T sx_KK m_tt m_cl ly_TH ly_Y 365 6000 lyp298 lyc298 = true := by decide +kernel
-- Model juror ((a, 94), i, i) (132)
theorem lyk299 : ly_chk sx_T sx_KK m_tt m_cl ly_TH ly_Y 366 6000 lyp299 lyc299 = true := by decide +kernel
-- Model hear ((a, 94), i) (1698)
theorem lyk300 : ly_chk sx_T sx_KK m_tt m_cl ly_TH ly_Y 367 6000 lyp300 lyc300 = true := by decide +kernel
-- Model isFoundMade ((a, 94), i) (80)
theorem lyk301 : ly_chk sx_T sx_KK m_tt m_cl ly_TH ly_Y 368 6000 lyp301 lyc301 = true := by decide +kernel
-- Model settledAs ((a, 94), j) (58)
theorem lyk302 : ly_chk sx_T sx_KK m_tt m_cl ly_TH ly_Y 369 6000 lyp302 lyc302 = true := by decide +kernel
--  land ((a, 16), i, i, i) (188)
theorem lyk303 : ly_chk sx_T sx_KK m_tt m_cl ly_TH ly_Y 37 6000 lyp303 lyc303 = true := by decide +kernel
-- Model judge ((a, 94), i) (154)
theorem lyk304 : ly_chk sx_T sx_KK m_tt m_cl ly_TH ly_Y 370 6000 lyp304 lyc304 = true := by decide +kernel
-- Model judges ((a, 94), i) (164)
theorem lyk305 : ly_chk sx_T sx_KK m_tt m_cl ly_TH ly_Y 371 6000 lyp305 lyc305 = true := by decide +kernel
-- Model benefit ((a, 94), i) (236)
theorem lyk306 : ly_chk sx_T sx_KK m_tt m_cl ly_TH ly_Y 372 6000 lyp306 lyc306 = true := by decide +kernel
-- Model hadOne ((a, 94), i) (46)
theorem lyk307 : ly_chk sx_T sx_KK m_tt m_cl ly_TH ly_Y 373 6000 lyp307 lyc307 = true := by decide +kernel
-- Model keep ((a, 94), i) (192)
theorem lyk308 : ly_chk sx_T sx_KK m_tt m_cl ly_TH ly_Y 374 6000 lyp308 lyc308 = true := by decide +kernel
-- Model settle ((a, 94), i) (606)
theorem lyk309 : ly_chk sx_T sx_KK m_tt m_cl ly_TH ly_Y 375 6000 lyp309 lyc309 = true := by decide +kernel
