/-! PRINTED by wip/p2/lyprint.py -/
-- Model list ((a, 94), i) (156)
theorem lyk290 : ly_chk sx_T sx_KK m_tt m_cl ly_TH ly_Y 355 6000 lyp290 lyc290 = true := by decide +kernel
-- Model listOf ((a, 94), i) (112)
theorem lyk291 : ly_chk sx_T sx_KK m_tt m_cl ly_TH ly_Y 357 6000 lyp291 lyc291 = true := by decide +kernel
-- Model isOut ((a, 94), i, i) (48)
theorem lyk292 : ly_chk sx_T sx_KK m_tt m_cl ly_TH ly_Y 359 6000 lyp292 lyc292 = true := by decide +kernel
-- $People come ((a, 22), i, i) (58)
theorem lyk293 : ly_chk sx_T sx_KK m_tt m_cl ly_TH ly_Y 36 6000 lyp293 lyc293 = true := by decide +kernel
-- Model draw ((a, 94), i, i) (412)
theorem lyk294 : ly_chk sx_T sx_KK m_tt m_cl ly_TH ly_Y 360 6000 lyp294 lyc294 = true := by decide +kernel
-- Model challenge ((a, 94), i, i) (380)
theorem lyk295 : ly_chk sx_T sx_KK m_tt m_cl ly_TH ly_Y 361 6000 lyp295 lyc295 = true := by decide +kernel
-- Model full ((a, 94), i) (212)
theorem lyk296 : ly_chk sx_T sx_KK m_tt m_cl ly_TH ly_Y 362 6000 lyp296 lyc296 = true := by decide +kernel
-- Model ofHundred ((a, 94), i) (72)
theorem lyk297 : ly_chk sx_T sx_KK m_tt m_cl ly_TH ly_Y 364 6000 lyp297 lyc297 = true := by decide +kernel
-- Model lacks ((a, 94), i) (132)
theorem lyk298 : ly_chk sx_T sx_KK m_tt m_cl ly_TH ly_Y 365 6000 lyp298 lyc298 = true := by decide +kernel
-- Model juror ((a, 94), i, i) (132)
theorem lyk299 : ly_chk sx_T sx_KK m_tt m_cl ly_TH ly_Y 366 6000 lyp299 lyc299 = true := by decide +kernel
-- Model hear ((a, 94), i) (1698)
theorem lyk300 : ly_chk sx_T sx_KK m_tt m_cl ly_TH ly_Y 367 6000 lyp300 lyc300 = true := by decide +kernel
-- Model isFoundMade ((a, 94), i) (80)
theorem lyk301 : ly_chk sx_T sx_KK m_tt m_cl ly_TH ly_Y 368 6000 lyp301 lyc301 = true := by decide +kernel
-- Model settledAs ((a, 94), j) (58)
theorem lyk302 : ly_chk sx_T sx_KK m_tt m_cl ly_TH ly_Y 369 6000 lyp302 lyc302 = true := by decide +kernel
--  land ((a, 16), i, i, i) (188)
theorem lyk303 : ly_chk sx_T sx_KK m_tt m_cl ly_TH ly_Y 37 6000 lyp303 lyc303 = true := by decide +kernel
