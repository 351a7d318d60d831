/-! PRINTED by wip/p2/lyprint.py -/
-- Model isOut ((a, 94), i, i) (48)
theorem lyk288 : ly_chk sx_T sx_KK m_tt m_cl ly_TH ly_Y 359 6000 lyp288 lyc288 = true := by decide +kernel
-- $People come ((a, 22), i, i) (58)
theorem lyk289 : ly_chk sx_T sx_KK m_tt m_cl ly_TH ly_Y 36 6000 lyp289 lyc289 = true := by decide +kernel
-- Model draw ((a, 94), i, i) (412)
theorem lyk290 : ly_chk sx_T sx_KK m_tt m_cl ly_TH ly_Y 360 6000 lyp290 lyc290 = true := by decide +kernel
-- Model challenge ((a, 94), i, i) (380)
theorem lyk291 : ly_chk sx_T sx_KK m_tt m_cl ly_TH ly_Y 361 6000 lyp291 lyc291 = true := by decide +kernel
-- Model full ((a, 94), i) (212)
theorem lyk292 : ly_chk sx_T sx_KK m_tt m_cl ly_TH ly_Y 362 6000 lyp292 lyc292 = true := by decide +kernel
-- Model ofHundred ((a, 94), i) (72)
theorem lyk293 : ly_chk sx_T sx_KK m_tt m_cl ly_TH ly_Y 364 6000 lyp293 lyc293 = true := by decide +kernel
-- Model lacks ((a, 94), i) (132)
theorem lyk294 : ly_chk sx_T sx_KK m_tt m_cl ly_TH ly_Y 365 6000 lyp294 lyc294 = true := by decide +kernel
-- Model juror ((a, 94), i, i) (132)
theorem lyk295 : ly_chk sx_T sx_KK m_tt m_cl ly_TH ly_Y 366 6000 lyp295 lyc295 = true := by decide +kernel
