/-! PRINTED by wip/p2/lyprint.py -/
-- Model matter ((a, 94), i, i) (248)
theorem lyk282 : ly_chk sx_T sx_KK m_tt m_cl ly_TH ly_Y 348 6000 lyp282 lyc282 = true := by decide +kernel
-- Model witness ((a, 94), i, i) (272)
theorem lyk283 : ly_chk sx_T sx_KK m_tt m_cl ly_TH ly_Y 349 6000 lyp283 lyc283 = true := by decide +kernel
--  person ((a, 16), i, i) (106)
theorem lyk284 : ly_chk sx_T sx_KK m_tt m_cl ly_TH ly_Y 35 6000 lyp284 lyc284 = true := by decide +kernel
-- Model isOpen ((a, 94), i) (56)
theorem lyk285 : ly_chk sx_T sx_KK m_tt m_cl ly_TH ly_Y 350 6000 lyp285 lyc285 = true := by decide +kernel
-- Model isWitness ((a, 94), i, i) (48)
theorem lyk286 : ly_chk sx_T sx_KK m_tt m_cl ly_TH ly_Y 351 6000 lyp286 lyc286 = true := by decide +kernel
-- Model isJuror ((a, 94), i, i) (48)
theorem lyk287 : ly_chk sx_T sx_KK m_tt m_cl ly_TH ly_Y 352 6000 lyp287 lyc287 = true := by decide +kernel
-- Model may ((a, 94), i, i) (150)
theorem lyk288 : ly_chk sx_T sx_KK m_tt m_cl ly_TH ly_Y 353 6000 lyp288 lyc288 = true := by decide +kernel
-- Model mayBe ((a, 94), i, i, i, i) (392)
theorem lyk289 : ly_chk sx_T sx_KK m_tt m_cl ly_TH ly_Y 354 6000 lyp289 lyc289 = true := by decide +kernel
-- Model list ((a, 94), i) (156)
theorem lyk290 : ly_chk sx_T sx_KK m_tt m_cl ly_TH ly_Y 355 6000 lyp290 lyc290 = true := by decide +kernel
-- Model listOf ((a, 94), i) (112)
theorem lyk291 : ly_chk sx_T sx_KK m_tt m_cl ly_TH ly_Y 357 6000 lyp291 lyc291 = true := by decide +kernel
-- Model isOut ((a, 94), i, i) (48)
theorem lyk292 : ly_chk sx_T sx_KK m_tt m_cl ly_TH ly_Y 359 6000 lyp292 lyc292 = true := by decide +kernel
-- $People come ((a, 22), i, i) (58)
theorem lyk293 : ly_chk sx_T sx_KK m_tt m_cl ly_TH ly_Y 36 6000 lyp293 lyc293 = true := by decide +kernel
-- Model draw ((a, 94), i, i) (412)
theorem lyk294 : ly_chk sx_T sx_KK m_tt m_cl ly_TH ly_Y 360 6000 lyp294 lyc294 = true := by decide +kernel
-- Model challenge ((a, 94), i, i) (380)
theorem lyk295 : ly_chk sx_T sx_KK m_tt m_cl ly_TH ly_Y 361 6000 lyp295 lyc295 = true := by decide +kernel
