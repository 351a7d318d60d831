/-! PRINTED by wip/p2/lyprint.py -/
-- Model allege ((a, 94), i) (4588)
theorem lyk272 : ly_chk sx_T sx_KK m_tt m_cl ly_TH ly_Y 340 6000 lyp272 lyc272 = true := by decide +kernel
-- Model bad ((a, 94), i) (122)
theorem lyk273 : ly_chk sx_T sx_KK m_tt m_cl ly_TH ly_Y 342 6000 lyp273 lyc273 = true := by decide +kernel
-- Model badOf ((a, 94), i) (286)
theorem lyk274 : ly_chk sx_T sx_KK m_tt m_cl ly_TH ly_Y 343 6000 lyp274 lyc274 = true := by decide +kernel
-- Model bill ((a, 94), i, i) (300)
theorem lyk277 : ly_chk sx_T sx_KK m_tt m_cl ly_TH ly_Y 347 6000 lyp277 lyc277 = true := by decide +kernel
-- Model matter ((a, 94), i, i) (248)
theorem lyk278 : ly_chk sx_T sx_KK m_tt m_cl ly_TH ly_Y 348 6000 lyp278 lyc278 = true := by decide +kernel
-- Model witness ((a, 94), i, i) (272)
theorem lyk279 : ly_chk sx_T sx_KK m_tt m_cl ly_TH ly_Y 349 6000 lyp279 lyc279 = true := by decide +kernel
--  person ((a, 16), i, i) (106)
theorem lyk280 : ly_chk sx_T sx_KK m_tt m_cl ly_TH ly_Y 35 6000 lyp280 lyc280 = true := by decide +kernel
-- Model isOpen ((a, 94), i) (56)
theorem lyk281 : ly_chk sx_T sx_KK m_tt m_cl ly_TH ly_Y 350 6000 lyp281 lyc281 = true := by decide +kernel
-- Model isWitness ((a, 94), i, i) (48)
theorem lyk282 : ly_chk sx_T sx_KK m_tt m_cl ly_TH ly_Y 351 6000 lyp282 lyc282 = true := by decide +kernel
-- Model isJuror ((a, 94), i, i) (48)
theorem lyk283 : ly_chk sx_T sx_KK m_tt m_cl ly_TH ly_Y 352 6000 lyp283 lyc283 = true := by decide +kernel
-- Model may ((a, 94), i, i) (150)
theorem lyk284 : ly_chk sx_T sx_KK m_tt m_cl ly_TH ly_Y 353 6000 lyp284 lyc284 = true := by decide +kernel
-- Model mayBe ((a, 94), i, i, i, i) (392)
theorem lyk285 : ly_chk sx_T sx_KK m_tt m_cl ly_TH ly_Y 354 6000 lyp285 lyc285 = true := by decide +kernel
-- Model list ((a, 94), i) (156)
theorem lyk286 : ly_chk sx_T sx_KK m_tt m_cl ly_TH ly_Y 355 6000 lyp286 lyc286 = true := by decide +kernel
-- Model listOf ((a, 94), i) (112)
theorem lyk287 : ly_chk sx_T sx_KK m_tt m_cl ly_TH ly_Y 357 6000 lyp287 lyc287 = true := by decide +kernel
