/-! PRINTED by wip/p2/lyprint.py -/
-- Model bill ((a, 94), i, i)
theorem lyk218 : ly_chk sx_T sx_KK m_tt m_cl ly_TH ly_Y 347 6000 lyp218 lyc218 = true := by decide +kernel
-- Model matter ((a, 94), i, i)
theorem lyk219 : ly_chk sx_T sx_KK m_tt m_cl ly_TH ly_Y 348 6000 lyp219 lyc219 = true := by decide +kernel
-- Model witness ((a, 94), i, i)
theorem lyk220 : ly_chk sx_T sx_KK m_tt m_cl ly_TH ly_Y 349 6000 lyp220 lyc220 = true := by decide +kernel
--  person ((a, 16), i, i)
theorem lyk221 : ly_chk sx_T sx_KK m_tt m_cl ly_TH ly_Y 35 6000 lyp221 lyc221 = true := by decide +kernel
-- Model isOpen ((a, 94), i)
theorem lyk222 : ly_chk sx_T sx_KK m_tt m_cl ly_TH ly_Y 350 6000 lyp222 lyc222 = true := by decide +kernel
-- Model isWitness ((a, 94), i, i)
theorem lyk223 : ly_chk sx_T sx_KK m_tt m_cl ly_TH ly_Y 351 6000 lyp223 lyc223 = true := by decide +kernel
-- Model isJuror ((a, 94), i, i)
theorem lyk224 : ly_chk sx_T sx_KK m_tt m_cl ly_TH ly_Y 352 6000 lyp224 lyc224 = true := by decide +kernel
-- Model may ((a, 94), i, i)
theorem lyk225 : ly_chk sx_T sx_KK m_tt m_cl ly_TH ly_Y 353 6000 lyp225 lyc225 = true := by decide +kernel
-- Model mayBe ((a, 94), i, i, i, i)
theorem lyk226 : ly_chk sx_T sx_KK m_tt m_cl ly_TH ly_Y 354 6000 lyp226 lyc226 = true := by decide +kernel
-- Model list ((a, 94), i)
theorem lyk227 : ly_chk sx_T sx_KK m_tt m_cl ly_TH ly_Y 355 6000 lyp227 lyc227 = true := by decide +kernel
-- Model listOf ((a, 94), i)
theorem lyk228 : ly_chk sx_T sx_KK m_tt m_cl ly_TH ly_Y 357 6000 lyp228 lyc228 = true := by decide +kernel
-- Model isOut ((a, 94), i, i)
theorem lyk229 : ly_chk sx_T sx_KK m_tt m_cl ly_TH ly_Y 359 6000 lyp229 lyc229 = true := by decide +kernel
