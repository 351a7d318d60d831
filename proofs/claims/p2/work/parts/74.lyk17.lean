/-! PRINTED by wip/p2/lyprint.py -/
-- Model badOf ((a, 94), i)
theorem lyk215 : ly_chk sx_T sx_KK m_tt m_cl ly_TH ly_Y 343 6000 lyp215 lyc215 = true := by decide +kernel
-- Model mend ((a, 94), i)
theorem lyk216 : ly_chk sx_T sx_KK m_tt m_cl ly_TH ly_Y 345 6000 lyp216 lyc216 = true := by decide +kernel
-- Model bill ((a, 94), i, i)
theorem lyk218 : ly_chk sx_T sx_KK m_tt m_cl ly_TH ly_Y 347 6000 lyp218 lyc218 = true := by decide +kernel
-- Model matter ((a, 94), i, i)
theorem lyk219 : ly_chk sx_T sx_KK m_tt m_cl ly_TH ly_Y 348 6000 lyp219 lyc219 = true := by decide +kernel
-- Model witness ((a, 94), i, i)
theorem lyk220 : ly_chk sx_T sx_KK m_tt m_cl ly_TH ly_Y 349 6000 lyp220 lyc220 = true := by decide +kernel
--  person ((a, 16), i, i)
theorem lyk221 : ly_chk sx_T sx_KK m_tt m_cl ly_TH ly_Y 35 6000 lyp221 lyc221 = true := by decide +kernel
-- Model isOpen ((a, 94), i)
theorem lyk222 : ly_chk sx_T sx_KK m_tt m_cl ly_TH ly_Y 350 6000 lyp222 lyc222 = true := by decide +kernel
-- Model isWitness ((a, 94), i, i)
theorem lyk223 : ly_chk sx_T sx_KK m_tt m_cl ly_TH ly_Y 351 6000 lyp223 lyc223 = true := by decide +kernel
-- Model isJuror ((a, 94), i, i)
theorem lyk224 : ly_chk sx_T sx_KK m_tt m_cl ly_TH ly_Y 352 6000 lyp224 lyc224 = true := by decide +kernel
-- Model may ((a, 94), i, i)
theorem lyk225 : ly_chk sx_T sx_KK m_tt m_cl ly_TH ly_Y 353 6000 lyp225 lyc225 = true := by decide +kernel
-- Model mayBe ((a, 94), i, i, i, i)
theorem lyk226 : ly_chk sx_T sx_KK m_tt m_cl ly_TH ly_Y 354 6000 lyp226 lyc226 = true := by decide +kernel
-- Model list ((a, 94), i)
theorem lyk227 : ly_chk sx_T sx_KK m_tt m_cl ly_TH ly_Y 355 6000 lyp227 lyc227 = true := by decide +kernel
