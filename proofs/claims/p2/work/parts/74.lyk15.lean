/-! PRINTED by wip/p2/lyprint.py -/
-- Model words ((a, 94), i)
theorem lyk199 : ly_chk sx_T sx_KK m_tt m_cl ly_TH ly_Y 337 6000 lyp199 lyc199 = true := by decide +kernel
-- Model allege ((a, 94), i)
theorem lyk200 : ly_chk sx_T sx_KK m_tt m_cl ly_TH ly_Y 340 6000 lyp200 lyc200 = true := by decide +kernel
-- Model keepFacts ((a, 94), i)
theorem lyk201 : ly_chk sx_T sx_KK m_tt m_cl ly_TH ly_Y 341 6000 lyp201 lyc201 = true := by decide +kernel
-- Model bad ((a, 94), i)
theorem lyk202 : ly_chk sx_T sx_KK m_tt m_cl ly_TH ly_Y 342 6000 lyp202 lyc202 = true := by decide +kernel
-- Model mend ((a, 94), i)
theorem lyk204 : ly_chk sx_T sx_KK m_tt m_cl ly_TH ly_Y 345 6000 lyp204 lyc204 = true := by decide +kernel
-- Model bill ((a, 94), i, i)
theorem lyk206 : ly_chk sx_T sx_KK m_tt m_cl ly_TH ly_Y 347 6000 lyp206 lyc206 = true := by decide +kernel
-- Model matter ((a, 94), i, i)
theorem lyk207 : ly_chk sx_T sx_KK m_tt m_cl ly_TH ly_Y 348 6000 lyp207 lyc207 = true := by decide +kernel
-- Model witness ((a, 94), i, i)
theorem lyk208 : ly_chk sx_T sx_KK m_tt m_cl ly_TH ly_Y 349 6000 lyp208 lyc208 = true := by decide +kernel
--  person ((a, 16), i, i)
theorem lyk209 : ly_chk sx_T sx_KK m_tt m_cl ly_TH ly_Y 35 6000 lyp209 lyc209 = true := by decide +kernel
-- Model isOpen ((a, 94), i)
theorem lyk210 : ly_chk sx_T sx_KK m_tt m_cl ly_TH ly_Y 350 6000 lyp210 lyc210 = true := by decide +kernel
-- Model isWitness ((a, 94), i, i)
theorem lyk211 : ly_chk sx_T sx_KK m_tt m_cl ly_TH ly_Y 351 6000 lyp211 lyc211 = true := by decide +kernel
-- Model isJuror ((a, 94), i, i)
theorem lyk212 : ly_chk sx_T sx_KK m_tt m_cl ly_TH ly_Y 352 6000 lyp212 lyc212 = true := by decide +kernel
