/-! PRINTED by wip/p2/lyprint.py -/
-- Model isMet ((a, 94), i, i, i)
theorem lyk202 : ly_chk sx_T sx_KK m_tt m_cl ly_TH ly_Y 329 6000 lyp202 lyc202 = true := by decide +kernel
-- $People isDead ((a, 22), i, i, i)
theorem lyk203 : ly_chk sx_T sx_KK m_tt m_cl ly_TH ly_Y 33 6000 lyp203 lyc203 = true := by decide +kernel
-- Model sumOf ((a, 94), i, i, i)
theorem lyk204 : ly_chk sx_T sx_KK m_tt m_cl ly_TH ly_Y 330 6000 lyp204 lyc204 = true := by decide +kernel
-- Model lackOf ((a, 94), i, i)
theorem lyk205 : ly_chk sx_T sx_KK m_tt m_cl ly_TH ly_Y 331 6000 lyp205 lyc205 = true := by decide +kernel
-- Model why ((a, 94), i)
theorem lyk207 : ly_chk sx_T sx_KK m_tt m_cl ly_TH ly_Y 333 6000 lyp207 lyc207 = true := by decide +kernel
-- Model crown ((a, 94), i, i, i, i)
theorem lyk208 : ly_chk sx_T sx_KK m_tt m_cl ly_TH ly_Y 334 6000 lyp208 lyc208 = true := by decide +kernel
-- Model begins ((a, 94), i, i, i, i, i, i, i)
theorem lyk209 : ly_chk sx_T sx_KK m_tt m_cl ly_TH ly_Y 335 6000 lyp209 lyc209 = true := by decide +kernel
-- Model plea ((a, 94), i, i, i, i, i, i)
theorem lyk210 : ly_chk sx_T sx_KK m_tt m_cl ly_TH ly_Y 336 6000 lyp210 lyc210 = true := by decide +kernel
-- Model words ((a, 94), i)
theorem lyk211 : ly_chk sx_T sx_KK m_tt m_cl ly_TH ly_Y 337 6000 lyp211 lyc211 = true := by decide +kernel
-- Model allege ((a, 94), i)
theorem lyk212 : ly_chk sx_T sx_KK m_tt m_cl ly_TH ly_Y 340 6000 lyp212 lyc212 = true := by decide +kernel
-- Model keepFacts ((a, 94), i)
theorem lyk213 : ly_chk sx_T sx_KK m_tt m_cl ly_TH ly_Y 341 6000 lyp213 lyc213 = true := by decide +kernel
-- Model bad ((a, 94), i)
theorem lyk214 : ly_chk sx_T sx_KK m_tt m_cl ly_TH ly_Y 342 6000 lyp214 lyc214 = true := by decide +kernel
