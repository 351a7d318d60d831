/-! PRINTED by wip/p2/lyprint.py -/
-- Model clauseOf ((a, 94), i, (c, 12), j, i, i) (146)
theorem lyk196 : ly_chk sx_T sx_KK m_tt m_cl ly_TH ly_Y 285 6000 lyp196 lyc196 = true := by decide +kernel
-- Model clauseOf ((a, 94), i, (c, 13), j, i, i) (146)
theorem lyk197 : ly_chk sx_T sx_KK m_tt m_cl ly_TH ly_Y 285 6000 lyp197 lyc197 = true := by decide +kernel
-- Model clauseOf ((a, 94), i, (c, 2), j, i, i) (162)
theorem lyk198 : ly_chk sx_T sx_KK m_tt m_cl ly_TH ly_Y 285 6000 lyp198 lyc198 = true := by decide +kernel
-- Model clauseOf ((a, 94), i, (c, 3), j, i, i) (162)
theorem lyk199 : ly_chk sx_T sx_KK m_tt m_cl ly_TH ly_Y 285 6000 lyp199 lyc199 = true := by decide +kernel
-- Model clauseOf ((a, 94), i, (c, 4), j, i, i) (162)
theorem lyk200 : ly_chk sx_T sx_KK m_tt m_cl ly_TH ly_Y 285 6000 lyp200 lyc200 = true := by decide +kernel
-- Model clauseOf ((a, 94), i, (c, 5), j, i, i) (162)
theorem lyk201 : ly_chk sx_T sx_KK m_tt m_cl ly_TH ly_Y 285 6000 lyp201 lyc201 = true := by decide +kernel
-- Model clauseOf ((a, 94), i, (c, 6), j, i, i) (162)
theorem lyk202 : ly_chk sx_T sx_KK m_tt m_cl ly_TH ly_Y 285 6000 lyp202 lyc202 = true := by decide +kernel
-- Model clauseOf ((a, 94), i, (c, 7), j, i, i) (146)
theorem lyk203 : ly_chk sx_T sx_KK m_tt m_cl ly_TH ly_Y 285 6000 lyp203 lyc203 = true := by decide +kernel
-- Model clauseOf ((a, 94), i, (c, 8), j, i, i) (146)
theorem lyk204 : ly_chk sx_T sx_KK m_tt m_cl ly_TH ly_Y 285 6000 lyp204 lyc204 = true := by decide +kernel
-- Model clauseOf ((a, 94), i, (c, 9), j, i, i) (146)
theorem lyk205 : ly_chk sx_T sx_KK m_tt m_cl ly_TH ly_Y 285 6000 lyp205 lyc205 = true := by decide +kernel
-- Model isStruck ((a, 94), i, i, i) (244)
theorem lyk206 : ly_chk sx_T sx_KK m_tt m_cl ly_TH ly_Y 287 6000 lyp206 lyc206 = true := by decide +kernel
-- $Circuit findWays ((a, 77),) (102)
theorem lyk207 : ly_chk sx_T sx_KK m_tt m_cl ly_TH ly_Y 29 6000 lyp207 lyc207 = true := by decide +kernel
-- Model landOn ((a, 94), i, i, i) (176)
theorem lyk208 : ly_chk sx_T sx_KK m_tt m_cl ly_TH ly_Y 291 6000 lyp208 lyc208 = true := by decide +kernel
-- Model landOf ((a, 94), i, i, i) (116)
theorem lyk209 : ly_chk sx_T sx_KK m_tt m_cl ly_TH ly_Y 292 6000 lyp209 lyc209 = true := by decide +kernel
