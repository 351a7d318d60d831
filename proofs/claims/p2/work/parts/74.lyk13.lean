/-! PRINTED by wip/p2/lyprint.py -/
-- Model tell ((a, 94), i, i, i, i, i)
theorem lyk159 : ly_chk sx_T sx_KK m_tt m_cl ly_TH ly_Y 278 6000 lyp159 lyc159 = true := by decide +kernel
-- Model dead ((a, 94), i, i)
theorem lyk160 : ly_chk sx_T sx_KK m_tt m_cl ly_TH ly_Y 279 6000 lyp160 lyc160 = true := by decide +kernel
-- $Circuit setRoad ((a, 77), i, i, i)
theorem lyk161 : ly_chk sx_T sx_KK m_tt m_cl ly_TH ly_Y 28 6000 lyp161 lyc161 = true := by decide +kernel
-- Model kin ((a, 94), i, i, i)
theorem lyk162 : ly_chk sx_T sx_KK m_tt m_cl ly_TH ly_Y 280 6000 lyp162 lyc162 = true := by decide +kernel
-- Model tellsAt ((a, 94), i, (j,), i, i)
theorem lyk163 : ly_chk sx_T sx_KK m_tt m_cl ly_TH ly_Y 283 6000 lyp163 lyc163 = true := by decide +kernel
-- Model lawOf ((a, 94), i, (j,), i, i)
theorem lyk164 : ly_chk sx_T sx_KK m_tt m_cl ly_TH ly_Y 284 6000 lyp164 lyc164 = true := by decide +kernel
-- Model clauseOf ((a, 94), i, i, (j,), i, i)
theorem lyk165 : ly_chk sx_T sx_KK m_tt m_cl ly_TH ly_Y 285 6000 lyp165 lyc165 = true := by decide +kernel
-- Model isStruck ((a, 94), i, i, i)
theorem lyk166 : ly_chk sx_T sx_KK m_tt m_cl ly_TH ly_Y 287 6000 lyp166 lyc166 = true := by decide +kernel
-- Model plain (i,)
theorem lyk167 : ly_chk sx_T sx_KK m_tt m_cl ly_TH ly_Y 288 6000 lyp167 lyc167 = true := by decide +kernel
-- Model again ((a, 94), i)
theorem lyk168 : ly_chk sx_T sx_KK m_tt m_cl ly_TH ly_Y 289 6000 lyp168 lyc168 = true := by decide +kernel
-- $Circuit findWays ((a, 77),)
theorem lyk169 : ly_chk sx_T sx_KK m_tt m_cl ly_TH ly_Y 29 6000 lyp169 lyc169 = true := by decide +kernel
-- Model comes ((a, 94), i, i)
theorem lyk170 : ly_chk sx_T sx_KK m_tt m_cl ly_TH ly_Y 290 6000 lyp170 lyc170 = true := by decide +kernel
