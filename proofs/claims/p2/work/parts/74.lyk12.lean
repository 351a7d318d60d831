/-! PRINTED by wip/p2/lyprint.py -/
-- Model lawOf ((a, 94), i, (j,), i, i)
theorem lyk152 : ly_chk sx_T sx_KK m_tt m_cl ly_TH ly_Y 284 6000 lyp152 lyc152 = true := by decide +kernel
-- Model clauseOf ((a, 94), i, i, (j,), i, i)
theorem lyk153 : ly_chk sx_T sx_KK m_tt m_cl ly_TH ly_Y 285 6000 lyp153 lyc153 = true := by decide +kernel
-- Model isStruck ((a, 94), i, i, i)
theorem lyk154 : ly_chk sx_T sx_KK m_tt m_cl ly_TH ly_Y 287 6000 lyp154 lyc154 = true := by decide +kernel
-- Model plain (i,)
theorem lyk155 : ly_chk sx_T sx_KK m_tt m_cl ly_TH ly_Y 288 6000 lyp155 lyc155 = true := by decide +kernel
-- Model again ((a, 94), i)
theorem lyk156 : ly_chk sx_T sx_KK m_tt m_cl ly_TH ly_Y 289 6000 lyp156 lyc156 = true := by decide +kernel
-- $Circuit findWays ((a, 77),)
theorem lyk157 : ly_chk sx_T sx_KK m_tt m_cl ly_TH ly_Y 29 6000 lyp157 lyc157 = true := by decide +kernel
-- Model comes ((a, 94), i, i)
theorem lyk158 : ly_chk sx_T sx_KK m_tt m_cl ly_TH ly_Y 290 6000 lyp158 lyc158 = true := by decide +kernel
-- Model landOn ((a, 94), i, i, i)
theorem lyk159 : ly_chk sx_T sx_KK m_tt m_cl ly_TH ly_Y 291 6000 lyp159 lyc159 = true := by decide +kernel
-- Model landOf ((a, 94), i, i, i)
theorem lyk160 : ly_chk sx_T sx_KK m_tt m_cl ly_TH ly_Y 292 6000 lyp160 lyc160 = true := by decide +kernel
-- Model deadOn ((a, 94), i, i, i)
theorem lyk161 : ly_chk sx_T sx_KK m_tt m_cl ly_TH ly_Y 293 6000 lyp161 lyc161 = true := by decide +kernel
-- Model isDead ((a, 94), i, i, i)
theorem lyk162 : ly_chk sx_T sx_KK m_tt m_cl ly_TH ly_Y 294 6000 lyp162 lyc162 = true := by decide +kernel
-- Model kinOn ((a, 94), i, i, i)
theorem lyk163 : ly_chk sx_T sx_KK m_tt m_cl ly_TH ly_Y 295 6000 lyp163 lyc163 = true := by decide +kernel
