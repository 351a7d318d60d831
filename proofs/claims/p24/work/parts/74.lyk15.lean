/-! PRINTED by wip/p2/lyprint.py -/
-- Model deadOn ((a, 94), i, i, i) (186)
theorem lyk210 : ly_chk sx_T sx_KK m_tt m_cl ly_TH ly_Y 293 6000 lyp210 lyc210 = true := by decide +kernel
-- Model isDead ((a, 94), i, i, i) (72)
theorem lyk211 : ly_chk sx_T sx_KK m_tt m_cl ly_TH ly_Y 294 6000 lyp211 lyc211 = true := by decide +kernel
-- Model kinOn ((a, 94), i, i, i) (190)
theorem lyk212 : ly_chk sx_T sx_KK m_tt m_cl ly_TH ly_Y 295 6000 lyp212 lyc212 = true := by decide +kernel
-- Model kinOf ((a, 94), i, i, i) (106)
theorem lyk213 : ly_chk sx_T sx_KK m_tt m_cl ly_TH ly_Y 296 6000 lyp213 lyc213 = true := by decide +kernel
-- Model scan ((a, 94),) (1964)
theorem lyk215 : ly_chk sx_T sx_KK m_tt m_cl ly_TH ly_Y 299 6000 lyp215 lyc215 = true := by decide +kernel
-- $Circuit shorten ((a, 77), i, i, i) (112)
theorem lyk216 : ly_chk sx_T sx_KK m_tt m_cl ly_TH ly_Y 30 6000 lyp216 lyc216 = true := by decide +kernel
