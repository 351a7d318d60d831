/-! PRINTED by wip/p2/lyprint.py -/
-- Model landOn ((a, 94), i, i, i)
theorem lyk171 : ly_chk sx_T sx_KK m_tt m_cl ly_TH ly_Y 291 6000 lyp171 lyc171 = true := by decide +kernel
-- Model landOf ((a, 94), i, i, i)
theorem lyk172 : ly_chk sx_T sx_KK m_tt m_cl ly_TH ly_Y 292 6000 lyp172 lyc172 = true := by decide +kernel
-- Model deadOn ((a, 94), i, i, i)
theorem lyk173 : ly_chk sx_T sx_KK m_tt m_cl ly_TH ly_Y 293 6000 lyp173 lyc173 = true := by decide +kernel
-- Model isDead ((a, 94), i, i, i)
theorem lyk174 : ly_chk sx_T sx_KK m_tt m_cl ly_TH ly_Y 294 6000 lyp174 lyc174 = true := by decide +kernel
-- Model kinOn ((a, 94), i, i, i)
theorem lyk175 : ly_chk sx_T sx_KK m_tt m_cl ly_TH ly_Y 295 6000 lyp175 lyc175 = true := by decide +kernel
-- Model kinOf ((a, 94), i, i, i)
theorem lyk176 : ly_chk sx_T sx_KK m_tt m_cl ly_TH ly_Y 296 6000 lyp176 lyc176 = true := by decide +kernel
-- Model scan ((a, 94),)
theorem lyk178 : ly_chk sx_T sx_KK m_tt m_cl ly_TH ly_Y 299 6000 lyp178 lyc178 = true := by decide +kernel
-- $Circuit shorten ((a, 77), i, i, i)
theorem lyk179 : ly_chk sx_T sx_KK m_tt m_cl ly_TH ly_Y 30 6000 lyp179 lyc179 = true := by decide +kernel
-- Model readClause ((a, 94),)
theorem lyk181 : ly_chk sx_T sx_KK m_tt m_cl ly_TH ly_Y 304 6000 lyp181 lyc181 = true := by decide +kernel
-- Model isTold ((a, 94), i, (j,), i)
theorem lyk182 : ly_chk sx_T sx_KK m_tt m_cl ly_TH ly_Y 307 6000 lyp182 lyc182 = true := by decide +kernel
-- Model readDeed ((a, 94), i)
theorem lyk183 : ly_chk sx_T sx_KK m_tt m_cl ly_TH ly_Y 308 6000 lyp183 lyc183 = true := by decide +kernel
--  pass ((a, 16), i)
theorem lyk185 : ly_chk sx_T sx_KK m_tt m_cl ly_TH ly_Y 31 6000 lyp185 lyc185 = true := by decide +kernel
