/-! PRINTED by wip/p2/lyprint.py -/
-- Model kinOf ((a, 94), i, i, i)
theorem lyk164 : ly_chk sx_T sx_KK m_tt m_cl ly_TH ly_Y 296 6000 lyp164 lyc164 = true := by decide +kernel
-- $Circuit shorten ((a, 77), i, i, i)
theorem lyk167 : ly_chk sx_T sx_KK m_tt m_cl ly_TH ly_Y 30 6000 lyp167 lyc167 = true := by decide +kernel
-- Model readClause ((a, 94),)
theorem lyk169 : ly_chk sx_T sx_KK m_tt m_cl ly_TH ly_Y 304 6000 lyp169 lyc169 = true := by decide +kernel
-- Model isTold ((a, 94), i, (j,), i)
theorem lyk170 : ly_chk sx_T sx_KK m_tt m_cl ly_TH ly_Y 307 6000 lyp170 lyc170 = true := by decide +kernel
-- Model readDeed ((a, 94), i)
theorem lyk171 : ly_chk sx_T sx_KK m_tt m_cl ly_TH ly_Y 308 6000 lyp171 lyc171 = true := by decide +kernel
--  pass ((a, 16), i)
theorem lyk173 : ly_chk sx_T sx_KK m_tt m_cl ly_TH ly_Y 31 6000 lyp173 lyc173 = true := by decide +kernel
-- Model readNumber ((a, 94), i, i, i)
theorem lyk178 : ly_chk sx_T sx_KK m_tt m_cl ly_TH ly_Y 317 6000 lyp178 lyc178 = true := by decide +kernel
-- Model readStrike ((a, 94), i)
theorem lyk179 : ly_chk sx_T sx_KK m_tt m_cl ly_TH ly_Y 318 6000 lyp179 lyc179 = true := by decide +kernel
-- Model fault ((a, 94), i)
theorem lyk180 : ly_chk sx_T sx_KK m_tt m_cl ly_TH ly_Y 319 6000 lyp180 lyc180 = true := by decide +kernel
-- $Gaols runOut ((a, 59), i, (a, 22))
theorem lyk181 : ly_chk sx_T sx_KK m_tt m_cl ly_TH ly_Y 32 6000 lyp181 lyc181 = true := by decide +kernel
-- Model told ((a, 94), i, i)
theorem lyk182 : ly_chk sx_T sx_KK m_tt m_cl ly_TH ly_Y 320 6000 lyp182 lyc182 = true := by decide +kernel
-- Model law ((a, 94), i, i, i)
theorem lyk183 : ly_chk sx_T sx_KK m_tt m_cl ly_TH ly_Y 321 6000 lyp183 lyc183 = true := by decide +kernel
