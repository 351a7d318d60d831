/-! PRINTED by wip/p2/lyprint.py -/
--  undo ((a, 16), i)
theorem lyk74 : ly_chk sx_T sx_KK m_tt m_cl ly_TH ly_Y 191 6000 lyp74 lyc74 = true := by decide +kernel
--  commit ((a, 16), i, i)
theorem lyk75 : ly_chk sx_T sx_KK m_tt m_cl ly_TH ly_Y 192 6000 lyp75 lyc75 = true := by decide +kernel
-- $Gaols countIn ((a, 59), i)
theorem lyk76 : ly_chk sx_T sx_KK m_tt m_cl ly_TH ly_Y 195 6000 lyp76 lyc76 = true := by decide +kernel
--  bail ((a, 16), i)
theorem lyk77 : ly_chk sx_T sx_KK m_tt m_cl ly_TH ly_Y 196 6000 lyp77 lyc77 = true := by decide +kernel
--  deliver ((a, 16), i)
theorem lyk78 : ly_chk sx_T sx_KK m_tt m_cl ly_TH ly_Y 198 6000 lyp78 lyc78 = true := by decide +kernel
-- $Gaols empty ((a, 59), i, (a, 44), i)
theorem lyk79 : ly_chk sx_T sx_KK m_tt m_cl ly_TH ly_Y 199 6000 lyp79 lyc79 = true := by decide +kernel
-- $Docket holdingMatter ((a, 44), i)
theorem lyk80 : ly_chk sx_T sx_KK m_tt m_cl ly_TH ly_Y 200 6000 lyp80 lyc80 = true := by decide +kernel
--  left ((a, 16), i, i)
theorem lyk81 : ly_chk sx_T sx_KK m_tt m_cl ly_TH ly_Y 202 6000 lyp81 lyc81 = true := by decide +kernel
-- $Gaols tellOfLeft ((a, 59), i, i)
theorem lyk82 : ly_chk sx_T sx_KK m_tt m_cl ly_TH ly_Y 203 6000 lyp82 lyc82 = true := by decide +kernel
--  prisoner ((a, 16), i, i)
theorem lyk83 : ly_chk sx_T sx_KK m_tt m_cl ly_TH ly_Y 204 6000 lyp83 lyc83 = true := by decide +kernel
-- $Gaols daysWaited ((a, 59), i, i)
theorem lyk84 : ly_chk sx_T sx_KK m_tt m_cl ly_TH ly_Y 205 6000 lyp84 lyc84 = true := by decide +kernel
--  bond ((a, 16), i, i, i, i, i)
theorem lyk85 : ly_chk sx_T sx_KK m_tt m_cl ly_TH ly_Y 206 6000 lyp85 lyc85 = true := by decide +kernel
