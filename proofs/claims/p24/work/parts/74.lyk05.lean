/-! PRINTED by wip/p2/lyprint.py -/
--  keep ((a, 16), i) (326)
theorem lyk70 : ly_chk sx_T sx_KK m_tt m_cl ly_TH ly_Y 187 6000 lyp70 lyc70 = true := by decide +kernel
--  settle ((a, 16), i) (156)
theorem lyk71 : ly_chk sx_T sx_KK m_tt m_cl ly_TH ly_Y 188 6000 lyp71 lyc71 = true := by decide +kernel
-- $Docket settleDeed ((a, 44), j, i, i) (1552)
theorem lyk72 : ly_chk sx_T sx_KK m_tt m_cl ly_TH ly_Y 189 6000 lyp72 lyc72 = true := by decide +kernel
--  pardon ((a, 16), i, i, i) (420)
theorem lyk73 : ly_chk sx_T sx_KK m_tt m_cl ly_TH ly_Y 190 6000 lyp73 lyc73 = true := by decide +kernel
--  undo ((a, 16), i) (1410)
theorem lyk74 : ly_chk sx_T sx_KK m_tt m_cl ly_TH ly_Y 191 6000 lyp74 lyc74 = true := by decide +kernel
--  commit ((a, 16), i, i) (216)
theorem lyk75 : ly_chk sx_T sx_KK m_tt m_cl ly_TH ly_Y 192 6000 lyp75 lyc75 = true := by decide +kernel
-- $Gaols countIn ((a, 59), i) (40)
theorem lyk76 : ly_chk sx_T sx_KK m_tt m_cl ly_TH ly_Y 195 6000 lyp76 lyc76 = true := by decide +kernel
--  bail ((a, 16), i) (204)
theorem lyk77 : ly_chk sx_T sx_KK m_tt m_cl ly_TH ly_Y 196 6000 lyp77 lyc77 = true := by decide +kernel
--  deliver ((a, 16), i) (78)
theorem lyk78 : ly_chk sx_T sx_KK m_tt m_cl ly_TH ly_Y 198 6000 lyp78 lyc78 = true := by decide +kernel
-- $Gaols empty ((a, 59), i, (a, 44), i) (180)
theorem lyk79 : ly_chk sx_T sx_KK m_tt m_cl ly_TH ly_Y 199 6000 lyp79 lyc79 = true := by decide +kernel
-- $Docket holdingMatter ((a, 44), i) (948)
theorem lyk80 : ly_chk sx_T sx_KK m_tt m_cl ly_TH ly_Y 200 6000 lyp80 lyc80 = true := by decide +kernel
--  left ((a, 16), i, i) (12)
theorem lyk81 : ly_chk sx_T sx_KK m_tt m_cl ly_TH ly_Y 202 6000 lyp81 lyc81 = true := by decide +kernel
-- $Gaols tellOfLeft ((a, 59), i, i) (82)
theorem lyk82 : ly_chk sx_T sx_KK m_tt m_cl ly_TH ly_Y 203 6000 lyp82 lyc82 = true := by decide +kernel
--  prisoner ((a, 16), i, i) (160)
theorem lyk83 : ly_chk sx_T sx_KK m_tt m_cl ly_TH ly_Y 204 6000 lyp83 lyc83 = true := by decide +kernel
