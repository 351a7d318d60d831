/-! PRINTED by wip/p2/lyprint.py -/
--  witness ((a, 16), i, i)
theorem lyk50 : ly_chk sx_T sx_KK m_tt m_cl ly_TH ly_Y 155 6000 lyp50 lyc50 = true := by decide +kernel
--  may ((a, 16), i, i)
theorem lyk51 : ly_chk sx_T sx_KK m_tt m_cl ly_TH ly_Y 158 6000 lyp51 lyc51 = true := by decide +kernel
-- $Docket isFit ((a, 44), (m, 0), i, i, i, i, i)
theorem lyk52 : ly_chk sx_T sx_KK m_tt m_cl ly_TH ly_Y 160 6000 lyp52 lyc52 = true := by decide +kernel
--  list ((a, 16), i)
theorem lyk53 : ly_chk sx_T sx_KK m_tt m_cl ly_TH ly_Y 163 6000 lyp53 lyc53 = true := by decide +kernel
-- $Docket findDrawable ((a, 44), (m, 0), i)
theorem lyk54 : ly_chk sx_T sx_KK m_tt m_cl ly_TH ly_Y 165 6000 lyp54 lyc54 = true := by decide +kernel
--  draw ((a, 16), i, i)
theorem lyk55 : ly_chk sx_T sx_KK m_tt m_cl ly_TH ly_Y 166 6000 lyp55 lyc55 = true := by decide +kernel
--  challenge ((a, 16), i, i)
theorem lyk56 : ly_chk sx_T sx_KK m_tt m_cl ly_TH ly_Y 168 6000 lyp56 lyc56 = true := by decide +kernel
-- $Row removeAt ((m, 13), i)
theorem lyk57 : ly_chk sx_T sx_KK m_tt m_cl ly_TH ly_Y 169 6000 lyp57 lyc57 = true := by decide +kernel
-- java/util/Arrays fill ((a, 76), i)
theorem lyk58 : ly_chk sx_T sx_KK m_tt m_cl ly_TH ly_Y 17 6000 lyp58 lyc58 = true := by decide +kernel
-- java/util/Arrays fill ((a, 89), i)
theorem lyk59 : ly_chk sx_T sx_KK m_tt m_cl ly_TH ly_Y 17 6000 lyp59 lyc59 = true := by decide +kernel
--  full ((a, 16), i)
theorem lyk60 : ly_chk sx_T sx_KK m_tt m_cl ly_TH ly_Y 170 6000 lyp60 lyc60 = true := by decide +kernel
-- $Docket jurorsOfHundred ((a, 44), (m, 0))
theorem lyk61 : ly_chk sx_T sx_KK m_tt m_cl ly_TH ly_Y 173 6000 lyp61 lyc61 = true := by decide +kernel
