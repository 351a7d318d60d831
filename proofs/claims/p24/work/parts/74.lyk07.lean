/-! PRINTED by wip/p2/lyprint.py -/
--  best ((a, 16), i) (64)
theorem lyk98 : ly_chk sx_T sx_KK m_tt m_cl ly_TH ly_Y 219 6000 lyp98 lyc98 = true := by decide +kernel
-- $DayOrder layBest ((a, 71), i, (a, 44)) (56)
theorem lyk99 : ly_chk sx_T sx_KK m_tt m_cl ly_TH ly_Y 220 6000 lyp99 lyc99 = true := by decide +kernel
-- $DayOrder mostByHours ((a, 71), i, (a, 44)) (86)
theorem lyk100 : ly_chk sx_T sx_KK m_tt m_cl ly_TH ly_Y 221 6000 lyp100 lyc100 = true := by decide +kernel
-- $DayOrder prepare ((a, 71), i, (a, 44)) (1660)
theorem lyk101 : ly_chk sx_T sx_KK m_tt m_cl ly_TH ly_Y 222 6000 lyp101 lyc101 = true := by decide +kernel
-- $Matter sharesPeople ((m, 0), (m, 0)) (838)
theorem lyk102 : ly_chk sx_T sx_KK m_tt m_cl ly_TH ly_Y 223 6000 lyp102 lyc102 = true := by decide +kernel
-- $DayOrder mostLaid ((a, 71), i) (150)
theorem lyk103 : ly_chk sx_T sx_KK m_tt m_cl ly_TH ly_Y 224 6000 lyp103 lyc103 = true := by decide +kernel
-- $DayOrder soonest ((a, 71), i, i) (50)
theorem lyk104 : ly_chk sx_T sx_KK m_tt m_cl ly_TH ly_Y 225 6000 lyp104 lyc104 = true := by decide +kernel
-- $DayOrder fits ((a, 71), i, i) (168)
theorem lyk105 : ly_chk sx_T sx_KK m_tt m_cl ly_TH ly_Y 226 6000 lyp105 lyc105 = true := by decide +kernel
-- $DayOrder tryFrom ((a, 71), i, i) (114)
theorem lyk106 : ly_chk sx_T sx_KK m_tt m_cl ly_TH ly_Y 227 6000 lyp106 lyc106 = true := by decide +kernel
--  laid ((a, 16), i) (58)
theorem lyk107 : ly_chk sx_T sx_KK m_tt m_cl ly_TH ly_Y 228 6000 lyp107 lyc107 = true := by decide +kernel
-- $Tape addInt ((a, 17), i) (56)
theorem lyk108 : ly_chk sx_T sx_KK m_tt m_cl ly_TH ly_Y 23 6000 lyp108 lyc108 = true := by decide +kernel
--  bound ((a, 16), i) (64)
theorem lyk109 : ly_chk sx_T sx_KK m_tt m_cl ly_TH ly_Y 230 6000 lyp109 lyc109 = true := by decide +kernel
--  prove ((a, 16), i) (94)
theorem lyk110 : ly_chk sx_T sx_KK m_tt m_cl ly_TH ly_Y 231 6000 lyp110 lyc110 = true := by decide +kernel
-- $DayOrder laidRightly ((a, 71), (a, 17), i, i, (a, 44)) (142)
theorem lyk111 : ly_chk sx_T sx_KK m_tt m_cl ly_TH ly_Y 232 6000 lyp111 lyc111 = true := by decide +kernel
