/-! PRINTED by wip/p2/lyprint.py -/
-- Model readClause ((a, 94), (g, O)) (92)
theorem lyk222 : ly_chk sx_T sx_KK m_tt m_cl ly_TH ly_Y 304 6000 lyp222 lyc222 = true := by decide +kernel
-- Model isTold ((a, 94), i, j, i) (54)
theorem lyk223 : ly_chk sx_T sx_KK m_tt m_cl ly_TH ly_Y 307 6000 lyp223 lyc223 = true := by decide +kernel
-- Model readDeed ((a, 94), i, (g, E)) (34)
theorem lyk224 : ly_chk sx_T sx_KK m_tt m_cl ly_TH ly_Y 308 6000 lyp224 lyc224 = true := by decide +kernel
-- Model readDeed ((a, 94), i, (g, K)) (34)
theorem lyk225 : ly_chk sx_T sx_KK m_tt m_cl ly_TH ly_Y 308 6000 lyp225 lyc225 = true := by decide +kernel
