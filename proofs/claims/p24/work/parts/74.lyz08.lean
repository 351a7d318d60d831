/-! PRINTED by wip/p2/lyprint.py -/
-- Model readCond ((a, 94), (g, O)) (342)
theorem lyk226 : ly_chk sx_T sx_KK m_tt m_cl ly_TH ly_Y 309 6000 lyp226 lyc226 = true := by decide +kernel
