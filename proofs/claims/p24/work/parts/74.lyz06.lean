/-! PRINTED by wip/p2/lyprint.py -/
-- Model readCond ((a, 94), (g, E)) (10)
theorem lyk224 : ly_chk sx_T sx_KK m_tt m_cl ly_TH ly_Y 309 6000 lyp224 lyc224 = true := by decide +kernel
