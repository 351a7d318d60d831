/-! PRINTED by wip/p2/lyprint.py -/
-- Model readDeed ((a, 94), i, (g, E)) (34)
theorem lyk221 : ly_chk sx_T sx_KK m_tt m_cl ly_TH ly_Y 308 6000 lyp221 lyc221 = true := by decide +kernel
