/-! PRINTED by wip/p2/lyprint.py -/
-- Model readOne ((a, 94), (g, E)) (30)
theorem lyk231 : ly_chk sx_T sx_KK m_tt m_cl ly_TH ly_Y 311 6000 lyp231 lyc231 = true := by decide +kernel
