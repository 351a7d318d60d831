/-! PRINTED by wip/p2/lyprint.py -/
-- Model readAll ((a, 94), (g, E)) (10)
theorem lyk231 : ly_chk sx_T sx_KK m_tt m_cl ly_TH ly_Y 310 6000 lyp231 lyc231 = true := by decide +kernel
