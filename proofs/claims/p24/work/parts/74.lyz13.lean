/-! PRINTED by wip/p2/lyprint.py -/
-- Model readOne ((a, 94), (g, K)) (692)
theorem lyk232 : ly_chk sx_T sx_KK m_tt m_cl ly_TH ly_Y 311 6000 lyp232 lyc232 = true := by decide +kernel
