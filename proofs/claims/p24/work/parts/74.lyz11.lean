/-! PRINTED by wip/p2/lyprint.py -/
-- Model readAll ((a, 94), (g, O)) (342)
theorem lyk230 : ly_chk sx_T sx_KK m_tt m_cl ly_TH ly_Y 310 6000 lyp230 lyc230 = true := by decide +kernel
