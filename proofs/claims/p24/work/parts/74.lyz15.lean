/-! PRINTED by wip/p2/lyprint.py -/
-- Model readTest ((a, 94), (g, E)) (42)
theorem lyk234 : ly_chk sx_T sx_KK m_tt m_cl ly_TH ly_Y 312 6000 lyp234 lyc234 = true := by decide +kernel
