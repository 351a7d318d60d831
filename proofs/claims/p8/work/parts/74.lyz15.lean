/-! PRINTED by wip/p2/lyprint.py -/
-- Model readTest ((a, 94), (g, E)) (42)
theorem lyk237 : ly_chk sx_T sx_KK m_tt m_cl ly_TH ly_Y 312 6000 lyp237 lyc237 = true := by decide +kernel
