/-! PRINTED by wip/p2/lyprint.py -/
-- Model readTest ((a, 94), (g, K)) (502)
theorem lyk238 : ly_chk sx_T sx_KK m_tt m_cl ly_TH ly_Y 312 6000 lyp238 lyc238 = true := by decide +kernel
