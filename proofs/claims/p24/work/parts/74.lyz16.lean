/-! PRINTED by wip/p2/lyprint.py -/
-- Model readTest ((a, 94), (g, K)) (502)
theorem lyk235 : ly_chk sx_T sx_KK m_tt m_cl ly_TH ly_Y 312 6000 lyp235 lyc235 = true := by decide +kernel
