/-! PRINTED by wip/p2/lyprint.py -/
-- Model readOne ((a, 94), (g, O)) (494)
theorem lyk233 : ly_chk sx_T sx_KK m_tt m_cl ly_TH ly_Y 311 6000 lyp233 lyc233 = true := by decide +kernel
