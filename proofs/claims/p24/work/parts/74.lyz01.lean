/-! PRINTED by wip/p2/lyprint.py -/
-- Model readClause ((a, 94), (g, K)) (8262)
theorem lyk218 : ly_chk sx_T sx_KK m_tt m_cl ly_TH ly_Y 304 6000 lyp218 lyc218 = true := by decide +kernel
