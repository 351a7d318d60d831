/-! PRINTED by wip/p2/lyprint.py -/
-- Model readClause ((a, 94), (g, O)) (92)
theorem lyk219 : ly_chk sx_T sx_KK m_tt m_cl ly_TH ly_Y 304 6000 lyp219 lyc219 = true := by decide +kernel
