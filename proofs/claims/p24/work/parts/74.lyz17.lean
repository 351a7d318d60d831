/-! PRINTED by wip/p2/lyprint.py -/
-- Model readTest ((a, 94), (g, O)) (510)
theorem lyk236 : ly_chk sx_T sx_KK m_tt m_cl ly_TH ly_Y 312 6000 lyp236 lyc236 = true := by decide +kernel
