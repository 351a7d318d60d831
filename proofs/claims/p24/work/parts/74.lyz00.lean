/-! PRINTED by wip/p2/lyprint.py -/
-- Model act ((a, 94), i, i) (1062)
theorem lyk214 : ly_chk sx_T sx_KK m_tt m_cl ly_TH ly_Y 297 6000 lyp214 lyc214 = true := by decide +kernel
