/-! PRINTED by wip/p2/lyprint.py -/
-- Model hear ((a, 94), i) (9972)
theorem lyk296 : ly_chk sx_T sx_KK m_tt m_cl ly_TH ly_Y 367 6000 lyp296 lyc296 = true := by decide +kernel
