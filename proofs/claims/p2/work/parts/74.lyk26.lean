/-! PRINTED by wip/p2/lyprint.py -/
-- $ActReader readSum ((a, 40),)
theorem lyk331 : ly_chk sx_T sx_KK m_tt m_cl ly_TH ly_Y 96 6000 lyp331 lyc331 = true := by decide +kernel
