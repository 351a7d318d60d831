/-! PRINTED by wip/p2/lyprint.py -/
-- $ActReader readClosings ((a, 40),) (274)
theorem lyk395 : ly_chk sx_T sx_KK m_tt m_cl ly_TH ly_Y 99 6000 lyp395 lyc395 = true := by decide +kernel
