/-! PRINTED by wip/p2/lyprint.py -/
-- Model readDeed ((a, 94), i, (g, O)) (932)
theorem lyk226 : ly_chk sx_T sx_KK m_tt m_cl ly_TH ly_Y 308 6000 lyp226 lyc226 = true := by decide +kernel
