/-! PRINTED by wip/p2/lyprint.py -/
-- Model readDeed ((a, 94), i, (g, O)) (932)
theorem lyk223 : ly_chk sx_T sx_KK m_tt m_cl ly_TH ly_Y 308 6000 lyp223 lyc223 = true := by decide +kernel
