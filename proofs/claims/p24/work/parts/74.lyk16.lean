/-! PRINTED by wip/p2/lyprint.py -/
-- Model keyAt ((a, 94), i, i) (40818)
theorem lyk217 : ly_chk sx_T sx_KK m_tt m_cl ly_TH ly_Y 302 6000 lyp217 lyc217 = true := by decide +kernel
