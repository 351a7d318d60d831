/-! PRINTED by wip/p2/lyprint.py -/
-- $Docket kinFoundLater ((a, 44), i, i, i, i) (15196)
theorem lyk354 : ly_chk sx_T sx_KK m_tt m_cl ly_TH ly_Y 45 6000 lyp354 lyc354 = true := by decide +kernel
