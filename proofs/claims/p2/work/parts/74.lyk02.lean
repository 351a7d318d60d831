/-! PRINTED by wip/p2/lyprint.py -/
-- $Law testsMet ((a, 30), i, (m, 4))
theorem lyk25 : ly_chk sx_T sx_KK m_tt m_cl ly_TH ly_Y 123 6000 lyp25 lyc25 = true := by decide +kernel
-- $Law testsMet ((a, 30), i, (m, 7))
theorem lyk26 : ly_chk sx_T sx_KK m_tt m_cl ly_TH ly_Y 123 6000 lyp26 lyc26 = true := by decide +kernel
-- $Law holds ((j,), i, i)
theorem lyk27 : ly_chk sx_T sx_KK m_tt m_cl ly_TH ly_Y 127 6000 lyp27 lyc27 = true := by decide +kernel
-- $Law lacking ((a, 30), i, i)
theorem lyk28 : ly_chk sx_T sx_KK m_tt m_cl ly_TH ly_Y 128 6000 lyp28 lyc28 = true := by decide +kernel
-- $Law holdsWith ((a, 30), i, i)
theorem lyk29 : ly_chk sx_T sx_KK m_tt m_cl ly_TH ly_Y 129 6000 lyp29 lyc29 = true := by decide +kernel
--  why ((a, 16), i)
theorem lyk30 : ly_chk sx_T sx_KK m_tt m_cl ly_TH ly_Y 130 6000 lyp30 lyc30 = true := by decide +kernel
--  crown ((a, 16), i, i, i, i)
theorem lyk31 : ly_chk sx_T sx_KK m_tt m_cl ly_TH ly_Y 131 6000 lyp31 lyc31 = true := by decide +kernel
--  plea ((a, 16), i, i, i, i, i, i)
theorem lyk33 : ly_chk sx_T sx_KK m_tt m_cl ly_TH ly_Y 137 6000 lyp33 lyc33 = true := by decide +kernel
--  words ((a, 16), i)
theorem lyk34 : ly_chk sx_T sx_KK m_tt m_cl ly_TH ly_Y 138 6000 lyp34 lyc34 = true := by decide +kernel
-- $Row readWords ((m, 1), (a, 17))
theorem lyk35 : ly_chk sx_T sx_KK m_tt m_cl ly_TH ly_Y 140 6000 lyp35 lyc35 = true := by decide +kernel
--  allege ((a, 16), i)
theorem lyk36 : ly_chk sx_T sx_KK m_tt m_cl ly_TH ly_Y 141 6000 lyp36 lyc36 = true := by decide +kernel
-- $Row copyFrom ((m, 1), (a, 56))
theorem lyk37 : ly_chk sx_T sx_KK m_tt m_cl ly_TH ly_Y 142 6000 lyp37 lyc37 = true := by decide +kernel
