/-! PRINTED by wip/p2/lyprint.py -/
-- java/lang/Integer bitCount (i,) (84)
theorem lyk14 : ly_chk sx_T sx_KK m_tt m_cl ly_TH ly_Y 119 6000 lyp14 lyc14 = true := by decide +kernel
--  weigh ((a, 16), i, i) (330)
theorem lyk15 : ly_chk sx_T sx_KK m_tt m_cl ly_TH ly_Y 120 6000 lyp15 lyc15 = true := by decide +kernel
-- $Row readFacts ((a, 91), (a, 17), i) (452)
theorem lyk16 : ly_chk sx_T sx_KK m_tt m_cl ly_TH ly_Y 121 6000 lyp16 lyc16 = true := by decide +kernel
-- $Row add ((a, 56), j, i) (56)
theorem lyk17 : ly_chk sx_T sx_KK m_tt m_cl ly_TH ly_Y 122 6000 lyp17 lyc17 = true := by decide +kernel
-- $Row add ((a, 91), j, i) (56)
theorem lyk18 : ly_chk sx_T sx_KK m_tt m_cl ly_TH ly_Y 122 6000 lyp18 lyc18 = true := by decide +kernel
-- $Row add ((m, 1), j, i) (56)
theorem lyk19 : ly_chk sx_T sx_KK m_tt m_cl ly_TH ly_Y 122 6000 lyp19 lyc19 = true := by decide +kernel
-- $Row add ((m, 10), j, i) (56)
theorem lyk20 : ly_chk sx_T sx_KK m_tt m_cl ly_TH ly_Y 122 6000 lyp20 lyc20 = true := by decide +kernel
-- $Row add ((m, 13), j, i) (56)
theorem lyk21 : ly_chk sx_T sx_KK m_tt m_cl ly_TH ly_Y 122 6000 lyp21 lyc21 = true := by decide +kernel
-- $Row add ((m, 16), j, i) (56)
theorem lyk22 : ly_chk sx_T sx_KK m_tt m_cl ly_TH ly_Y 122 6000 lyp22 lyc22 = true := by decide +kernel
-- $Row add ((m, 4), j, i) (56)
theorem lyk23 : ly_chk sx_T sx_KK m_tt m_cl ly_TH ly_Y 122 6000 lyp23 lyc23 = true := by decide +kernel
-- $Row add ((m, 7), j, i) (56)
theorem lyk24 : ly_chk sx_T sx_KK m_tt m_cl ly_TH ly_Y 122 6000 lyp24 lyc24 = true := by decide +kernel
-- $Law testsMet ((a, 30), i, (a, 91)) (396)
theorem lyk25 : ly_chk sx_T sx_KK m_tt m_cl ly_TH ly_Y 123 6000 lyp25 lyc25 = true := by decide +kernel
-- $Law testsMet ((a, 30), i, (m, 4)) (396)
theorem lyk26 : ly_chk sx_T sx_KK m_tt m_cl ly_TH ly_Y 123 6000 lyp26 lyc26 = true := by decide +kernel
-- $Law testsMet ((a, 30), i, (m, 7)) (396)
theorem lyk27 : ly_chk sx_T sx_KK m_tt m_cl ly_TH ly_Y 123 6000 lyp27 lyc27 = true := by decide +kernel
