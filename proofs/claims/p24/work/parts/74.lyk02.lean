/-! PRINTED by wip/p2/lyprint.py -/
-- $Law holds (j, i, i) (126)
theorem lyk28 : ly_chk sx_T sx_KK m_tt m_cl ly_TH ly_Y 127 6000 lyp28 lyc28 = true := by decide +kernel
-- $Law lacking ((a, 30), i, i) (80)
theorem lyk29 : ly_chk sx_T sx_KK m_tt m_cl ly_TH ly_Y 128 6000 lyp29 lyc29 = true := by decide +kernel
-- $Law holdsWith ((a, 30), i, i) (328)
theorem lyk30 : ly_chk sx_T sx_KK m_tt m_cl ly_TH ly_Y 129 6000 lyp30 lyc30 = true := by decide +kernel
--  why ((a, 16), i) (28)
theorem lyk31 : ly_chk sx_T sx_KK m_tt m_cl ly_TH ly_Y 130 6000 lyp31 lyc31 = true := by decide +kernel
--  crown ((a, 16), i, i, i, i) (274)
theorem lyk32 : ly_chk sx_T sx_KK m_tt m_cl ly_TH ly_Y 131 6000 lyp32 lyc32 = true := by decide +kernel
--  beginMatter ((a, 16), i, i, i, i, i, i) (262)
theorem lyk33 : mk_chk sx_KK ly_Y 6000 ([(0, 7, (0, [])), (2, 768, (0, [])), (2, 261, (0, []))], 11, [(0, (-1), 119), (1, 0, 119), (2, 0, 5), (3, 0, 9), (4, 0, 399), (5, 0, 9999), (6, 177, 2077), (7, 0, 99), (8, (-9223372036854775808), 9223372036854775807), (9, 1, 1), (10, 1, 1)], [((-177), [(6, 1), (7, (-19))]), (177, [(6, (-1)), (7, 19)]), ((-177), [(6, 1), (7, (-19))]), (177, [(6, (-1)), (7, 19)])], [(0, .inr (.inr (.inl (some 16)))), (1, .inl (0, [(0, 1)])), (2, .inl (0, [(1, 1)])), (3, .inl (0, [(2, 1)])), (4, .inl (0, [(3, 1)])), (5, .inl (0, [(4, 1)])), (6, .inl (0, [(5, 1)])), (7, .inr (.inl (0, [(8, 1)])))], [], [(768, (0, []), (0, [(9, 1)])), (261, (0, []), (0, [(10, 1)])), (60002, (0, []), (0, [(6, 1)])), (7170, (0, []), (0, [(7, 1)]))]) (0, [(7, 1)]) lyc33 = true := by decide +kernel
--  plea ((a, 16), i, i, i, i, i, i) (380)
theorem lyk34 : ly_chk sx_T sx_KK m_tt m_cl ly_TH ly_Y 137 6000 lyp34 lyc34 = true := by decide +kernel
--  words ((a, 16), i) (216)
theorem lyk35 : ly_chk sx_T sx_KK m_tt m_cl ly_TH ly_Y 138 6000 lyp35 lyc35 = true := by decide +kernel
-- $Row readWords ((m, 1), (a, 17)) (254)
theorem lyk36 : ly_chk sx_T sx_KK m_tt m_cl ly_TH ly_Y 140 6000 lyp36 lyc36 = true := by decide +kernel
--  allege ((a, 16), i) (226)
theorem lyk37 : ly_chk sx_T sx_KK m_tt m_cl ly_TH ly_Y 141 6000 lyp37 lyc37 = true := by decide +kernel
-- $Row copyFrom ((m, 1), (a, 56)) (66)
theorem lyk38 : ly_chk sx_T sx_KK m_tt m_cl ly_TH ly_Y 142 6000 lyp38 lyc38 = true := by decide +kernel
-- $Row copyFrom ((m, 4), (a, 91)) (66)
theorem lyk39 : ly_chk sx_T sx_KK m_tt m_cl ly_TH ly_Y 142 6000 lyp39 lyc39 = true := by decide +kernel
-- $Row copyFrom ((m, 7), (a, 91)) (66)
theorem lyk40 : ly_chk sx_T sx_KK m_tt m_cl ly_TH ly_Y 142 6000 lyp40 lyc40 = true := by decide +kernel
--  bad ((a, 16), i) (192)
theorem lyk41 : ly_chk sx_T sx_KK m_tt m_cl ly_TH ly_Y 143 6000 lyp41 lyc41 = true := by decide +kernel
