/-! PRINTED by wip/p2/lyprint.py -/
-- $Rolls costOfRow ((a, 85), (c, 7)) (2672)
theorem lyk140 : ly_chk sx_T sx_KK m_tt m_cl ly_TH ly_Y 252 6000 lyp140 lyc140 = true := by decide +kernel
-- $Rolls writeRows ((a, 85),) (2200)
theorem lyk141 : ly_chk sx_T sx_KK m_tt m_cl ly_TH ly_Y 255 6000 lyp141 lyc141 = true := by decide +kernel
--  joined ((a, 16), i, i) (12)
theorem lyk142 : ly_chk sx_T sx_KK m_tt m_cl ly_TH ly_Y 256 6000 lyp142 lyc142 = true := by decide +kernel
-- $Rolls tellOfRow ((a, 85), i, i) (98)
theorem lyk143 : ly_chk sx_T sx_KK m_tt m_cl ly_TH ly_Y 257 6000 lyp143 lyc143 = true := by decide +kernel
-- $Rolls isSure ((a, 85), i) (118)
theorem lyk144 : ly_chk sx_T sx_KK m_tt m_cl ly_TH ly_Y 258 6000 lyp144 lyc144 = true := by decide +kernel
--  putRight ((a, 16), i, i, i) (156)
theorem lyk145 : ly_chk sx_T sx_KK m_tt m_cl ly_TH ly_Y 259 6000 lyp145 lyc145 = true := by decide +kernel
--  road ((a, 16), i, i, i) (170)
theorem lyk146 : ly_chk sx_T sx_KK m_tt m_cl ly_TH ly_Y 26 6000 lyp146 lyc146 = true := by decide +kernel
-- $Docket setRight ((a, 44), i, i, i, i) (64)
theorem lyk147 : ly_chk sx_T sx_KK m_tt m_cl ly_TH ly_Y 260 6000 lyp147 lyc147 = true := by decide +kernel
--  stateOn ((a, 16), i, i, i) (170)
theorem lyk148 : ly_chk sx_T sx_KK m_tt m_cl ly_TH ly_Y 261 6000 lyp148 lyc148 = true := by decide +kernel
-- $Docket stateAsKnown ((a, 44), i, i, i) (118)
theorem lyk149 : ly_chk sx_T sx_KK m_tt m_cl ly_TH ly_Y 262 6000 lyp149 lyc149 = true := by decide +kernel
--  check ((a, 16), i) (276)
theorem lyk150 : ly_chk sx_T sx_KK m_tt m_cl ly_TH ly_Y 263 6000 lyp150 lyc150 = true := by decide +kernel
-- $Docket hasBarredJuror ((a, 44), (m, 0), i) (172)
theorem lyk151 : ly_chk sx_T sx_KK m_tt m_cl ly_TH ly_Y 265 6000 lyp151 lyc151 = true := by decide +kernel
--  count ((a, 16), i) (234)
theorem lyk152 : ly_chk sx_T sx_KK m_tt m_cl ly_TH ly_Y 266 6000 lyp152 lyc152 = true := by decide +kernel
-- $Docket countOfState ((a, 44), i) (220)
theorem lyk153 : ly_chk sx_T sx_KK m_tt m_cl ly_TH ly_Y 267 6000 lyp153 lyc153 = true := by decide +kernel
