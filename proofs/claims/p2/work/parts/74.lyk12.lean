/-! PRINTED by wip/p2/lyprint.py -/
-- $Docket setRight ((a, 44), i, i, i, i)
theorem lyk147 : ly_chk sx_T sx_KK m_tt m_cl ly_TH ly_Y 260 6000 lyp147 lyc147 = true := by decide +kernel
--  stateOn ((a, 16), i, i, i)
theorem lyk148 : ly_chk sx_T sx_KK m_tt m_cl ly_TH ly_Y 261 6000 lyp148 lyc148 = true := by decide +kernel
-- $Docket stateAsKnown ((a, 44), i, i, i)
theorem lyk149 : ly_chk sx_T sx_KK m_tt m_cl ly_TH ly_Y 262 6000 lyp149 lyc149 = true := by decide +kernel
--  check ((a, 16), i)
theorem lyk150 : ly_chk sx_T sx_KK m_tt m_cl ly_TH ly_Y 263 6000 lyp150 lyc150 = true := by decide +kernel
-- $Docket hasBarredJuror ((a, 44), (m, 0), i)
theorem lyk151 : ly_chk sx_T sx_KK m_tt m_cl ly_TH ly_Y 265 6000 lyp151 lyc151 = true := by decide +kernel
--  count ((a, 16), i)
theorem lyk152 : ly_chk sx_T sx_KK m_tt m_cl ly_TH ly_Y 266 6000 lyp152 lyc152 = true := by decide +kernel
-- $Docket countOfState ((a, 44), i)
theorem lyk153 : ly_chk sx_T sx_KK m_tt m_cl ly_TH ly_Y 267 6000 lyp153 lyc153 = true := by decide +kernel
-- Model feed ((a, 94), i, i, i, i, i)
theorem lyk154 : ly_chk sx_T sx_KK m_tt m_cl ly_TH ly_Y 269 6000 lyp154 lyc154 = true := by decide +kernel
-- Model end ((a, 94), i)
theorem lyk155 : ly_chk sx_T sx_KK m_tt m_cl ly_TH ly_Y 270 6000 lyp155 lyc155 = true := by decide +kernel
-- Model road ((a, 94), i, i, i)
theorem lyk156 : ly_chk sx_T sx_KK m_tt m_cl ly_TH ly_Y 271 6000 lyp156 lyc156 = true := by decide +kernel
-- Model person ((a, 94), i, i)
theorem lyk157 : ly_chk sx_T sx_KK m_tt m_cl ly_TH ly_Y 274 6000 lyp157 lyc157 = true := by decide +kernel
-- Model land ((a, 94), i, i, i)
theorem lyk158 : ly_chk sx_T sx_KK m_tt m_cl ly_TH ly_Y 275 6000 lyp158 lyc158 = true := by decide +kernel
