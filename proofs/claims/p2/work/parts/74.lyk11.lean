/-! PRINTED by wip/p2/lyprint.py -/
-- $Docket hasBarredJuror ((a, 44), (m, 0), i)
theorem lyk139 : ly_chk sx_T sx_KK m_tt m_cl ly_TH ly_Y 265 6000 lyp139 lyc139 = true := by decide +kernel
--  count ((a, 16), i)
theorem lyk140 : ly_chk sx_T sx_KK m_tt m_cl ly_TH ly_Y 266 6000 lyp140 lyc140 = true := by decide +kernel
-- $Docket countOfState ((a, 44), i)
theorem lyk141 : ly_chk sx_T sx_KK m_tt m_cl ly_TH ly_Y 267 6000 lyp141 lyc141 = true := by decide +kernel
-- Model end ((a, 94), i)
theorem lyk143 : ly_chk sx_T sx_KK m_tt m_cl ly_TH ly_Y 270 6000 lyp143 lyc143 = true := by decide +kernel
-- Model road ((a, 94), i, i, i)
theorem lyk144 : ly_chk sx_T sx_KK m_tt m_cl ly_TH ly_Y 271 6000 lyp144 lyc144 = true := by decide +kernel
-- Model person ((a, 94), i, i)
theorem lyk145 : ly_chk sx_T sx_KK m_tt m_cl ly_TH ly_Y 274 6000 lyp145 lyc145 = true := by decide +kernel
-- Model land ((a, 94), i, i, i)
theorem lyk146 : ly_chk sx_T sx_KK m_tt m_cl ly_TH ly_Y 275 6000 lyp146 lyc146 = true := by decide +kernel
-- Model tell ((a, 94), i, i, i, i, i)
theorem lyk147 : ly_chk sx_T sx_KK m_tt m_cl ly_TH ly_Y 278 6000 lyp147 lyc147 = true := by decide +kernel
-- Model dead ((a, 94), i, i)
theorem lyk148 : ly_chk sx_T sx_KK m_tt m_cl ly_TH ly_Y 279 6000 lyp148 lyc148 = true := by decide +kernel
-- $Circuit setRoad ((a, 77), i, i, i)
theorem lyk149 : ly_chk sx_T sx_KK m_tt m_cl ly_TH ly_Y 28 6000 lyp149 lyc149 = true := by decide +kernel
-- Model kin ((a, 94), i, i, i)
theorem lyk150 : ly_chk sx_T sx_KK m_tt m_cl ly_TH ly_Y 280 6000 lyp150 lyc150 = true := by decide +kernel
-- Model tellsAt ((a, 94), i, (j,), i, i)
theorem lyk151 : ly_chk sx_T sx_KK m_tt m_cl ly_TH ly_Y 283 6000 lyp151 lyc151 = true := by decide +kernel
