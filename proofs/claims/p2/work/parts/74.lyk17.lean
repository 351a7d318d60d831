/-! PRINTED by wip/p2/lyprint.py -/
-- Model isTold ((a, 94), i, j, i) (54)
theorem lyk223 : ly_chk sx_T sx_KK m_tt m_cl ly_TH ly_Y 307 6000 lyp223 lyc223 = true := by decide +kernel
-- Model readCond ((a, 94), (g, E)) (10)
theorem lyk227 : ly_chk sx_T sx_KK m_tt m_cl ly_TH ly_Y 309 6000 lyp227 lyc227 = true := by decide +kernel
-- Model readCond ((a, 94), (g, K)) (342)
theorem lyk228 : ly_chk sx_T sx_KK m_tt m_cl ly_TH ly_Y 309 6000 lyp228 lyc228 = true := by decide +kernel
-- Model readCond ((a, 94), (g, O)) (342)
theorem lyk229 : ly_chk sx_T sx_KK m_tt m_cl ly_TH ly_Y 309 6000 lyp229 lyc229 = true := by decide +kernel
--  pass ((a, 16), i) (88)
theorem lyk230 : ly_chk sx_T sx_KK m_tt m_cl ly_TH ly_Y 31 6000 lyp230 lyc230 = true := by decide +kernel
-- Model readAll ((a, 94), (g, E)) (10)
theorem lyk231 : ly_chk sx_T sx_KK m_tt m_cl ly_TH ly_Y 310 6000 lyp231 lyc231 = true := by decide +kernel
-- Model readAll ((a, 94), (g, K)) (342)
theorem lyk232 : ly_chk sx_T sx_KK m_tt m_cl ly_TH ly_Y 310 6000 lyp232 lyc232 = true := by decide +kernel
-- Model readAll ((a, 94), (g, O)) (342)
theorem lyk233 : ly_chk sx_T sx_KK m_tt m_cl ly_TH ly_Y 310 6000 lyp233 lyc233 = true := by decide +kernel
-- Model readOne ((a, 94), (g, E)) (30)
theorem lyk234 : ly_chk sx_T sx_KK m_tt m_cl ly_TH ly_Y 311 6000 lyp234 lyc234 = true := by decide +kernel
-- Model readOne ((a, 94), (g, K)) (692)
theorem lyk235 : ly_chk sx_T sx_KK m_tt m_cl ly_TH ly_Y 311 6000 lyp235 lyc235 = true := by decide +kernel
-- Model readOne ((a, 94), (g, O)) (494)
theorem lyk236 : ly_chk sx_T sx_KK m_tt m_cl ly_TH ly_Y 311 6000 lyp236 lyc236 = true := by decide +kernel
-- Model readTest ((a, 94), (g, E)) (42)
theorem lyk237 : ly_chk sx_T sx_KK m_tt m_cl ly_TH ly_Y 312 6000 lyp237 lyc237 = true := by decide +kernel
-- Model readTest ((a, 94), (g, K)) (502)
theorem lyk238 : ly_chk sx_T sx_KK m_tt m_cl ly_TH ly_Y 312 6000 lyp238 lyc238 = true := by decide +kernel
-- Model readTest ((a, 94), (g, O)) (510)
theorem lyk239 : ly_chk sx_T sx_KK m_tt m_cl ly_TH ly_Y 312 6000 lyp239 lyc239 = true := by decide +kernel
