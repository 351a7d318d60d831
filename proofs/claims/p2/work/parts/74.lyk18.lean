/-! PRINTED by wip/p2/lyprint.py -/
-- Model readCond ((a, 94), (g, E)) (10)
theorem lyk227 : ly_chk sx_T sx_KK m_tt m_cl ly_TH ly_Y 309 6000 lyp227 lyc227 = true := by decide +kernel
--  pass ((a, 16), i) (88)
theorem lyk230 : ly_chk sx_T sx_KK m_tt m_cl ly_TH ly_Y 31 6000 lyp230 lyc230 = true := by decide +kernel
-- Model readAll ((a, 94), (g, E)) (10)
theorem lyk231 : ly_chk sx_T sx_KK m_tt m_cl ly_TH ly_Y 310 6000 lyp231 lyc231 = true := by decide +kernel
-- Model readOne ((a, 94), (g, E)) (30)
theorem lyk234 : ly_chk sx_T sx_KK m_tt m_cl ly_TH ly_Y 311 6000 lyp234 lyc234 = true := by decide +kernel
-- Model readTest ((a, 94), (g, E)) (42)
theorem lyk237 : ly_chk sx_T sx_KK m_tt m_cl ly_TH ly_Y 312 6000 lyp237 lyc237 = true := by decide +kernel
-- Model readTest ((a, 94), (g, K)) (502)
theorem lyk238 : ly_chk sx_T sx_KK m_tt m_cl ly_TH ly_Y 312 6000 lyp238 lyc238 = true := by decide +kernel
-- Model readTest ((a, 94), (g, O)) (510)
theorem lyk239 : ly_chk sx_T sx_KK m_tt m_cl ly_TH ly_Y 312 6000 lyp239 lyc239 = true := by decide +kernel
-- Model readSum ((a, 94), (g, E)) (20)
theorem lyk240 : ly_chk sx_T sx_KK m_tt m_cl ly_TH ly_Y 314 6000 lyp240 lyc240 = true := by decide +kernel
-- Model readSum ((a, 94), (g, K)) (224)
theorem lyk241 : ly_chk sx_T sx_KK m_tt m_cl ly_TH ly_Y 314 6000 lyp241 lyc241 = true := by decide +kernel
-- Model readSum ((a, 94), (g, O)) (224)
theorem lyk242 : ly_chk sx_T sx_KK m_tt m_cl ly_TH ly_Y 314 6000 lyp242 lyc242 = true := by decide +kernel
-- Model readTerm ((a, 94), i, (g, E)) (50)
theorem lyk243 : ly_chk sx_T sx_KK m_tt m_cl ly_TH ly_Y 315 6000 lyp243 lyc243 = true := by decide +kernel
-- Model readTerm ((a, 94), i, (g, K)) (158)
theorem lyk244 : ly_chk sx_T sx_KK m_tt m_cl ly_TH ly_Y 315 6000 lyp244 lyc244 = true := by decide +kernel
-- Model readTerm ((a, 94), i, (g, O)) (174)
theorem lyk245 : ly_chk sx_T sx_KK m_tt m_cl ly_TH ly_Y 315 6000 lyp245 lyc245 = true := by decide +kernel
