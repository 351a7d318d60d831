/-! PRINTED by wip/p2/lyprint.py -/
-- Model isTold ((a, 94), i, j, i) (54)
theorem lyk220 : ly_chk sx_T sx_KK m_tt m_cl ly_TH ly_Y 307 6000 lyp220 lyc220 = true := by decide +kernel
--  pass ((a, 16), i) (88)
theorem lyk227 : ly_chk sx_T sx_KK m_tt m_cl ly_TH ly_Y 31 6000 lyp227 lyc227 = true := by decide +kernel
-- Model readSum ((a, 94), (g, E)) (20)
theorem lyk237 : ly_chk sx_T sx_KK m_tt m_cl ly_TH ly_Y 314 6000 lyp237 lyc237 = true := by decide +kernel
-- Model readSum ((a, 94), (g, K)) (224)
theorem lyk238 : ly_chk sx_T sx_KK m_tt m_cl ly_TH ly_Y 314 6000 lyp238 lyc238 = true := by decide +kernel
-- Model readSum ((a, 94), (g, O)) (224)
theorem lyk239 : ly_chk sx_T sx_KK m_tt m_cl ly_TH ly_Y 314 6000 lyp239 lyc239 = true := by decide +kernel
-- Model readTerm ((a, 94), i, (g, E)) (50)
theorem lyk240 : ly_chk sx_T sx_KK m_tt m_cl ly_TH ly_Y 315 6000 lyp240 lyc240 = true := by decide +kernel
-- Model readTerm ((a, 94), i, (g, K)) (158)
theorem lyk241 : ly_chk sx_T sx_KK m_tt m_cl ly_TH ly_Y 315 6000 lyp241 lyc241 = true := by decide +kernel
-- Model readTerm ((a, 94), i, (g, O)) (174)
theorem lyk242 : ly_chk sx_T sx_KK m_tt m_cl ly_TH ly_Y 315 6000 lyp242 lyc242 = true := by decide +kernel
-- Model readWords ((a, 94), i, (g, E)) (56)
theorem lyk243 : ly_chk sx_T sx_KK m_tt m_cl ly_TH ly_Y 316 6000 lyp243 lyc243 = true := by decide +kernel
-- Model readWords ((a, 94), i, (g, K)) (254)
theorem lyk244 : ly_chk sx_T sx_KK m_tt m_cl ly_TH ly_Y 316 6000 lyp244 lyc244 = true := by decide +kernel
-- Model readWords ((a, 94), i, (g, O)) (306)
theorem lyk245 : ly_chk sx_T sx_KK m_tt m_cl ly_TH ly_Y 316 6000 lyp245 lyc245 = true := by decide +kernel
-- Model readNumber ((a, 94), i, i, i, (g, E)) (34)
theorem lyk246 : ly_chk sx_T sx_KK m_tt m_cl ly_TH ly_Y 317 6000 lyp246 lyc246 = true := by decide +kernel
-- Model readNumber ((a, 94), i, i, i, (g, K)) (34)
theorem lyk247 : ly_chk sx_T sx_KK m_tt m_cl ly_TH ly_Y 317 6000 lyp247 lyc247 = true := by decide +kernel
-- Model readNumber ((a, 94), i, i, i, (g, O)) (182)
theorem lyk248 : ly_chk sx_T sx_KK m_tt m_cl ly_TH ly_Y 317 6000 lyp248 lyc248 = true := by decide +kernel
