/-! PRINTED by wip/p2/lyprint.py -/
-- Model readStrike ((a, 94), i, (g, E)) (22)
theorem lyk249 : ly_chk sx_T sx_KK m_tt m_cl ly_TH ly_Y 318 6000 lyp249 lyc249 = true := by decide +kernel
-- Model readStrike ((a, 94), i, (g, K)) (22)
theorem lyk250 : ly_chk sx_T sx_KK m_tt m_cl ly_TH ly_Y 318 6000 lyp250 lyc250 = true := by decide +kernel
-- Model readStrike ((a, 94), i, (g, O)) (96)
theorem lyk251 : ly_chk sx_T sx_KK m_tt m_cl ly_TH ly_Y 318 6000 lyp251 lyc251 = true := by decide +kernel
-- Model fault ((a, 94), i) (30)
theorem lyk252 : ly_chk sx_T sx_KK m_tt m_cl ly_TH ly_Y 319 6000 lyp252 lyc252 = true := by decide +kernel
-- $Gaols runOut ((a, 59), i, (a, 22)) (114)
theorem lyk253 : ly_chk sx_T sx_KK m_tt m_cl ly_TH ly_Y 32 6000 lyp253 lyc253 = true := by decide +kernel
-- Model told ((a, 94), i, i) (110)
theorem lyk254 : ly_chk sx_T sx_KK m_tt m_cl ly_TH ly_Y 320 6000 lyp254 lyc254 = true := by decide +kernel
-- Model law ((a, 94), i, i, i) (64)
theorem lyk255 : ly_chk sx_T sx_KK m_tt m_cl ly_TH ly_Y 321 6000 lyp255 lyc255 = true := by decide +kernel
-- Model asked ((a, 94), i, i, i) (1664)
theorem lyk256 : ly_chk sx_T sx_KK m_tt m_cl ly_TH ly_Y 322 6000 lyp256 lyc256 = true := by decide +kernel
-- Model tells ((a, 94), i, i, i) (38)
theorem lyk257 : ly_chk sx_T sx_KK m_tt m_cl ly_TH ly_Y 324 6000 lyp257 lyc257 = true := by decide +kernel
-- Model quarrel ((a, 94), i, i, i) (156)
theorem lyk258 : ly_chk sx_T sx_KK m_tt m_cl ly_TH ly_Y 325 6000 lyp258 lyc258 = true := by decide +kernel
-- Model weigh ((a, 94), i, i) (998)
theorem lyk259 : ly_chk sx_T sx_KK m_tt m_cl ly_TH ly_Y 326 6000 lyp259 lyc259 = true := by decide +kernel
-- Model readFacts ((a, 94),) (286)
theorem lyk260 : ly_chk sx_T sx_KK m_tt m_cl ly_TH ly_Y 327 6000 lyp260 lyc260 = true := by decide +kernel
-- Model metOf ((a, 94), i, i) (52)
theorem lyk261 : ly_chk sx_T sx_KK m_tt m_cl ly_TH ly_Y 328 6000 lyp261 lyc261 = true := by decide +kernel
-- Model isMet ((a, 94), i, i, i) (206)
theorem lyk262 : ly_chk sx_T sx_KK m_tt m_cl ly_TH ly_Y 329 6000 lyp262 lyc262 = true := by decide +kernel
