/-! PRINTED by wip/p2/lyprint.py -/
-- Model asked ((a, 94), i, i, i)
theorem lyk184 : ly_chk sx_T sx_KK m_tt m_cl ly_TH ly_Y 322 6000 lyp184 lyc184 = true := by decide +kernel
-- Model tells ((a, 94), i, i, i)
theorem lyk185 : ly_chk sx_T sx_KK m_tt m_cl ly_TH ly_Y 324 6000 lyp185 lyc185 = true := by decide +kernel
-- Model quarrel ((a, 94), i, i, i)
theorem lyk186 : ly_chk sx_T sx_KK m_tt m_cl ly_TH ly_Y 325 6000 lyp186 lyc186 = true := by decide +kernel
-- Model weigh ((a, 94), i, i)
theorem lyk187 : ly_chk sx_T sx_KK m_tt m_cl ly_TH ly_Y 326 6000 lyp187 lyc187 = true := by decide +kernel
-- Model readFacts ((a, 94),)
theorem lyk188 : ly_chk sx_T sx_KK m_tt m_cl ly_TH ly_Y 327 6000 lyp188 lyc188 = true := by decide +kernel
-- Model metOf ((a, 94), i, i)
theorem lyk189 : ly_chk sx_T sx_KK m_tt m_cl ly_TH ly_Y 328 6000 lyp189 lyc189 = true := by decide +kernel
-- Model isMet ((a, 94), i, i, i)
theorem lyk190 : ly_chk sx_T sx_KK m_tt m_cl ly_TH ly_Y 329 6000 lyp190 lyc190 = true := by decide +kernel
-- $People isDead ((a, 22), i, i, i)
theorem lyk191 : ly_chk sx_T sx_KK m_tt m_cl ly_TH ly_Y 33 6000 lyp191 lyc191 = true := by decide +kernel
-- Model lackOf ((a, 94), i, i)
theorem lyk193 : ly_chk sx_T sx_KK m_tt m_cl ly_TH ly_Y 331 6000 lyp193 lyc193 = true := by decide +kernel
-- Model why ((a, 94), i)
theorem lyk195 : ly_chk sx_T sx_KK m_tt m_cl ly_TH ly_Y 333 6000 lyp195 lyc195 = true := by decide +kernel
-- Model crown ((a, 94), i, i, i, i)
theorem lyk196 : ly_chk sx_T sx_KK m_tt m_cl ly_TH ly_Y 334 6000 lyp196 lyc196 = true := by decide +kernel
-- Model plea ((a, 94), i, i, i, i, i, i)
theorem lyk198 : ly_chk sx_T sx_KK m_tt m_cl ly_TH ly_Y 336 6000 lyp198 lyc198 = true := by decide +kernel
