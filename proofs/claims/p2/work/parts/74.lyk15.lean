/-! PRINTED by wip/p2/lyprint.py -/
-- Model readNumber ((a, 94), i, i, i)
theorem lyk190 : ly_chk sx_T sx_KK m_tt m_cl ly_TH ly_Y 317 6000 lyp190 lyc190 = true := by decide +kernel
-- Model readStrike ((a, 94), i)
theorem lyk191 : ly_chk sx_T sx_KK m_tt m_cl ly_TH ly_Y 318 6000 lyp191 lyc191 = true := by decide +kernel
-- Model fault ((a, 94), i)
theorem lyk192 : ly_chk sx_T sx_KK m_tt m_cl ly_TH ly_Y 319 6000 lyp192 lyc192 = true := by decide +kernel
-- $Gaols runOut ((a, 59), i, (a, 22))
theorem lyk193 : ly_chk sx_T sx_KK m_tt m_cl ly_TH ly_Y 32 6000 lyp193 lyc193 = true := by decide +kernel
-- Model told ((a, 94), i, i)
theorem lyk194 : ly_chk sx_T sx_KK m_tt m_cl ly_TH ly_Y 320 6000 lyp194 lyc194 = true := by decide +kernel
-- Model law ((a, 94), i, i, i)
theorem lyk195 : ly_chk sx_T sx_KK m_tt m_cl ly_TH ly_Y 321 6000 lyp195 lyc195 = true := by decide +kernel
-- Model asked ((a, 94), i, i, i)
theorem lyk196 : ly_chk sx_T sx_KK m_tt m_cl ly_TH ly_Y 322 6000 lyp196 lyc196 = true := by decide +kernel
-- Model tells ((a, 94), i, i, i)
theorem lyk197 : ly_chk sx_T sx_KK m_tt m_cl ly_TH ly_Y 324 6000 lyp197 lyc197 = true := by decide +kernel
-- Model quarrel ((a, 94), i, i, i)
theorem lyk198 : ly_chk sx_T sx_KK m_tt m_cl ly_TH ly_Y 325 6000 lyp198 lyc198 = true := by decide +kernel
-- Model weigh ((a, 94), i, i)
theorem lyk199 : ly_chk sx_T sx_KK m_tt m_cl ly_TH ly_Y 326 6000 lyp199 lyc199 = true := by decide +kernel
-- Model readFacts ((a, 94),)
theorem lyk200 : ly_chk sx_T sx_KK m_tt m_cl ly_TH ly_Y 327 6000 lyp200 lyc200 = true := by decide +kernel
-- Model metOf ((a, 94), i, i)
theorem lyk201 : ly_chk sx_T sx_KK m_tt m_cl ly_TH ly_Y 328 6000 lyp201 lyc201 = true := by decide +kernel
