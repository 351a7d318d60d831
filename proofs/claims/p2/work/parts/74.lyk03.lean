/-! PRINTED by wip/p2/lyprint.py -/
-- $Row copyFrom ((m, 4), (a, 91))
theorem lyk38 : ly_chk sx_T sx_KK m_tt m_cl ly_TH ly_Y 142 6000 lyp38 lyc38 = true := by decide +kernel
-- $Row copyFrom ((m, 7), (a, 91))
theorem lyk39 : ly_chk sx_T sx_KK m_tt m_cl ly_TH ly_Y 142 6000 lyp39 lyc39 = true := by decide +kernel
--  bad ((a, 16), i)
theorem lyk40 : ly_chk sx_T sx_KK m_tt m_cl ly_TH ly_Y 143 6000 lyp40 lyc40 = true := by decide +kernel
-- $Docket indictmentFault ((a, 44), (m, 0))
theorem lyk41 : ly_chk sx_T sx_KK m_tt m_cl ly_TH ly_Y 144 6000 lyp41 lyc41 = true := by decide +kernel
-- $Docket wordNotHad ((a, 44), (m, 0))
theorem lyk42 : ly_chk sx_T sx_KK m_tt m_cl ly_TH ly_Y 145 6000 lyp42 lyc42 = true := by decide +kernel
--  mend ((a, 16), i)
theorem lyk43 : ly_chk sx_T sx_KK m_tt m_cl ly_TH ly_Y 147 6000 lyp43 lyc43 = true := by decide +kernel
-- $Docket weaveIn ((a, 44), (m, 0))
theorem lyk44 : ly_chk sx_T sx_KK m_tt m_cl ly_TH ly_Y 148 6000 lyp44 lyc44 = true := by decide +kernel
-- $Docket countPutIn ((a, 44), (m, 1), i, i)
theorem lyk45 : ly_chk sx_T sx_KK m_tt m_cl ly_TH ly_Y 149 6000 lyp45 lyc45 = true := by decide +kernel
-- $Docket weave ((a, 44), (m, 1), i, i)
theorem lyk46 : ly_chk sx_T sx_KK m_tt m_cl ly_TH ly_Y 151 6000 lyp46 lyc46 = true := by decide +kernel
--  bill ((a, 16), i, i)
theorem lyk47 : ly_chk sx_T sx_KK m_tt m_cl ly_TH ly_Y 152 6000 lyp47 lyc47 = true := by decide +kernel
--  matter ((a, 16), i, i)
theorem lyk48 : ly_chk sx_T sx_KK m_tt m_cl ly_TH ly_Y 153 6000 lyp48 lyc48 = true := by decide +kernel
-- $Matter tellOf ((m, 0), i)
theorem lyk49 : ly_chk sx_T sx_KK m_tt m_cl ly_TH ly_Y 154 6000 lyp49 lyc49 = true := by decide +kernel
