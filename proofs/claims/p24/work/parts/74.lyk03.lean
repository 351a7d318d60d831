/-! PRINTED by wip/p2/lyprint.py -/
-- $Docket indictmentFault ((a, 44), (m, 0)) (124)
theorem lyk42 : ly_chk sx_T sx_KK m_tt m_cl ly_TH ly_Y 144 6000 lyp42 lyc42 = true := by decide +kernel
-- $Docket wordNotHad ((a, 44), (m, 0)) (342)
theorem lyk43 : ly_chk sx_T sx_KK m_tt m_cl ly_TH ly_Y 145 6000 lyp43 lyc43 = true := by decide +kernel
--  mend ((a, 16), i) (250)
theorem lyk44 : ly_chk sx_T sx_KK m_tt m_cl ly_TH ly_Y 147 6000 lyp44 lyc44 = true := by decide +kernel
-- $Docket weaveIn ((a, 44), (m, 0)) (414)
theorem lyk45 : ly_chk sx_T sx_KK m_tt m_cl ly_TH ly_Y 148 6000 lyp45 lyc45 = true := by decide +kernel
-- $Docket countPutIn ((a, 44), (m, 1), i, i) (1002)
theorem lyk46 : ly_chk sx_T sx_KK m_tt m_cl ly_TH ly_Y 149 6000 lyp46 lyc46 = true := by decide +kernel
-- $Docket weave ((a, 44), (m, 1), i, i) (602)
theorem lyk47 : ly_chk sx_T sx_KK m_tt m_cl ly_TH ly_Y 151 6000 lyp47 lyc47 = true := by decide +kernel
--  bill ((a, 16), i, i) (372)
theorem lyk48 : ly_chk sx_T sx_KK m_tt m_cl ly_TH ly_Y 152 6000 lyp48 lyc48 = true := by decide +kernel
--  matter ((a, 16), i, i) (94)
theorem lyk49 : ly_chk sx_T sx_KK m_tt m_cl ly_TH ly_Y 153 6000 lyp49 lyc49 = true := by decide +kernel
-- $Matter tellOf ((m, 0), i) (148)
theorem lyk50 : ly_chk sx_T sx_KK m_tt m_cl ly_TH ly_Y 154 6000 lyp50 lyc50 = true := by decide +kernel
--  witness ((a, 16), i, i) (948)
theorem lyk51 : ly_chk sx_T sx_KK m_tt m_cl ly_TH ly_Y 155 6000 lyp51 lyc51 = true := by decide +kernel
--  may ((a, 16), i, i) (248)
theorem lyk52 : ly_chk sx_T sx_KK m_tt m_cl ly_TH ly_Y 158 6000 lyp52 lyc52 = true := by decide +kernel
-- $Docket isFit ((a, 44), (m, 0), i, i, i, i, i) (1224)
theorem lyk53 : ly_chk sx_T sx_KK m_tt m_cl ly_TH ly_Y 160 6000 lyp53 lyc53 = true := by decide +kernel
--  list ((a, 16), i) (200)
theorem lyk54 : ly_chk sx_T sx_KK m_tt m_cl ly_TH ly_Y 163 6000 lyp54 lyc54 = true := by decide +kernel
-- $Docket findDrawable ((a, 44), (m, 0), i) (192)
theorem lyk55 : ly_chk sx_T sx_KK m_tt m_cl ly_TH ly_Y 165 6000 lyp55 lyc55 = true := by decide +kernel
