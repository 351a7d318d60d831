/-! PRINTED by wip/p2/lyprint.py -/
--  draw ((a, 16), i, i) (496)
theorem lyk56 : ly_chk sx_T sx_KK m_tt m_cl ly_TH ly_Y 166 6000 lyp56 lyc56 = true := by decide +kernel
--  challenge ((a, 16), i, i) (348)
theorem lyk57 : ly_chk sx_T sx_KK m_tt m_cl ly_TH ly_Y 168 6000 lyp57 lyc57 = true := by decide +kernel
-- $Row removeAt ((m, 13), i) (116)
theorem lyk58 : ly_chk sx_T sx_KK m_tt m_cl ly_TH ly_Y 169 6000 lyp58 lyc58 = true := by decide +kernel
-- java/util/Arrays fill ((a, 76), i) (30)
theorem lyk59 : ly_chk sx_T sx_KK m_tt m_cl ly_TH ly_Y 17 6000 lyp59 lyc59 = true := by decide +kernel
-- java/util/Arrays fill ((a, 89), i) (30)
theorem lyk60 : ly_chk sx_T sx_KK m_tt m_cl ly_TH ly_Y 17 6000 lyp60 lyc60 = true := by decide +kernel
--  full ((a, 16), i) (240)
theorem lyk61 : ly_chk sx_T sx_KK m_tt m_cl ly_TH ly_Y 170 6000 lyp61 lyc61 = true := by decide +kernel
-- $Docket jurorsOfHundred ((a, 44), (m, 0)) (190)
theorem lyk62 : ly_chk sx_T sx_KK m_tt m_cl ly_TH ly_Y 173 6000 lyp62 lyc62 = true := by decide +kernel
--  lacks ((a, 16), i) (164)
theorem lyk63 : ly_chk sx_T sx_KK m_tt m_cl ly_TH ly_Y 175 6000 lyp63 lyc63 = true := by decide +kernel
--  juror ((a, 16), i, i) (172)
theorem lyk64 : ly_chk sx_T sx_KK m_tt m_cl ly_TH ly_Y 176 6000 lyp64 lyc64 = true := by decide +kernel
--  hear ((a, 16), i) (1058)
theorem lyk65 : ly_chk sx_T sx_KK m_tt m_cl ly_TH ly_Y 177 6000 lyp65 lyc65 = true := by decide +kernel
-- $Docket isMade ((a, 44), (m, 0)) (70)
theorem lyk66 : ly_chk sx_T sx_KK m_tt m_cl ly_TH ly_Y 179 6000 lyp66 lyc66 = true := by decide +kernel
-- $Docket isSettledAsNone ((a, 44), j) (58)
theorem lyk67 : ly_chk sx_T sx_KK m_tt m_cl ly_TH ly_Y 180 6000 lyp67 lyc67 = true := by decide +kernel
--  judge ((a, 16), i) (546)
theorem lyk68 : ly_chk sx_T sx_KK m_tt m_cl ly_TH ly_Y 181 6000 lyp68 lyc68 = true := by decide +kernel
--  benefit ((a, 16), i) (834)
theorem lyk69 : ly_chk sx_T sx_KK m_tt m_cl ly_TH ly_Y 183 6000 lyp69 lyc69 = true := by decide +kernel
