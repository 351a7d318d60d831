/-! PRINTED by wip/p2/lyprint.py -/
--  lacks ((a, 16), i)
theorem lyk62 : ly_chk sx_T sx_KK m_tt m_cl ly_TH ly_Y 175 6000 lyp62 lyc62 = true := by decide +kernel
--  juror ((a, 16), i, i)
theorem lyk63 : ly_chk sx_T sx_KK m_tt m_cl ly_TH ly_Y 176 6000 lyp63 lyc63 = true := by decide +kernel
--  hear ((a, 16), i)
theorem lyk64 : ly_chk sx_T sx_KK m_tt m_cl ly_TH ly_Y 177 6000 lyp64 lyc64 = true := by decide +kernel
-- $Docket isMade ((a, 44), (m, 0))
theorem lyk65 : ly_chk sx_T sx_KK m_tt m_cl ly_TH ly_Y 179 6000 lyp65 lyc65 = true := by decide +kernel
-- $Docket isSettledAsNone ((a, 44), (j,))
theorem lyk66 : ly_chk sx_T sx_KK m_tt m_cl ly_TH ly_Y 180 6000 lyp66 lyc66 = true := by decide +kernel
--  judge ((a, 16), i)
theorem lyk67 : ly_chk sx_T sx_KK m_tt m_cl ly_TH ly_Y 181 6000 lyp67 lyc67 = true := by decide +kernel
-- $Docket sentence ((a, 44), i, (m, 0), i)
theorem lyk68 : ly_chk sx_T sx_KK m_tt m_cl ly_TH ly_Y 182 6000 lyp68 lyc68 = true := by decide +kernel
--  benefit ((a, 16), i)
theorem lyk69 : ly_chk sx_T sx_KK m_tt m_cl ly_TH ly_Y 183 6000 lyp69 lyc69 = true := by decide +kernel
--  keep ((a, 16), i)
theorem lyk70 : ly_chk sx_T sx_KK m_tt m_cl ly_TH ly_Y 187 6000 lyp70 lyc70 = true := by decide +kernel
--  settle ((a, 16), i)
theorem lyk71 : ly_chk sx_T sx_KK m_tt m_cl ly_TH ly_Y 188 6000 lyp71 lyc71 = true := by decide +kernel
-- $Docket settleDeed ((a, 44), (j,), i, i)
theorem lyk72 : ly_chk sx_T sx_KK m_tt m_cl ly_TH ly_Y 189 6000 lyp72 lyc72 = true := by decide +kernel
--  pardon ((a, 16), i, i, i)
theorem lyk73 : ly_chk sx_T sx_KK m_tt m_cl ly_TH ly_Y 190 6000 lyp73 lyc73 = true := by decide +kernel
