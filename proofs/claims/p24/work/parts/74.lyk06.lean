/-! PRINTED by wip/p2/lyprint.py -/
-- $Gaols daysWaited ((a, 59), i, i) (54)
theorem lyk84 : ly_chk sx_T sx_KK m_tt m_cl ly_TH ly_Y 205 6000 lyp84 lyc84 = true := by decide +kernel
--  bond ((a, 16), i, i, i, i, i) (286)
theorem lyk85 : ly_chk sx_T sx_KK m_tt m_cl ly_TH ly_Y 206 6000 lyp85 lyc85 = true := by decide +kernel
-- $Gaols bind ((a, 59), i, i, i, i, i) (106)
theorem lyk86 : ly_chk sx_T sx_KK m_tt m_cl ly_TH ly_Y 207 6000 lyp86 lyc86 = true := by decide +kernel
--  seen ((a, 16), i, i) (150)
theorem lyk87 : ly_chk sx_T sx_KK m_tt m_cl ly_TH ly_Y 208 6000 lyp87 lyc87 = true := by decide +kernel
-- $Gaols meetBonds ((a, 59), i, i, i) (122)
theorem lyk88 : ly_chk sx_T sx_KK m_tt m_cl ly_TH ly_Y 209 6000 lyp88 lyc88 = true := by decide +kernel
--  feed ((a, 16), i, i, i, i, i) (86)
theorem lyk89 : ly_chk sx_T sx_KK m_tt m_cl ly_TH ly_Y 21 6000 lyp89 lyc89 = true := by decide +kernel
-- $Docket breakPardons ((a, 44), i, i, i) (574)
theorem lyk90 : ly_chk sx_T sx_KK m_tt m_cl ly_TH ly_Y 210 6000 lyp90 lyc90 = true := by decide +kernel
--  bonded ((a, 16), i, i) (12)
theorem lyk91 : ly_chk sx_T sx_KK m_tt m_cl ly_TH ly_Y 211 6000 lyp91 lyc91 = true := by decide +kernel
-- $Gaols tellOfBond ((a, 59), i, i) (88)
theorem lyk92 : ly_chk sx_T sx_KK m_tt m_cl ly_TH ly_Y 212 6000 lyp92 lyc92 = true := by decide +kernel
--  hours ((a, 16), i, i) (132)
theorem lyk93 : ly_chk sx_T sx_KK m_tt m_cl ly_TH ly_Y 213 6000 lyp93 lyc93 = true := by decide +kernel
--  order ((a, 16),) (24)
theorem lyk94 : ly_chk sx_T sx_KK m_tt m_cl ly_TH ly_Y 214 6000 lyp94 lyc94 = true := by decide +kernel
--  put ((a, 16), i) (90)
theorem lyk95 : ly_chk sx_T sx_KK m_tt m_cl ly_TH ly_Y 216 6000 lyp95 lyc95 = true := by decide +kernel
-- $DayOrder has ((a, 71), i) (36)
theorem lyk96 : ly_chk sx_T sx_KK m_tt m_cl ly_TH ly_Y 217 6000 lyp96 lyc96 = true := by decide +kernel
-- $DayOrder insert ((a, 71), i) (96)
theorem lyk97 : ly_chk sx_T sx_KK m_tt m_cl ly_TH ly_Y 218 6000 lyp97 lyc97 = true := by decide +kernel
