/-! PRINTED by wip/p2/lyprint.py -/
-- $ActReader release ((a, 40), (c, 0)) (512)
theorem lyk0 : ly_chk sx_T sx_KK m_tt m_cl ly_TH ly_Y 100 6000 lyp0 lyc0 = true := by decide +kernel
-- $ActReader release ((a, 40), (c, 1)) (148)
theorem lyk1 : ly_chk sx_T sx_KK m_tt m_cl ly_TH ly_Y 100 6000 lyp1 lyc1 = true := by decide +kernel
-- $Law draftClause ((a, 30), i, j, i) (94)
theorem lyk2 : ly_chk sx_T sx_KK m_tt m_cl ly_TH ly_Y 102 6000 lyp2 lyc2 = true := by decide +kernel
-- $ActReader readWords ((a, 40),) (318)
theorem lyk3 : ly_chk sx_T sx_KK m_tt m_cl ly_TH ly_Y 103 6000 lyp3 lyc3 = true := by decide +kernel
-- $ActReader readStrike ((a, 40),) (550)
theorem lyk4 : ly_chk sx_T sx_KK m_tt m_cl ly_TH ly_Y 104 6000 lyp4 lyc4 = true := by decide +kernel
-- $ActReader readNumber ((a, 40),) (530)
theorem lyk5 : ly_chk sx_T sx_KK m_tt m_cl ly_TH ly_Y 105 6000 lyp5 lyc5 = true := by decide +kernel
-- $Law enact ((a, 30), i, i) (162)
theorem lyk6 : ly_chk sx_T sx_KK m_tt m_cl ly_TH ly_Y 107 6000 lyp6 lyc6 = true := by decide +kernel
--  fault ((a, 16), i) (32)
theorem lyk7 : ly_chk sx_T sx_KK m_tt m_cl ly_TH ly_Y 108 6000 lyp7 lyc7 = true := by decide +kernel
--  told ((a, 16), i, i) (12)
theorem lyk8 : ly_chk sx_T sx_KK m_tt m_cl ly_TH ly_Y 109 6000 lyp8 lyc8 = true := by decide +kernel
-- $Law tellOfAct ((a, 30), i, i) (110)
theorem lyk9 : ly_chk sx_T sx_KK m_tt m_cl ly_TH ly_Y 110 6000 lyp9 lyc9 = true := by decide +kernel
--  law ((a, 16), i, i, i) (1572)
theorem lyk10 : ly_chk sx_T sx_KK m_tt m_cl ly_TH ly_Y 111 6000 lyp10 lyc10 = true := by decide +kernel
--  tells ((a, 16), i, i, i) (1434)
theorem lyk11 : ly_chk sx_T sx_KK m_tt m_cl ly_TH ly_Y 116 6000 lyp11 lyc11 = true := by decide +kernel
--  quarrel ((a, 16), i, i, i) (1434)
theorem lyk12 : ly_chk sx_T sx_KK m_tt m_cl ly_TH ly_Y 117 6000 lyp12 lyc12 = true := by decide +kernel
-- $Law quarrelling ((a, 30), i, j, i, i) (164)
theorem lyk13 : ly_chk sx_T sx_KK m_tt m_cl ly_TH ly_Y 118 6000 lyp13 lyc13 = true := by decide +kernel
