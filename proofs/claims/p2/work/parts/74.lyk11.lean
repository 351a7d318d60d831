/-! PRINTED by wip/p2/lyprint.py -/
-- $Rolls costOfRow ((a, 85), (c, 2))
theorem lyk135 : ly_chk sx_T sx_KK m_tt m_cl ly_TH ly_Y 252 6000 lyp135 lyc135 = true := by decide +kernel
-- $Rolls costOfRow ((a, 85), (c, 3))
theorem lyk136 : ly_chk sx_T sx_KK m_tt m_cl ly_TH ly_Y 252 6000 lyp136 lyc136 = true := by decide +kernel
-- $Rolls costOfRow ((a, 85), (c, 4))
theorem lyk137 : ly_chk sx_T sx_KK m_tt m_cl ly_TH ly_Y 252 6000 lyp137 lyc137 = true := by decide +kernel
-- $Rolls costOfRow ((a, 85), (c, 5))
theorem lyk138 : ly_chk sx_T sx_KK m_tt m_cl ly_TH ly_Y 252 6000 lyp138 lyc138 = true := by decide +kernel
-- $Rolls costOfRow ((a, 85), (c, 6))
theorem lyk139 : ly_chk sx_T sx_KK m_tt m_cl ly_TH ly_Y 252 6000 lyp139 lyc139 = true := by decide +kernel
-- $Rolls costOfRow ((a, 85), (c, 7))
theorem lyk140 : ly_chk sx_T sx_KK m_tt m_cl ly_TH ly_Y 252 6000 lyp140 lyc140 = true := by decide +kernel
-- $Rolls writeRows ((a, 85),)
theorem lyk141 : ly_chk sx_T sx_KK m_tt m_cl ly_TH ly_Y 255 6000 lyp141 lyc141 = true := by decide +kernel
--  joined ((a, 16), i, i)
theorem lyk142 : ly_chk sx_T sx_KK m_tt m_cl ly_TH ly_Y 256 6000 lyp142 lyc142 = true := by decide +kernel
-- $Rolls tellOfRow ((a, 85), i, i)
theorem lyk143 : ly_chk sx_T sx_KK m_tt m_cl ly_TH ly_Y 257 6000 lyp143 lyc143 = true := by decide +kernel
-- $Rolls isSure ((a, 85), i)
theorem lyk144 : ly_chk sx_T sx_KK m_tt m_cl ly_TH ly_Y 258 6000 lyp144 lyc144 = true := by decide +kernel
--  putRight ((a, 16), i, i, i)
theorem lyk145 : ly_chk sx_T sx_KK m_tt m_cl ly_TH ly_Y 259 6000 lyp145 lyc145 = true := by decide +kernel
--  road ((a, 16), i, i, i)
theorem lyk146 : ly_chk sx_T sx_KK m_tt m_cl ly_TH ly_Y 26 6000 lyp146 lyc146 = true := by decide +kernel
