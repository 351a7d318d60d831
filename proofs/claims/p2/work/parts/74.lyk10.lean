/-! PRINTED by wip/p2/lyprint.py -/
-- $Rolls write ((a, 85), i, (a, 17), i)
theorem lyk123 : ly_chk sx_T sx_KK m_tt m_cl ly_TH ly_Y 245 6000 lyp123 lyc123 = true := by decide +kernel
--  join ((a, 16),)
theorem lyk124 : ly_chk sx_T sx_KK m_tt m_cl ly_TH ly_Y 246 6000 lyp124 lyc124 = true := by decide +kernel
-- $Rolls lay ((a, 85),)
theorem lyk125 : ly_chk sx_T sx_KK m_tt m_cl ly_TH ly_Y 247 6000 lyp125 lyc125 = true := by decide +kernel
-- $Rolls bestTake ((a, 85),)
theorem lyk126 : ly_chk sx_T sx_KK m_tt m_cl ly_TH ly_Y 248 6000 lyp126 lyc126 = true := by decide +kernel
-- $Rolls costBehind ((a, 85), (c, 1))
theorem lyk127 : ly_chk sx_T sx_KK m_tt m_cl ly_TH ly_Y 250 6000 lyp127 lyc127 = true := by decide +kernel
-- $Rolls costBehind ((a, 85), (c, 2))
theorem lyk128 : ly_chk sx_T sx_KK m_tt m_cl ly_TH ly_Y 250 6000 lyp128 lyc128 = true := by decide +kernel
-- $Rolls costBehind ((a, 85), (c, 3))
theorem lyk129 : ly_chk sx_T sx_KK m_tt m_cl ly_TH ly_Y 250 6000 lyp129 lyc129 = true := by decide +kernel
-- $Rolls costBehind ((a, 85), (c, 4))
theorem lyk130 : ly_chk sx_T sx_KK m_tt m_cl ly_TH ly_Y 250 6000 lyp130 lyc130 = true := by decide +kernel
-- $Rolls costBehind ((a, 85), (c, 5))
theorem lyk131 : ly_chk sx_T sx_KK m_tt m_cl ly_TH ly_Y 250 6000 lyp131 lyc131 = true := by decide +kernel
-- $Rolls costBehind ((a, 85), (c, 6))
theorem lyk132 : ly_chk sx_T sx_KK m_tt m_cl ly_TH ly_Y 250 6000 lyp132 lyc132 = true := by decide +kernel
-- $Rolls costBehind ((a, 85), (c, 7))
theorem lyk133 : ly_chk sx_T sx_KK m_tt m_cl ly_TH ly_Y 250 6000 lyp133 lyc133 = true := by decide +kernel
-- $Rolls costOfRow ((a, 85), (c, 1))
theorem lyk134 : ly_chk sx_T sx_KK m_tt m_cl ly_TH ly_Y 252 6000 lyp134 lyc134 = true := by decide +kernel
