/-! PRINTED by wip/p2/lyprint.py -/
-- $Rolls bestTake ((a, 85),) (5094)
theorem lyk126 : ly_chk sx_T sx_KK m_tt m_cl ly_TH ly_Y 248 6000 lyp126 lyc126 = true := by decide +kernel
-- $Rolls costBehind ((a, 85), (c, 1)) (98)
theorem lyk127 : ly_chk sx_T sx_KK m_tt m_cl ly_TH ly_Y 250 6000 lyp127 lyc127 = true := by decide +kernel
-- $Rolls costBehind ((a, 85), (c, 2)) (98)
theorem lyk128 : ly_chk sx_T sx_KK m_tt m_cl ly_TH ly_Y 250 6000 lyp128 lyc128 = true := by decide +kernel
-- $Rolls costBehind ((a, 85), (c, 3)) (98)
theorem lyk129 : ly_chk sx_T sx_KK m_tt m_cl ly_TH ly_Y 250 6000 lyp129 lyc129 = true := by decide +kernel
-- $Rolls costBehind ((a, 85), (c, 4)) (98)
theorem lyk130 : ly_chk sx_T sx_KK m_tt m_cl ly_TH ly_Y 250 6000 lyp130 lyc130 = true := by decide +kernel
-- $Rolls costBehind ((a, 85), (c, 5)) (98)
theorem lyk131 : ly_chk sx_T sx_KK m_tt m_cl ly_TH ly_Y 250 6000 lyp131 lyc131 = true := by decide +kernel
-- $Rolls costBehind ((a, 85), (c, 6)) (98)
theorem lyk132 : ly_chk sx_T sx_KK m_tt m_cl ly_TH ly_Y 250 6000 lyp132 lyc132 = true := by decide +kernel
-- $Rolls costBehind ((a, 85), (c, 7)) (98)
theorem lyk133 : ly_chk sx_T sx_KK m_tt m_cl ly_TH ly_Y 250 6000 lyp133 lyc133 = true := by decide +kernel
-- $Rolls costOfRow ((a, 85), (c, 1)) (156)
theorem lyk134 : ly_chk sx_T sx_KK m_tt m_cl ly_TH ly_Y 252 6000 lyp134 lyc134 = true := by decide +kernel
-- $Rolls costOfRow ((a, 85), (c, 2)) (170)
theorem lyk135 : ly_chk sx_T sx_KK m_tt m_cl ly_TH ly_Y 252 6000 lyp135 lyc135 = true := by decide +kernel
-- $Rolls costOfRow ((a, 85), (c, 3)) (464)
theorem lyk136 : ly_chk sx_T sx_KK m_tt m_cl ly_TH ly_Y 252 6000 lyp136 lyc136 = true := by decide +kernel
-- $Rolls costOfRow ((a, 85), (c, 4)) (184)
theorem lyk137 : ly_chk sx_T sx_KK m_tt m_cl ly_TH ly_Y 252 6000 lyp137 lyc137 = true := by decide +kernel
-- $Rolls costOfRow ((a, 85), (c, 5)) (418)
theorem lyk138 : ly_chk sx_T sx_KK m_tt m_cl ly_TH ly_Y 252 6000 lyp138 lyc138 = true := by decide +kernel
-- $Rolls costOfRow ((a, 85), (c, 6)) (356)
theorem lyk139 : ly_chk sx_T sx_KK m_tt m_cl ly_TH ly_Y 252 6000 lyp139 lyc139 = true := by decide +kernel
