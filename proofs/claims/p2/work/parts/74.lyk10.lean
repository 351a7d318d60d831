/-! PRINTED by wip/p2/lyprint.py -/
-- $Rolls bestTake ((a, 85),)
theorem lyk125 : ly_chk sx_T sx_KK m_tt m_cl ly_TH ly_Y 248 6000 lyp125 lyc125 = true := by decide +kernel
-- $Rolls canTake ((a, 85), i)
theorem lyk126 : ly_chk sx_T sx_KK m_tt m_cl ly_TH ly_Y 249 6000 lyp126 lyc126 = true := by decide +kernel
-- $Rolls writeRows ((a, 85),)
theorem lyk129 : ly_chk sx_T sx_KK m_tt m_cl ly_TH ly_Y 255 6000 lyp129 lyc129 = true := by decide +kernel
--  joined ((a, 16), i, i)
theorem lyk130 : ly_chk sx_T sx_KK m_tt m_cl ly_TH ly_Y 256 6000 lyp130 lyc130 = true := by decide +kernel
-- $Rolls tellOfRow ((a, 85), i, i)
theorem lyk131 : ly_chk sx_T sx_KK m_tt m_cl ly_TH ly_Y 257 6000 lyp131 lyc131 = true := by decide +kernel
-- $Rolls isSure ((a, 85), i)
theorem lyk132 : ly_chk sx_T sx_KK m_tt m_cl ly_TH ly_Y 258 6000 lyp132 lyc132 = true := by decide +kernel
--  putRight ((a, 16), i, i, i)
theorem lyk133 : ly_chk sx_T sx_KK m_tt m_cl ly_TH ly_Y 259 6000 lyp133 lyc133 = true := by decide +kernel
--  road ((a, 16), i, i, i)
theorem lyk134 : ly_chk sx_T sx_KK m_tt m_cl ly_TH ly_Y 26 6000 lyp134 lyc134 = true := by decide +kernel
-- $Docket setRight ((a, 44), i, i, i, i)
theorem lyk135 : ly_chk sx_T sx_KK m_tt m_cl ly_TH ly_Y 260 6000 lyp135 lyc135 = true := by decide +kernel
--  stateOn ((a, 16), i, i, i)
theorem lyk136 : ly_chk sx_T sx_KK m_tt m_cl ly_TH ly_Y 261 6000 lyp136 lyc136 = true := by decide +kernel
-- $Docket stateAsKnown ((a, 44), i, i, i)
theorem lyk137 : ly_chk sx_T sx_KK m_tt m_cl ly_TH ly_Y 262 6000 lyp137 lyc137 = true := by decide +kernel
--  check ((a, 16), i)
theorem lyk138 : ly_chk sx_T sx_KK m_tt m_cl ly_TH ly_Y 263 6000 lyp138 lyc138 = true := by decide +kernel
