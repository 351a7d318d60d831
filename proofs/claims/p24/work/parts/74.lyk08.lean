/-! PRINTED by wip/p2/lyprint.py -/
--  far ((a, 16), i, i) (136)
theorem lyk112 : ly_chk sx_T sx_KK m_tt m_cl ly_TH ly_Y 233 6000 lyp112 lyc112 = true := by decide +kernel
--  ride ((a, 16), i, i, i, i) (248)
theorem lyk113 : ly_chk sx_T sx_KK m_tt m_cl ly_TH ly_Y 235 6000 lyp113 lyc113 = true := by decide +kernel
-- $Circuit reachesAll ((a, 77), i, i) (66)
theorem lyk114 : ly_chk sx_T sx_KK m_tt m_cl ly_TH ly_Y 237 6000 lyp114 lyc114 = true := by decide +kernel
-- $Circuit layRest ((a, 77), i, i, i, i, (a, 59)) (264)
theorem lyk115 : ly_chk sx_T sx_KK m_tt m_cl ly_TH ly_Y 238 6000 lyp115 lyc115 = true := by decide +kernel
-- $Circuit tryNext ((a, 77), i, i, i, i, i) (204)
theorem lyk116 : ly_chk sx_T sx_KK m_tt m_cl ly_TH ly_Y 239 6000 lyp116 lyc116 = true := by decide +kernel
--  end ((a, 16), i) (64)
theorem lyk117 : ly_chk sx_T sx_KK m_tt m_cl ly_TH ly_Y 24 6000 lyp117 lyc117 = true := by decide +kernel
--  late ((a, 16), i, i) (116)
theorem lyk118 : ly_chk sx_T sx_KK m_tt m_cl ly_TH ly_Y 240 6000 lyp118 lyc118 = true := by decide +kernel
-- $Circuit delay ((a, 77), i, i, (a, 59)) (126)
theorem lyk119 : ly_chk sx_T sx_KK m_tt m_cl ly_TH ly_Y 241 6000 lyp119 lyc119 = true := by decide +kernel
--  rode ((a, 16), i, i) (12)
theorem lyk120 : ly_chk sx_T sx_KK m_tt m_cl ly_TH ly_Y 242 6000 lyp120 lyc120 = true := by decide +kernel
-- $Circuit tellOfRide ((a, 77), i, i) (82)
theorem lyk121 : ly_chk sx_T sx_KK m_tt m_cl ly_TH ly_Y 243 6000 lyp121 lyc121 = true := by decide +kernel
--  roll ((a, 16), i) (90)
theorem lyk122 : ly_chk sx_T sx_KK m_tt m_cl ly_TH ly_Y 244 6000 lyp122 lyc122 = true := by decide +kernel
-- $Rolls write ((a, 85), i, (a, 17), i) (212)
theorem lyk123 : ly_chk sx_T sx_KK m_tt m_cl ly_TH ly_Y 245 6000 lyp123 lyc123 = true := by decide +kernel
--  join ((a, 16),) (8)
theorem lyk124 : ly_chk sx_T sx_KK m_tt m_cl ly_TH ly_Y 246 6000 lyp124 lyc124 = true := by decide +kernel
-- $Rolls lay ((a, 85),) (454)
theorem lyk125 : ly_chk sx_T sx_KK m_tt m_cl ly_TH ly_Y 247 6000 lyp125 lyc125 = true := by decide +kernel
