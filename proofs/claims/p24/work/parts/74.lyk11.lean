/-! PRINTED by wip/p2/lyprint.py -/
-- Model feed ((a, 94), i, i, i, i, i) (984)
theorem lyk154 : ly_chk sx_T sx_KK m_tt m_cl ly_TH ly_Y 269 6000 lyp154 lyc154 = true := by decide +kernel
-- Model end ((a, 94), i) (26)
theorem lyk155 : ly_chk sx_T sx_KK m_tt m_cl ly_TH ly_Y 270 6000 lyp155 lyc155 = true := by decide +kernel
-- Model road ((a, 94), i, i, i) (214)
theorem lyk156 : ly_chk sx_T sx_KK m_tt m_cl ly_TH ly_Y 271 6000 lyp156 lyc156 = true := by decide +kernel
-- Model person ((a, 94), i, i) (164)
theorem lyk157 : ly_chk sx_T sx_KK m_tt m_cl ly_TH ly_Y 274 6000 lyp157 lyc157 = true := by decide +kernel
-- Model land ((a, 94), i, i, i) (174)
theorem lyk158 : ly_chk sx_T sx_KK m_tt m_cl ly_TH ly_Y 275 6000 lyp158 lyc158 = true := by decide +kernel
-- Model tell ((a, 94), i, i, i, i, i) (104)
theorem lyk159 : ly_chk sx_T sx_KK m_tt m_cl ly_TH ly_Y 278 6000 lyp159 lyc159 = true := by decide +kernel
-- Model dead ((a, 94), i, i) (134)
theorem lyk160 : ly_chk sx_T sx_KK m_tt m_cl ly_TH ly_Y 279 6000 lyp160 lyc160 = true := by decide +kernel
-- $Circuit setRoad ((a, 77), i, i, i) (62)
theorem lyk161 : ly_chk sx_T sx_KK m_tt m_cl ly_TH ly_Y 28 6000 lyp161 lyc161 = true := by decide +kernel
-- Model kin ((a, 94), i, i, i) (866)
theorem lyk162 : ly_chk sx_T sx_KK m_tt m_cl ly_TH ly_Y 280 6000 lyp162 lyc162 = true := by decide +kernel
-- Model tellsAt ((a, 94), i, j, i, i) (162)
theorem lyk163 : ly_chk sx_T sx_KK m_tt m_cl ly_TH ly_Y 283 6000 lyp163 lyc163 = true := by decide +kernel
-- Model tellsAt ((a, 94), (c, 10), j, i, i) (84)
theorem lyk164 : ly_chk sx_T sx_KK m_tt m_cl ly_TH ly_Y 283 6000 lyp164 lyc164 = true := by decide +kernel
-- Model tellsAt ((a, 94), (c, 11), j, i, i) (90)
theorem lyk165 : ly_chk sx_T sx_KK m_tt m_cl ly_TH ly_Y 283 6000 lyp165 lyc165 = true := by decide +kernel
-- Model tellsAt ((a, 94), (c, 12), j, i, i) (96)
theorem lyk166 : ly_chk sx_T sx_KK m_tt m_cl ly_TH ly_Y 283 6000 lyp166 lyc166 = true := by decide +kernel
-- Model tellsAt ((a, 94), (c, 13), j, i, i) (94)
theorem lyk167 : ly_chk sx_T sx_KK m_tt m_cl ly_TH ly_Y 283 6000 lyp167 lyc167 = true := by decide +kernel
