/-! PRINTED by wip/p2/lyprint.py -/
-- Model tellsAt ((a, 94), (c, 2), j, i, i) (94)
theorem lyk168 : ly_chk sx_T sx_KK m_tt m_cl ly_TH ly_Y 283 6000 lyp168 lyc168 = true := by decide +kernel
-- Model tellsAt ((a, 94), (c, 3), j, i, i) (94)
theorem lyk169 : ly_chk sx_T sx_KK m_tt m_cl ly_TH ly_Y 283 6000 lyp169 lyc169 = true := by decide +kernel
-- Model tellsAt ((a, 94), (c, 4), j, i, i) (94)
theorem lyk170 : ly_chk sx_T sx_KK m_tt m_cl ly_TH ly_Y 283 6000 lyp170 lyc170 = true := by decide +kernel
-- Model tellsAt ((a, 94), (c, 5), j, i, i) (94)
theorem lyk171 : ly_chk sx_T sx_KK m_tt m_cl ly_TH ly_Y 283 6000 lyp171 lyc171 = true := by decide +kernel
-- Model tellsAt ((a, 94), (c, 6), j, i, i) (94)
theorem lyk172 : ly_chk sx_T sx_KK m_tt m_cl ly_TH ly_Y 283 6000 lyp172 lyc172 = true := by decide +kernel
-- Model tellsAt ((a, 94), (c, 7), j, i, i) (66)
theorem lyk173 : ly_chk sx_T sx_KK m_tt m_cl ly_TH ly_Y 283 6000 lyp173 lyc173 = true := by decide +kernel
-- Model tellsAt ((a, 94), (c, 8), j, i, i) (72)
theorem lyk174 : ly_chk sx_T sx_KK m_tt m_cl ly_TH ly_Y 283 6000 lyp174 lyc174 = true := by decide +kernel
-- Model tellsAt ((a, 94), (c, 9), j, i, i) (78)
theorem lyk175 : ly_chk sx_T sx_KK m_tt m_cl ly_TH ly_Y 283 6000 lyp175 lyc175 = true := by decide +kernel
-- Model lawOf ((a, 94), i, j, i, i) (56)
theorem lyk176 : ly_chk sx_T sx_KK m_tt m_cl ly_TH ly_Y 284 6000 lyp176 lyc176 = true := by decide +kernel
-- Model lawOf ((a, 94), (c, 0), j, i, i) (56)
theorem lyk177 : ly_chk sx_T sx_KK m_tt m_cl ly_TH ly_Y 284 6000 lyp177 lyc177 = true := by decide +kernel
-- Model lawOf ((a, 94), (c, 1), j, i, i) (56)
theorem lyk178 : ly_chk sx_T sx_KK m_tt m_cl ly_TH ly_Y 284 6000 lyp178 lyc178 = true := by decide +kernel
-- Model lawOf ((a, 94), (c, 10), j, i, i) (56)
theorem lyk179 : ly_chk sx_T sx_KK m_tt m_cl ly_TH ly_Y 284 6000 lyp179 lyc179 = true := by decide +kernel
-- Model lawOf ((a, 94), (c, 11), j, i, i) (56)
theorem lyk180 : ly_chk sx_T sx_KK m_tt m_cl ly_TH ly_Y 284 6000 lyp180 lyc180 = true := by decide +kernel
-- Model lawOf ((a, 94), (c, 12), j, i, i) (56)
theorem lyk181 : ly_chk sx_T sx_KK m_tt m_cl ly_TH ly_Y 284 6000 lyp181 lyc181 = true := by decide +kernel
