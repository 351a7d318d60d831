/-! PRINTED by wip/p2/lyprint.py -/
-- Model lawOf ((a, 94), (c, 13), j, i, i) (56)
theorem lyk182 : ly_chk sx_T sx_KK m_tt m_cl ly_TH ly_Y 284 6000 lyp182 lyc182 = true := by decide +kernel
-- Model lawOf ((a, 94), (c, 2), j, i, i) (56)
theorem lyk183 : ly_chk sx_T sx_KK m_tt m_cl ly_TH ly_Y 284 6000 lyp183 lyc183 = true := by decide +kernel
-- Model lawOf ((a, 94), (c, 3), j, i, i) (56)
theorem lyk184 : ly_chk sx_T sx_KK m_tt m_cl ly_TH ly_Y 284 6000 lyp184 lyc184 = true := by decide +kernel
-- Model lawOf ((a, 94), (c, 4), j, i, i) (56)
theorem lyk185 : ly_chk sx_T sx_KK m_tt m_cl ly_TH ly_Y 284 6000 lyp185 lyc185 = true := by decide +kernel
-- Model lawOf ((a, 94), (c, 5), j, i, i) (56)
theorem lyk186 : ly_chk sx_T sx_KK m_tt m_cl ly_TH ly_Y 284 6000 lyp186 lyc186 = true := by decide +kernel
-- Model lawOf ((a, 94), (c, 6), j, i, i) (56)
theorem lyk187 : ly_chk sx_T sx_KK m_tt m_cl ly_TH ly_Y 284 6000 lyp187 lyc187 = true := by decide +kernel
-- Model lawOf ((a, 94), (c, 7), j, i, i) (56)
theorem lyk188 : ly_chk sx_T sx_KK m_tt m_cl ly_TH ly_Y 284 6000 lyp188 lyc188 = true := by decide +kernel
-- Model lawOf ((a, 94), (c, 8), j, i, i) (56)
theorem lyk189 : ly_chk sx_T sx_KK m_tt m_cl ly_TH ly_Y 284 6000 lyp189 lyc189 = true := by decide +kernel
-- Model lawOf ((a, 94), (c, 9), j, i, i) (56)
theorem lyk190 : ly_chk sx_T sx_KK m_tt m_cl ly_TH ly_Y 284 6000 lyp190 lyc190 = true := by decide +kernel
-- Model clauseOf ((a, 94), i, i, j, i, i) (184)
theorem lyk191 : ly_chk sx_T sx_KK m_tt m_cl ly_TH ly_Y 285 6000 lyp191 lyc191 = true := by decide +kernel
-- Model clauseOf ((a, 94), i, (c, 0), j, i, i) (162)
theorem lyk192 : ly_chk sx_T sx_KK m_tt m_cl ly_TH ly_Y 285 6000 lyp192 lyc192 = true := by decide +kernel
-- Model clauseOf ((a, 94), i, (c, 1), j, i, i) (162)
theorem lyk193 : ly_chk sx_T sx_KK m_tt m_cl ly_TH ly_Y 285 6000 lyp193 lyc193 = true := by decide +kernel
-- Model clauseOf ((a, 94), i, (c, 10), j, i, i) (146)
theorem lyk194 : ly_chk sx_T sx_KK m_tt m_cl ly_TH ly_Y 285 6000 lyp194 lyc194 = true := by decide +kernel
-- Model clauseOf ((a, 94), i, (c, 11), j, i, i) (146)
theorem lyk195 : ly_chk sx_T sx_KK m_tt m_cl ly_TH ly_Y 285 6000 lyp195 lyc195 = true := by decide +kernel
