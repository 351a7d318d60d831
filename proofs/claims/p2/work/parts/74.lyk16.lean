/-! PRINTED by wip/p2/lyprint.py -/
-- Model may ((a, 94), i, i)
theorem lyk213 : ly_chk sx_T sx_KK m_tt m_cl ly_TH ly_Y 353 6000 lyp213 lyc213 = true := by decide +kernel
-- Model mayBe ((a, 94), i, i, i, i)
theorem lyk214 : ly_chk sx_T sx_KK m_tt m_cl ly_TH ly_Y 354 6000 lyp214 lyc214 = true := by decide +kernel
-- Model list ((a, 94), i)
theorem lyk215 : ly_chk sx_T sx_KK m_tt m_cl ly_TH ly_Y 355 6000 lyp215 lyc215 = true := by decide +kernel
-- Model listOf ((a, 94), i)
theorem lyk216 : ly_chk sx_T sx_KK m_tt m_cl ly_TH ly_Y 357 6000 lyp216 lyc216 = true := by decide +kernel
-- Model isOut ((a, 94), i, i)
theorem lyk217 : ly_chk sx_T sx_KK m_tt m_cl ly_TH ly_Y 359 6000 lyp217 lyc217 = true := by decide +kernel
-- $People come ((a, 22), i, i)
theorem lyk218 : ly_chk sx_T sx_KK m_tt m_cl ly_TH ly_Y 36 6000 lyp218 lyc218 = true := by decide +kernel
-- Model full ((a, 94), i)
theorem lyk221 : ly_chk sx_T sx_KK m_tt m_cl ly_TH ly_Y 362 6000 lyp221 lyc221 = true := by decide +kernel
-- Model ofHundred ((a, 94), i)
theorem lyk222 : ly_chk sx_T sx_KK m_tt m_cl ly_TH ly_Y 364 6000 lyp222 lyc222 = true := by decide +kernel
-- Model lacks ((a, 94), i)
theorem lyk223 : ly_chk sx_T sx_KK m_tt m_cl ly_TH ly_Y 365 6000 lyp223 lyc223 = true := by decide +kernel
-- Model juror ((a, 94), i, i)
theorem lyk224 : ly_chk sx_T sx_KK m_tt m_cl ly_TH ly_Y 366 6000 lyp224 lyc224 = true := by decide +kernel
-- Model hear ((a, 94), i)
theorem lyk225 : ly_chk sx_T sx_KK m_tt m_cl ly_TH ly_Y 367 6000 lyp225 lyc225 = true := by decide +kernel
-- Model isFoundMade ((a, 94), i)
theorem lyk226 : ly_chk sx_T sx_KK m_tt m_cl ly_TH ly_Y 368 6000 lyp226 lyc226 = true := by decide +kernel
