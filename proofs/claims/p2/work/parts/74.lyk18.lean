/-! PRINTED by wip/p2/lyprint.py -/
-- Model listOf ((a, 94), i)
theorem lyk228 : ly_chk sx_T sx_KK m_tt m_cl ly_TH ly_Y 357 6000 lyp228 lyc228 = true := by decide +kernel
-- Model isOut ((a, 94), i, i)
theorem lyk229 : ly_chk sx_T sx_KK m_tt m_cl ly_TH ly_Y 359 6000 lyp229 lyc229 = true := by decide +kernel
-- $People come ((a, 22), i, i)
theorem lyk230 : ly_chk sx_T sx_KK m_tt m_cl ly_TH ly_Y 36 6000 lyp230 lyc230 = true := by decide +kernel
-- Model full ((a, 94), i)
theorem lyk233 : ly_chk sx_T sx_KK m_tt m_cl ly_TH ly_Y 362 6000 lyp233 lyc233 = true := by decide +kernel
-- Model ofHundred ((a, 94), i)
theorem lyk234 : ly_chk sx_T sx_KK m_tt m_cl ly_TH ly_Y 364 6000 lyp234 lyc234 = true := by decide +kernel
-- Model lacks ((a, 94), i)
theorem lyk235 : ly_chk sx_T sx_KK m_tt m_cl ly_TH ly_Y 365 6000 lyp235 lyc235 = true := by decide +kernel
-- Model juror ((a, 94), i, i)
theorem lyk236 : ly_chk sx_T sx_KK m_tt m_cl ly_TH ly_Y 366 6000 lyp236 lyc236 = true := by decide +kernel
-- Model hear ((a, 94), i)
theorem lyk237 : ly_chk sx_T sx_KK m_tt m_cl ly_TH ly_Y 367 6000 lyp237 lyc237 = true := by decide +kernel
-- Model isFoundMade ((a, 94), i)
theorem lyk238 : ly_chk sx_T sx_KK m_tt m_cl ly_TH ly_Y 368 6000 lyp238 lyc238 = true := by decide +kernel
-- Model settledAs ((a, 94), (j,))
theorem lyk239 : ly_chk sx_T sx_KK m_tt m_cl ly_TH ly_Y 369 6000 lyp239 lyc239 = true := by decide +kernel
--  land ((a, 16), i, i, i)
theorem lyk240 : ly_chk sx_T sx_KK m_tt m_cl ly_TH ly_Y 37 6000 lyp240 lyc240 = true := by decide +kernel
-- Model judge ((a, 94), i)
theorem lyk241 : ly_chk sx_T sx_KK m_tt m_cl ly_TH ly_Y 370 6000 lyp241 lyc241 = true := by decide +kernel
