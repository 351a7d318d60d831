/-! PRINTED by wip/p2/lyprint.py -/
-- $People tell ((a, 22), i, i, i, i, i) (88)
theorem lyk332 : ly_chk sx_T sx_KK m_tt m_cl ly_TH ly_Y 40 6000 lyp332 lyc332 = true := by decide +kernel
-- Model laid ((a, 94), i) (66)
theorem lyk333 : ly_chk sx_T sx_KK m_tt m_cl ly_TH ly_Y 400 6000 lyp333 lyc333 = true := by decide +kernel
-- Model bound ((a, 94), i) (134)
theorem lyk334 : ly_chk sx_T sx_KK m_tt m_cl ly_TH ly_Y 401 6000 lyp334 lyc334 = true := by decide +kernel
-- Model prove ((a, 94), i) (230)
theorem lyk335 : ly_chk sx_T sx_KK m_tt m_cl ly_TH ly_Y 402 6000 lyp335 lyc335 = true := by decide +kernel
-- Model far ((a, 94), i, i) (152)
theorem lyk336 : ly_chk sx_T sx_KK m_tt m_cl ly_TH ly_Y 403 6000 lyp336 lyc336 = true := by decide +kernel
-- Model makeFars ((a, 94),) (204)
theorem lyk337 : ly_chk sx_T sx_KK m_tt m_cl ly_TH ly_Y 404 6000 lyp337 lyc337 = true := by decide +kernel
-- Model ride ((a, 94), i, i, i, i) (428)
theorem lyk338 : ly_chk sx_T sx_KK m_tt m_cl ly_TH ly_Y 405 6000 lyp338 lyc338 = true := by decide +kernel
-- Model rides ((a, 94), i, i, i, i, i, i) (290)
theorem lyk339 : ly_chk sx_T sx_KK m_tt m_cl ly_TH ly_Y 406 6000 lyp339 lyc339 = true := by decide +kernel
-- Model takeRide ((a, 94), i) (86)
theorem lyk340 : ly_chk sx_T sx_KK m_tt m_cl ly_TH ly_Y 407 6000 lyp340 lyc340 = true := by decide +kernel
-- Model late ((a, 94), i, i) (296)
theorem lyk341 : ly_chk sx_T sx_KK m_tt m_cl ly_TH ly_Y 408 6000 lyp341 lyc341 = true := by decide +kernel
-- Model rode ((a, 94), i, i) (92)
theorem lyk342 : ly_chk sx_T sx_KK m_tt m_cl ly_TH ly_Y 409 6000 lyp342 lyc342 = true := by decide +kernel
--  dead ((a, 16), i, i) (148)
theorem lyk343 : ly_chk sx_T sx_KK m_tt m_cl ly_TH ly_Y 41 6000 lyp343 lyc343 = true := by decide +kernel
-- Model roll ((a, 94), i) (260)
theorem lyk344 : ly_chk sx_T sx_KK m_tt m_cl ly_TH ly_Y 410 6000 lyp344 lyc344 = true := by decide +kernel
-- Model rowCost ((a, 94), (c, 1), i, i, i) (158)
theorem lyk346 : ly_chk sx_T sx_KK m_tt m_cl ly_TH ly_Y 412 6000 lyp346 lyc346 = true := by decide +kernel
