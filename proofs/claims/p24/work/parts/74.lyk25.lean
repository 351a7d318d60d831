/-! PRINTED by wip/p2/lyprint.py -/
-- Model lays ((a, 94), i, i, i) (150)
theorem lyk325 : ly_chk sx_T sx_KK m_tt m_cl ly_TH ly_Y 398 6000 lyp325 lyc325 = true := by decide +kernel
-- Model canBe ((a, 94), i, i) (198)
theorem lyk326 : ly_chk sx_T sx_KK m_tt m_cl ly_TH ly_Y 399 6000 lyp326 lyc326 = true := by decide +kernel
-- $People tell ((a, 22), i, i, i, i, i) (88)
theorem lyk327 : ly_chk sx_T sx_KK m_tt m_cl ly_TH ly_Y 40 6000 lyp327 lyc327 = true := by decide +kernel
-- Model laid ((a, 94), i) (66)
theorem lyk328 : ly_chk sx_T sx_KK m_tt m_cl ly_TH ly_Y 400 6000 lyp328 lyc328 = true := by decide +kernel
-- Model bound ((a, 94), i) (134)
theorem lyk329 : ly_chk sx_T sx_KK m_tt m_cl ly_TH ly_Y 401 6000 lyp329 lyc329 = true := by decide +kernel
-- Model prove ((a, 94), i) (230)
theorem lyk330 : ly_chk sx_T sx_KK m_tt m_cl ly_TH ly_Y 402 6000 lyp330 lyc330 = true := by decide +kernel
-- Model far ((a, 94), i, i) (152)
theorem lyk331 : ly_chk sx_T sx_KK m_tt m_cl ly_TH ly_Y 403 6000 lyp331 lyc331 = true := by decide +kernel
-- Model makeFars ((a, 94),) (204)
theorem lyk332 : ly_chk sx_T sx_KK m_tt m_cl ly_TH ly_Y 404 6000 lyp332 lyc332 = true := by decide +kernel
-- Model ride ((a, 94), i, i, i, i) (428)
theorem lyk333 : ly_chk sx_T sx_KK m_tt m_cl ly_TH ly_Y 405 6000 lyp333 lyc333 = true := by decide +kernel
-- Model rides ((a, 94), i, i, i, i, i, i) (290)
theorem lyk334 : ly_chk sx_T sx_KK m_tt m_cl ly_TH ly_Y 406 6000 lyp334 lyc334 = true := by decide +kernel
-- Model takeRide ((a, 94), i) (86)
theorem lyk335 : ly_chk sx_T sx_KK m_tt m_cl ly_TH ly_Y 407 6000 lyp335 lyc335 = true := by decide +kernel
-- Model late ((a, 94), i, i) (296)
theorem lyk336 : ly_chk sx_T sx_KK m_tt m_cl ly_TH ly_Y 408 6000 lyp336 lyc336 = true := by decide +kernel
-- Model rode ((a, 94), i, i) (92)
theorem lyk337 : ly_chk sx_T sx_KK m_tt m_cl ly_TH ly_Y 409 6000 lyp337 lyc337 = true := by decide +kernel
--  dead ((a, 16), i, i) (148)
theorem lyk338 : ly_chk sx_T sx_KK m_tt m_cl ly_TH ly_Y 41 6000 lyp338 lyc338 = true := by decide +kernel
