/-! PRINTED by wip/p2/lyprint.py -/
-- Model takeRide ((a, 94), i)
theorem lyk265 : ly_chk sx_T sx_KK m_tt m_cl ly_TH ly_Y 407 6000 lyp265 lyc265 = true := by decide +kernel
-- Model late ((a, 94), i, i)
theorem lyk266 : ly_chk sx_T sx_KK m_tt m_cl ly_TH ly_Y 408 6000 lyp266 lyc266 = true := by decide +kernel
-- Model rode ((a, 94), i, i)
theorem lyk267 : ly_chk sx_T sx_KK m_tt m_cl ly_TH ly_Y 409 6000 lyp267 lyc267 = true := by decide +kernel
--  dead ((a, 16), i, i)
theorem lyk268 : ly_chk sx_T sx_KK m_tt m_cl ly_TH ly_Y 41 6000 lyp268 lyc268 = true := by decide +kernel
-- Model roll ((a, 94), i)
theorem lyk269 : ly_chk sx_T sx_KK m_tt m_cl ly_TH ly_Y 410 6000 lyp269 lyc269 = true := by decide +kernel
-- Model joined ((a, 94), i, i)
theorem lyk272 : ly_chk sx_T sx_KK m_tt m_cl ly_TH ly_Y 414 6000 lyp272 lyc272 = true := by decide +kernel
-- Model stateOn ((a, 94), i, i, i)
theorem lyk274 : ly_chk sx_T sx_KK m_tt m_cl ly_TH ly_Y 416 6000 lyp274 lyc274 = true := by decide +kernel
-- Model check ((a, 94), i)
theorem lyk275 : ly_chk sx_T sx_KK m_tt m_cl ly_TH ly_Y 417 6000 lyp275 lyc275 = true := by decide +kernel
-- Model count ((a, 94), i)
theorem lyk276 : ly_chk sx_T sx_KK m_tt m_cl ly_TH ly_Y 418 6000 lyp276 lyc276 = true := by decide +kernel
--  kin ((a, 16), i, i, i)
theorem lyk277 : ly_chk sx_T sx_KK m_tt m_cl ly_TH ly_Y 42 6000 lyp277 lyc277 = true := by decide +kernel
-- $Docket kinFoundLater ((a, 44), i, i, i, i)
theorem lyk278 : ly_chk sx_T sx_KK m_tt m_cl ly_TH ly_Y 45 6000 lyp278 lyc278 = true := by decide +kernel
-- $Docket isJurorAndParty ((m, 0), i, i)
theorem lyk279 : ly_chk sx_T sx_KK m_tt m_cl ly_TH ly_Y 47 6000 lyp279 lyc279 = true := by decide +kernel
