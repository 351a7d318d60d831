/-! PRINTED by wip/p2/lyprint.py -/
-- Model put ((a, 94), i)
theorem lyk251 : ly_chk sx_T sx_KK m_tt m_cl ly_TH ly_Y 393 6000 lyp251 lyc251 = true := by decide +kernel
-- Model best ((a, 94), i)
theorem lyk252 : ly_chk sx_T sx_KK m_tt m_cl ly_TH ly_Y 394 6000 lyp252 lyc252 = true := by decide +kernel
-- Model makeMeets ((a, 94),)
theorem lyk253 : ly_chk sx_T sx_KK m_tt m_cl ly_TH ly_Y 395 6000 lyp253 lyc253 = true := by decide +kernel
-- Model isMeeting ((a, 94), i, i)
theorem lyk254 : ly_chk sx_T sx_KK m_tt m_cl ly_TH ly_Y 396 6000 lyp254 lyc254 = true := by decide +kernel
-- Model canBe ((a, 94), i, i)
theorem lyk256 : ly_chk sx_T sx_KK m_tt m_cl ly_TH ly_Y 399 6000 lyp256 lyc256 = true := by decide +kernel
-- $People tell ((a, 22), i, i, i, i, i)
theorem lyk257 : ly_chk sx_T sx_KK m_tt m_cl ly_TH ly_Y 40 6000 lyp257 lyc257 = true := by decide +kernel
-- Model laid ((a, 94), i)
theorem lyk258 : ly_chk sx_T sx_KK m_tt m_cl ly_TH ly_Y 400 6000 lyp258 lyc258 = true := by decide +kernel
-- Model bound ((a, 94), i)
theorem lyk259 : ly_chk sx_T sx_KK m_tt m_cl ly_TH ly_Y 401 6000 lyp259 lyc259 = true := by decide +kernel
-- Model prove ((a, 94), i)
theorem lyk260 : ly_chk sx_T sx_KK m_tt m_cl ly_TH ly_Y 402 6000 lyp260 lyc260 = true := by decide +kernel
-- Model far ((a, 94), i, i)
theorem lyk261 : ly_chk sx_T sx_KK m_tt m_cl ly_TH ly_Y 403 6000 lyp261 lyc261 = true := by decide +kernel
-- Model makeFars ((a, 94),)
theorem lyk262 : ly_chk sx_T sx_KK m_tt m_cl ly_TH ly_Y 404 6000 lyp262 lyc262 = true := by decide +kernel
-- Model ride ((a, 94), i, i, i, i)
theorem lyk263 : ly_chk sx_T sx_KK m_tt m_cl ly_TH ly_Y 405 6000 lyp263 lyc263 = true := by decide +kernel
