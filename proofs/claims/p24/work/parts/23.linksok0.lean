/-! PRINTED by wip/whole/gen.py: the checks -/
set_option maxRecDepth 100000 in
theorem mK0_ok : am_lkb m_cl m_tys m_P m_Tc m_sn m_sr "AssizeRide" mK0 = true := by decide +kernel
