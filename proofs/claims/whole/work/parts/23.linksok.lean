/-! PRINTED by wip/whole/gen.py: the checks -/
set_option maxRecDepth 100000 in
theorem mK1_ok : am_lkb m_cl m_tys m_P m_Tc m_sn m_sr "AssizeRide$Tape" mK1 = true := by decide +kernel
set_option maxRecDepth 100000 in
theorem mK2_ok : am_lkb m_cl m_tys m_P m_Tc m_sn m_sr "AssizeRide$People" mK2 = true := by decide +kernel
set_option maxRecDepth 100000 in
theorem mK3_ok : am_lkb m_cl m_tys m_P m_Tc m_sn m_sr "AssizeRide$Law" mK3 = true := by decide +kernel
set_option maxRecDepth 100000 in
theorem mK4_ok : am_lkb m_cl m_tys m_P m_Tc m_sn m_sr "AssizeRide$ActReader" mK4 = true := by decide +kernel
set_option maxRecDepth 100000 in
theorem mK5_ok : am_lkb m_cl m_tys m_P m_Tc m_sn m_sr "java/lang/Math" mK5 = true := by decide +kernel
set_option maxRecDepth 100000 in
theorem mK6_ok : am_lkb m_cl m_tys m_P m_Tc m_sn m_sr "AssizeRide$Docket" mK6 = true := by decide +kernel
set_option maxRecDepth 100000 in
theorem mK7_ok : am_lkb m_cl m_tys m_P m_Tc m_sn m_sr "AssizeRide$Row" mK7 = true := by decide +kernel
set_option maxRecDepth 100000 in
theorem mK8_ok : am_lkb m_cl m_tys m_P m_Tc m_sn m_sr "AssizeRide$Gaols" mK8 = true := by decide +kernel
set_option maxRecDepth 100000 in
theorem mK9_ok : am_lkb m_cl m_tys m_P m_Tc m_sn m_sr "java/util/Arrays" mK9 = true := by decide +kernel
set_option maxRecDepth 100000 in
theorem mK10_ok : am_lkb m_cl m_tys m_P m_Tc m_sn m_sr "AssizeRide$DayOrder" mK10 = true := by decide +kernel
set_option maxRecDepth 100000 in
theorem mK11_ok : am_lkb m_cl m_tys m_P m_Tc m_sn m_sr "AssizeRide$Circuit" mK11 = true := by decide +kernel
set_option maxRecDepth 100000 in
theorem mK12_ok : am_lkb m_cl m_tys m_P m_Tc m_sn m_sr "AssizeRide$Rolls" mK12 = true := by decide +kernel
set_option maxRecDepth 100000 in
theorem mK13_ok : am_lkb m_cl m_tys m_P m_Tc m_sn m_sr "AssizeRide$Matter" mK13 = true := by decide +kernel
set_option maxRecDepth 100000 in
theorem mK14_ok : am_lkb m_cl m_tys m_P m_Tc m_sn m_sr "java/lang/Integer" mK14 = true := by decide +kernel
