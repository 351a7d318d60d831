/-! PRINTED by wip/whole/gen.py: the checks -/
set_option maxRecDepth 100000 in
theorem mK1_ok : am_lkb m_cl m_tys m_P m_Tc m_sn m_sr "AssizeRide$Tape" mK1 = true := by decide +kernel
set_option maxRecDepth 100000 in
theorem mK2_ok : am_lkb m_cl m_tys m_P m_Tc m_sn m_sr "AssizeRide$People" mK2 = true := by decide +kernel
set_option maxRecDepth 100000 in
theorem mK3_ok : am_lkb m_cl m_tys m_P m_Tc m_sn m_sr "AssizeRide$Law" mK3 = true := by decide +kernel
set_option maxRecDepth 100000 in
theorem mK4_ok : am_lkb m_cl m_tys m_P m_Tc m_sn m_sr "AssizeRide$ActReader" mK4 = true := by decide +kernel
set_option maxRecDepth 100000 in
theorem mK5_ok : am_lkb m_cl m_tys m_P m_Tc m_sn m_sr "java/lang/Math" mK5 = true := by decide +kernel
set_option maxRecDepth 100000 in
theorem mK6_ok : am_lkb m_cl m_tys m_P m_Tc m_sn m_sr "java/lang/String" mK6 = true := by decide +kernel
set_option maxRecDepth 100000 in
theorem mK7_ok : am_lkb m_cl m_tys m_P m_Tc m_sn m_sr "java/lang/StringLatin1" mK7 = true := by decide +kernel
set_option maxRecDepth 100000 in
theorem mK8_ok : am_lkb m_cl m_tys m_P m_Tc m_sn m_sr "jdk/internal/util/Preconditions" mK8 = true := by decide +kernel
set_option maxRecDepth 100000 in
theorem mK9_ok : am_lkb m_cl m_tys m_P m_Tc m_sn m_sr "AssizeRide$Docket" mK9 = true := by decide +kernel
set_option maxRecDepth 100000 in
theorem mK10_ok : am_lkb m_cl m_tys m_P m_Tc m_sn m_sr "AssizeRide$Row" mK10 = true := by decide +kernel
set_option maxRecDepth 100000 in
theorem mK11_ok : am_lkb m_cl m_tys m_P m_Tc m_sn m_sr "AssizeRide$Gaols" mK11 = true := by decide +kernel
set_option maxRecDepth 100000 in
theorem mK12_ok : am_lkb m_cl m_tys m_P m_Tc m_sn m_sr "java/util/Arrays" mK12 = true := by decide +kernel
set_option maxRecDepth 100000 in
theorem mK13_ok : am_lkb m_cl m_tys m_P m_Tc m_sn m_sr "AssizeRide$DayOrder" mK13 = true := by decide +kernel
set_option maxRecDepth 100000 in
theorem mK14_ok : am_lkb m_cl m_tys m_P m_Tc m_sn m_sr "AssizeRide$Circuit" mK14 = true := by decide +kernel
set_option maxRecDepth 100000 in
theorem mK15_ok : am_lkb m_cl m_tys m_P m_Tc m_sn m_sr "AssizeRide$Rolls" mK15 = true := by decide +kernel
set_option maxRecDepth 100000 in
theorem mK16_ok : am_lkb m_cl m_tys m_P m_Tc m_sn m_sr "AssizeRide$Matter" mK16 = true := by decide +kernel
set_option maxRecDepth 100000 in
theorem mK17_ok : am_lkb m_cl m_tys m_P m_Tc m_sn m_sr "java/lang/Integer" mK17 = true := by decide +kernel
