/-! PRINTED by wip/whole/gen.py: the program as am_met wants it -/
set_option maxRecDepth 100000 in
theorem m_cw0 : am_cwb m_Tc "AssizeRide" mT0 [3050, 3052, 3054, 3056, 3058, 3060, 3062, 3064, 3066, 3068, 3070, 3072, 3074] 13 = true := by decide +kernel
set_option maxRecDepth 100000 in
theorem m_ct0 : ∀ k, k < 13 → parseFieldDescriptor (mT0 k).2.2.1 = some ((m_tt.getD 0 []).getD k .char) := by decide +kernel
set_option maxRecDepth 100000 in
theorem m_cn0 : ∀ a, a < 13 → ∀ b, b < 13 → a ≠ b → (mT0 a).2.1 ≠ (mT0 b).2.1 := by decide +kernel
set_option maxRecDepth 100000 in
theorem m_cw1 : am_cwb m_Tc "AssizeRide$Tape" mT1 [1046, 1048, 1050, 1052, 1054, 1056, 1058] 7 = true := by decide +kernel
set_option maxRecDepth 100000 in
theorem m_ct1 : ∀ k, k < 7 → parseFieldDescriptor (mT1 k).2.2.1 = some ((m_tt.getD 1 []).getD k .char) := by decide +kernel
set_option maxRecDepth 100000 in
theorem m_cn1 : ∀ a, a < 7 → ∀ b, b < 7 → a ≠ b → (mT1 a).2.1 ≠ (mT1 b).2.1 := by decide +kernel
set_option maxRecDepth 100000 in
theorem m_cw2 : am_cwb m_Tc "AssizeRide$People" mT2 [1080, 1082, 1084, 1086, 1088, 1090, 1092, 1094, 1096] 9 = true := by decide +kernel
set_option maxRecDepth 100000 in
theorem m_ct2 : ∀ k, k < 9 → parseFieldDescriptor (mT2 k).2.2.1 = some ((m_tt.getD 2 []).getD k .char) := by decide +kernel
set_option maxRecDepth 100000 in
theorem m_cn2 : ∀ a, a < 9 → ∀ b, b < 9 → a ≠ b → (mT2 a).2.1 ≠ (mT2 b).2.1 := by decide +kernel
set_option maxRecDepth 100000 in
theorem m_cw3 : am_cwb m_Tc "AssizeRide$Law" mT3 [1120, 1122, 1124, 1126, 1128, 1130, 1132, 1134, 1136, 1138, 1140, 1142, 1144] 13 = true := by decide +kernel
set_option maxRecDepth 100000 in
theorem m_ct3 : ∀ k, k < 13 → parseFieldDescriptor (mT3 k).2.2.1 = some ((m_tt.getD 3 []).getD k .char) := by decide +kernel
set_option maxRecDepth 100000 in
theorem m_cn3 : ∀ a, a < 13 → ∀ b, b < 13 → a ≠ b → (mT3 a).2.1 ≠ (mT3 b).2.1 := by decide +kernel
set_option maxRecDepth 100000 in
theorem m_cw4 : am_cwb m_Tc "AssizeRide$ActReader" mT4 [1229, 1231, 1233, 1235, 1237, 1239, 2001, 2003, 2005, 2007, 2009, 2011, 2013, 2015, 2017, 2019, 2021] 17 = true := by decide +kernel
set_option maxRecDepth 100000 in
theorem m_ct4 : ∀ k, k < 17 → parseFieldDescriptor (mT4 k).2.2.1 = some ((m_tt.getD 4 []).getD k .char) := by decide +kernel
set_option maxRecDepth 100000 in
theorem m_cn4 : ∀ a, a < 17 → ∀ b, b < 17 → a ≠ b → (mT4 a).2.1 ≠ (mT4 b).2.1 := by decide +kernel
set_option maxRecDepth 100000 in
theorem m_cw5 : am_cwb m_Tc "AssizeRide$Docket" mT5 [2079, 2081, 2083, 2085, 2087, 2089, 2091, 2093, 2095, 2097, 2099, 2101, 2103, 2105, 2107, 2109, 2111, 2113] 18 = true := by decide +kernel
set_option maxRecDepth 100000 in
theorem m_ct5 : ∀ k, k < 18 → parseFieldDescriptor (mT5 k).2.2.1 = some ((m_tt.getD 5 []).getD k .char) := by decide +kernel
set_option maxRecDepth 100000 in
theorem m_cn5 : ∀ a, a < 18 → ∀ b, b < 18 → a ≠ b → (mT5 a).2.1 ≠ (mT5 b).2.1 := by decide +kernel
set_option maxRecDepth 100000 in
theorem m_cw6 : am_cwb m_Tc "AssizeRide$Row" mT6 [2049, 2051, 2053, 2055] 4 = true := by decide +kernel
set_option maxRecDepth 100000 in
theorem m_ct6 : ∀ k, k < 4 → parseFieldDescriptor (mT6 k).2.2.1 = some ((m_tt.getD 6 []).getD k .char) := by decide +kernel
set_option maxRecDepth 100000 in
theorem m_cn6 : ∀ a, a < 4 → ∀ b, b < 4 → a ≠ b → (mT6 a).2.1 ≠ (mT6 b).2.1 := by decide +kernel
set_option maxRecDepth 100000 in
theorem m_cw7 : am_cwb m_Tc "AssizeRide$Gaols" mT7 [2141, 2143, 2145, 2147, 2149, 2151, 2153, 2155, 2157, 2159, 2161, 2163, 2165, 2167] 14 = true := by decide +kernel
set_option maxRecDepth 100000 in
theorem m_ct7 : ∀ k, k < 14 → parseFieldDescriptor (mT7 k).2.2.1 = some ((m_tt.getD 7 []).getD k .char) := by decide +kernel
set_option maxRecDepth 100000 in
theorem m_cn7 : ∀ a, a < 14 → ∀ b, b < 14 → a ≠ b → (mT7 a).2.1 ≠ (mT7 b).2.1 := by decide +kernel
set_option maxRecDepth 100000 in
theorem m_cw8 : am_cwb m_Tc "AssizeRide$DayOrder" mT8 [2186, 2188, 2190, 2192, 2194, 2196, 2198, 2200, 2202] 9 = true := by decide +kernel
set_option maxRecDepth 100000 in
theorem m_ct8 : ∀ k, k < 9 → parseFieldDescriptor (mT8 k).2.2.1 = some ((m_tt.getD 8 []).getD k .char) := by decide +kernel
set_option maxRecDepth 100000 in
theorem m_cn8 : ∀ a, a < 9 → ∀ b, b < 9 → a ≠ b → (mT8 a).2.1 ≠ (mT8 b).2.1 := by decide +kernel
set_option maxRecDepth 100000 in
theorem m_cw9 : am_cwb m_Tc "AssizeRide$Circuit" mT9 [2225, 2227, 2229, 2231, 2233, 2235, 2237, 2239, 3001, 3003, 3005, 3007] 12 = true := by decide +kernel
set_option maxRecDepth 100000 in
theorem m_ct9 : ∀ k, k < 12 → parseFieldDescriptor (mT9 k).2.2.1 = some ((m_tt.getD 9 []).getD k .char) := by decide +kernel
set_option maxRecDepth 100000 in
theorem m_cn9 : ∀ a, a < 12 → ∀ b, b < 12 → a ≠ b → (mT9 a).2.1 ≠ (mT9 b).2.1 := by decide +kernel
set_option maxRecDepth 100000 in
theorem m_cw10 : am_cwb m_Tc "AssizeRide$Rolls" mT10 [3022, 3024, 3026, 3028, 3030, 3032] 6 = true := by decide +kernel
set_option maxRecDepth 100000 in
theorem m_ct10 : ∀ k, k < 6 → parseFieldDescriptor (mT10 k).2.2.1 = some ((m_tt.getD 10 []).getD k .char) := by decide +kernel
set_option maxRecDepth 100000 in
theorem m_cn10 : ∀ a, a < 6 → ∀ b, b < 6 → a ≠ b → (mT10 a).2.1 ≠ (mT10 b).2.1 := by decide +kernel
set_option maxRecDepth 100000 in
theorem m_cw11 : am_cwb m_Tc "AssizeRide$Matter" mT11 [5148, 5150, 5152, 5154, 5156, 5158, 5160, 5162, 5164, 5166, 5168, 5170, 5172, 5174, 5176, 5178, 5180, 5182, 5184, 5186, 5188] 21 = true := by decide +kernel
set_option maxRecDepth 100000 in
theorem m_ct11 : ∀ k, k < 21 → parseFieldDescriptor (mT11 k).2.2.1 = some ((m_tt.getD 11 []).getD k .char) := by decide +kernel
set_option maxRecDepth 100000 in
theorem m_cn11 : ∀ a, a < 21 → ∀ b, b < 21 → a ≠ b → (mT11 a).2.1 ≠ (mT11 b).2.1 := by decide +kernel
set_option maxRecDepth 100000 in
theorem m_cw12 : am_cwb m_Tc "AssizeRideModel" mT12 [8198, 8200, 8202, 8204, 8206, 8208, 8210, 8212, 8214, 8216, 8218, 8220, 8222, 8224, 8226, 8228, 8230, 8232, 8234, 8236, 8238, 9000, 9002, 9004, 9006, 9008, 9010, 9012, 9014, 9016, 9018, 9020, 9022, 9024, 9026, 9028, 9030, 9032, 9034, 9036, 9038, 9040, 9042, 9044, 9046, 9048, 9050, 9052, 9054, 9056, 9058, 9060, 9062, 9064, 9066, 9068, 9070, 9072, 9074, 9076, 9078, 9080, 9082, 9084, 9086, 9088, 9090, 9092, 9094, 9096, 9098, 9100, 9102, 9104, 9106, 9108, 9110, 9112, 9114, 9116, 9118, 9120, 9122, 9124, 9126, 9128, 9130, 9132, 9134, 9136, 9138, 9140, 9142, 9144, 9146, 9148, 9150, 9152, 9154, 9156, 9158, 9160, 9162, 9164, 9166, 9168, 9170, 9172, 9174, 9176, 9178, 9180, 9182, 9184, 9186, 9188, 9190, 9192, 9194, 9196, 9198, 9200, 9202, 9204, 9206, 9208, 9210, 9212, 9214, 9216, 9218, 9220, 9222, 9224, 9226, 9228, 9230, 9232, 9234, 9236] 140 = true := by decide +kernel
set_option maxRecDepth 100000 in
theorem m_ct12 : ∀ k, k < 140 → parseFieldDescriptor (mT12 k).2.2.1 = some ((m_tt.getD 12 []).getD k .char) := by decide +kernel
set_option maxRecDepth 100000 in
theorem m_cn12 : ∀ a, a < 140 → ∀ b, b < 140 → a ≠ b → (mT12 a).2.1 ≠ (mT12 b).2.1 := by decide +kernel
theorem m_clok : am_clok m_cl m_tt m_Ts := by
  intro ci r h
  match ci, h with
  | 0, h => cases h; exact ⟨am_cwb_ok m_Tc_in m_cw0, m_ct0, m_cn0⟩
  | 1, h => cases h; exact ⟨am_cwb_ok m_Tc_in m_cw1, m_ct1, m_cn1⟩
  | 2, h => cases h; exact ⟨am_cwb_ok m_Tc_in m_cw2, m_ct2, m_cn2⟩
  | 3, h => cases h; exact ⟨am_cwb_ok m_Tc_in m_cw3, m_ct3, m_cn3⟩
  | 4, h => cases h; exact ⟨am_cwb_ok m_Tc_in m_cw4, m_ct4, m_cn4⟩
  | 5, h => cases h; exact ⟨am_cwb_ok m_Tc_in m_cw5, m_ct5, m_cn5⟩
  | 6, h => cases h; exact ⟨am_cwb_ok m_Tc_in m_cw6, m_ct6, m_cn6⟩
  | 7, h => cases h; exact ⟨am_cwb_ok m_Tc_in m_cw7, m_ct7, m_cn7⟩
  | 8, h => cases h; exact ⟨am_cwb_ok m_Tc_in m_cw8, m_ct8, m_cn8⟩
  | 9, h => cases h; exact ⟨am_cwb_ok m_Tc_in m_cw9, m_ct9, m_cn9⟩
  | 10, h => cases h; exact ⟨am_cwb_ok m_Tc_in m_cw10, m_ct10, m_cn10⟩
  | 11, h => cases h; exact ⟨am_cwb_ok m_Tc_in m_cw11, m_ct11, m_cn11⟩
  | 12, h => cases h; exact ⟨am_cwb_ok m_Tc_in m_cw12, m_ct12, m_cn12⟩
  | n + 13, h => cases h
