/-! PRINTED by wip/whole/gen.py: the checks of the instructions -/
set_option maxRecDepth 100000 in
theorem mt104_ck : am_all mK4 false mt104 = true := by decide +kernel
set_option maxRecDepth 100000 in
theorem mt105_ck : am_all mK4 false mt105 = true := by decide +kernel
set_option maxRecDepth 100000 in
theorem mt106_ck : am_all mK3 false mt106 = true := by decide +kernel
set_option maxRecDepth 100000 in
theorem mt107_ck : am_all mK3 false mt107 = true := by decide +kernel
set_option maxRecDepth 100000 in
theorem mt108_ck : am_all mK0 false mt108 = true := by decide +kernel
set_option maxRecDepth 100000 in
theorem mt109_ck : am_all mK0 false mt109 = true := by decide +kernel
set_option maxRecDepth 100000 in
theorem mt110_ck : am_all mK3 false mt110 = true := by decide +kernel
set_option maxRecDepth 100000 in
theorem mt111_ck : am_all mK0 false mt111 = true := by decide +kernel
set_option maxRecDepth 100000 in
theorem mt112_ck : am_all mK0 false mt112 = true := by decide +kernel
set_option maxRecDepth 100000 in
theorem mt113_ck : am_all mK1 false mt113 = true := by decide +kernel
set_option maxRecDepth 100000 in
theorem mt114_ck : am_all mK0 false mt114 = true := by decide +kernel
set_option maxRecDepth 100000 in
theorem mt115_ck : am_all mK3 false mt115 = true := by decide +kernel
set_option maxRecDepth 100000 in
theorem mt116_ck : am_all mK0 false mt116 = true := by decide +kernel
set_option maxRecDepth 100000 in
theorem mt117_ck : am_all mK0 false mt117 = true := by decide +kernel
set_option maxRecDepth 100000 in
theorem mt118_ck : am_all mK3 false mt118 = true := by decide +kernel
set_option maxRecDepth 100000 in
theorem mt119_ck : am_all mK17 false mt119 = true := by decide +kernel
set_option maxRecDepth 100000 in
theorem mt120_ck : am_all mK0 false mt120 = true := by decide +kernel
set_option maxRecDepth 100000 in
theorem mt121_ck : am_all mK10 false mt121 = true := by decide +kernel
set_option maxRecDepth 100000 in
theorem mt122_ck : am_all mK10 false mt122 = true := by decide +kernel
set_option maxRecDepth 100000 in
theorem mt123_ck : am_all mK3 false mt123 = true := by decide +kernel
set_option maxRecDepth 100000 in
theorem mt124_ck : am_all mK3 false mt124 = true := by decide +kernel
set_option maxRecDepth 100000 in
theorem mt125_ck : am_all mK3 false mt125 = true := by decide +kernel
set_option maxRecDepth 100000 in
theorem mt126_ck : am_all mK10 false mt126 = true := by decide +kernel
set_option maxRecDepth 100000 in
theorem mt127_ck : am_all mK3 false mt127 = true := by decide +kernel
set_option maxRecDepth 100000 in
theorem mt128_ck : am_all mK3 false mt128 = true := by decide +kernel
set_option maxRecDepth 100000 in
theorem mt129_ck : am_all mK3 false mt129 = true := by decide +kernel
set_option maxRecDepth 100000 in
theorem mt130_ck : am_all mK0 false mt130 = true := by decide +kernel
set_option maxRecDepth 100000 in
theorem mt131_ck : am_all mK0 false mt131 = true := by decide +kernel
set_option maxRecDepth 100000 in
theorem mt132_ck : am_all mK0 false mt132 = true := by decide +kernel
set_option maxRecDepth 100000 in
theorem mt133_ck : am_all mK0 false mt133 = true := by decide +kernel
set_option maxRecDepth 100000 in
theorem mt134_ck : am_all mK9 false mt134 = true := by decide +kernel
set_option maxRecDepth 100000 in
theorem mt135_ck : am_all mK16 true mt135 = true := by decide +kernel
set_option maxRecDepth 100000 in
theorem mt136_ck : am_all mK9 false mt136 = true := by decide +kernel
set_option maxRecDepth 100000 in
theorem mt137_ck : am_all mK0 false mt137 = true := by decide +kernel
set_option maxRecDepth 100000 in
theorem mt138_ck : am_all mK0 false mt138 = true := by decide +kernel
set_option maxRecDepth 100000 in
theorem mt139_ck : am_all mK9 false mt139 = true := by decide +kernel
set_option maxRecDepth 100000 in
theorem mt140_ck : am_all mK10 false mt140 = true := by decide +kernel
set_option maxRecDepth 100000 in
theorem mt141_ck : am_all mK0 false mt141 = true := by decide +kernel
set_option maxRecDepth 100000 in
theorem mt142_ck : am_all mK10 false mt142 = true := by decide +kernel
set_option maxRecDepth 100000 in
theorem mt143_ck : am_all mK0 false mt143 = true := by decide +kernel
set_option maxRecDepth 100000 in
theorem mt144_ck : am_all mK9 false mt144 = true := by decide +kernel
set_option maxRecDepth 100000 in
theorem mt145_ck : am_all mK9 false mt145 = true := by decide +kernel
set_option maxRecDepth 100000 in
theorem mt146_ck : am_all mK10 false mt146 = true := by decide +kernel
set_option maxRecDepth 100000 in
theorem mt147_ck : am_all mK0 false mt147 = true := by decide +kernel
set_option maxRecDepth 100000 in
theorem mt148_ck : am_all mK9 false mt148 = true := by decide +kernel
set_option maxRecDepth 100000 in
theorem mt149_ck : am_all mK9 false mt149 = true := by decide +kernel
set_option maxRecDepth 100000 in
theorem mt150_ck : am_all mK9 false mt150 = true := by decide +kernel
set_option maxRecDepth 100000 in
theorem mt151_ck : am_all mK9 false mt151 = true := by decide +kernel
set_option maxRecDepth 100000 in
theorem mt152_ck : am_all mK0 false mt152 = true := by decide +kernel
set_option maxRecDepth 100000 in
theorem mt153_ck : am_all mK0 false mt153 = true := by decide +kernel
set_option maxRecDepth 100000 in
theorem mt154_ck : am_all mK16 false mt154 = true := by decide +kernel
set_option maxRecDepth 100000 in
theorem mt155_ck : am_all mK0 false mt155 = true := by decide +kernel
set_option maxRecDepth 100000 in
theorem mt156_ck : am_all mK16 false mt156 = true := by decide +kernel
set_option maxRecDepth 100000 in
theorem mt157_ck : am_all mK16 false mt157 = true := by decide +kernel
set_option maxRecDepth 100000 in
theorem mt158_ck : am_all mK0 false mt158 = true := by decide +kernel
set_option maxRecDepth 100000 in
theorem mt159_ck : am_all mK9 false mt159 = true := by decide +kernel
set_option maxRecDepth 100000 in
theorem mt160_ck : am_all mK9 false mt160 = true := by decide +kernel
set_option maxRecDepth 100000 in
theorem mt161_ck : am_all mK2 false mt161 = true := by decide +kernel
set_option maxRecDepth 100000 in
theorem mt162_ck : am_all mK9 false mt162 = true := by decide +kernel
set_option maxRecDepth 100000 in
theorem mt163_ck : am_all mK0 false mt163 = true := by decide +kernel
set_option maxRecDepth 100000 in
theorem mt164_ck : am_all mK16 false mt164 = true := by decide +kernel
set_option maxRecDepth 100000 in
theorem mt165_ck : am_all mK9 false mt165 = true := by decide +kernel
set_option maxRecDepth 100000 in
theorem mt166_ck : am_all mK0 false mt166 = true := by decide +kernel
set_option maxRecDepth 100000 in
theorem mt167_ck : am_all mK9 false mt167 = true := by decide +kernel
set_option maxRecDepth 100000 in
theorem mt168_ck : am_all mK0 false mt168 = true := by decide +kernel
set_option maxRecDepth 100000 in
theorem mt169_ck : am_all mK10 false mt169 = true := by decide +kernel
set_option maxRecDepth 100000 in
theorem mt170_ck : am_all mK0 false mt170 = true := by decide +kernel
set_option maxRecDepth 100000 in
theorem mt171_ck : am_all mK9 false mt171 = true := by decide +kernel
set_option maxRecDepth 100000 in
theorem mt172_ck : am_all mK9 false mt172 = true := by decide +kernel
set_option maxRecDepth 100000 in
theorem mt173_ck : am_all mK9 false mt173 = true := by decide +kernel
set_option maxRecDepth 100000 in
theorem mt174_ck : am_all mK2 false mt174 = true := by decide +kernel
set_option maxRecDepth 100000 in
theorem mt175_ck : am_all mK0 false mt175 = true := by decide +kernel
set_option maxRecDepth 100000 in
theorem mt176_ck : am_all mK0 false mt176 = true := by decide +kernel
set_option maxRecDepth 100000 in
theorem mt177_ck : am_all mK0 false mt177 = true := by decide +kernel
set_option maxRecDepth 100000 in
theorem mt178_ck : am_all mK9 false mt178 = true := by decide +kernel
set_option maxRecDepth 100000 in
theorem mt179_ck : am_all mK9 false mt179 = true := by decide +kernel
set_option maxRecDepth 100000 in
theorem mt180_ck : am_all mK9 false mt180 = true := by decide +kernel
set_option maxRecDepth 100000 in
theorem mt181_ck : am_all mK0 false mt181 = true := by decide +kernel
set_option maxRecDepth 100000 in
theorem mt182_ck : am_all mK9 false mt182 = true := by decide +kernel
set_option maxRecDepth 100000 in
theorem mt183_ck : am_all mK0 false mt183 = true := by decide +kernel
set_option maxRecDepth 100000 in
theorem mt184_ck : am_all mK16 false mt184 = true := by decide +kernel
set_option maxRecDepth 100000 in
theorem mt185_ck : am_all mK9 false mt185 = true := by decide +kernel
set_option maxRecDepth 100000 in
theorem mt186_ck : am_all mK9 false mt186 = true := by decide +kernel
set_option maxRecDepth 100000 in
theorem mt187_ck : am_all mK0 false mt187 = true := by decide +kernel
set_option maxRecDepth 100000 in
theorem mt188_ck : am_all mK0 false mt188 = true := by decide +kernel
set_option maxRecDepth 100000 in
theorem mt189_ck : am_all mK9 false mt189 = true := by decide +kernel
set_option maxRecDepth 100000 in
theorem mt190_ck : am_all mK0 false mt190 = true := by decide +kernel
set_option maxRecDepth 100000 in
theorem mt191_ck : am_all mK0 false mt191 = true := by decide +kernel
set_option maxRecDepth 100000 in
theorem mt192_ck : am_all mK0 false mt192 = true := by decide +kernel
set_option maxRecDepth 100000 in
theorem mt193_ck : am_all mK11 false mt193 = true := by decide +kernel
set_option maxRecDepth 100000 in
theorem mt194_ck : am_all mK11 false mt194 = true := by decide +kernel
set_option maxRecDepth 100000 in
theorem mt195_ck : am_all mK11 false mt195 = true := by decide +kernel
set_option maxRecDepth 100000 in
theorem mt196_ck : am_all mK0 false mt196 = true := by decide +kernel
set_option maxRecDepth 100000 in
theorem mt197_ck : am_all mK11 false mt197 = true := by decide +kernel
