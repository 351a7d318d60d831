/-! PRINTED by wip/whole/gen.py: the checks of the instructions -/
set_option maxRecDepth 100000 in
theorem mt104_ck : am_all mK4 (mt104.1.name == "<init>") mt104 = true := by decide +kernel
set_option maxRecDepth 100000 in
theorem mt105_ck : am_all mK4 (mt105.1.name == "<init>") mt105 = true := by decide +kernel
set_option maxRecDepth 100000 in
theorem mt106_ck : am_all mK3 (mt106.1.name == "<init>") mt106 = true := by decide +kernel
set_option maxRecDepth 100000 in
theorem mt107_ck : am_all mK3 (mt107.1.name == "<init>") mt107 = true := by decide +kernel
set_option maxRecDepth 100000 in
theorem mt108_ck : am_all mK0 (mt108.1.name == "<init>") mt108 = true := by decide +kernel
set_option maxRecDepth 100000 in
theorem mt109_ck : am_all mK0 (mt109.1.name == "<init>") mt109 = true := by decide +kernel
set_option maxRecDepth 100000 in
theorem mt110_ck : am_all mK3 (mt110.1.name == "<init>") mt110 = true := by decide +kernel
set_option maxRecDepth 100000 in
theorem mt111_ck : am_all mK0 (mt111.1.name == "<init>") mt111 = true := by decide +kernel
set_option maxRecDepth 100000 in
theorem mt112_ck : am_all mK0 (mt112.1.name == "<init>") mt112 = true := by decide +kernel
set_option maxRecDepth 100000 in
theorem mt113_ck : am_all mK1 (mt113.1.name == "<init>") mt113 = true := by decide +kernel
set_option maxRecDepth 100000 in
theorem mt114_ck : am_all mK0 (mt114.1.name == "<init>") mt114 = true := by decide +kernel
set_option maxRecDepth 100000 in
theorem mt115_ck : am_all mK3 (mt115.1.name == "<init>") mt115 = true := by decide +kernel
set_option maxRecDepth 100000 in
theorem mt116_ck : am_all mK0 (mt116.1.name == "<init>") mt116 = true := by decide +kernel
set_option maxRecDepth 100000 in
theorem mt117_ck : am_all mK0 (mt117.1.name == "<init>") mt117 = true := by decide +kernel
set_option maxRecDepth 100000 in
theorem mt118_ck : am_all mK3 (mt118.1.name == "<init>") mt118 = true := by decide +kernel
set_option maxRecDepth 100000 in
theorem mt119_ck : am_all mK17 (mt119.1.name == "<init>") mt119 = true := by decide +kernel
set_option maxRecDepth 100000 in
theorem mt120_ck : am_all mK0 (mt120.1.name == "<init>") mt120 = true := by decide +kernel
set_option maxRecDepth 100000 in
theorem mt121_ck : am_all mK10 (mt121.1.name == "<init>") mt121 = true := by decide +kernel
set_option maxRecDepth 100000 in
theorem mt122_ck : am_all mK10 (mt122.1.name == "<init>") mt122 = true := by decide +kernel
set_option maxRecDepth 100000 in
theorem mt123_ck : am_all mK3 (mt123.1.name == "<init>") mt123 = true := by decide +kernel
set_option maxRecDepth 100000 in
theorem mt124_ck : am_all mK3 (mt124.1.name == "<init>") mt124 = true := by decide +kernel
set_option maxRecDepth 100000 in
theorem mt125_ck : am_all mK3 (mt125.1.name == "<init>") mt125 = true := by decide +kernel
set_option maxRecDepth 100000 in
theorem mt126_ck : am_all mK10 (mt126.1.name == "<init>") mt126 = true := by decide +kernel
set_option maxRecDepth 100000 in
theorem mt127_ck : am_all mK3 (mt127.1.name == "<init>") mt127 = true := by decide +kernel
set_option maxRecDepth 100000 in
theorem mt128_ck : am_all mK3 (mt128.1.name == "<init>") mt128 = true := by decide +kernel
set_option maxRecDepth 100000 in
theorem mt129_ck : am_all mK3 (mt129.1.name == "<init>") mt129 = true := by decide +kernel
set_option maxRecDepth 100000 in
theorem mt130_ck : am_all mK0 (mt130.1.name == "<init>") mt130 = true := by decide +kernel
set_option maxRecDepth 100000 in
theorem mt131_ck : am_all mK0 (mt131.1.name == "<init>") mt131 = true := by decide +kernel
set_option maxRecDepth 100000 in
theorem mt132_ck : am_all mK0 (mt132.1.name == "<init>") mt132 = true := by decide +kernel
set_option maxRecDepth 100000 in
theorem mt133_ck : am_all mK0 (mt133.1.name == "<init>") mt133 = true := by decide +kernel
set_option maxRecDepth 100000 in
theorem mt134_ck : am_all mK9 (mt134.1.name == "<init>") mt134 = true := by decide +kernel
set_option maxRecDepth 100000 in
theorem mt135_ck : am_all mK16 (mt135.1.name == "<init>") mt135 = true := by decide +kernel
set_option maxRecDepth 100000 in
theorem mt136_ck : am_all mK9 (mt136.1.name == "<init>") mt136 = true := by decide +kernel
set_option maxRecDepth 100000 in
theorem mt137_ck : am_all mK0 (mt137.1.name == "<init>") mt137 = true := by decide +kernel
set_option maxRecDepth 100000 in
theorem mt138_ck : am_all mK0 (mt138.1.name == "<init>") mt138 = true := by decide +kernel
set_option maxRecDepth 100000 in
theorem mt139_ck : am_all mK9 (mt139.1.name == "<init>") mt139 = true := by decide +kernel
set_option maxRecDepth 100000 in
theorem mt140_ck : am_all mK10 (mt140.1.name == "<init>") mt140 = true := by decide +kernel
set_option maxRecDepth 100000 in
theorem mt141_ck : am_all mK0 (mt141.1.name == "<init>") mt141 = true := by decide +kernel
set_option maxRecDepth 100000 in
theorem mt142_ck : am_all mK10 (mt142.1.name == "<init>") mt142 = true := by decide +kernel
set_option maxRecDepth 100000 in
theorem mt143_ck : am_all mK0 (mt143.1.name == "<init>") mt143 = true := by decide +kernel
set_option maxRecDepth 100000 in
theorem mt144_ck : am_all mK9 (mt144.1.name == "<init>") mt144 = true := by decide +kernel
set_option maxRecDepth 100000 in
theorem mt145_ck : am_all mK9 (mt145.1.name == "<init>") mt145 = true := by decide +kernel
set_option maxRecDepth 100000 in
theorem mt146_ck : am_all mK10 (mt146.1.name == "<init>") mt146 = true := by decide +kernel
set_option maxRecDepth 100000 in
theorem mt147_ck : am_all mK0 (mt147.1.name == "<init>") mt147 = true := by decide +kernel
set_option maxRecDepth 100000 in
theorem mt148_ck : am_all mK9 (mt148.1.name == "<init>") mt148 = true := by decide +kernel
set_option maxRecDepth 100000 in
theorem mt149_ck : am_all mK9 (mt149.1.name == "<init>") mt149 = true := by decide +kernel
set_option maxRecDepth 100000 in
theorem mt150_ck : am_all mK9 (mt150.1.name == "<init>") mt150 = true := by decide +kernel
set_option maxRecDepth 100000 in
theorem mt151_ck : am_all mK9 (mt151.1.name == "<init>") mt151 = true := by decide +kernel
set_option maxRecDepth 100000 in
theorem mt152_ck : am_all mK0 (mt152.1.name == "<init>") mt152 = true := by decide +kernel
set_option maxRecDepth 100000 in
theorem mt153_ck : am_all mK0 (mt153.1.name == "<init>") mt153 = true := by decide +kernel
set_option maxRecDepth 100000 in
theorem mt154_ck : am_all mK16 (mt154.1.name == "<init>") mt154 = true := by decide +kernel
set_option maxRecDepth 100000 in
theorem mt155_ck : am_all mK0 (mt155.1.name == "<init>") mt155 = true := by decide +kernel
set_option maxRecDepth 100000 in
theorem mt156_ck : am_all mK16 (mt156.1.name == "<init>") mt156 = true := by decide +kernel
set_option maxRecDepth 100000 in
theorem mt157_ck : am_all mK16 (mt157.1.name == "<init>") mt157 = true := by decide +kernel
set_option maxRecDepth 100000 in
theorem mt158_ck : am_all mK0 (mt158.1.name == "<init>") mt158 = true := by decide +kernel
set_option maxRecDepth 100000 in
theorem mt159_ck : am_all mK9 (mt159.1.name == "<init>") mt159 = true := by decide +kernel
set_option maxRecDepth 100000 in
theorem mt160_ck : am_all mK9 (mt160.1.name == "<init>") mt160 = true := by decide +kernel
set_option maxRecDepth 100000 in
theorem mt161_ck : am_all mK2 (mt161.1.name == "<init>") mt161 = true := by decide +kernel
set_option maxRecDepth 100000 in
theorem mt162_ck : am_all mK9 (mt162.1.name == "<init>") mt162 = true := by decide +kernel
set_option maxRecDepth 100000 in
theorem mt163_ck : am_all mK0 (mt163.1.name == "<init>") mt163 = true := by decide +kernel
set_option maxRecDepth 100000 in
theorem mt164_ck : am_all mK16 (mt164.1.name == "<init>") mt164 = true := by decide +kernel
set_option maxRecDepth 100000 in
theorem mt165_ck : am_all mK9 (mt165.1.name == "<init>") mt165 = true := by decide +kernel
set_option maxRecDepth 100000 in
theorem mt166_ck : am_all mK0 (mt166.1.name == "<init>") mt166 = true := by decide +kernel
set_option maxRecDepth 100000 in
theorem mt167_ck : am_all mK9 (mt167.1.name == "<init>") mt167 = true := by decide +kernel
set_option maxRecDepth 100000 in
theorem mt168_ck : am_all mK0 (mt168.1.name == "<init>") mt168 = true := by decide +kernel
set_option maxRecDepth 100000 in
theorem mt169_ck : am_all mK10 (mt169.1.name == "<init>") mt169 = true := by decide +kernel
set_option maxRecDepth 100000 in
theorem mt170_ck : am_all mK0 (mt170.1.name == "<init>") mt170 = true := by decide +kernel
set_option maxRecDepth 100000 in
theorem mt171_ck : am_all mK9 (mt171.1.name == "<init>") mt171 = true := by decide +kernel
set_option maxRecDepth 100000 in
theorem mt172_ck : am_all mK9 (mt172.1.name == "<init>") mt172 = true := by decide +kernel
set_option maxRecDepth 100000 in
theorem mt173_ck : am_all mK9 (mt173.1.name == "<init>") mt173 = true := by decide +kernel
set_option maxRecDepth 100000 in
theorem mt174_ck : am_all mK2 (mt174.1.name == "<init>") mt174 = true := by decide +kernel
set_option maxRecDepth 100000 in
theorem mt175_ck : am_all mK0 (mt175.1.name == "<init>") mt175 = true := by decide +kernel
set_option maxRecDepth 100000 in
theorem mt176_ck : am_all mK0 (mt176.1.name == "<init>") mt176 = true := by decide +kernel
set_option maxRecDepth 100000 in
theorem mt177_ck : am_all mK0 (mt177.1.name == "<init>") mt177 = true := by decide +kernel
set_option maxRecDepth 100000 in
theorem mt178_ck : am_all mK9 (mt178.1.name == "<init>") mt178 = true := by decide +kernel
set_option maxRecDepth 100000 in
theorem mt179_ck : am_all mK9 (mt179.1.name == "<init>") mt179 = true := by decide +kernel
set_option maxRecDepth 100000 in
theorem mt180_ck : am_all mK9 (mt180.1.name == "<init>") mt180 = true := by decide +kernel
set_option maxRecDepth 100000 in
theorem mt181_ck : am_all mK0 (mt181.1.name == "<init>") mt181 = true := by decide +kernel
set_option maxRecDepth 100000 in
theorem mt182_ck : am_all mK9 (mt182.1.name == "<init>") mt182 = true := by decide +kernel
set_option maxRecDepth 100000 in
theorem mt183_ck : am_all mK0 (mt183.1.name == "<init>") mt183 = true := by decide +kernel
set_option maxRecDepth 100000 in
theorem mt184_ck : am_all mK16 (mt184.1.name == "<init>") mt184 = true := by decide +kernel
set_option maxRecDepth 100000 in
theorem mt185_ck : am_all mK9 (mt185.1.name == "<init>") mt185 = true := by decide +kernel
set_option maxRecDepth 100000 in
theorem mt186_ck : am_all mK9 (mt186.1.name == "<init>") mt186 = true := by decide +kernel
set_option maxRecDepth 100000 in
theorem mt187_ck : am_all mK0 (mt187.1.name == "<init>") mt187 = true := by decide +kernel
set_option maxRecDepth 100000 in
theorem mt188_ck : am_all mK0 (mt188.1.name == "<init>") mt188 = true := by decide +kernel
set_option maxRecDepth 100000 in
theorem mt189_ck : am_all mK9 (mt189.1.name == "<init>") mt189 = true := by decide +kernel
set_option maxRecDepth 100000 in
theorem mt190_ck : am_all mK0 (mt190.1.name == "<init>") mt190 = true := by decide +kernel
set_option maxRecDepth 100000 in
theorem mt191_ck : am_all mK0 (mt191.1.name == "<init>") mt191 = true := by decide +kernel
set_option maxRecDepth 100000 in
theorem mt192_ck : am_all mK0 (mt192.1.name == "<init>") mt192 = true := by decide +kernel
set_option maxRecDepth 100000 in
theorem mt193_ck : am_all mK11 (mt193.1.name == "<init>") mt193 = true := by decide +kernel
set_option maxRecDepth 100000 in
theorem mt194_ck : am_all mK11 (mt194.1.name == "<init>") mt194 = true := by decide +kernel
set_option maxRecDepth 100000 in
theorem mt195_ck : am_all mK11 (mt195.1.name == "<init>") mt195 = true := by decide +kernel
set_option maxRecDepth 100000 in
theorem mt196_ck : am_all mK0 (mt196.1.name == "<init>") mt196 = true := by decide +kernel
set_option maxRecDepth 100000 in
theorem mt197_ck : am_all mK11 (mt197.1.name == "<init>") mt197 = true := by decide +kernel
