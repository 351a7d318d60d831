/-! PRINTED by wip/whole/gen.py: the checks of the instructions -/
set_option maxRecDepth 100000 in
theorem mt198_ck : am_all mK0 (mt198.1.name == "<init>") mt198 = true := by decide +kernel
set_option maxRecDepth 100000 in
theorem mt199_ck : am_all mK11 (mt199.1.name == "<init>") mt199 = true := by decide +kernel
set_option maxRecDepth 100000 in
theorem mt200_ck : am_all mK9 (mt200.1.name == "<init>") mt200 = true := by decide +kernel
set_option maxRecDepth 100000 in
theorem mt201_ck : am_all mK16 (mt201.1.name == "<init>") mt201 = true := by decide +kernel
set_option maxRecDepth 100000 in
theorem mt202_ck : am_all mK0 (mt202.1.name == "<init>") mt202 = true := by decide +kernel
set_option maxRecDepth 100000 in
theorem mt203_ck : am_all mK11 (mt203.1.name == "<init>") mt203 = true := by decide +kernel
set_option maxRecDepth 100000 in
theorem mt204_ck : am_all mK0 (mt204.1.name == "<init>") mt204 = true := by decide +kernel
set_option maxRecDepth 100000 in
theorem mt205_ck : am_all mK11 (mt205.1.name == "<init>") mt205 = true := by decide +kernel
set_option maxRecDepth 100000 in
theorem mt206_ck : am_all mK0 (mt206.1.name == "<init>") mt206 = true := by decide +kernel
set_option maxRecDepth 100000 in
theorem mt207_ck : am_all mK11 (mt207.1.name == "<init>") mt207 = true := by decide +kernel
set_option maxRecDepth 100000 in
theorem mt208_ck : am_all mK0 (mt208.1.name == "<init>") mt208 = true := by decide +kernel
set_option maxRecDepth 100000 in
theorem mt209_ck : am_all mK11 (mt209.1.name == "<init>") mt209 = true := by decide +kernel
set_option maxRecDepth 100000 in
theorem mt210_ck : am_all mK9 (mt210.1.name == "<init>") mt210 = true := by decide +kernel
set_option maxRecDepth 100000 in
theorem mt211_ck : am_all mK0 (mt211.1.name == "<init>") mt211 = true := by decide +kernel
set_option maxRecDepth 100000 in
theorem mt212_ck : am_all mK11 (mt212.1.name == "<init>") mt212 = true := by decide +kernel
set_option maxRecDepth 100000 in
theorem mt213_ck : am_all mK0 (mt213.1.name == "<init>") mt213 = true := by decide +kernel
set_option maxRecDepth 100000 in
theorem mt214_ck : am_all mK0 (mt214.1.name == "<init>") mt214 = true := by decide +kernel
set_option maxRecDepth 100000 in
theorem mt215_ck : am_all mK13 (mt215.1.name == "<init>") mt215 = true := by decide +kernel
set_option maxRecDepth 100000 in
theorem mt216_ck : am_all mK0 (mt216.1.name == "<init>") mt216 = true := by decide +kernel
set_option maxRecDepth 100000 in
theorem mt217_ck : am_all mK13 (mt217.1.name == "<init>") mt217 = true := by decide +kernel
set_option maxRecDepth 100000 in
theorem mt218_ck : am_all mK13 (mt218.1.name == "<init>") mt218 = true := by decide +kernel
set_option maxRecDepth 100000 in
theorem mt219_ck : am_all mK0 (mt219.1.name == "<init>") mt219 = true := by decide +kernel
set_option maxRecDepth 100000 in
theorem mt220_ck : am_all mK13 (mt220.1.name == "<init>") mt220 = true := by decide +kernel
set_option maxRecDepth 100000 in
theorem mt221_ck : am_all mK13 (mt221.1.name == "<init>") mt221 = true := by decide +kernel
set_option maxRecDepth 100000 in
theorem mt222_ck : am_all mK13 (mt222.1.name == "<init>") mt222 = true := by decide +kernel
set_option maxRecDepth 100000 in
theorem mt223_ck : am_all mK16 (mt223.1.name == "<init>") mt223 = true := by decide +kernel
set_option maxRecDepth 100000 in
theorem mt224_ck : am_all mK13 (mt224.1.name == "<init>") mt224 = true := by decide +kernel
set_option maxRecDepth 100000 in
theorem mt225_ck : am_all mK13 (mt225.1.name == "<init>") mt225 = true := by decide +kernel
set_option maxRecDepth 100000 in
theorem mt226_ck : am_all mK13 (mt226.1.name == "<init>") mt226 = true := by decide +kernel
set_option maxRecDepth 100000 in
theorem mt227_ck : am_all mK13 (mt227.1.name == "<init>") mt227 = true := by decide +kernel
set_option maxRecDepth 100000 in
theorem mt228_ck : am_all mK0 (mt228.1.name == "<init>") mt228 = true := by decide +kernel
set_option maxRecDepth 100000 in
theorem mt229_ck : am_all mK13 (mt229.1.name == "<init>") mt229 = true := by decide +kernel
set_option maxRecDepth 100000 in
theorem mt230_ck : am_all mK0 (mt230.1.name == "<init>") mt230 = true := by decide +kernel
set_option maxRecDepth 100000 in
theorem mt231_ck : am_all mK0 (mt231.1.name == "<init>") mt231 = true := by decide +kernel
set_option maxRecDepth 100000 in
theorem mt232_ck : am_all mK13 (mt232.1.name == "<init>") mt232 = true := by decide +kernel
set_option maxRecDepth 100000 in
theorem mt233_ck : am_all mK0 (mt233.1.name == "<init>") mt233 = true := by decide +kernel
set_option maxRecDepth 100000 in
theorem mt234_ck : am_all mK14 (mt234.1.name == "<init>") mt234 = true := by decide +kernel
set_option maxRecDepth 100000 in
theorem mt235_ck : am_all mK0 (mt235.1.name == "<init>") mt235 = true := by decide +kernel
set_option maxRecDepth 100000 in
theorem mt236_ck : am_all mK14 (mt236.1.name == "<init>") mt236 = true := by decide +kernel
set_option maxRecDepth 100000 in
theorem mt237_ck : am_all mK14 (mt237.1.name == "<init>") mt237 = true := by decide +kernel
set_option maxRecDepth 100000 in
theorem mt238_ck : am_all mK14 (mt238.1.name == "<init>") mt238 = true := by decide +kernel
set_option maxRecDepth 100000 in
theorem mt239_ck : am_all mK14 (mt239.1.name == "<init>") mt239 = true := by decide +kernel
set_option maxRecDepth 100000 in
theorem mt240_ck : am_all mK0 (mt240.1.name == "<init>") mt240 = true := by decide +kernel
set_option maxRecDepth 100000 in
theorem mt241_ck : am_all mK14 (mt241.1.name == "<init>") mt241 = true := by decide +kernel
set_option maxRecDepth 100000 in
theorem mt242_ck : am_all mK0 (mt242.1.name == "<init>") mt242 = true := by decide +kernel
set_option maxRecDepth 100000 in
theorem mt243_ck : am_all mK14 (mt243.1.name == "<init>") mt243 = true := by decide +kernel
set_option maxRecDepth 100000 in
theorem mt244_ck : am_all mK0 (mt244.1.name == "<init>") mt244 = true := by decide +kernel
set_option maxRecDepth 100000 in
theorem mt245_ck : am_all mK15 (mt245.1.name == "<init>") mt245 = true := by decide +kernel
set_option maxRecDepth 100000 in
theorem mt246_ck : am_all mK0 (mt246.1.name == "<init>") mt246 = true := by decide +kernel
set_option maxRecDepth 100000 in
theorem mt247_ck : am_all mK15 (mt247.1.name == "<init>") mt247 = true := by decide +kernel
set_option maxRecDepth 100000 in
theorem mt248_ck : am_all mK15 (mt248.1.name == "<init>") mt248 = true := by decide +kernel
set_option maxRecDepth 100000 in
theorem mt249_ck : am_all mK15 (mt249.1.name == "<init>") mt249 = true := by decide +kernel
set_option maxRecDepth 100000 in
theorem mt250_ck : am_all mK15 (mt250.1.name == "<init>") mt250 = true := by decide +kernel
set_option maxRecDepth 100000 in
theorem mt251_ck : am_all mK15 (mt251.1.name == "<init>") mt251 = true := by decide +kernel
set_option maxRecDepth 100000 in
theorem mt252_ck : am_all mK15 (mt252.1.name == "<init>") mt252 = true := by decide +kernel
set_option maxRecDepth 100000 in
theorem mt253_ck : am_all mK15 (mt253.1.name == "<init>") mt253 = true := by decide +kernel
set_option maxRecDepth 100000 in
theorem mt254_ck : am_all mK15 (mt254.1.name == "<init>") mt254 = true := by decide +kernel
set_option maxRecDepth 100000 in
theorem mt255_ck : am_all mK15 (mt255.1.name == "<init>") mt255 = true := by decide +kernel
set_option maxRecDepth 100000 in
theorem mt256_ck : am_all mK0 (mt256.1.name == "<init>") mt256 = true := by decide +kernel
set_option maxRecDepth 100000 in
theorem mt257_ck : am_all mK15 (mt257.1.name == "<init>") mt257 = true := by decide +kernel
set_option maxRecDepth 100000 in
theorem mt258_ck : am_all mK15 (mt258.1.name == "<init>") mt258 = true := by decide +kernel
set_option maxRecDepth 100000 in
theorem mt259_ck : am_all mK0 (mt259.1.name == "<init>") mt259 = true := by decide +kernel
set_option maxRecDepth 100000 in
theorem mt260_ck : am_all mK9 (mt260.1.name == "<init>") mt260 = true := by decide +kernel
set_option maxRecDepth 100000 in
theorem mt261_ck : am_all mK0 (mt261.1.name == "<init>") mt261 = true := by decide +kernel
set_option maxRecDepth 100000 in
theorem mt262_ck : am_all mK9 (mt262.1.name == "<init>") mt262 = true := by decide +kernel
set_option maxRecDepth 100000 in
theorem mt263_ck : am_all mK0 (mt263.1.name == "<init>") mt263 = true := by decide +kernel
set_option maxRecDepth 100000 in
theorem mt264_ck : am_all mK16 (mt264.1.name == "<init>") mt264 = true := by decide +kernel
set_option maxRecDepth 100000 in
theorem mt265_ck : am_all mK9 (mt265.1.name == "<init>") mt265 = true := by decide +kernel
set_option maxRecDepth 100000 in
theorem mt266_ck : am_all mK0 (mt266.1.name == "<init>") mt266 = true := by decide +kernel
set_option maxRecDepth 100000 in
theorem mt267_ck : am_all mK9 (mt267.1.name == "<init>") mt267 = true := by decide +kernel
set_option maxRecDepth 100000 in
theorem mt268_ck : am_all mK18 (mt268.1.name == "<init>") mt268 = true := by decide +kernel
set_option maxRecDepth 100000 in
theorem mt269_ck : am_all mK18 (mt269.1.name == "<init>") mt269 = true := by decide +kernel
set_option maxRecDepth 100000 in
theorem mt270_ck : am_all mK18 (mt270.1.name == "<init>") mt270 = true := by decide +kernel
set_option maxRecDepth 100000 in
theorem mt271_ck : am_all mK18 (mt271.1.name == "<init>") mt271 = true := by decide +kernel
set_option maxRecDepth 100000 in
theorem mt272_ck : am_all mK18 (mt272.1.name == "<init>") mt272 = true := by decide +kernel
set_option maxRecDepth 100000 in
theorem mt273_ck : am_all mK18 (mt273.1.name == "<init>") mt273 = true := by decide +kernel
set_option maxRecDepth 100000 in
theorem mt274_ck : am_all mK18 (mt274.1.name == "<init>") mt274 = true := by decide +kernel
