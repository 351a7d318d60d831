/-! PRINTED by wip/whole/gen.py: the checks of the instructions -/
set_option maxRecDepth 100000 in
theorem mt198_ck : am_all mK0 false mt198 = true := by decide +kernel
set_option maxRecDepth 100000 in
theorem mt199_ck : am_all mK11 false mt199 = true := by decide +kernel
set_option maxRecDepth 100000 in
theorem mt200_ck : am_all mK9 false mt200 = true := by decide +kernel
set_option maxRecDepth 100000 in
theorem mt201_ck : am_all mK16 false mt201 = true := by decide +kernel
set_option maxRecDepth 100000 in
theorem mt202_ck : am_all mK0 false mt202 = true := by decide +kernel
set_option maxRecDepth 100000 in
theorem mt203_ck : am_all mK11 false mt203 = true := by decide +kernel
set_option maxRecDepth 100000 in
theorem mt204_ck : am_all mK0 false mt204 = true := by decide +kernel
set_option maxRecDepth 100000 in
theorem mt205_ck : am_all mK11 false mt205 = true := by decide +kernel
set_option maxRecDepth 100000 in
theorem mt206_ck : am_all mK0 false mt206 = true := by decide +kernel
set_option maxRecDepth 100000 in
theorem mt207_ck : am_all mK11 false mt207 = true := by decide +kernel
set_option maxRecDepth 100000 in
theorem mt208_ck : am_all mK0 false mt208 = true := by decide +kernel
set_option maxRecDepth 100000 in
theorem mt209_ck : am_all mK11 false mt209 = true := by decide +kernel
set_option maxRecDepth 100000 in
theorem mt210_ck : am_all mK9 false mt210 = true := by decide +kernel
set_option maxRecDepth 100000 in
theorem mt211_ck : am_all mK0 false mt211 = true := by decide +kernel
set_option maxRecDepth 100000 in
theorem mt212_ck : am_all mK11 false mt212 = true := by decide +kernel
set_option maxRecDepth 100000 in
theorem mt213_ck : am_all mK0 false mt213 = true := by decide +kernel
set_option maxRecDepth 100000 in
theorem mt214_ck : am_all mK0 false mt214 = true := by decide +kernel
set_option maxRecDepth 100000 in
theorem mt215_ck : am_all mK13 false mt215 = true := by decide +kernel
set_option maxRecDepth 100000 in
theorem mt216_ck : am_all mK0 false mt216 = true := by decide +kernel
set_option maxRecDepth 100000 in
theorem mt217_ck : am_all mK13 false mt217 = true := by decide +kernel
set_option maxRecDepth 100000 in
theorem mt218_ck : am_all mK13 false mt218 = true := by decide +kernel
set_option maxRecDepth 100000 in
theorem mt219_ck : am_all mK0 false mt219 = true := by decide +kernel
set_option maxRecDepth 100000 in
theorem mt220_ck : am_all mK13 false mt220 = true := by decide +kernel
set_option maxRecDepth 100000 in
theorem mt221_ck : am_all mK13 false mt221 = true := by decide +kernel
set_option maxRecDepth 100000 in
theorem mt222_ck : am_all mK13 false mt222 = true := by decide +kernel
set_option maxRecDepth 100000 in
theorem mt223_ck : am_all mK16 false mt223 = true := by decide +kernel
set_option maxRecDepth 100000 in
theorem mt224_ck : am_all mK13 false mt224 = true := by decide +kernel
set_option maxRecDepth 100000 in
theorem mt225_ck : am_all mK13 false mt225 = true := by decide +kernel
set_option maxRecDepth 100000 in
theorem mt226_ck : am_all mK13 false mt226 = true := by decide +kernel
set_option maxRecDepth 100000 in
theorem mt227_ck : am_all mK13 false mt227 = true := by decide +kernel
set_option maxRecDepth 100000 in
theorem mt228_ck : am_all mK0 false mt228 = true := by decide +kernel
set_option maxRecDepth 100000 in
theorem mt229_ck : am_all mK13 false mt229 = true := by decide +kernel
set_option maxRecDepth 100000 in
theorem mt230_ck : am_all mK0 false mt230 = true := by decide +kernel
set_option maxRecDepth 100000 in
theorem mt231_ck : am_all mK0 false mt231 = true := by decide +kernel
set_option maxRecDepth 100000 in
theorem mt232_ck : am_all mK13 false mt232 = true := by decide +kernel
set_option maxRecDepth 100000 in
theorem mt233_ck : am_all mK0 false mt233 = true := by decide +kernel
set_option maxRecDepth 100000 in
theorem mt234_ck : am_all mK14 false mt234 = true := by decide +kernel
set_option maxRecDepth 100000 in
theorem mt235_ck : am_all mK0 false mt235 = true := by decide +kernel
set_option maxRecDepth 100000 in
theorem mt236_ck : am_all mK14 false mt236 = true := by decide +kernel
set_option maxRecDepth 100000 in
theorem mt237_ck : am_all mK14 false mt237 = true := by decide +kernel
set_option maxRecDepth 100000 in
theorem mt238_ck : am_all mK14 false mt238 = true := by decide +kernel
set_option maxRecDepth 100000 in
theorem mt239_ck : am_all mK14 false mt239 = true := by decide +kernel
set_option maxRecDepth 100000 in
theorem mt240_ck : am_all mK0 false mt240 = true := by decide +kernel
set_option maxRecDepth 100000 in
theorem mt241_ck : am_all mK14 false mt241 = true := by decide +kernel
set_option maxRecDepth 100000 in
theorem mt242_ck : am_all mK0 false mt242 = true := by decide +kernel
set_option maxRecDepth 100000 in
theorem mt243_ck : am_all mK14 false mt243 = true := by decide +kernel
set_option maxRecDepth 100000 in
theorem mt244_ck : am_all mK0 false mt244 = true := by decide +kernel
set_option maxRecDepth 100000 in
theorem mt245_ck : am_all mK15 false mt245 = true := by decide +kernel
set_option maxRecDepth 100000 in
theorem mt246_ck : am_all mK0 false mt246 = true := by decide +kernel
set_option maxRecDepth 100000 in
theorem mt247_ck : am_all mK15 false mt247 = true := by decide +kernel
set_option maxRecDepth 100000 in
theorem mt248_ck : am_all mK15 false mt248 = true := by decide +kernel
set_option maxRecDepth 100000 in
theorem mt249_ck : am_all mK15 false mt249 = true := by decide +kernel
set_option maxRecDepth 100000 in
theorem mt250_ck : am_all mK15 false mt250 = true := by decide +kernel
set_option maxRecDepth 100000 in
theorem mt251_ck : am_all mK15 false mt251 = true := by decide +kernel
set_option maxRecDepth 100000 in
theorem mt252_ck : am_all mK15 false mt252 = true := by decide +kernel
set_option maxRecDepth 100000 in
theorem mt253_ck : am_all mK15 false mt253 = true := by decide +kernel
set_option maxRecDepth 100000 in
theorem mt254_ck : am_all mK15 false mt254 = true := by decide +kernel
set_option maxRecDepth 100000 in
theorem mt255_ck : am_all mK15 false mt255 = true := by decide +kernel
set_option maxRecDepth 100000 in
theorem mt256_ck : am_all mK0 false mt256 = true := by decide +kernel
set_option maxRecDepth 100000 in
theorem mt257_ck : am_all mK15 false mt257 = true := by decide +kernel
set_option maxRecDepth 100000 in
theorem mt258_ck : am_all mK15 false mt258 = true := by decide +kernel
set_option maxRecDepth 100000 in
theorem mt259_ck : am_all mK0 false mt259 = true := by decide +kernel
set_option maxRecDepth 100000 in
theorem mt260_ck : am_all mK9 false mt260 = true := by decide +kernel
set_option maxRecDepth 100000 in
theorem mt261_ck : am_all mK0 false mt261 = true := by decide +kernel
set_option maxRecDepth 100000 in
theorem mt262_ck : am_all mK9 false mt262 = true := by decide +kernel
set_option maxRecDepth 100000 in
theorem mt263_ck : am_all mK0 false mt263 = true := by decide +kernel
set_option maxRecDepth 100000 in
theorem mt264_ck : am_all mK16 false mt264 = true := by decide +kernel
set_option maxRecDepth 100000 in
theorem mt265_ck : am_all mK9 false mt265 = true := by decide +kernel
set_option maxRecDepth 100000 in
theorem mt266_ck : am_all mK0 false mt266 = true := by decide +kernel
set_option maxRecDepth 100000 in
theorem mt267_ck : am_all mK9 false mt267 = true := by decide +kernel
set_option maxRecDepth 100000 in
theorem mt268_ck : am_all mK18 true mt268 = true := by decide +kernel
set_option maxRecDepth 100000 in
theorem mt269_ck : am_all mK18 false mt269 = true := by decide +kernel
set_option maxRecDepth 100000 in
theorem mt270_ck : am_all mK18 false mt270 = true := by decide +kernel
set_option maxRecDepth 100000 in
theorem mt271_ck : am_all mK18 false mt271 = true := by decide +kernel
set_option maxRecDepth 100000 in
theorem mt272_ck : am_all mK18 false mt272 = true := by decide +kernel
set_option maxRecDepth 100000 in
theorem mt273_ck : am_all mK18 false mt273 = true := by decide +kernel
set_option maxRecDepth 100000 in
theorem mt274_ck : am_all mK18 false mt274 = true := by decide +kernel
