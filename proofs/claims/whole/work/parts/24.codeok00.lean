/-! PRINTED by wip/whole/gen.py: the checks of the instructions -/
set_option maxRecDepth 100000 in
theorem mt0_ck : am_all mK0 true mt0 = true := by decide +kernel
set_option maxRecDepth 100000 in
theorem mt1_ck : am_all mK1 true mt1 = true := by decide +kernel
set_option maxRecDepth 100000 in
theorem mt2_ck : am_all mK2 true mt2 = true := by decide +kernel
set_option maxRecDepth 100000 in
theorem mt3_ck : am_all mK3 true mt3 = true := by decide +kernel
set_option maxRecDepth 100000 in
theorem mt4_ck : am_all mK4 true mt4 = true := by decide +kernel
set_option maxRecDepth 100000 in
theorem mt5_ck : am_all mK4 false mt5 = true := by decide +kernel
set_option maxRecDepth 100000 in
theorem mt6_ck : am_all mK5 false mt6 = true := by decide +kernel
set_option maxRecDepth 100000 in
theorem mt7_ck : am_all mK6 false mt7 = true := by decide +kernel
set_option maxRecDepth 100000 in
theorem mt8_ck : am_all mK6 false mt8 = true := by decide +kernel
set_option maxRecDepth 100000 in
theorem mt9_ck : am_all mK6 false mt9 = true := by decide +kernel
set_option maxRecDepth 100000 in
theorem mt10_ck : am_all mK6 false mt10 = true := by decide +kernel
set_option maxRecDepth 100000 in
theorem mt11_ck : am_all mK7 false mt11 = true := by decide +kernel
set_option maxRecDepth 100000 in
theorem mt12_ck : am_all mK6 false mt12 = true := by decide +kernel
set_option maxRecDepth 100000 in
theorem mt13_ck : am_all mK8 false mt13 = true := by decide +kernel
set_option maxRecDepth 100000 in
theorem mt14_ck : am_all mK9 true mt14 = true := by decide +kernel
set_option maxRecDepth 100000 in
theorem mt15_ck : am_all mK10 true mt15 = true := by decide +kernel
set_option maxRecDepth 100000 in
theorem mt16_ck : am_all mK11 true mt16 = true := by decide +kernel
set_option maxRecDepth 100000 in
theorem mt17_ck : am_all mK12 false mt17 = true := by decide +kernel
set_option maxRecDepth 100000 in
theorem mt18_ck : am_all mK13 true mt18 = true := by decide +kernel
set_option maxRecDepth 100000 in
theorem mt19_ck : am_all mK14 true mt19 = true := by decide +kernel
set_option maxRecDepth 100000 in
theorem mt20_ck : am_all mK15 true mt20 = true := by decide +kernel
set_option maxRecDepth 100000 in
theorem mt21_ck : am_all mK0 false mt21 = true := by decide +kernel
set_option maxRecDepth 100000 in
theorem mt22_ck : am_all mK1 false mt22 = true := by decide +kernel
set_option maxRecDepth 100000 in
theorem mt23_ck : am_all mK1 false mt23 = true := by decide +kernel
set_option maxRecDepth 100000 in
theorem mt24_ck : am_all mK0 false mt24 = true := by decide +kernel
set_option maxRecDepth 100000 in
theorem mt25_ck : am_all mK0 false mt25 = true := by decide +kernel
set_option maxRecDepth 100000 in
theorem mt26_ck : am_all mK0 false mt26 = true := by decide +kernel
set_option maxRecDepth 100000 in
theorem mt27_ck : am_all mK0 false mt27 = true := by decide +kernel
set_option maxRecDepth 100000 in
theorem mt28_ck : am_all mK14 false mt28 = true := by decide +kernel
set_option maxRecDepth 100000 in
theorem mt29_ck : am_all mK14 false mt29 = true := by decide +kernel
set_option maxRecDepth 100000 in
theorem mt30_ck : am_all mK14 false mt30 = true := by decide +kernel
set_option maxRecDepth 100000 in
theorem mt31_ck : am_all mK0 false mt31 = true := by decide +kernel
set_option maxRecDepth 100000 in
theorem mt32_ck : am_all mK11 false mt32 = true := by decide +kernel
set_option maxRecDepth 100000 in
theorem mt33_ck : am_all mK2 false mt33 = true := by decide +kernel
set_option maxRecDepth 100000 in
theorem mt34_ck : am_all mK2 false mt34 = true := by decide +kernel
set_option maxRecDepth 100000 in
theorem mt35_ck : am_all mK0 false mt35 = true := by decide +kernel
set_option maxRecDepth 100000 in
theorem mt36_ck : am_all mK2 false mt36 = true := by decide +kernel
set_option maxRecDepth 100000 in
theorem mt37_ck : am_all mK0 false mt37 = true := by decide +kernel
set_option maxRecDepth 100000 in
theorem mt38_ck : am_all mK2 false mt38 = true := by decide +kernel
set_option maxRecDepth 100000 in
theorem mt39_ck : am_all mK0 false mt39 = true := by decide +kernel
set_option maxRecDepth 100000 in
theorem mt40_ck : am_all mK2 false mt40 = true := by decide +kernel
set_option maxRecDepth 100000 in
theorem mt41_ck : am_all mK0 false mt41 = true := by decide +kernel
set_option maxRecDepth 100000 in
theorem mt42_ck : am_all mK0 false mt42 = true := by decide +kernel
set_option maxRecDepth 100000 in
theorem mt43_ck : am_all mK2 false mt43 = true := by decide +kernel
set_option maxRecDepth 100000 in
theorem mt44_ck : am_all mK5 false mt44 = true := by decide +kernel
set_option maxRecDepth 100000 in
theorem mt45_ck : am_all mK9 false mt45 = true := by decide +kernel
set_option maxRecDepth 100000 in
theorem mt46_ck : am_all mK9 false mt46 = true := by decide +kernel
set_option maxRecDepth 100000 in
theorem mt47_ck : am_all mK9 false mt47 = true := by decide +kernel
set_option maxRecDepth 100000 in
theorem mt48_ck : am_all mK10 false mt48 = true := by decide +kernel
set_option maxRecDepth 100000 in
theorem mt49_ck : am_all mK10 false mt49 = true := by decide +kernel
set_option maxRecDepth 100000 in
theorem mt50_ck : am_all mK16 false mt50 = true := by decide +kernel
set_option maxRecDepth 100000 in
theorem mt51_ck : am_all mK9 false mt51 = true := by decide +kernel
set_option maxRecDepth 100000 in
theorem mt52_ck : am_all mK3 false mt52 = true := by decide +kernel
set_option maxRecDepth 100000 in
theorem mt53_ck : am_all mK3 false mt53 = true := by decide +kernel
set_option maxRecDepth 100000 in
theorem mt54_ck : am_all mK3 false mt54 = true := by decide +kernel
set_option maxRecDepth 100000 in
theorem mt55_ck : am_all mK3 false mt55 = true := by decide +kernel
set_option maxRecDepth 100000 in
theorem mt56_ck : am_all mK3 false mt56 = true := by decide +kernel
set_option maxRecDepth 100000 in
theorem mt57_ck : am_all mK3 false mt57 = true := by decide +kernel
set_option maxRecDepth 100000 in
theorem mt58_ck : am_all mK9 false mt58 = true := by decide +kernel
set_option maxRecDepth 100000 in
theorem mt59_ck : am_all mK9 false mt59 = true := by decide +kernel
set_option maxRecDepth 100000 in
theorem mt60_ck : am_all mK10 false mt60 = true := by decide +kernel
set_option maxRecDepth 100000 in
theorem mt61_ck : am_all mK16 false mt61 = true := by decide +kernel
set_option maxRecDepth 100000 in
theorem mt62_ck : am_all mK16 false mt62 = true := by decide +kernel
set_option maxRecDepth 100000 in
theorem mt63_ck : am_all mK9 false mt63 = true := by decide +kernel
set_option maxRecDepth 100000 in
theorem mt64_ck : am_all mK9 false mt64 = true := by decide +kernel
set_option maxRecDepth 100000 in
theorem mt65_ck : am_all mK0 false mt65 = true := by decide +kernel
set_option maxRecDepth 100000 in
theorem mt66_ck : am_all mK2 false mt66 = true := by decide +kernel
set_option maxRecDepth 100000 in
theorem mt67_ck : am_all mK0 false mt67 = true := by decide +kernel
set_option maxRecDepth 100000 in
theorem mt68_ck : am_all mK0 false mt68 = true := by decide +kernel
set_option maxRecDepth 100000 in
theorem mt69_ck : am_all mK2 false mt69 = true := by decide +kernel
set_option maxRecDepth 100000 in
theorem mt70_ck : am_all mK0 false mt70 = true := by decide +kernel
set_option maxRecDepth 100000 in
theorem mt71_ck : am_all mK1 false mt71 = true := by decide +kernel
set_option maxRecDepth 100000 in
theorem mt72_ck : am_all mK1 false mt72 = true := by decide +kernel
set_option maxRecDepth 100000 in
theorem mt73_ck : am_all mK1 false mt73 = true := by decide +kernel
set_option maxRecDepth 100000 in
theorem mt74_ck : am_all mK1 false mt74 = true := by decide +kernel
set_option maxRecDepth 100000 in
theorem mt75_ck : am_all mK1 false mt75 = true := by decide +kernel
set_option maxRecDepth 100000 in
theorem mt76_ck : am_all mK3 false mt76 = true := by decide +kernel
set_option maxRecDepth 100000 in
theorem mt77_ck : am_all mK4 false mt77 = true := by decide +kernel
set_option maxRecDepth 100000 in
theorem mt78_ck : am_all mK4 false mt78 = true := by decide +kernel
set_option maxRecDepth 100000 in
theorem mt79_ck : am_all mK1 false mt79 = true := by decide +kernel
set_option maxRecDepth 100000 in
theorem mt80_ck : am_all mK1 false mt80 = true := by decide +kernel
set_option maxRecDepth 100000 in
theorem mt81_ck : am_all mK4 false mt81 = true := by decide +kernel
set_option maxRecDepth 100000 in
theorem mt82_ck : am_all mK4 false mt82 = true := by decide +kernel
set_option maxRecDepth 100000 in
theorem mt83_ck : am_all mK4 false mt83 = true := by decide +kernel
set_option maxRecDepth 100000 in
theorem mt84_ck : am_all mK1 false mt84 = true := by decide +kernel
set_option maxRecDepth 100000 in
theorem mt85_ck : am_all mK3 false mt85 = true := by decide +kernel
set_option maxRecDepth 100000 in
theorem mt86_ck : am_all mK3 false mt86 = true := by decide +kernel
set_option maxRecDepth 100000 in
theorem mt87_ck : am_all mK4 false mt87 = true := by decide +kernel
set_option maxRecDepth 100000 in
theorem mt88_ck : am_all mK4 false mt88 = true := by decide +kernel
set_option maxRecDepth 100000 in
theorem mt89_ck : am_all mK4 false mt89 = true := by decide +kernel
set_option maxRecDepth 100000 in
theorem mt90_ck : am_all mK4 false mt90 = true := by decide +kernel
set_option maxRecDepth 100000 in
theorem mt91_ck : am_all mK4 false mt91 = true := by decide +kernel
set_option maxRecDepth 100000 in
theorem mt92_ck : am_all mK4 false mt92 = true := by decide +kernel
set_option maxRecDepth 100000 in
theorem mt93_ck : am_all mK4 false mt93 = true := by decide +kernel
set_option maxRecDepth 100000 in
theorem mt94_ck : am_all mK4 false mt94 = true := by decide +kernel
set_option maxRecDepth 100000 in
theorem mt95_ck : am_all mK4 false mt95 = true := by decide +kernel
set_option maxRecDepth 100000 in
theorem mt96_ck : am_all mK4 false mt96 = true := by decide +kernel
set_option maxRecDepth 100000 in
theorem mt97_ck : am_all mK3 false mt97 = true := by decide +kernel
set_option maxRecDepth 100000 in
theorem mt98_ck : am_all mK4 false mt98 = true := by decide +kernel
set_option maxRecDepth 100000 in
theorem mt99_ck : am_all mK4 false mt99 = true := by decide +kernel
set_option maxRecDepth 100000 in
theorem mt100_ck : am_all mK4 false mt100 = true := by decide +kernel
set_option maxRecDepth 100000 in
theorem mt101_ck : am_all mK4 false mt101 = true := by decide +kernel
set_option maxRecDepth 100000 in
theorem mt102_ck : am_all mK3 false mt102 = true := by decide +kernel
set_option maxRecDepth 100000 in
theorem mt103_ck : am_all mK4 false mt103 = true := by decide +kernel
