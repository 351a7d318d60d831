/-! PRINTED by wip/whole/gen.py: the checks of the instructions -/
set_option maxRecDepth 100000 in
theorem mt0_ck : am_all mK0 (mt0.1.name == "<init>") mt0 = true := by decide +kernel
set_option maxRecDepth 100000 in
theorem mt1_ck : am_all mK1 (mt1.1.name == "<init>") mt1 = true := by decide +kernel
set_option maxRecDepth 100000 in
theorem mt2_ck : am_all mK2 (mt2.1.name == "<init>") mt2 = true := by decide +kernel
set_option maxRecDepth 100000 in
theorem mt3_ck : am_all mK3 (mt3.1.name == "<init>") mt3 = true := by decide +kernel
set_option maxRecDepth 100000 in
theorem mt4_ck : am_all mK4 (mt4.1.name == "<init>") mt4 = true := by decide +kernel
set_option maxRecDepth 100000 in
theorem mt5_ck : am_all mK4 (mt5.1.name == "<init>") mt5 = true := by decide +kernel
set_option maxRecDepth 100000 in
theorem mt6_ck : am_all mK5 (mt6.1.name == "<init>") mt6 = true := by decide +kernel
set_option maxRecDepth 100000 in
theorem mt7_ck : am_all mK6 (mt7.1.name == "<init>") mt7 = true := by decide +kernel
set_option maxRecDepth 100000 in
theorem mt8_ck : am_all mK6 (mt8.1.name == "<init>") mt8 = true := by decide +kernel
set_option maxRecDepth 100000 in
theorem mt9_ck : am_all mK6 (mt9.1.name == "<init>") mt9 = true := by decide +kernel
set_option maxRecDepth 100000 in
theorem mt10_ck : am_all mK6 (mt10.1.name == "<init>") mt10 = true := by decide +kernel
set_option maxRecDepth 100000 in
theorem mt11_ck : am_all mK7 (mt11.1.name == "<init>") mt11 = true := by decide +kernel
set_option maxRecDepth 100000 in
theorem mt12_ck : am_all mK6 (mt12.1.name == "<init>") mt12 = true := by decide +kernel
set_option maxRecDepth 100000 in
theorem mt13_ck : am_all mK8 (mt13.1.name == "<init>") mt13 = true := by decide +kernel
set_option maxRecDepth 100000 in
theorem mt14_ck : am_all mK9 (mt14.1.name == "<init>") mt14 = true := by decide +kernel
set_option maxRecDepth 100000 in
theorem mt15_ck : am_all mK10 (mt15.1.name == "<init>") mt15 = true := by decide +kernel
set_option maxRecDepth 100000 in
theorem mt16_ck : am_all mK11 (mt16.1.name == "<init>") mt16 = true := by decide +kernel
set_option maxRecDepth 100000 in
theorem mt17_ck : am_all mK12 (mt17.1.name == "<init>") mt17 = true := by decide +kernel
set_option maxRecDepth 100000 in
theorem mt18_ck : am_all mK13 (mt18.1.name == "<init>") mt18 = true := by decide +kernel
set_option maxRecDepth 100000 in
theorem mt19_ck : am_all mK14 (mt19.1.name == "<init>") mt19 = true := by decide +kernel
set_option maxRecDepth 100000 in
theorem mt20_ck : am_all mK15 (mt20.1.name == "<init>") mt20 = true := by decide +kernel
set_option maxRecDepth 100000 in
theorem mt21_ck : am_all mK0 (mt21.1.name == "<init>") mt21 = true := by decide +kernel
set_option maxRecDepth 100000 in
theorem mt22_ck : am_all mK1 (mt22.1.name == "<init>") mt22 = true := by decide +kernel
set_option maxRecDepth 100000 in
theorem mt23_ck : am_all mK1 (mt23.1.name == "<init>") mt23 = true := by decide +kernel
set_option maxRecDepth 100000 in
theorem mt24_ck : am_all mK0 (mt24.1.name == "<init>") mt24 = true := by decide +kernel
set_option maxRecDepth 100000 in
theorem mt25_ck : am_all mK0 (mt25.1.name == "<init>") mt25 = true := by decide +kernel
set_option maxRecDepth 100000 in
theorem mt26_ck : am_all mK0 (mt26.1.name == "<init>") mt26 = true := by decide +kernel
set_option maxRecDepth 100000 in
theorem mt27_ck : am_all mK0 (mt27.1.name == "<init>") mt27 = true := by decide +kernel
set_option maxRecDepth 100000 in
theorem mt28_ck : am_all mK14 (mt28.1.name == "<init>") mt28 = true := by decide +kernel
set_option maxRecDepth 100000 in
theorem mt29_ck : am_all mK14 (mt29.1.name == "<init>") mt29 = true := by decide +kernel
set_option maxRecDepth 100000 in
theorem mt30_ck : am_all mK14 (mt30.1.name == "<init>") mt30 = true := by decide +kernel
set_option maxRecDepth 100000 in
theorem mt31_ck : am_all mK0 (mt31.1.name == "<init>") mt31 = true := by decide +kernel
set_option maxRecDepth 100000 in
theorem mt32_ck : am_all mK11 (mt32.1.name == "<init>") mt32 = true := by decide +kernel
set_option maxRecDepth 100000 in
theorem mt33_ck : am_all mK2 (mt33.1.name == "<init>") mt33 = true := by decide +kernel
set_option maxRecDepth 100000 in
theorem mt34_ck : am_all mK2 (mt34.1.name == "<init>") mt34 = true := by decide +kernel
set_option maxRecDepth 100000 in
theorem mt35_ck : am_all mK0 (mt35.1.name == "<init>") mt35 = true := by decide +kernel
set_option maxRecDepth 100000 in
theorem mt36_ck : am_all mK2 (mt36.1.name == "<init>") mt36 = true := by decide +kernel
set_option maxRecDepth 100000 in
theorem mt37_ck : am_all mK0 (mt37.1.name == "<init>") mt37 = true := by decide +kernel
set_option maxRecDepth 100000 in
theorem mt38_ck : am_all mK2 (mt38.1.name == "<init>") mt38 = true := by decide +kernel
set_option maxRecDepth 100000 in
theorem mt39_ck : am_all mK0 (mt39.1.name == "<init>") mt39 = true := by decide +kernel
set_option maxRecDepth 100000 in
theorem mt40_ck : am_all mK2 (mt40.1.name == "<init>") mt40 = true := by decide +kernel
set_option maxRecDepth 100000 in
theorem mt41_ck : am_all mK0 (mt41.1.name == "<init>") mt41 = true := by decide +kernel
set_option maxRecDepth 100000 in
theorem mt42_ck : am_all mK0 (mt42.1.name == "<init>") mt42 = true := by decide +kernel
set_option maxRecDepth 100000 in
theorem mt43_ck : am_all mK2 (mt43.1.name == "<init>") mt43 = true := by decide +kernel
set_option maxRecDepth 100000 in
theorem mt44_ck : am_all mK5 (mt44.1.name == "<init>") mt44 = true := by decide +kernel
set_option maxRecDepth 100000 in
theorem mt45_ck : am_all mK9 (mt45.1.name == "<init>") mt45 = true := by decide +kernel
set_option maxRecDepth 100000 in
theorem mt46_ck : am_all mK9 (mt46.1.name == "<init>") mt46 = true := by decide +kernel
set_option maxRecDepth 100000 in
theorem mt47_ck : am_all mK9 (mt47.1.name == "<init>") mt47 = true := by decide +kernel
set_option maxRecDepth 100000 in
theorem mt48_ck : am_all mK10 (mt48.1.name == "<init>") mt48 = true := by decide +kernel
set_option maxRecDepth 100000 in
theorem mt49_ck : am_all mK10 (mt49.1.name == "<init>") mt49 = true := by decide +kernel
set_option maxRecDepth 100000 in
theorem mt50_ck : am_all mK16 (mt50.1.name == "<init>") mt50 = true := by decide +kernel
set_option maxRecDepth 100000 in
theorem mt51_ck : am_all mK9 (mt51.1.name == "<init>") mt51 = true := by decide +kernel
set_option maxRecDepth 100000 in
theorem mt52_ck : am_all mK3 (mt52.1.name == "<init>") mt52 = true := by decide +kernel
set_option maxRecDepth 100000 in
theorem mt53_ck : am_all mK3 (mt53.1.name == "<init>") mt53 = true := by decide +kernel
set_option maxRecDepth 100000 in
theorem mt54_ck : am_all mK3 (mt54.1.name == "<init>") mt54 = true := by decide +kernel
set_option maxRecDepth 100000 in
theorem mt55_ck : am_all mK3 (mt55.1.name == "<init>") mt55 = true := by decide +kernel
set_option maxRecDepth 100000 in
theorem mt56_ck : am_all mK3 (mt56.1.name == "<init>") mt56 = true := by decide +kernel
set_option maxRecDepth 100000 in
theorem mt57_ck : am_all mK3 (mt57.1.name == "<init>") mt57 = true := by decide +kernel
set_option maxRecDepth 100000 in
theorem mt58_ck : am_all mK9 (mt58.1.name == "<init>") mt58 = true := by decide +kernel
set_option maxRecDepth 100000 in
theorem mt59_ck : am_all mK9 (mt59.1.name == "<init>") mt59 = true := by decide +kernel
set_option maxRecDepth 100000 in
theorem mt60_ck : am_all mK10 (mt60.1.name == "<init>") mt60 = true := by decide +kernel
set_option maxRecDepth 100000 in
theorem mt61_ck : am_all mK16 (mt61.1.name == "<init>") mt61 = true := by decide +kernel
set_option maxRecDepth 100000 in
theorem mt62_ck : am_all mK16 (mt62.1.name == "<init>") mt62 = true := by decide +kernel
set_option maxRecDepth 100000 in
theorem mt63_ck : am_all mK9 (mt63.1.name == "<init>") mt63 = true := by decide +kernel
set_option maxRecDepth 100000 in
theorem mt64_ck : am_all mK9 (mt64.1.name == "<init>") mt64 = true := by decide +kernel
set_option maxRecDepth 100000 in
theorem mt65_ck : am_all mK0 (mt65.1.name == "<init>") mt65 = true := by decide +kernel
set_option maxRecDepth 100000 in
theorem mt66_ck : am_all mK2 (mt66.1.name == "<init>") mt66 = true := by decide +kernel
set_option maxRecDepth 100000 in
theorem mt67_ck : am_all mK0 (mt67.1.name == "<init>") mt67 = true := by decide +kernel
set_option maxRecDepth 100000 in
theorem mt68_ck : am_all mK0 (mt68.1.name == "<init>") mt68 = true := by decide +kernel
set_option maxRecDepth 100000 in
theorem mt69_ck : am_all mK2 (mt69.1.name == "<init>") mt69 = true := by decide +kernel
set_option maxRecDepth 100000 in
theorem mt70_ck : am_all mK0 (mt70.1.name == "<init>") mt70 = true := by decide +kernel
set_option maxRecDepth 100000 in
theorem mt71_ck : am_all mK1 (mt71.1.name == "<init>") mt71 = true := by decide +kernel
set_option maxRecDepth 100000 in
theorem mt72_ck : am_all mK1 (mt72.1.name == "<init>") mt72 = true := by decide +kernel
set_option maxRecDepth 100000 in
theorem mt73_ck : am_all mK1 (mt73.1.name == "<init>") mt73 = true := by decide +kernel
set_option maxRecDepth 100000 in
theorem mt74_ck : am_all mK1 (mt74.1.name == "<init>") mt74 = true := by decide +kernel
set_option maxRecDepth 100000 in
theorem mt75_ck : am_all mK1 (mt75.1.name == "<init>") mt75 = true := by decide +kernel
set_option maxRecDepth 100000 in
theorem mt76_ck : am_all mK3 (mt76.1.name == "<init>") mt76 = true := by decide +kernel
set_option maxRecDepth 100000 in
theorem mt77_ck : am_all mK4 (mt77.1.name == "<init>") mt77 = true := by decide +kernel
set_option maxRecDepth 100000 in
theorem mt78_ck : am_all mK4 (mt78.1.name == "<init>") mt78 = true := by decide +kernel
set_option maxRecDepth 100000 in
theorem mt79_ck : am_all mK1 (mt79.1.name == "<init>") mt79 = true := by decide +kernel
set_option maxRecDepth 100000 in
theorem mt80_ck : am_all mK1 (mt80.1.name == "<init>") mt80 = true := by decide +kernel
set_option maxRecDepth 100000 in
theorem mt81_ck : am_all mK4 (mt81.1.name == "<init>") mt81 = true := by decide +kernel
set_option maxRecDepth 100000 in
theorem mt82_ck : am_all mK4 (mt82.1.name == "<init>") mt82 = true := by decide +kernel
set_option maxRecDepth 100000 in
theorem mt83_ck : am_all mK4 (mt83.1.name == "<init>") mt83 = true := by decide +kernel
set_option maxRecDepth 100000 in
theorem mt84_ck : am_all mK1 (mt84.1.name == "<init>") mt84 = true := by decide +kernel
set_option maxRecDepth 100000 in
theorem mt85_ck : am_all mK3 (mt85.1.name == "<init>") mt85 = true := by decide +kernel
set_option maxRecDepth 100000 in
theorem mt86_ck : am_all mK3 (mt86.1.name == "<init>") mt86 = true := by decide +kernel
set_option maxRecDepth 100000 in
theorem mt87_ck : am_all mK4 (mt87.1.name == "<init>") mt87 = true := by decide +kernel
set_option maxRecDepth 100000 in
theorem mt88_ck : am_all mK4 (mt88.1.name == "<init>") mt88 = true := by decide +kernel
set_option maxRecDepth 100000 in
theorem mt89_ck : am_all mK4 (mt89.1.name == "<init>") mt89 = true := by decide +kernel
set_option maxRecDepth 100000 in
theorem mt90_ck : am_all mK4 (mt90.1.name == "<init>") mt90 = true := by decide +kernel
set_option maxRecDepth 100000 in
theorem mt91_ck : am_all mK4 (mt91.1.name == "<init>") mt91 = true := by decide +kernel
set_option maxRecDepth 100000 in
theorem mt92_ck : am_all mK4 (mt92.1.name == "<init>") mt92 = true := by decide +kernel
set_option maxRecDepth 100000 in
theorem mt93_ck : am_all mK4 (mt93.1.name == "<init>") mt93 = true := by decide +kernel
set_option maxRecDepth 100000 in
theorem mt94_ck : am_all mK4 (mt94.1.name == "<init>") mt94 = true := by decide +kernel
set_option maxRecDepth 100000 in
theorem mt95_ck : am_all mK4 (mt95.1.name == "<init>") mt95 = true := by decide +kernel
set_option maxRecDepth 100000 in
theorem mt96_ck : am_all mK4 (mt96.1.name == "<init>") mt96 = true := by decide +kernel
set_option maxRecDepth 100000 in
theorem mt97_ck : am_all mK3 (mt97.1.name == "<init>") mt97 = true := by decide +kernel
set_option maxRecDepth 100000 in
theorem mt98_ck : am_all mK4 (mt98.1.name == "<init>") mt98 = true := by decide +kernel
set_option maxRecDepth 100000 in
theorem mt99_ck : am_all mK4 (mt99.1.name == "<init>") mt99 = true := by decide +kernel
set_option maxRecDepth 100000 in
theorem mt100_ck : am_all mK4 (mt100.1.name == "<init>") mt100 = true := by decide +kernel
set_option maxRecDepth 100000 in
theorem mt101_ck : am_all mK4 (mt101.1.name == "<init>") mt101 = true := by decide +kernel
set_option maxRecDepth 100000 in
theorem mt102_ck : am_all mK3 (mt102.1.name == "<init>") mt102 = true := by decide +kernel
set_option maxRecDepth 100000 in
theorem mt103_ck : am_all mK4 (mt103.1.name == "<init>") mt103 = true := by decide +kernel
