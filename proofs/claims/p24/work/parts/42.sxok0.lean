/-! PRINTED by wip/p2/gensx.py: the tables of the interval machine are the abstract machine's -/
theorem sxo0 : sx_mw sxm0 mt0 := ⟨rfl, sx_find_ok (by decide +kernel) (by decide +kernel), rfl, fun _ => ⟨_, rfl, rfl⟩, fun h => absurd h (by decide)⟩
theorem sxo1 : sx_mw sxm1 mt1 := ⟨rfl, sx_find_ok (by decide +kernel) (by decide +kernel), rfl, fun _ => ⟨_, rfl, rfl⟩, fun h => absurd h (by decide)⟩
theorem sxo2 : sx_mw sxm2 mt2 := ⟨rfl, sx_find_ok (by decide +kernel) (by decide +kernel), rfl, fun _ => ⟨_, rfl, rfl⟩, fun h => absurd h (by decide)⟩
theorem sxo3 : sx_mw sxm3 mt3 := ⟨rfl, sx_find_ok (by decide +kernel) (by decide +kernel), rfl, fun _ => ⟨_, rfl, rfl⟩, fun h => absurd h (by decide)⟩
theorem sxo4 : sx_mw sxm4 mt4 := ⟨rfl, sx_find_ok (by decide +kernel) (by decide +kernel), rfl, fun _ => ⟨_, rfl, rfl⟩, fun h => absurd h (by decide)⟩
theorem sxo5 : sx_mw sxm5 mt5 := ⟨rfl, sx_find_ok (by decide +kernel) (by decide +kernel), rfl, fun _ => ⟨_, rfl, rfl⟩, fun h => absurd h (by decide)⟩
theorem sxo6 : sx_mw sxm6 mt6 := ⟨rfl, sx_find_ok (by decide +kernel) (by decide +kernel), rfl, fun h => absurd h (by decide), fun h => absurd h (by decide)⟩
theorem sxo7 : sx_mw sxm7 mt7 := ⟨rfl, sx_find_ok (by decide +kernel) (by decide +kernel), rfl, fun h => absurd h (by decide), fun _ => rfl⟩
theorem sxo8 : sx_mw sxm8 mt8 := ⟨rfl, sx_find_ok (by decide +kernel) (by decide +kernel), rfl, fun h => absurd h (by decide), fun _ => rfl⟩
theorem sxo9 : sx_mw sxm9 mt9 := ⟨rfl, sx_find_ok (by decide +kernel) (by decide +kernel), rfl, fun h => absurd h (by decide), fun _ => rfl⟩
theorem sxo10 : sx_mw sxm10 mt10 := ⟨rfl, sx_find_ok (by decide +kernel) (by decide +kernel), rfl, fun h => absurd h (by decide), fun _ => rfl⟩
theorem sxo11 : sx_mw sxm11 mt11 := ⟨rfl, sx_find_ok (by decide +kernel) (by decide +kernel), rfl, fun h => absurd h (by decide), fun h => absurd h (by decide)⟩
theorem sxo12 : sx_mw sxm12 mt12 := ⟨rfl, sx_find_ok (by decide +kernel) (by decide +kernel), rfl, fun h => absurd h (by decide), fun _ => rfl⟩
theorem sxo13 : sx_mw sxm13 mt13 := ⟨rfl, sx_find_ok (by decide +kernel) (by decide +kernel), rfl, fun h => absurd h (by decide), fun h => absurd h (by decide)⟩
theorem sxo14 : sx_mw sxm14 mt14 := ⟨rfl, sx_find_ok (by decide +kernel) (by decide +kernel), rfl, fun _ => ⟨_, rfl, rfl⟩, fun h => absurd h (by decide)⟩
theorem sxo15 : sx_mw sxm15 mt15 := ⟨rfl, sx_find_ok (by decide +kernel) (by decide +kernel), rfl, fun _ => ⟨_, rfl, rfl⟩, fun h => absurd h (by decide)⟩
theorem sxo16 : sx_mw sxm16 mt16 := ⟨rfl, sx_find_ok (by decide +kernel) (by decide +kernel), rfl, fun _ => ⟨_, rfl, rfl⟩, fun h => absurd h (by decide)⟩
theorem sxo17 : sx_mw sxm17 mt17 := ⟨rfl, sx_find_ok (by decide +kernel) (by decide +kernel), rfl, fun h => absurd h (by decide), fun h => absurd h (by decide)⟩
theorem sxo18 : sx_mw sxm18 mt18 := ⟨rfl, sx_find_ok (by decide +kernel) (by decide +kernel), rfl, fun _ => ⟨_, rfl, rfl⟩, fun h => absurd h (by decide)⟩
theorem sxo19 : sx_mw sxm19 mt19 := ⟨rfl, sx_find_ok (by decide +kernel) (by decide +kernel), rfl, fun _ => ⟨_, rfl, rfl⟩, fun h => absurd h (by decide)⟩
theorem sxo20 : sx_mw sxm20 mt20 := ⟨rfl, sx_find_ok (by decide +kernel) (by decide +kernel), rfl, fun _ => ⟨_, rfl, rfl⟩, fun h => absurd h (by decide)⟩
theorem sxo21 : sx_mw sxm21 mt21 := ⟨rfl, sx_find_ok (by decide +kernel) (by decide +kernel), rfl, fun _ => ⟨_, rfl, rfl⟩, fun h => absurd h (by decide)⟩
theorem sxo22 : sx_mw sxm22 mt22 := ⟨rfl, sx_find_ok (by decide +kernel) (by decide +kernel), rfl, fun _ => ⟨_, rfl, rfl⟩, fun h => absurd h (by decide)⟩
theorem sxo23 : sx_mw sxm23 mt23 := ⟨rfl, sx_find_ok (by decide +kernel) (by decide +kernel), rfl, fun _ => ⟨_, rfl, rfl⟩, fun h => absurd h (by decide)⟩
theorem sxo24 : sx_mw sxm24 mt24 := ⟨rfl, sx_find_ok (by decide +kernel) (by decide +kernel), rfl, fun _ => ⟨_, rfl, rfl⟩, fun h => absurd h (by decide)⟩
theorem sxo25 : sx_mw sxm25 mt25 := ⟨rfl, sx_find_ok (by decide +kernel) (by decide +kernel), rfl, fun _ => ⟨_, rfl, rfl⟩, fun h => absurd h (by decide)⟩
theorem sxo26 : sx_mw sxm26 mt26 := ⟨rfl, sx_find_ok (by decide +kernel) (by decide +kernel), rfl, fun _ => ⟨_, rfl, rfl⟩, fun h => absurd h (by decide)⟩
theorem sxo27 : sx_mw sxm27 mt27 := ⟨rfl, sx_find_ok (by decide +kernel) (by decide +kernel), rfl, fun _ => ⟨_, rfl, rfl⟩, fun h => absurd h (by decide)⟩
theorem sxo28 : sx_mw sxm28 mt28 := ⟨rfl, sx_find_ok (by decide +kernel) (by decide +kernel), rfl, fun _ => ⟨_, rfl, rfl⟩, fun h => absurd h (by decide)⟩
theorem sxo29 : sx_mw sxm29 mt29 := ⟨rfl, sx_find_ok (by decide +kernel) (by decide +kernel), rfl, fun _ => ⟨_, rfl, rfl⟩, fun h => absurd h (by decide)⟩
theorem sxo30 : sx_mw sxm30 mt30 := ⟨rfl, sx_find_ok (by decide +kernel) (by decide +kernel), rfl, fun _ => ⟨_, rfl, rfl⟩, fun h => absurd h (by decide)⟩
theorem sxo31 : sx_mw sxm31 mt31 := ⟨rfl, sx_find_ok (by decide +kernel) (by decide +kernel), rfl, fun _ => ⟨_, rfl, rfl⟩, fun h => absurd h (by decide)⟩
theorem sxo32 : sx_mw sxm32 mt32 := ⟨rfl, sx_find_ok (by decide +kernel) (by decide +kernel), rfl, fun _ => ⟨_, rfl, rfl⟩, fun h => absurd h (by decide)⟩
theorem sxo33 : sx_mw sxm33 mt33 := ⟨rfl, sx_find_ok (by decide +kernel) (by decide +kernel), rfl, fun _ => ⟨_, rfl, rfl⟩, fun h => absurd h (by decide)⟩
theorem sxo34 : sx_mw sxm34 mt34 := ⟨rfl, sx_find_ok (by decide +kernel) (by decide +kernel), rfl, fun _ => ⟨_, rfl, rfl⟩, fun h => absurd h (by decide)⟩
theorem sxo35 : sx_mw sxm35 mt35 := ⟨rfl, sx_find_ok (by decide +kernel) (by decide +kernel), rfl, fun _ => ⟨_, rfl, rfl⟩, fun h => absurd h (by decide)⟩
theorem sxo36 : sx_mw sxm36 mt36 := ⟨rfl, sx_find_ok (by decide +kernel) (by decide +kernel), rfl, fun _ => ⟨_, rfl, rfl⟩, fun h => absurd h (by decide)⟩
theorem sxo37 : sx_mw sxm37 mt37 := ⟨rfl, sx_find_ok (by decide +kernel) (by decide +kernel), rfl, fun _ => ⟨_, rfl, rfl⟩, fun h => absurd h (by decide)⟩
theorem sxo38 : sx_mw sxm38 mt38 := ⟨rfl, sx_find_ok (by decide +kernel) (by decide +kernel), rfl, fun _ => ⟨_, rfl, rfl⟩, fun h => absurd h (by decide)⟩
theorem sxo39 : sx_mw sxm39 mt39 := ⟨rfl, sx_find_ok (by decide +kernel) (by decide +kernel), rfl, fun _ => ⟨_, rfl, rfl⟩, fun h => absurd h (by decide)⟩
theorem sxo40 : sx_mw sxm40 mt40 := ⟨rfl, sx_find_ok (by decide +kernel) (by decide +kernel), rfl, fun _ => ⟨_, rfl, rfl⟩, fun h => absurd h (by decide)⟩
theorem sxo41 : sx_mw sxm41 mt41 := ⟨rfl, sx_find_ok (by decide +kernel) (by decide +kernel), rfl, fun _ => ⟨_, rfl, rfl⟩, fun h => absurd h (by decide)⟩
theorem sxo42 : sx_mw sxm42 mt42 := ⟨rfl, sx_find_ok (by decide +kernel) (by decide +kernel), rfl, fun _ => ⟨_, rfl, rfl⟩, fun h => absurd h (by decide)⟩
theorem sxo43 : sx_mw sxm43 mt43 := ⟨rfl, sx_find_ok (by decide +kernel) (by decide +kernel), rfl, fun _ => ⟨_, rfl, rfl⟩, fun h => absurd h (by decide)⟩
theorem sxo44 : sx_mw sxm44 mt44 := ⟨rfl, sx_find_ok (by decide +kernel) (by decide +kernel), rfl, fun h => absurd h (by decide), fun h => absurd h (by decide)⟩
theorem sxo45 : sx_mw sxm45 mt45 := ⟨rfl, sx_find_ok (by decide +kernel) (by decide +kernel), rfl, fun _ => ⟨_, rfl, rfl⟩, fun h => absurd h (by decide)⟩
theorem sxo46 : sx_mw sxm46 mt46 := ⟨rfl, sx_find_ok (by decide +kernel) (by decide +kernel), rfl, fun _ => ⟨_, rfl, rfl⟩, fun h => absurd h (by decide)⟩
theorem sxo47 : sx_mw sxm47 mt47 := ⟨rfl, sx_find_ok (by decide +kernel) (by decide +kernel), rfl, fun _ => ⟨_, rfl, rfl⟩, fun h => absurd h (by decide)⟩
theorem sxo48 : sx_mw sxm48 mt48 := ⟨rfl, sx_find_ok (by decide +kernel) (by decide +kernel), rfl, fun _ => ⟨_, rfl, rfl⟩, fun h => absurd h (by decide)⟩
theorem sxo49 : sx_mw sxm49 mt49 := ⟨rfl, sx_find_ok (by decide +kernel) (by decide +kernel), rfl, fun _ => ⟨_, rfl, rfl⟩, fun h => absurd h (by decide)⟩
theorem sxo50 : sx_mw sxm50 mt50 := ⟨rfl, sx_find_ok (by decide +kernel) (by decide +kernel), rfl, fun _ => ⟨_, rfl, rfl⟩, fun h => absurd h (by decide)⟩
theorem sxo51 : sx_mw sxm51 mt51 := ⟨rfl, sx_find_ok (by decide +kernel) (by decide +kernel), rfl, fun _ => ⟨_, rfl, rfl⟩, fun h => absurd h (by decide)⟩
theorem sxo52 : sx_mw sxm52 mt52 := ⟨rfl, sx_find_ok (by decide +kernel) (by decide +kernel), rfl, fun _ => ⟨_, rfl, rfl⟩, fun h => absurd h (by decide)⟩
theorem sxo53 : sx_mw sxm53 mt53 := ⟨rfl, sx_find_ok (by decide +kernel) (by decide +kernel), rfl, fun _ => ⟨_, rfl, rfl⟩, fun h => absurd h (by decide)⟩
theorem sxo54 : sx_mw sxm54 mt54 := ⟨rfl, sx_find_ok (by decide +kernel) (by decide +kernel), rfl, fun _ => ⟨_, rfl, rfl⟩, fun h => absurd h (by decide)⟩
theorem sxo55 : sx_mw sxm55 mt55 := ⟨rfl, sx_find_ok (by decide +kernel) (by decide +kernel), rfl, fun _ => ⟨_, rfl, rfl⟩, fun h => absurd h (by decide)⟩
theorem sxo56 : sx_mw sxm56 mt56 := ⟨rfl, sx_find_ok (by decide +kernel) (by decide +kernel), rfl, fun _ => ⟨_, rfl, rfl⟩, fun h => absurd h (by decide)⟩
theorem sxo57 : sx_mw sxm57 mt57 := ⟨rfl, sx_find_ok (by decide +kernel) (by decide +kernel), rfl, fun _ => ⟨_, rfl, rfl⟩, fun h => absurd h (by decide)⟩
theorem sxo58 : sx_mw sxm58 mt58 := ⟨rfl, sx_find_ok (by decide +kernel) (by decide +kernel), rfl, fun _ => ⟨_, rfl, rfl⟩, fun h => absurd h (by decide)⟩
theorem sxo59 : sx_mw sxm59 mt59 := ⟨rfl, sx_find_ok (by decide +kernel) (by decide +kernel), rfl, fun _ => ⟨_, rfl, rfl⟩, fun h => absurd h (by decide)⟩
