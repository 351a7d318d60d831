/-! PRINTED by wip/p1/gensx.py: the tables of the interval machine are the abstract machine's -/
theorem sxo0 : sx_mw sxm0 mt0 := ⟨rfl, sx_find_ok (by decide +kernel) (by decide +kernel), rfl, fun _ => ⟨_, rfl, rfl⟩, fun h => absurd h (by decide)⟩
theorem sxo1 : sx_mw sxm1 mt1 := ⟨rfl, sx_find_ok (by decide +kernel) (by decide +kernel), rfl, fun _ => ⟨_, rfl, rfl⟩, fun h => absurd h (by decide)⟩
theorem sxo2 : sx_mw sxm2 mt2 := ⟨rfl, sx_find_ok (by decide +kernel) (by decide +kernel), rfl, fun _ => ⟨_, rfl, rfl⟩, fun h => absurd h (by decide)⟩
theorem sxo3 : sx_mw sxm3 mt3 := ⟨rfl, sx_find_ok (by decide +kernel) (by decide +kernel), rfl, fun _ => ⟨_, rfl, rfl⟩, fun h => absurd h (by decide)⟩
theorem sxo4 : sx_mw sxm4 mt4 := ⟨rfl, sx_find_ok (by decide +kernel) (by decide +kernel), rfl, fun _ => ⟨_, rfl, rfl⟩, fun h => absurd h (by decide)⟩
theorem sxo5 : sx_mw sxm5 mt5 := ⟨rfl, sx_find_ok (by decide +kernel) (by decide +kernel), rfl, fun _ => ⟨_, rfl, rfl⟩, fun h => absurd h (by decide)⟩
theorem sxo6 : sx_mw sxm6 mt6 := ⟨rfl, sx_find_ok (by decide +kernel) (by decide +kernel), rfl, fun h => absurd h (by decide), fun h => absurd h (by decide)⟩
theorem sxo7 : sx_mw sxm7 mt7 := ⟨rfl, sx_find_ok (by decide +kernel) (by decide +kernel), rfl, fun h => absurd h (by decide), fun _ => rfl⟩
theorem sxo8 : sx_mw sxm8 mt8 := ⟨rfl, sx_find_ok (by decide +kernel) (by decide +kernel), rfl, fun h => absurd h (by decide), fun _ => rfl⟩
theorem sxo9 : sx_mw sxm9 mt9 := ⟨rfl, sx_find_ok (by decide +kernel) (by decide +kernel), rfl, fun h => absurd h (by decide), fun _ => rfl⟩
theorem sxo10 : sx_mw sxm10 mt10 := ⟨rfl, sx_find_ok (by decide +kernel) (by decide +kernel), rfl, fun h => absurd h (by decide), fun _ => rfl⟩
theorem sxo11 : sx_mw sxm11 mt11 := ⟨rfl, sx_find_ok (by decide +kernel) (by decide +kernel), rfl, fun h => absurd h (by decide), fun h => absurd h (by decide)⟩
theorem sxo12 : sx_mw sxm12 mt12 := ⟨rfl, sx_find_ok (by decide +kernel) (by decide +kernel), rfl, fun h => absurd h (by decide), fun _ => rfl⟩
theorem sxo13 : sx_mw sxm13 mt13 := ⟨rfl, sx_find_ok (by decide +kernel) (by decide +kernel), rfl, fun h => absurd h (by decide), fun h => absurd h (by decide)⟩
theorem sxo14 : sx_mw sxm14 mt14 := ⟨rfl, sx_find_ok (by decide +kernel) (by decide +kernel), rfl, fun _ => ⟨_, rfl, rfl⟩, fun h => absurd h (by decide)⟩
theorem sxo15 : sx_mw sxm15 mt15 := ⟨rfl, sx_find_ok (by decide +kernel) (by decide +kernel), rfl, fun _ => ⟨_, rfl, rfl⟩, fun h => absurd h (by decide)⟩
theorem sxo16 : sx_mw sxm16 mt16 := ⟨rfl, sx_find_ok (by decide +kernel) (by decide +kernel), rfl, fun _ => ⟨_, rfl, rfl⟩, fun h => absurd h (by decide)⟩
theorem sxo17 : sx_mw sxm17 mt17 := ⟨rfl, sx_find_ok (by decide +kernel) (by decide +kernel), rfl, fun h => absurd h (by decide), fun h => absurd h (by decide)⟩
theorem sxo18 : sx_mw sxm18 mt18 := ⟨rfl, sx_find_ok (by decide +kernel) (by decide +kernel), rfl, fun _ => ⟨_, rfl, rfl⟩, fun h => absurd h (by decide)⟩
theorem sxo19 : sx_mw sxm19 mt19 := ⟨rfl, sx_find_ok (by decide +kernel) (by decide +kernel), rfl, fun _ => ⟨_, rfl, rfl⟩, fun h => absurd h (by decide)⟩
theorem sxo20 : sx_mw sxm20 mt20 := ⟨rfl, sx_find_ok (by decide +kernel) (by decide +kernel), rfl, fun _ => ⟨_, rfl, rfl⟩, fun h => absurd h (by decide)⟩
theorem sxo21 : sx_mw sxm21 mt21 := ⟨rfl, sx_find_ok (by decide +kernel) (by decide +kernel), rfl, fun _ => ⟨_, rfl, rfl⟩, fun h => absurd h (by decide)⟩
theorem sxo22 : sx_mw sxm22 mt22 := ⟨rfl, sx_find_ok (by decide +kernel) (by decide +kernel), rfl, fun _ => ⟨_, rfl, rfl⟩, fun h => absurd h (by decide)⟩
theorem sxo23 : sx_mw sxm23 mt23 := ⟨rfl, sx_find_ok (by decide +kernel) (by decide +kernel), rfl, fun _ => ⟨_, rfl, rfl⟩, fun h => absurd h (by decide)⟩
theorem sxo24 : sx_mw sxm24 mt24 := ⟨rfl, sx_find_ok (by decide +kernel) (by decide +kernel), rfl, fun _ => ⟨_, rfl, rfl⟩, fun h => absurd h (by decide)⟩
theorem sxo25 : sx_mw sxm25 mt25 := ⟨rfl, sx_find_ok (by decide +kernel) (by decide +kernel), rfl, fun _ => ⟨_, rfl, rfl⟩, fun h => absurd h (by decide)⟩
theorem sxo26 : sx_mw sxm26 mt26 := ⟨rfl, sx_find_ok (by decide +kernel) (by decide +kernel), rfl, fun _ => ⟨_, rfl, rfl⟩, fun h => absurd h (by decide)⟩
theorem sxo27 : sx_mw sxm27 mt27 := ⟨rfl, sx_find_ok (by decide +kernel) (by decide +kernel), rfl, fun _ => ⟨_, rfl, rfl⟩, fun h => absurd h (by decide)⟩
theorem sxo28 : sx_mw sxm28 mt28 := ⟨rfl, sx_find_ok (by decide +kernel) (by decide +kernel), rfl, fun _ => ⟨_, rfl, rfl⟩, fun h => absurd h (by decide)⟩
theorem sxo29 : sx_mw sxm29 mt29 := ⟨rfl, sx_find_ok (by decide +kernel) (by decide +kernel), rfl, fun _ => ⟨_, rfl, rfl⟩, fun h => absurd h (by decide)⟩
theorem sxo30 : sx_mw sxm30 mt30 := ⟨rfl, sx_find_ok (by decide +kernel) (by decide +kernel), rfl, fun _ => ⟨_, rfl, rfl⟩, fun h => absurd h (by decide)⟩
theorem sxo31 : sx_mw sxm31 mt31 := ⟨rfl, sx_find_ok (by decide +kernel) (by decide +kernel), rfl, fun _ => ⟨_, rfl, rfl⟩, fun h => absurd h (by decide)⟩
theorem sxo32 : sx_mw sxm32 mt32 := ⟨rfl, sx_find_ok (by decide +kernel) (by decide +kernel), rfl, fun _ => ⟨_, rfl, rfl⟩, fun h => absurd h (by decide)⟩
theorem sxo35 : sx_mw sxm35 mt35 := ⟨rfl, sx_find_ok (by decide +kernel) (by decide +kernel), rfl, fun _ => ⟨_, rfl, rfl⟩, fun h => absurd h (by decide)⟩
theorem sxo36 : sx_mw sxm36 mt36 := ⟨rfl, sx_find_ok (by decide +kernel) (by decide +kernel), rfl, fun _ => ⟨_, rfl, rfl⟩, fun h => absurd h (by decide)⟩
theorem sxo37 : sx_mw sxm37 mt37 := ⟨rfl, sx_find_ok (by decide +kernel) (by decide +kernel), rfl, fun _ => ⟨_, rfl, rfl⟩, fun h => absurd h (by decide)⟩
theorem sxo38 : sx_mw sxm38 mt38 := ⟨rfl, sx_find_ok (by decide +kernel) (by decide +kernel), rfl, fun _ => ⟨_, rfl, rfl⟩, fun h => absurd h (by decide)⟩
theorem sxo39 : sx_mw sxm39 mt39 := ⟨rfl, sx_find_ok (by decide +kernel) (by decide +kernel), rfl, fun _ => ⟨_, rfl, rfl⟩, fun h => absurd h (by decide)⟩
theorem sxo41 : sx_mw sxm41 mt41 := ⟨rfl, sx_find_ok (by decide +kernel) (by decide +kernel), rfl, fun _ => ⟨_, rfl, rfl⟩, fun h => absurd h (by decide)⟩
theorem sxo42 : sx_mw sxm42 mt42 := ⟨rfl, sx_find_ok (by decide +kernel) (by decide +kernel), rfl, fun _ => ⟨_, rfl, rfl⟩, fun h => absurd h (by decide)⟩
theorem sxo44 : sx_mw sxm44 mt44 := ⟨rfl, sx_find_ok (by decide +kernel) (by decide +kernel), rfl, fun h => absurd h (by decide), fun h => absurd h (by decide)⟩
theorem sxo46 : sx_mw sxm46 mt46 := ⟨rfl, sx_find_ok (by decide +kernel) (by decide +kernel), rfl, fun _ => ⟨_, rfl, rfl⟩, fun h => absurd h (by decide)⟩
theorem sxo52 : sx_mw sxm52 mt52 := ⟨rfl, sx_find_ok (by decide +kernel) (by decide +kernel), rfl, fun _ => ⟨_, rfl, rfl⟩, fun h => absurd h (by decide)⟩
theorem sxo53 : sx_mw sxm53 mt53 := ⟨rfl, sx_find_ok (by decide +kernel) (by decide +kernel), rfl, fun _ => ⟨_, rfl, rfl⟩, fun h => absurd h (by decide)⟩
theorem sxo54 : sx_mw sxm54 mt54 := ⟨rfl, sx_find_ok (by decide +kernel) (by decide +kernel), rfl, fun _ => ⟨_, rfl, rfl⟩, fun h => absurd h (by decide)⟩
theorem sxo65 : sx_mw sxm65 mt65 := ⟨rfl, sx_find_ok (by decide +kernel) (by decide +kernel), rfl, fun _ => ⟨_, rfl, rfl⟩, fun h => absurd h (by decide)⟩
theorem sxo67 : sx_mw sxm67 mt67 := ⟨rfl, sx_find_ok (by decide +kernel) (by decide +kernel), rfl, fun _ => ⟨_, rfl, rfl⟩, fun h => absurd h (by decide)⟩
theorem sxo68 : sx_mw sxm68 mt68 := ⟨rfl, sx_find_ok (by decide +kernel) (by decide +kernel), rfl, fun _ => ⟨_, rfl, rfl⟩, fun h => absurd h (by decide)⟩
theorem sxo70 : sx_mw sxm70 mt70 := ⟨rfl, sx_find_ok (by decide +kernel) (by decide +kernel), rfl, fun _ => ⟨_, rfl, rfl⟩, fun h => absurd h (by decide)⟩
theorem sxo71 : sx_mw sxm71 mt71 := ⟨rfl, sx_find_ok (by decide +kernel) (by decide +kernel), rfl, fun _ => ⟨_, rfl, rfl⟩, fun h => absurd h (by decide)⟩
theorem sxo72 : sx_mw sxm72 mt72 := ⟨rfl, sx_find_ok (by decide +kernel) (by decide +kernel), rfl, fun _ => ⟨_, rfl, rfl⟩, fun h => absurd h (by decide)⟩
theorem sxo76 : sx_mw sxm76 mt76 := ⟨rfl, sx_find_ok (by decide +kernel) (by decide +kernel), rfl, fun _ => ⟨_, rfl, rfl⟩, fun h => absurd h (by decide)⟩
theorem sxo77 : sx_mw sxm77 mt77 := ⟨rfl, sx_find_ok (by decide +kernel) (by decide +kernel), rfl, fun _ => ⟨_, rfl, rfl⟩, fun h => absurd h (by decide)⟩
theorem sxo78 : sx_mw sxm78 mt78 := ⟨rfl, sx_find_ok (by decide +kernel) (by decide +kernel), rfl, fun _ => ⟨_, rfl, rfl⟩, fun h => absurd h (by decide)⟩
theorem sxo79 : sx_mw sxm79 mt79 := ⟨rfl, sx_find_ok (by decide +kernel) (by decide +kernel), rfl, fun _ => ⟨_, rfl, rfl⟩, fun h => absurd h (by decide)⟩
theorem sxo81 : sx_mw sxm81 mt81 := ⟨rfl, sx_find_ok (by decide +kernel) (by decide +kernel), rfl, fun _ => ⟨_, rfl, rfl⟩, fun h => absurd h (by decide)⟩
theorem sxo107 : sx_mw sxm107 mt107 := ⟨rfl, sx_find_ok (by decide +kernel) (by decide +kernel), rfl, fun _ => ⟨_, rfl, rfl⟩, fun h => absurd h (by decide)⟩
theorem sxo108 : sx_mw sxm108 mt108 := ⟨rfl, sx_find_ok (by decide +kernel) (by decide +kernel), rfl, fun _ => ⟨_, rfl, rfl⟩, fun h => absurd h (by decide)⟩
theorem sxo109 : sx_mw sxm109 mt109 := ⟨rfl, sx_find_ok (by decide +kernel) (by decide +kernel), rfl, fun _ => ⟨_, rfl, rfl⟩, fun h => absurd h (by decide)⟩
theorem sxo110 : sx_mw sxm110 mt110 := ⟨rfl, sx_find_ok (by decide +kernel) (by decide +kernel), rfl, fun _ => ⟨_, rfl, rfl⟩, fun h => absurd h (by decide)⟩
