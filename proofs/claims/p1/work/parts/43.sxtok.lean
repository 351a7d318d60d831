/-! PRINTED by wip/p1/gensx.py -/
theorem sxoL : sx_mw sxmL mtL := ⟨rfl, sx_find_ok (by decide +kernel) (by decide +kernel), rfl, fun h => absurd h (by decide), fun h => absurd h (by decide)⟩
noncomputable def m_PL : List am_M := m_P ++ [mtL]
theorem sx_PL {mi : Nat} {M : am_M} (h : m_P[mi]? = some M) : m_PL[mi]? = some M := by
  unfold m_PL
  rw [List.getElem?_append_left (List.getElem?_eq_some_iff.mp h).1]
  exact h
theorem sxr0 : ∀ j m, [sxm0, sxm1, sxm2, sxm3, sxm4, sxm5, sxm6, sxm7, sxm8, sxm9, sxm10, sxm11, sxm12, sxm13, sxm14, sxm15][j]? = some m → m.1 = 0 + j → ∃ M, m_P[0 + j]? = some M ∧ sx_mw m M := by
  intro j m h e
  match j, h with
  | 0, h => cases h; exact ⟨mt0, rfl, sxo0⟩
  | 1, h => cases h; exact ⟨mt1, rfl, sxo1⟩
  | 2, h => cases h; exact ⟨mt2, rfl, sxo2⟩
  | 3, h => cases h; exact ⟨mt3, rfl, sxo3⟩
  | 4, h => cases h; exact ⟨mt4, rfl, sxo4⟩
  | 5, h => cases h; exact ⟨mt5, rfl, sxo5⟩
  | 6, h => cases h; exact ⟨mt6, rfl, sxo6⟩
  | 7, h => cases h; exact ⟨mt7, rfl, sxo7⟩
  | 8, h => cases h; exact ⟨mt8, rfl, sxo8⟩
  | 9, h => cases h; exact ⟨mt9, rfl, sxo9⟩
  | 10, h => cases h; exact ⟨mt10, rfl, sxo10⟩
  | 11, h => cases h; exact ⟨mt11, rfl, sxo11⟩
  | 12, h => cases h; exact ⟨mt12, rfl, sxo12⟩
  | 13, h => cases h; exact ⟨mt13, rfl, sxo13⟩
  | 14, h => cases h; exact ⟨mt14, rfl, sxo14⟩
  | 15, h => cases h; exact ⟨mt15, rfl, sxo15⟩
  | n + 16, h => cases h
theorem sxr1 : ∀ j m, [sxm16, sxm17, sxm18, sxm19, sxm20, sxm21, sxm22, sxm23, sxm24, sxm25, sxm26, sxm27, sxm28, sxm29, sxm30, sxm31][j]? = some m → m.1 = 16 + j → ∃ M, m_P[16 + j]? = some M ∧ sx_mw m M := by
  intro j m h e
  match j, h with
  | 0, h => cases h; exact ⟨mt16, rfl, sxo16⟩
  | 1, h => cases h; exact ⟨mt17, rfl, sxo17⟩
  | 2, h => cases h; exact ⟨mt18, rfl, sxo18⟩
  | 3, h => cases h; exact ⟨mt19, rfl, sxo19⟩
  | 4, h => cases h; exact ⟨mt20, rfl, sxo20⟩
  | 5, h => cases h; exact ⟨mt21, rfl, sxo21⟩
  | 6, h => cases h; exact ⟨mt22, rfl, sxo22⟩
  | 7, h => cases h; exact ⟨mt23, rfl, sxo23⟩
  | 8, h => cases h; exact ⟨mt24, rfl, sxo24⟩
  | 9, h => cases h; exact ⟨mt25, rfl, sxo25⟩
  | 10, h => cases h; exact ⟨mt26, rfl, sxo26⟩
  | 11, h => cases h; exact ⟨mt27, rfl, sxo27⟩
  | 12, h => cases h; exact ⟨mt28, rfl, sxo28⟩
  | 13, h => cases h; exact ⟨mt29, rfl, sxo29⟩
  | 14, h => cases h; exact ⟨mt30, rfl, sxo30⟩
  | 15, h => cases h; exact ⟨mt31, rfl, sxo31⟩
  | n + 16, h => cases h
theorem sxr2 : ∀ j m, [sxm32, sx_M0, sx_M0, sxm35, sxm36, sxm37, sxm38, sxm39, sx_M0, sxm41, sxm42, sx_M0, sxm44, sx_M0, sxm46, sx_M0][j]? = some m → m.1 = 32 + j → ∃ M, m_P[32 + j]? = some M ∧ sx_mw m M := by
  intro j m h e
  match j, h with
  | 0, h => cases h; exact ⟨mt32, rfl, sxo32⟩
  | 1, h => cases h; exact absurd e (by decide)
  | 2, h => cases h; exact absurd e (by decide)
  | 3, h => cases h; exact ⟨mt35, rfl, sxo35⟩
  | 4, h => cases h; exact ⟨mt36, rfl, sxo36⟩
  | 5, h => cases h; exact ⟨mt37, rfl, sxo37⟩
  | 6, h => cases h; exact ⟨mt38, rfl, sxo38⟩
  | 7, h => cases h; exact ⟨mt39, rfl, sxo39⟩
  | 8, h => cases h; exact absurd e (by decide)
  | 9, h => cases h; exact ⟨mt41, rfl, sxo41⟩
  | 10, h => cases h; exact ⟨mt42, rfl, sxo42⟩
  | 11, h => cases h; exact absurd e (by decide)
  | 12, h => cases h; exact ⟨mt44, rfl, sxo44⟩
  | 13, h => cases h; exact absurd e (by decide)
  | 14, h => cases h; exact ⟨mt46, rfl, sxo46⟩
  | 15, h => cases h; exact absurd e (by decide)
  | n + 16, h => cases h
theorem sxr3 : ∀ j m, [sx_M0, sx_M0, sx_M0, sx_M0, sxm52, sxm53, sxm54, sx_M0, sx_M0, sx_M0, sx_M0, sx_M0, sx_M0, sx_M0, sx_M0, sx_M0][j]? = some m → m.1 = 48 + j → ∃ M, m_P[48 + j]? = some M ∧ sx_mw m M := by
  intro j m h e
  match j, h with
  | 0, h => cases h; exact absurd e (by decide)
  | 1, h => cases h; exact absurd e (by decide)
  | 2, h => cases h; exact absurd e (by decide)
  | 3, h => cases h; exact absurd e (by decide)
  | 4, h => cases h; exact ⟨mt52, rfl, sxo52⟩
  | 5, h => cases h; exact ⟨mt53, rfl, sxo53⟩
  | 6, h => cases h; exact ⟨mt54, rfl, sxo54⟩
  | 7, h => cases h; exact absurd e (by decide)
  | 8, h => cases h; exact absurd e (by decide)
  | 9, h => cases h; exact absurd e (by decide)
  | 10, h => cases h; exact absurd e (by decide)
  | 11, h => cases h; exact absurd e (by decide)
  | 12, h => cases h; exact absurd e (by decide)
  | 13, h => cases h; exact absurd e (by decide)
  | 14, h => cases h; exact absurd e (by decide)
  | 15, h => cases h; exact absurd e (by decide)
  | n + 16, h => cases h
theorem sxr4 : ∀ j m, [sx_M0, sxm65, sx_M0, sxm67, sxm68, sx_M0, sxm70, sxm71, sxm72, sx_M0, sx_M0, sx_M0, sxm76, sxm77, sxm78, sxm79][j]? = some m → m.1 = 64 + j → ∃ M, m_P[64 + j]? = some M ∧ sx_mw m M := by
  intro j m h e
  match j, h with
  | 0, h => cases h; exact absurd e (by decide)
  | 1, h => cases h; exact ⟨mt65, rfl, sxo65⟩
  | 2, h => cases h; exact absurd e (by decide)
  | 3, h => cases h; exact ⟨mt67, rfl, sxo67⟩
  | 4, h => cases h; exact ⟨mt68, rfl, sxo68⟩
  | 5, h => cases h; exact absurd e (by decide)
  | 6, h => cases h; exact ⟨mt70, rfl, sxo70⟩
  | 7, h => cases h; exact ⟨mt71, rfl, sxo71⟩
  | 8, h => cases h; exact ⟨mt72, rfl, sxo72⟩
  | 9, h => cases h; exact absurd e (by decide)
  | 10, h => cases h; exact absurd e (by decide)
  | 11, h => cases h; exact absurd e (by decide)
  | 12, h => cases h; exact ⟨mt76, rfl, sxo76⟩
  | 13, h => cases h; exact ⟨mt77, rfl, sxo77⟩
  | 14, h => cases h; exact ⟨mt78, rfl, sxo78⟩
  | 15, h => cases h; exact ⟨mt79, rfl, sxo79⟩
  | n + 16, h => cases h
theorem sxr5 : ∀ j m, [sx_M0, sxm81, sx_M0, sx_M0, sx_M0, sx_M0, sx_M0, sx_M0, sx_M0, sx_M0, sx_M0, sx_M0, sx_M0, sx_M0, sx_M0, sx_M0][j]? = some m → m.1 = 80 + j → ∃ M, m_P[80 + j]? = some M ∧ sx_mw m M := by
  intro j m h e
  match j, h with
  | 0, h => cases h; exact absurd e (by decide)
  | 1, h => cases h; exact ⟨mt81, rfl, sxo81⟩
  | 2, h => cases h; exact absurd e (by decide)
  | 3, h => cases h; exact absurd e (by decide)
  | 4, h => cases h; exact absurd e (by decide)
  | 5, h => cases h; exact absurd e (by decide)
  | 6, h => cases h; exact absurd e (by decide)
  | 7, h => cases h; exact absurd e (by decide)
  | 8, h => cases h; exact absurd e (by decide)
  | 9, h => cases h; exact absurd e (by decide)
  | 10, h => cases h; exact absurd e (by decide)
  | 11, h => cases h; exact absurd e (by decide)
  | 12, h => cases h; exact absurd e (by decide)
  | 13, h => cases h; exact absurd e (by decide)
  | 14, h => cases h; exact absurd e (by decide)
  | 15, h => cases h; exact absurd e (by decide)
  | n + 16, h => cases h
theorem sxr6 : ∀ j m, [sx_M0, sx_M0, sx_M0, sx_M0, sx_M0, sx_M0, sx_M0, sx_M0, sx_M0, sx_M0, sx_M0, sxm107, sxm108, sxm109, sxm110, sxm111][j]? = some m → m.1 = 96 + j → ∃ M, m_P[96 + j]? = some M ∧ sx_mw m M := by
  intro j m h e
  match j, h with
  | 0, h => cases h; exact absurd e (by decide)
  | 1, h => cases h; exact absurd e (by decide)
  | 2, h => cases h; exact absurd e (by decide)
  | 3, h => cases h; exact absurd e (by decide)
  | 4, h => cases h; exact absurd e (by decide)
  | 5, h => cases h; exact absurd e (by decide)
  | 6, h => cases h; exact absurd e (by decide)
  | 7, h => cases h; exact absurd e (by decide)
  | 8, h => cases h; exact absurd e (by decide)
  | 9, h => cases h; exact absurd e (by decide)
  | 10, h => cases h; exact absurd e (by decide)
  | 11, h => cases h; exact ⟨mt107, rfl, sxo107⟩
  | 12, h => cases h; exact ⟨mt108, rfl, sxo108⟩
  | 13, h => cases h; exact ⟨mt109, rfl, sxo109⟩
  | 14, h => cases h; exact ⟨mt110, rfl, sxo110⟩
  | 15, h => cases h; exact ⟨mt111, rfl, sxo111⟩
  | n + 16, h => cases h
theorem sxr7 : ∀ j m, [sxm112, sxm113, sxm114, sxm115, sxm116, sxm117, sxm118, sxm119, sxm120, sx_M0, sx_M0, sx_M0, sx_M0, sx_M0, sx_M0, sx_M0][j]? = some m → m.1 = 112 + j → ∃ M, m_P[112 + j]? = some M ∧ sx_mw m M := by
  intro j m h e
  match j, h with
  | 0, h => cases h; exact ⟨mt112, rfl, sxo112⟩
  | 1, h => cases h; exact ⟨mt113, rfl, sxo113⟩
  | 2, h => cases h; exact ⟨mt114, rfl, sxo114⟩
  | 3, h => cases h; exact ⟨mt115, rfl, sxo115⟩
  | 4, h => cases h; exact ⟨mt116, rfl, sxo116⟩
  | 5, h => cases h; exact ⟨mt117, rfl, sxo117⟩
  | 6, h => cases h; exact ⟨mt118, rfl, sxo118⟩
  | 7, h => cases h; exact ⟨mt119, rfl, sxo119⟩
  | 8, h => cases h; exact ⟨mt120, rfl, sxo120⟩
  | 9, h => cases h; exact absurd e (by decide)
  | 10, h => cases h; exact absurd e (by decide)
  | 11, h => cases h; exact absurd e (by decide)
  | 12, h => cases h; exact absurd e (by decide)
  | 13, h => cases h; exact absurd e (by decide)
  | 14, h => cases h; exact absurd e (by decide)
  | 15, h => cases h; exact absurd e (by decide)
  | n + 16, h => cases h
theorem sxr8 : ∀ j m, [sx_M0, sx_M0, sxm130, sxm131, sx_M0, sx_M0, sx_M0, sx_M0, sx_M0, sxm137, sxm138, sxm139, sx_M0, sxm141, sx_M0, sxm143][j]? = some m → m.1 = 128 + j → ∃ M, m_P[128 + j]? = some M ∧ sx_mw m M := by
  intro j m h e
  match j, h with
  | 0, h => cases h; exact absurd e (by decide)
  | 1, h => cases h; exact absurd e (by decide)
  | 2, h => cases h; exact ⟨mt130, rfl, sxo130⟩
  | 3, h => cases h; exact ⟨mt131, rfl, sxo131⟩
  | 4, h => cases h; exact absurd e (by decide)
  | 5, h => cases h; exact absurd e (by decide)
  | 6, h => cases h; exact absurd e (by decide)
  | 7, h => cases h; exact absurd e (by decide)
  | 8, h => cases h; exact absurd e (by decide)
  | 9, h => cases h; exact ⟨mt137, rfl, sxo137⟩
  | 10, h => cases h; exact ⟨mt138, rfl, sxo138⟩
  | 11, h => cases h; exact ⟨mt139, rfl, sxo139⟩
  | 12, h => cases h; exact absurd e (by decide)
  | 13, h => cases h; exact ⟨mt141, rfl, sxo141⟩
  | 14, h => cases h; exact absurd e (by decide)
  | 15, h => cases h; exact ⟨mt143, rfl, sxo143⟩
  | n + 16, h => cases h
theorem sxr9 : ∀ j m, [sx_M0, sx_M0, sx_M0, sxm147, sx_M0, sx_M0, sx_M0, sx_M0, sxm152, sxm153, sx_M0, sxm155, sx_M0, sx_M0, sxm158, sx_M0][j]? = some m → m.1 = 144 + j → ∃ M, m_P[144 + j]? = some M ∧ sx_mw m M := by
  intro j m h e
  match j, h with
  | 0, h => cases h; exact absurd e (by decide)
  | 1, h => cases h; exact absurd e (by decide)
  | 2, h => cases h; exact absurd e (by decide)
  | 3, h => cases h; exact ⟨mt147, rfl, sxo147⟩
  | 4, h => cases h; exact absurd e (by decide)
  | 5, h => cases h; exact absurd e (by decide)
  | 6, h => cases h; exact absurd e (by decide)
  | 7, h => cases h; exact absurd e (by decide)
  | 8, h => cases h; exact ⟨mt152, rfl, sxo152⟩
  | 9, h => cases h; exact ⟨mt153, rfl, sxo153⟩
  | 10, h => cases h; exact absurd e (by decide)
  | 11, h => cases h; exact ⟨mt155, rfl, sxo155⟩
  | 12, h => cases h; exact absurd e (by decide)
  | 13, h => cases h; exact absurd e (by decide)
  | 14, h => cases h; exact ⟨mt158, rfl, sxo158⟩
  | 15, h => cases h; exact absurd e (by decide)
  | n + 16, h => cases h
theorem sxr10 : ∀ j m, [sx_M0, sx_M0, sx_M0, sxm163, sx_M0, sx_M0, sxm166, sx_M0, sxm168, sx_M0, sxm170, sx_M0, sx_M0, sx_M0, sx_M0, sxm175][j]? = some m → m.1 = 160 + j → ∃ M, m_P[160 + j]? = some M ∧ sx_mw m M := by
  intro j m h e
  match j, h with
  | 0, h => cases h; exact absurd e (by decide)
  | 1, h => cases h; exact absurd e (by decide)
  | 2, h => cases h; exact absurd e (by decide)
  | 3, h => cases h; exact ⟨mt163, rfl, sxo163⟩
  | 4, h => cases h; exact absurd e (by decide)
  | 5, h => cases h; exact absurd e (by decide)
  | 6, h => cases h; exact ⟨mt166, rfl, sxo166⟩
  | 7, h => cases h; exact absurd e (by decide)
  | 8, h => cases h; exact ⟨mt168, rfl, sxo168⟩
  | 9, h => cases h; exact absurd e (by decide)
  | 10, h => cases h; exact ⟨mt170, rfl, sxo170⟩
  | 11, h => cases h; exact absurd e (by decide)
  | 12, h => cases h; exact absurd e (by decide)
  | 13, h => cases h; exact absurd e (by decide)
  | 14, h => cases h; exact absurd e (by decide)
  | 15, h => cases h; exact ⟨mt175, rfl, sxo175⟩
  | n + 16, h => cases h
theorem sxr11 : ∀ j m, [sxm176, sxm177, sx_M0, sx_M0, sx_M0, sxm181, sx_M0, sxm183, sx_M0, sx_M0, sx_M0, sxm187, sxm188, sx_M0, sxm190, sxm191][j]? = some m → m.1 = 176 + j → ∃ M, m_P[176 + j]? = some M ∧ sx_mw m M := by
  intro j m h e
  match j, h with
  | 0, h => cases h; exact ⟨mt176, rfl, sxo176⟩
  | 1, h => cases h; exact ⟨mt177, rfl, sxo177⟩
  | 2, h => cases h; exact absurd e (by decide)
  | 3, h => cases h; exact absurd e (by decide)
  | 4, h => cases h; exact absurd e (by decide)
  | 5, h => cases h; exact ⟨mt181, rfl, sxo181⟩
  | 6, h => cases h; exact absurd e (by decide)
  | 7, h => cases h; exact ⟨mt183, rfl, sxo183⟩
  | 8, h => cases h; exact absurd e (by decide)
  | 9, h => cases h; exact absurd e (by decide)
  | 10, h => cases h; exact absurd e (by decide)
  | 11, h => cases h; exact ⟨mt187, rfl, sxo187⟩
  | 12, h => cases h; exact ⟨mt188, rfl, sxo188⟩
  | 13, h => cases h; exact absurd e (by decide)
  | 14, h => cases h; exact ⟨mt190, rfl, sxo190⟩
  | 15, h => cases h; exact ⟨mt191, rfl, sxo191⟩
  | n + 16, h => cases h
theorem sxr12 : ∀ j m, [sxm192, sx_M0, sx_M0, sxm195, sxm196, sx_M0, sxm198, sxm199, sx_M0, sx_M0, sxm202, sxm203, sxm204, sx_M0, sxm206, sx_M0][j]? = some m → m.1 = 192 + j → ∃ M, m_P[192 + j]? = some M ∧ sx_mw m M := by
  intro j m h e
  match j, h with
  | 0, h => cases h; exact ⟨mt192, rfl, sxo192⟩
  | 1, h => cases h; exact absurd e (by decide)
  | 2, h => cases h; exact absurd e (by decide)
  | 3, h => cases h; exact ⟨mt195, rfl, sxo195⟩
  | 4, h => cases h; exact ⟨mt196, rfl, sxo196⟩
  | 5, h => cases h; exact absurd e (by decide)
  | 6, h => cases h; exact ⟨mt198, rfl, sxo198⟩
  | 7, h => cases h; exact ⟨mt199, rfl, sxo199⟩
  | 8, h => cases h; exact absurd e (by decide)
  | 9, h => cases h; exact absurd e (by decide)
  | 10, h => cases h; exact ⟨mt202, rfl, sxo202⟩
  | 11, h => cases h; exact ⟨mt203, rfl, sxo203⟩
  | 12, h => cases h; exact ⟨mt204, rfl, sxo204⟩
  | 13, h => cases h; exact absurd e (by decide)
  | 14, h => cases h; exact ⟨mt206, rfl, sxo206⟩
  | 15, h => cases h; exact absurd e (by decide)
  | n + 16, h => cases h
theorem sxr13 : ∀ j m, [sxm208, sx_M0, sx_M0, sxm211, sxm212, sxm213, sxm214, sxm215, sxm216, sx_M0, sx_M0, sxm219, sxm220, sxm221, sxm222, sx_M0][j]? = some m → m.1 = 208 + j → ∃ M, m_P[208 + j]? = some M ∧ sx_mw m M := by
  intro j m h e
  match j, h with
  | 0, h => cases h; exact ⟨mt208, rfl, sxo208⟩
  | 1, h => cases h; exact absurd e (by decide)
  | 2, h => cases h; exact absurd e (by decide)
  | 3, h => cases h; exact ⟨mt211, rfl, sxo211⟩
  | 4, h => cases h; exact ⟨mt212, rfl, sxo212⟩
  | 5, h => cases h; exact ⟨mt213, rfl, sxo213⟩
  | 6, h => cases h; exact ⟨mt214, rfl, sxo214⟩
  | 7, h => cases h; exact ⟨mt215, rfl, sxo215⟩
  | 8, h => cases h; exact ⟨mt216, rfl, sxo216⟩
  | 9, h => cases h; exact absurd e (by decide)
  | 10, h => cases h; exact absurd e (by decide)
  | 11, h => cases h; exact ⟨mt219, rfl, sxo219⟩
  | 12, h => cases h; exact ⟨mt220, rfl, sxo220⟩
  | 13, h => cases h; exact ⟨mt221, rfl, sxo221⟩
  | 14, h => cases h; exact ⟨mt222, rfl, sxo222⟩
  | 15, h => cases h; exact absurd e (by decide)
  | n + 16, h => cases h
theorem sxr14 : ∀ j m, [sxm224, sx_M0, sx_M0, sxm227, sxm228, sxm229, sxm230, sxm231, sxm232, sxm233, sxm234, sxm235, sxm236, sxm237, sxm238, sxm239][j]? = some m → m.1 = 224 + j → ∃ M, m_P[224 + j]? = some M ∧ sx_mw m M := by
  intro j m h e
  match j, h with
  | 0, h => cases h; exact ⟨mt224, rfl, sxo224⟩
  | 1, h => cases h; exact absurd e (by decide)
  | 2, h => cases h; exact absurd e (by decide)
  | 3, h => cases h; exact ⟨mt227, rfl, sxo227⟩
  | 4, h => cases h; exact ⟨mt228, rfl, sxo228⟩
  | 5, h => cases h; exact ⟨mt229, rfl, sxo229⟩
  | 6, h => cases h; exact ⟨mt230, rfl, sxo230⟩
  | 7, h => cases h; exact ⟨mt231, rfl, sxo231⟩
  | 8, h => cases h; exact ⟨mt232, rfl, sxo232⟩
  | 9, h => cases h; exact ⟨mt233, rfl, sxo233⟩
  | 10, h => cases h; exact ⟨mt234, rfl, sxo234⟩
  | 11, h => cases h; exact ⟨mt235, rfl, sxo235⟩
  | 12, h => cases h; exact ⟨mt236, rfl, sxo236⟩
  | 13, h => cases h; exact ⟨mt237, rfl, sxo237⟩
  | 14, h => cases h; exact ⟨mt238, rfl, sxo238⟩
  | 15, h => cases h; exact ⟨mt239, rfl, sxo239⟩
  | n + 16, h => cases h
theorem sxr15 : ∀ j m, [sxm240, sx_M0, sxm242, sxm243, sxm244, sxm245, sxm246, sxm247, sxm248, sxm249, sx_M0, sxm251, sx_M0, sx_M0, sx_M0, sxm255][j]? = some m → m.1 = 240 + j → ∃ M, m_P[240 + j]? = some M ∧ sx_mw m M := by
  intro j m h e
  match j, h with
  | 0, h => cases h; exact ⟨mt240, rfl, sxo240⟩
  | 1, h => cases h; exact absurd e (by decide)
  | 2, h => cases h; exact ⟨mt242, rfl, sxo242⟩
  | 3, h => cases h; exact ⟨mt243, rfl, sxo243⟩
  | 4, h => cases h; exact ⟨mt244, rfl, sxo244⟩
  | 5, h => cases h; exact ⟨mt245, rfl, sxo245⟩
  | 6, h => cases h; exact ⟨mt246, rfl, sxo246⟩
  | 7, h => cases h; exact ⟨mt247, rfl, sxo247⟩
  | 8, h => cases h; exact ⟨mt248, rfl, sxo248⟩
  | 9, h => cases h; exact ⟨mt249, rfl, sxo249⟩
  | 10, h => cases h; exact absurd e (by decide)
  | 11, h => cases h; exact ⟨mt251, rfl, sxo251⟩
  | 12, h => cases h; exact absurd e (by decide)
  | 13, h => cases h; exact absurd e (by decide)
  | 14, h => cases h; exact absurd e (by decide)
  | 15, h => cases h; exact ⟨mt255, rfl, sxo255⟩
  | n + 16, h => cases h
theorem sxr16 : ∀ j m, [sxm256, sxm257, sx_M0, sxm259, sx_M0, sxm261, sx_M0, sxm263, sx_M0, sx_M0, sxm266, sxm267, sxm268, sxm269, sxm270, sxm271][j]? = some m → m.1 = 256 + j → ∃ M, m_P[256 + j]? = some M ∧ sx_mw m M := by
  intro j m h e
  match j, h with
  | 0, h => cases h; exact ⟨mt256, rfl, sxo256⟩
  | 1, h => cases h; exact ⟨mt257, rfl, sxo257⟩
  | 2, h => cases h; exact absurd e (by decide)
  | 3, h => cases h; exact ⟨mt259, rfl, sxo259⟩
  | 4, h => cases h; exact absurd e (by decide)
  | 5, h => cases h; exact ⟨mt261, rfl, sxo261⟩
  | 6, h => cases h; exact absurd e (by decide)
  | 7, h => cases h; exact ⟨mt263, rfl, sxo263⟩
  | 8, h => cases h; exact absurd e (by decide)
  | 9, h => cases h; exact absurd e (by decide)
  | 10, h => cases h; exact ⟨mt266, rfl, sxo266⟩
  | 11, h => cases h; exact ⟨mt267, rfl, sxo267⟩
  | 12, h => cases h; exact ⟨mt268, rfl, sxo268⟩
  | 13, h => cases h; exact ⟨mt269, rfl, sxo269⟩
  | 14, h => cases h; exact ⟨mt270, rfl, sxo270⟩
  | 15, h => cases h; exact ⟨mt271, rfl, sxo271⟩
  | n + 16, h => cases h
theorem sxr17 : ∀ j m, [sxm272, sxm273, sxm274, sxm275, sxm276, sxm277, sx_M0, sxm279, sxm280, sx_M0, sx_M0, sxm283, sxm284, sx_M0, sx_M0, sx_M0][j]? = some m → m.1 = 272 + j → ∃ M, m_P[272 + j]? = some M ∧ sx_mw m M := by
  intro j m h e
  match j, h with
  | 0, h => cases h; exact ⟨mt272, rfl, sxo272⟩
  | 1, h => cases h; exact ⟨mt273, rfl, sxo273⟩
  | 2, h => cases h; exact ⟨mt274, rfl, sxo274⟩
  | 3, h => cases h; exact ⟨mt275, rfl, sxo275⟩
  | 4, h => cases h; exact ⟨mt276, rfl, sxo276⟩
  | 5, h => cases h; exact ⟨mt277, rfl, sxo277⟩
  | 6, h => cases h; exact absurd e (by decide)
  | 7, h => cases h; exact ⟨mt279, rfl, sxo279⟩
  | 8, h => cases h; exact ⟨mt280, rfl, sxo280⟩
  | 9, h => cases h; exact absurd e (by decide)
  | 10, h => cases h; exact absurd e (by decide)
  | 11, h => cases h; exact ⟨mt283, rfl, sxo283⟩
  | 12, h => cases h; exact ⟨mt284, rfl, sxo284⟩
  | 13, h => cases h; exact absurd e (by decide)
  | 14, h => cases h; exact absurd e (by decide)
  | 15, h => cases h; exact absurd e (by decide)
  | n + 16, h => cases h
theorem sxr18 : ∀ j m, [sxm288, sx_M0, sx_M0, sxm291, sx_M0, sxm293, sx_M0, sxm295, sx_M0, sxm297, sxm298, sxm299, sxm300, sx_M0, sx_M0, sx_M0][j]? = some m → m.1 = 288 + j → ∃ M, m_P[288 + j]? = some M ∧ sx_mw m M := by
  intro j m h e
  match j, h with
  | 0, h => cases h; exact ⟨mt288, rfl, sxo288⟩
  | 1, h => cases h; exact absurd e (by decide)
  | 2, h => cases h; exact absurd e (by decide)
  | 3, h => cases h; exact ⟨mt291, rfl, sxo291⟩
  | 4, h => cases h; exact absurd e (by decide)
  | 5, h => cases h; exact ⟨mt293, rfl, sxo293⟩
  | 6, h => cases h; exact absurd e (by decide)
  | 7, h => cases h; exact ⟨mt295, rfl, sxo295⟩
  | 8, h => cases h; exact absurd e (by decide)
  | 9, h => cases h; exact ⟨mt297, rfl, sxo297⟩
  | 10, h => cases h; exact ⟨mt298, rfl, sxo298⟩
  | 11, h => cases h; exact ⟨mt299, rfl, sxo299⟩
  | 12, h => cases h; exact ⟨mt300, rfl, sxo300⟩
  | 13, h => cases h; exact absurd e (by decide)
  | 14, h => cases h; exact absurd e (by decide)
  | 15, h => cases h; exact absurd e (by decide)
  | n + 16, h => cases h
theorem sxr19 : ∀ j m, [sx_M0, sx_M0, sx_M0, sx_M0, sx_M0, sx_M0, sx_M0, sx_M0, sx_M0, sx_M0, sx_M0, sx_M0, sx_M0, sx_M0, sx_M0, sxm319][j]? = some m → m.1 = 304 + j → ∃ M, m_P[304 + j]? = some M ∧ sx_mw m M := by
  intro j m h e
  match j, h with
  | 0, h => cases h; exact absurd e (by decide)
  | 1, h => cases h; exact absurd e (by decide)
  | 2, h => cases h; exact absurd e (by decide)
  | 3, h => cases h; exact absurd e (by decide)
  | 4, h => cases h; exact absurd e (by decide)
  | 5, h => cases h; exact absurd e (by decide)
  | 6, h => cases h; exact absurd e (by decide)
  | 7, h => cases h; exact absurd e (by decide)
  | 8, h => cases h; exact absurd e (by decide)
  | 9, h => cases h; exact absurd e (by decide)
  | 10, h => cases h; exact absurd e (by decide)
  | 11, h => cases h; exact absurd e (by decide)
  | 12, h => cases h; exact absurd e (by decide)
  | 13, h => cases h; exact absurd e (by decide)
  | 14, h => cases h; exact absurd e (by decide)
  | 15, h => cases h; exact ⟨mt319, rfl, sxo319⟩
  | n + 16, h => cases h
theorem sxr20 : ∀ j m, [sxm320, sxm321, sxm322, sxm323, sxm324, sxm325, sxm326, sx_M0, sx_M0, sx_M0, sx_M0, sx_M0, sx_M0, sxm333, sxm334, sx_M0][j]? = some m → m.1 = 320 + j → ∃ M, m_P[320 + j]? = some M ∧ sx_mw m M := by
  intro j m h e
  match j, h with
  | 0, h => cases h; exact ⟨mt320, rfl, sxo320⟩
  | 1, h => cases h; exact ⟨mt321, rfl, sxo321⟩
  | 2, h => cases h; exact ⟨mt322, rfl, sxo322⟩
  | 3, h => cases h; exact ⟨mt323, rfl, sxo323⟩
  | 4, h => cases h; exact ⟨mt324, rfl, sxo324⟩
  | 5, h => cases h; exact ⟨mt325, rfl, sxo325⟩
  | 6, h => cases h; exact ⟨mt326, rfl, sxo326⟩
  | 7, h => cases h; exact absurd e (by decide)
  | 8, h => cases h; exact absurd e (by decide)
  | 9, h => cases h; exact absurd e (by decide)
  | 10, h => cases h; exact absurd e (by decide)
  | 11, h => cases h; exact absurd e (by decide)
  | 12, h => cases h; exact absurd e (by decide)
  | 13, h => cases h; exact ⟨mt333, rfl, sxo333⟩
  | 14, h => cases h; exact ⟨mt334, rfl, sxo334⟩
  | 15, h => cases h; exact absurd e (by decide)
  | n + 16, h => cases h
theorem sxr21 : ∀ j m, [sxm336, sxm337, sxm338, sxm339, sxm340, sx_M0, sxm342, sx_M0, sx_M0, sxm345, sx_M0, sxm347, sxm348, sxm349, sx_M0, sx_M0][j]? = some m → m.1 = 336 + j → ∃ M, m_P[336 + j]? = some M ∧ sx_mw m M := by
  intro j m h e
  match j, h with
  | 0, h => cases h; exact ⟨mt336, rfl, sxo336⟩
  | 1, h => cases h; exact ⟨mt337, rfl, sxo337⟩
  | 2, h => cases h; exact ⟨mt338, rfl, sxo338⟩
  | 3, h => cases h; exact ⟨mt339, rfl, sxo339⟩
  | 4, h => cases h; exact ⟨mt340, rfl, sxo340⟩
  | 5, h => cases h; exact absurd e (by decide)
  | 6, h => cases h; exact ⟨mt342, rfl, sxo342⟩
  | 7, h => cases h; exact absurd e (by decide)
  | 8, h => cases h; exact absurd e (by decide)
  | 9, h => cases h; exact ⟨mt345, rfl, sxo345⟩
  | 10, h => cases h; exact absurd e (by decide)
  | 11, h => cases h; exact ⟨mt347, rfl, sxo347⟩
  | 12, h => cases h; exact ⟨mt348, rfl, sxo348⟩
  | 13, h => cases h; exact ⟨mt349, rfl, sxo349⟩
  | 14, h => cases h; exact absurd e (by decide)
  | 15, h => cases h; exact absurd e (by decide)
  | n + 16, h => cases h
theorem sxr22 : ∀ j m, [sx_M0, sxm353, sx_M0, sxm355, sx_M0, sx_M0, sx_M0, sx_M0, sxm360, sxm361, sxm362, sx_M0, sx_M0, sxm365, sxm366, sxm367][j]? = some m → m.1 = 352 + j → ∃ M, m_P[352 + j]? = some M ∧ sx_mw m M := by
  intro j m h e
  match j, h with
  | 0, h => cases h; exact absurd e (by decide)
  | 1, h => cases h; exact ⟨mt353, rfl, sxo353⟩
  | 2, h => cases h; exact absurd e (by decide)
  | 3, h => cases h; exact ⟨mt355, rfl, sxo355⟩
  | 4, h => cases h; exact absurd e (by decide)
  | 5, h => cases h; exact absurd e (by decide)
  | 6, h => cases h; exact absurd e (by decide)
  | 7, h => cases h; exact absurd e (by decide)
  | 8, h => cases h; exact ⟨mt360, rfl, sxo360⟩
  | 9, h => cases h; exact ⟨mt361, rfl, sxo361⟩
  | 10, h => cases h; exact ⟨mt362, rfl, sxo362⟩
  | 11, h => cases h; exact absurd e (by decide)
  | 12, h => cases h; exact absurd e (by decide)
  | 13, h => cases h; exact ⟨mt365, rfl, sxo365⟩
  | 14, h => cases h; exact ⟨mt366, rfl, sxo366⟩
  | 15, h => cases h; exact ⟨mt367, rfl, sxo367⟩
  | n + 16, h => cases h
theorem sxr23 : ∀ j m, [sx_M0, sx_M0, sxm370, sx_M0, sxm372, sx_M0, sxm374, sxm375, sxm376, sxm377, sxm378, sxm379, sxm380, sx_M0, sxm382, sx_M0][j]? = some m → m.1 = 368 + j → ∃ M, m_P[368 + j]? = some M ∧ sx_mw m M := by
  intro j m h e
  match j, h with
  | 0, h => cases h; exact absurd e (by decide)
  | 1, h => cases h; exact absurd e (by decide)
  | 2, h => cases h; exact ⟨mt370, rfl, sxo370⟩
  | 3, h => cases h; exact absurd e (by decide)
  | 4, h => cases h; exact ⟨mt372, rfl, sxo372⟩
  | 5, h => cases h; exact absurd e (by decide)
  | 6, h => cases h; exact ⟨mt374, rfl, sxo374⟩
  | 7, h => cases h; exact ⟨mt375, rfl, sxo375⟩
  | 8, h => cases h; exact ⟨mt376, rfl, sxo376⟩
  | 9, h => cases h; exact ⟨mt377, rfl, sxo377⟩
  | 10, h => cases h; exact ⟨mt378, rfl, sxo378⟩
  | 11, h => cases h; exact ⟨mt379, rfl, sxo379⟩
  | 12, h => cases h; exact ⟨mt380, rfl, sxo380⟩
  | 13, h => cases h; exact absurd e (by decide)
  | 14, h => cases h; exact ⟨mt382, rfl, sxo382⟩
  | 15, h => cases h; exact absurd e (by decide)
  | n + 16, h => cases h
theorem sxr24 : ∀ j m, [sxm384, sxm385, sxm386, sxm387, sxm388, sxm389, sxm390, sxm391, sxm392, sxm393, sxm394, sxm395, sx_M0, sx_M0, sxm398, sx_M0][j]? = some m → m.1 = 384 + j → ∃ M, m_P[384 + j]? = some M ∧ sx_mw m M := by
  intro j m h e
  match j, h with
  | 0, h => cases h; exact ⟨mt384, rfl, sxo384⟩
  | 1, h => cases h; exact ⟨mt385, rfl, sxo385⟩
  | 2, h => cases h; exact ⟨mt386, rfl, sxo386⟩
  | 3, h => cases h; exact ⟨mt387, rfl, sxo387⟩
  | 4, h => cases h; exact ⟨mt388, rfl, sxo388⟩
  | 5, h => cases h; exact ⟨mt389, rfl, sxo389⟩
  | 6, h => cases h; exact ⟨mt390, rfl, sxo390⟩
  | 7, h => cases h; exact ⟨mt391, rfl, sxo391⟩
  | 8, h => cases h; exact ⟨mt392, rfl, sxo392⟩
  | 9, h => cases h; exact ⟨mt393, rfl, sxo393⟩
  | 10, h => cases h; exact ⟨mt394, rfl, sxo394⟩
  | 11, h => cases h; exact ⟨mt395, rfl, sxo395⟩
  | 12, h => cases h; exact absurd e (by decide)
  | 13, h => cases h; exact absurd e (by decide)
  | 14, h => cases h; exact ⟨mt398, rfl, sxo398⟩
  | 15, h => cases h; exact absurd e (by decide)
  | n + 16, h => cases h
theorem sxr25 : ∀ j m, [sxm400, sxm401, sxm402, sxm403, sxm404, sxm405, sxm406, sxm407, sxm408, sxm409, sxm410, sxm411, sxm412, sxm413, sxm414, sxm415][j]? = some m → m.1 = 400 + j → ∃ M, m_P[400 + j]? = some M ∧ sx_mw m M := by
  intro j m h e
  match j, h with
  | 0, h => cases h; exact ⟨mt400, rfl, sxo400⟩
  | 1, h => cases h; exact ⟨mt401, rfl, sxo401⟩
  | 2, h => cases h; exact ⟨mt402, rfl, sxo402⟩
  | 3, h => cases h; exact ⟨mt403, rfl, sxo403⟩
  | 4, h => cases h; exact ⟨mt404, rfl, sxo404⟩
  | 5, h => cases h; exact ⟨mt405, rfl, sxo405⟩
  | 6, h => cases h; exact ⟨mt406, rfl, sxo406⟩
  | 7, h => cases h; exact ⟨mt407, rfl, sxo407⟩
  | 8, h => cases h; exact ⟨mt408, rfl, sxo408⟩
  | 9, h => cases h; exact ⟨mt409, rfl, sxo409⟩
  | 10, h => cases h; exact ⟨mt410, rfl, sxo410⟩
  | 11, h => cases h; exact ⟨mt411, rfl, sxo411⟩
  | 12, h => cases h; exact ⟨mt412, rfl, sxo412⟩
  | 13, h => cases h; exact ⟨mt413, rfl, sxo413⟩
  | 14, h => cases h; exact ⟨mt414, rfl, sxo414⟩
  | 15, h => cases h; exact ⟨mt415, rfl, sxo415⟩
  | n + 16, h => cases h
theorem sxr26 : ∀ j m, [sxm416, sxm417, sxm418][j]? = some m → m.1 = 416 + j → ∃ M, m_P[416 + j]? = some M ∧ sx_mw m M := by
  intro j m h e
  match j, h with
  | 0, h => cases h; exact ⟨mt416, rfl, sxo416⟩
  | 1, h => cases h; exact ⟨mt417, rfl, sxo417⟩
  | 2, h => cases h; exact ⟨mt418, rfl, sxo418⟩
  | n + 3, h => cases h
theorem sx_tok_m : sx_tok m_cl m_P m_PL sx_T := by
  intro mi m h e
  unfold sx_ch at h
  split at h
  case h_2 => cases h
  rename_i r hr
  have key : ∃ M, m_P[mi]? = some M ∧ sx_mw m M := by
    have em : mi = 16 * (mi / 16) + mi % 16 := by omega
    generalize mi / 16 = a at *
    generalize mi % 16 = b at *
    subst em
    match a, hr with
    | 0, hr => cases hr; exact sxr0 b m h e
    | 1, hr => cases hr; exact sxr1 b m h e
    | 2, hr => cases hr; exact sxr2 b m h e
    | 3, hr => cases hr; exact sxr3 b m h e
    | 4, hr => cases hr; exact sxr4 b m h e
    | 5, hr => cases hr; exact sxr5 b m h e
    | 6, hr => cases hr; exact sxr6 b m h e
    | 7, hr => cases hr; exact sxr7 b m h e
    | 8, hr => cases hr; exact sxr8 b m h e
    | 9, hr => cases hr; exact sxr9 b m h e
    | 10, hr => cases hr; exact sxr10 b m h e
    | 11, hr => cases hr; exact sxr11 b m h e
    | 12, hr => cases hr; exact sxr12 b m h e
    | 13, hr => cases hr; exact sxr13 b m h e
    | 14, hr => cases hr; exact sxr14 b m h e
    | 15, hr => cases hr; exact sxr15 b m h e
    | 16, hr => cases hr; exact sxr16 b m h e
    | 17, hr => cases hr; exact sxr17 b m h e
    | 18, hr => cases hr; exact sxr18 b m h e
    | 19, hr => cases hr; exact sxr19 b m h e
    | 20, hr => cases hr; exact sxr20 b m h e
    | 21, hr => cases hr; exact sxr21 b m h e
    | 22, hr => cases hr; exact sxr22 b m h e
    | 23, hr => cases hr; exact sxr23 b m h e
    | 24, hr => cases hr; exact sxr24 b m h e
    | 25, hr => cases hr; exact sxr25 b m h e
    | 26, hr => cases hr; exact sxr26 b m h e
    | n + 27, hr => cases hr
  obtain ⟨M, hM, w1, w2, w3, w4, w5⟩ := key
  exact ⟨M, hM, ⟨by rw [e]; exact sx_PL hM, w1, w2⟩, w3, w4, w5⟩
