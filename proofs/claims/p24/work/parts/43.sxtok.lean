/-! PRINTED by wip/p2/gensx.py -/
theorem sxoL : sx_mw sxmL mtL := ⟨rfl, sx_find_ok (by decide +kernel) (by decide +kernel), rfl, fun h => absurd h (by decide), fun h => absurd h (by decide)⟩
noncomputable def m_PL : List am_M := m_P ++ [mtL]
theorem sx_PL {mi : Nat} {M : am_M} (h : m_P[mi]? = some M) : m_PL[mi]? = some M := by
  unfold m_PL
  rw [List.getElem?_append_left (List.getElem?_eq_some_iff.mp h).1]
  exact h
theorem sxr0 : ∀ j m, [sxm0, sxm1, sxm2, sxm3, sxm4, sxm5, sxm6, sxm7, sxm8, sxm9, sxm10, sxm11, sxm12, sxm13, sxm14, sxm15][j]? = some m → m.1 = 0 + j → ∃ M, m_P[0 + j]? = some M ∧ sx_mw m M := by
  intro j m h e
  match j, h with
  | 0, h => cases h; exact ⟨mt0, rfl, sxo0⟩
  | 1, h => cases h; exact ⟨mt1, rfl, sxo1⟩
  | 2, h => cases h; exact ⟨mt2, rfl, sxo2⟩
  | 3, h => cases h; exact ⟨mt3, rfl, sxo3⟩
  | 4, h => cases h; exact ⟨mt4, rfl, sxo4⟩
  | 5, h => cases h; exact ⟨mt5, rfl, sxo5⟩
  | 6, h => cases h; exact ⟨mt6, rfl, sxo6⟩
  | 7, h => cases h; exact ⟨mt7, rfl, sxo7⟩
  | 8, h => cases h; exact ⟨mt8, rfl, sxo8⟩
  | 9, h => cases h; exact ⟨mt9, rfl, sxo9⟩
  | 10, h => cases h; exact ⟨mt10, rfl, sxo10⟩
  | 11, h => cases h; exact ⟨mt11, rfl, sxo11⟩
  | 12, h => cases h; exact ⟨mt12, rfl, sxo12⟩
  | 13, h => cases h; exact ⟨mt13, rfl, sxo13⟩
  | 14, h => cases h; exact ⟨mt14, rfl, sxo14⟩
  | 15, h => cases h; exact ⟨mt15, rfl, sxo15⟩
  | n + 16, h => cases h
theorem sxr1 : ∀ j m, [sxm16, sxm17, sxm18, sxm19, sxm20, sxm21, sxm22, sxm23, sxm24, sxm25, sxm26, sxm27, sxm28, sxm29, sxm30, sxm31][j]? = some m → m.1 = 16 + j → ∃ M, m_P[16 + j]? = some M ∧ sx_mw m M := by
  intro j m h e
  match j, h with
  | 0, h => cases h; exact ⟨mt16, rfl, sxo16⟩
  | 1, h => cases h; exact ⟨mt17, rfl, sxo17⟩
  | 2, h => cases h; exact ⟨mt18, rfl, sxo18⟩
  | 3, h => cases h; exact ⟨mt19, rfl, sxo19⟩
  | 4, h => cases h; exact ⟨mt20, rfl, sxo20⟩
  | 5, h => cases h; exact ⟨mt21, rfl, sxo21⟩
  | 6, h => cases h; exact ⟨mt22, rfl, sxo22⟩
  | 7, h => cases h; exact ⟨mt23, rfl, sxo23⟩
  | 8, h => cases h; exact ⟨mt24, rfl, sxo24⟩
  | 9, h => cases h; exact ⟨mt25, rfl, sxo25⟩
  | 10, h => cases h; exact ⟨mt26, rfl, sxo26⟩
  | 11, h => cases h; exact ⟨mt27, rfl, sxo27⟩
  | 12, h => cases h; exact ⟨mt28, rfl, sxo28⟩
  | 13, h => cases h; exact ⟨mt29, rfl, sxo29⟩
  | 14, h => cases h; exact ⟨mt30, rfl, sxo30⟩
  | 15, h => cases h; exact ⟨mt31, rfl, sxo31⟩
  | n + 16, h => cases h
theorem sxr2 : ∀ j m, [sxm32, sxm33, sxm34, sxm35, sxm36, sxm37, sxm38, sxm39, sxm40, sxm41, sxm42, sxm43, sxm44, sxm45, sxm46, sxm47][j]? = some m → m.1 = 32 + j → ∃ M, m_P[32 + j]? = some M ∧ sx_mw m M := by
  intro j m h e
  match j, h with
  | 0, h => cases h; exact ⟨mt32, rfl, sxo32⟩
  | 1, h => cases h; exact ⟨mt33, rfl, sxo33⟩
  | 2, h => cases h; exact ⟨mt34, rfl, sxo34⟩
  | 3, h => cases h; exact ⟨mt35, rfl, sxo35⟩
  | 4, h => cases h; exact ⟨mt36, rfl, sxo36⟩
  | 5, h => cases h; exact ⟨mt37, rfl, sxo37⟩
  | 6, h => cases h; exact ⟨mt38, rfl, sxo38⟩
  | 7, h => cases h; exact ⟨mt39, rfl, sxo39⟩
  | 8, h => cases h; exact ⟨mt40, rfl, sxo40⟩
  | 9, h => cases h; exact ⟨mt41, rfl, sxo41⟩
  | 10, h => cases h; exact ⟨mt42, rfl, sxo42⟩
  | 11, h => cases h; exact ⟨mt43, rfl, sxo43⟩
  | 12, h => cases h; exact ⟨mt44, rfl, sxo44⟩
  | 13, h => cases h; exact ⟨mt45, rfl, sxo45⟩
  | 14, h => cases h; exact ⟨mt46, rfl, sxo46⟩
  | 15, h => cases h; exact ⟨mt47, rfl, sxo47⟩
  | n + 16, h => cases h
theorem sxr3 : ∀ j m, [sxm48, sxm49, sxm50, sxm51, sxm52, sxm53, sxm54, sxm55, sxm56, sxm57, sxm58, sxm59, sxm60, sxm61, sxm62, sxm63][j]? = some m → m.1 = 48 + j → ∃ M, m_P[48 + j]? = some M ∧ sx_mw m M := by
  intro j m h e
  match j, h with
  | 0, h => cases h; exact ⟨mt48, rfl, sxo48⟩
  | 1, h => cases h; exact ⟨mt49, rfl, sxo49⟩
  | 2, h => cases h; exact ⟨mt50, rfl, sxo50⟩
  | 3, h => cases h; exact ⟨mt51, rfl, sxo51⟩
  | 4, h => cases h; exact ⟨mt52, rfl, sxo52⟩
  | 5, h => cases h; exact ⟨mt53, rfl, sxo53⟩
  | 6, h => cases h; exact ⟨mt54, rfl, sxo54⟩
  | 7, h => cases h; exact ⟨mt55, rfl, sxo55⟩
  | 8, h => cases h; exact ⟨mt56, rfl, sxo56⟩
  | 9, h => cases h; exact ⟨mt57, rfl, sxo57⟩
  | 10, h => cases h; exact ⟨mt58, rfl, sxo58⟩
  | 11, h => cases h; exact ⟨mt59, rfl, sxo59⟩
  | 12, h => cases h; exact ⟨mt60, rfl, sxo60⟩
  | 13, h => cases h; exact ⟨mt61, rfl, sxo61⟩
  | 14, h => cases h; exact ⟨mt62, rfl, sxo62⟩
  | 15, h => cases h; exact ⟨mt63, rfl, sxo63⟩
  | n + 16, h => cases h
theorem sxr4 : ∀ j m, [sxm64, sxm65, sxm66, sxm67, sxm68, sxm69, sxm70, sxm71, sxm72, sxm73, sxm74, sxm75, sxm76, sxm77, sxm78, sxm79][j]? = some m → m.1 = 64 + j → ∃ M, m_P[64 + j]? = some M ∧ sx_mw m M := by
  intro j m h e
  match j, h with
  | 0, h => cases h; exact ⟨mt64, rfl, sxo64⟩
  | 1, h => cases h; exact ⟨mt65, rfl, sxo65⟩
  | 2, h => cases h; exact ⟨mt66, rfl, sxo66⟩
  | 3, h => cases h; exact ⟨mt67, rfl, sxo67⟩
  | 4, h => cases h; exact ⟨mt68, rfl, sxo68⟩
  | 5, h => cases h; exact ⟨mt69, rfl, sxo69⟩
  | 6, h => cases h; exact ⟨mt70, rfl, sxo70⟩
  | 7, h => cases h; exact ⟨mt71, rfl, sxo71⟩
  | 8, h => cases h; exact ⟨mt72, rfl, sxo72⟩
  | 9, h => cases h; exact ⟨mt73, rfl, sxo73⟩
  | 10, h => cases h; exact ⟨mt74, rfl, sxo74⟩
  | 11, h => cases h; exact ⟨mt75, rfl, sxo75⟩
  | 12, h => cases h; exact ⟨mt76, rfl, sxo76⟩
  | 13, h => cases h; exact ⟨mt77, rfl, sxo77⟩
  | 14, h => cases h; exact ⟨mt78, rfl, sxo78⟩
  | 15, h => cases h; exact ⟨mt79, rfl, sxo79⟩
  | n + 16, h => cases h
theorem sxr5 : ∀ j m, [sxm80, sxm81, sxm82, sxm83, sxm84, sxm85, sxm86, sxm87, sxm88, sxm89, sxm90, sxm91, sxm92, sxm93, sxm94, sxm95][j]? = some m → m.1 = 80 + j → ∃ M, m_P[80 + j]? = some M ∧ sx_mw m M := by
  intro j m h e
  match j, h with
  | 0, h => cases h; exact ⟨mt80, rfl, sxo80⟩
  | 1, h => cases h; exact ⟨mt81, rfl, sxo81⟩
  | 2, h => cases h; exact ⟨mt82, rfl, sxo82⟩
  | 3, h => cases h; exact ⟨mt83, rfl, sxo83⟩
  | 4, h => cases h; exact ⟨mt84, rfl, sxo84⟩
  | 5, h => cases h; exact ⟨mt85, rfl, sxo85⟩
  | 6, h => cases h; exact ⟨mt86, rfl, sxo86⟩
  | 7, h => cases h; exact ⟨mt87, rfl, sxo87⟩
  | 8, h => cases h; exact ⟨mt88, rfl, sxo88⟩
  | 9, h => cases h; exact ⟨mt89, rfl, sxo89⟩
  | 10, h => cases h; exact ⟨mt90, rfl, sxo90⟩
  | 11, h => cases h; exact ⟨mt91, rfl, sxo91⟩
  | 12, h => cases h; exact ⟨mt92, rfl, sxo92⟩
  | 13, h => cases h; exact ⟨mt93, rfl, sxo93⟩
  | 14, h => cases h; exact ⟨mt94, rfl, sxo94⟩
  | 15, h => cases h; exact ⟨mt95, rfl, sxo95⟩
  | n + 16, h => cases h
theorem sxr6 : ∀ j m, [sxm96, sxm97, sxm98, sxm99, sxm100, sxm101, sxm102, sxm103, sxm104, sxm105, sxm106, sxm107, sxm108, sxm109, sxm110, sxm111][j]? = some m → m.1 = 96 + j → ∃ M, m_P[96 + j]? = some M ∧ sx_mw m M := by
  intro j m h e
  match j, h with
  | 0, h => cases h; exact ⟨mt96, rfl, sxo96⟩
  | 1, h => cases h; exact ⟨mt97, rfl, sxo97⟩
  | 2, h => cases h; exact ⟨mt98, rfl, sxo98⟩
  | 3, h => cases h; exact ⟨mt99, rfl, sxo99⟩
  | 4, h => cases h; exact ⟨mt100, rfl, sxo100⟩
  | 5, h => cases h; exact ⟨mt101, rfl, sxo101⟩
  | 6, h => cases h; exact ⟨mt102, rfl, sxo102⟩
  | 7, h => cases h; exact ⟨mt103, rfl, sxo103⟩
  | 8, h => cases h; exact ⟨mt104, rfl, sxo104⟩
  | 9, h => cases h; exact ⟨mt105, rfl, sxo105⟩
  | 10, h => cases h; exact ⟨mt106, rfl, sxo106⟩
  | 11, h => cases h; exact ⟨mt107, rfl, sxo107⟩
  | 12, h => cases h; exact ⟨mt108, rfl, sxo108⟩
  | 13, h => cases h; exact ⟨mt109, rfl, sxo109⟩
  | 14, h => cases h; exact ⟨mt110, rfl, sxo110⟩
  | 15, h => cases h; exact ⟨mt111, rfl, sxo111⟩
  | n + 16, h => cases h
theorem sxr7 : ∀ j m, [sxm112, sxm113, sxm114, sxm115, sxm116, sxm117, sxm118, sxm119, sxm120, sxm121, sxm122, sxm123, sxm124, sxm125, sxm126, sxm127][j]? = some m → m.1 = 112 + j → ∃ M, m_P[112 + j]? = some M ∧ sx_mw m M := by
  intro j m h e
  match j, h with
  | 0, h => cases h; exact ⟨mt112, rfl, sxo112⟩
  | 1, h => cases h; exact ⟨mt113, rfl, sxo113⟩
  | 2, h => cases h; exact ⟨mt114, rfl, sxo114⟩
  | 3, h => cases h; exact ⟨mt115, rfl, sxo115⟩
  | 4, h => cases h; exact ⟨mt116, rfl, sxo116⟩
  | 5, h => cases h; exact ⟨mt117, rfl, sxo117⟩
  | 6, h => cases h; exact ⟨mt118, rfl, sxo118⟩
  | 7, h => cases h; exact ⟨mt119, rfl, sxo119⟩
  | 8, h => cases h; exact ⟨mt120, rfl, sxo120⟩
  | 9, h => cases h; exact ⟨mt121, rfl, sxo121⟩
  | 10, h => cases h; exact ⟨mt122, rfl, sxo122⟩
  | 11, h => cases h; exact ⟨mt123, rfl, sxo123⟩
  | 12, h => cases h; exact ⟨mt124, rfl, sxo124⟩
  | 13, h => cases h; exact ⟨mt125, rfl, sxo125⟩
  | 14, h => cases h; exact ⟨mt126, rfl, sxo126⟩
  | 15, h => cases h; exact ⟨mt127, rfl, sxo127⟩
  | n + 16, h => cases h
theorem sxr8 : ∀ j m, [sxm128, sxm129, sxm130, sxm131, sxm132, sxm133, sxm134, sxm135, sxm136, sxm137, sxm138, sxm139, sxm140, sxm141, sxm142, sxm143][j]? = some m → m.1 = 128 + j → ∃ M, m_P[128 + j]? = some M ∧ sx_mw m M := by
  intro j m h e
  match j, h with
  | 0, h => cases h; exact ⟨mt128, rfl, sxo128⟩
  | 1, h => cases h; exact ⟨mt129, rfl, sxo129⟩
  | 2, h => cases h; exact ⟨mt130, rfl, sxo130⟩
  | 3, h => cases h; exact ⟨mt131, rfl, sxo131⟩
  | 4, h => cases h; exact ⟨mt132, rfl, sxo132⟩
  | 5, h => cases h; exact ⟨mt133, rfl, sxo133⟩
  | 6, h => cases h; exact ⟨mt134, rfl, sxo134⟩
  | 7, h => cases h; exact ⟨mt135, rfl, sxo135⟩
  | 8, h => cases h; exact ⟨mt136, rfl, sxo136⟩
  | 9, h => cases h; exact ⟨mt137, rfl, sxo137⟩
  | 10, h => cases h; exact ⟨mt138, rfl, sxo138⟩
  | 11, h => cases h; exact ⟨mt139, rfl, sxo139⟩
  | 12, h => cases h; exact ⟨mt140, rfl, sxo140⟩
  | 13, h => cases h; exact ⟨mt141, rfl, sxo141⟩
  | 14, h => cases h; exact ⟨mt142, rfl, sxo142⟩
  | 15, h => cases h; exact ⟨mt143, rfl, sxo143⟩
  | n + 16, h => cases h
theorem sxr9 : ∀ j m, [sxm144, sxm145, sxm146, sxm147, sxm148, sxm149, sxm150, sxm151, sxm152, sxm153, sxm154, sxm155, sxm156, sxm157, sxm158, sxm159][j]? = some m → m.1 = 144 + j → ∃ M, m_P[144 + j]? = some M ∧ sx_mw m M := by
  intro j m h e
  match j, h with
  | 0, h => cases h; exact ⟨mt144, rfl, sxo144⟩
  | 1, h => cases h; exact ⟨mt145, rfl, sxo145⟩
  | 2, h => cases h; exact ⟨mt146, rfl, sxo146⟩
  | 3, h => cases h; exact ⟨mt147, rfl, sxo147⟩
  | 4, h => cases h; exact ⟨mt148, rfl, sxo148⟩
  | 5, h => cases h; exact ⟨mt149, rfl, sxo149⟩
  | 6, h => cases h; exact ⟨mt150, rfl, sxo150⟩
  | 7, h => cases h; exact ⟨mt151, rfl, sxo151⟩
  | 8, h => cases h; exact ⟨mt152, rfl, sxo152⟩
  | 9, h => cases h; exact ⟨mt153, rfl, sxo153⟩
  | 10, h => cases h; exact ⟨mt154, rfl, sxo154⟩
  | 11, h => cases h; exact ⟨mt155, rfl, sxo155⟩
  | 12, h => cases h; exact ⟨mt156, rfl, sxo156⟩
  | 13, h => cases h; exact ⟨mt157, rfl, sxo157⟩
  | 14, h => cases h; exact ⟨mt158, rfl, sxo158⟩
  | 15, h => cases h; exact ⟨mt159, rfl, sxo159⟩
  | n + 16, h => cases h
theorem sxr10 : ∀ j m, [sxm160, sxm161, sxm162, sxm163, sxm164, sxm165, sxm166, sxm167, sxm168, sxm169, sxm170, sxm171, sxm172, sxm173, sxm174, sxm175][j]? = some m → m.1 = 160 + j → ∃ M, m_P[160 + j]? = some M ∧ sx_mw m M := by
  intro j m h e
  match j, h with
  | 0, h => cases h; exact ⟨mt160, rfl, sxo160⟩
  | 1, h => cases h; exact ⟨mt161, rfl, sxo161⟩
  | 2, h => cases h; exact ⟨mt162, rfl, sxo162⟩
  | 3, h => cases h; exact ⟨mt163, rfl, sxo163⟩
  | 4, h => cases h; exact ⟨mt164, rfl, sxo164⟩
  | 5, h => cases h; exact ⟨mt165, rfl, sxo165⟩
  | 6, h => cases h; exact ⟨mt166, rfl, sxo166⟩
  | 7, h => cases h; exact ⟨mt167, rfl, sxo167⟩
  | 8, h => cases h; exact ⟨mt168, rfl, sxo168⟩
  | 9, h => cases h; exact ⟨mt169, rfl, sxo169⟩
  | 10, h => cases h; exact ⟨mt170, rfl, sxo170⟩
  | 11, h => cases h; exact ⟨mt171, rfl, sxo171⟩
  | 12, h => cases h; exact ⟨mt172, rfl, sxo172⟩
  | 13, h => cases h; exact ⟨mt173, rfl, sxo173⟩
  | 14, h => cases h; exact ⟨mt174, rfl, sxo174⟩
  | 15, h => cases h; exact ⟨mt175, rfl, sxo175⟩
  | n + 16, h => cases h
theorem sxr11 : ∀ j m, [sxm176, sxm177, sxm178, sxm179, sxm180, sxm181, sxm182, sxm183, sxm184, sxm185, sxm186, sxm187, sxm188, sxm189, sxm190, sxm191][j]? = some m → m.1 = 176 + j → ∃ M, m_P[176 + j]? = some M ∧ sx_mw m M := by
  intro j m h e
  match j, h with
  | 0, h => cases h; exact ⟨mt176, rfl, sxo176⟩
  | 1, h => cases h; exact ⟨mt177, rfl, sxo177⟩
  | 2, h => cases h; exact ⟨mt178, rfl, sxo178⟩
  | 3, h => cases h; exact ⟨mt179, rfl, sxo179⟩
  | 4, h => cases h; exact ⟨mt180, rfl, sxo180⟩
  | 5, h => cases h; exact ⟨mt181, rfl, sxo181⟩
  | 6, h => cases h; exact ⟨mt182, rfl, sxo182⟩
  | 7, h => cases h; exact ⟨mt183, rfl, sxo183⟩
  | 8, h => cases h; exact ⟨mt184, rfl, sxo184⟩
  | 9, h => cases h; exact ⟨mt185, rfl, sxo185⟩
  | 10, h => cases h; exact ⟨mt186, rfl, sxo186⟩
  | 11, h => cases h; exact ⟨mt187, rfl, sxo187⟩
  | 12, h => cases h; exact ⟨mt188, rfl, sxo188⟩
  | 13, h => cases h; exact ⟨mt189, rfl, sxo189⟩
  | 14, h => cases h; exact ⟨mt190, rfl, sxo190⟩
  | 15, h => cases h; exact ⟨mt191, rfl, sxo191⟩
  | n + 16, h => cases h
theorem sxr12 : ∀ j m, [sxm192, sxm193, sxm194, sxm195, sxm196, sxm197, sxm198, sxm199, sxm200, sxm201, sxm202, sxm203, sxm204, sxm205, sxm206, sxm207][j]? = some m → m.1 = 192 + j → ∃ M, m_P[192 + j]? = some M ∧ sx_mw m M := by
  intro j m h e
  match j, h with
  | 0, h => cases h; exact ⟨mt192, rfl, sxo192⟩
  | 1, h => cases h; exact ⟨mt193, rfl, sxo193⟩
  | 2, h => cases h; exact ⟨mt194, rfl, sxo194⟩
  | 3, h => cases h; exact ⟨mt195, rfl, sxo195⟩
  | 4, h => cases h; exact ⟨mt196, rfl, sxo196⟩
  | 5, h => cases h; exact ⟨mt197, rfl, sxo197⟩
  | 6, h => cases h; exact ⟨mt198, rfl, sxo198⟩
  | 7, h => cases h; exact ⟨mt199, rfl, sxo199⟩
  | 8, h => cases h; exact ⟨mt200, rfl, sxo200⟩
  | 9, h => cases h; exact ⟨mt201, rfl, sxo201⟩
  | 10, h => cases h; exact ⟨mt202, rfl, sxo202⟩
  | 11, h => cases h; exact ⟨mt203, rfl, sxo203⟩
  | 12, h => cases h; exact ⟨mt204, rfl, sxo204⟩
  | 13, h => cases h; exact ⟨mt205, rfl, sxo205⟩
  | 14, h => cases h; exact ⟨mt206, rfl, sxo206⟩
  | 15, h => cases h; exact ⟨mt207, rfl, sxo207⟩
  | n + 16, h => cases h
theorem sxr13 : ∀ j m, [sxm208, sxm209, sxm210, sxm211, sxm212, sxm213, sxm214, sxm215, sxm216, sxm217, sxm218, sxm219, sxm220, sxm221, sxm222, sxm223][j]? = some m → m.1 = 208 + j → ∃ M, m_P[208 + j]? = some M ∧ sx_mw m M := by
  intro j m h e
  match j, h with
  | 0, h => cases h; exact ⟨mt208, rfl, sxo208⟩
  | 1, h => cases h; exact ⟨mt209, rfl, sxo209⟩
  | 2, h => cases h; exact ⟨mt210, rfl, sxo210⟩
  | 3, h => cases h; exact ⟨mt211, rfl, sxo211⟩
  | 4, h => cases h; exact ⟨mt212, rfl, sxo212⟩
  | 5, h => cases h; exact ⟨mt213, rfl, sxo213⟩
  | 6, h => cases h; exact ⟨mt214, rfl, sxo214⟩
  | 7, h => cases h; exact ⟨mt215, rfl, sxo215⟩
  | 8, h => cases h; exact ⟨mt216, rfl, sxo216⟩
  | 9, h => cases h; exact ⟨mt217, rfl, sxo217⟩
  | 10, h => cases h; exact ⟨mt218, rfl, sxo218⟩
  | 11, h => cases h; exact ⟨mt219, rfl, sxo219⟩
  | 12, h => cases h; exact ⟨mt220, rfl, sxo220⟩
  | 13, h => cases h; exact ⟨mt221, rfl, sxo221⟩
  | 14, h => cases h; exact ⟨mt222, rfl, sxo222⟩
  | 15, h => cases h; exact ⟨mt223, rfl, sxo223⟩
  | n + 16, h => cases h
theorem sxr14 : ∀ j m, [sxm224, sxm225, sxm226, sxm227, sxm228, sxm229, sxm230, sxm231, sxm232, sxm233, sxm234, sxm235, sxm236, sxm237, sxm238, sxm239][j]? = some m → m.1 = 224 + j → ∃ M, m_P[224 + j]? = some M ∧ sx_mw m M := by
  intro j m h e
  match j, h with
  | 0, h => cases h; exact ⟨mt224, rfl, sxo224⟩
  | 1, h => cases h; exact ⟨mt225, rfl, sxo225⟩
  | 2, h => cases h; exact ⟨mt226, rfl, sxo226⟩
  | 3, h => cases h; exact ⟨mt227, rfl, sxo227⟩
  | 4, h => cases h; exact ⟨mt228, rfl, sxo228⟩
  | 5, h => cases h; exact ⟨mt229, rfl, sxo229⟩
  | 6, h => cases h; exact ⟨mt230, rfl, sxo230⟩
  | 7, h => cases h; exact ⟨mt231, rfl, sxo231⟩
  | 8, h => cases h; exact ⟨mt232, rfl, sxo232⟩
  | 9, h => cases h; exact ⟨mt233, rfl, sxo233⟩
  | 10, h => cases h; exact ⟨mt234, rfl, sxo234⟩
  | 11, h => cases h; exact ⟨mt235, rfl, sxo235⟩
  | 12, h => cases h; exact ⟨mt236, rfl, sxo236⟩
  | 13, h => cases h; exact ⟨mt237, rfl, sxo237⟩
  | 14, h => cases h; exact ⟨mt238, rfl, sxo238⟩
  | 15, h => cases h; exact ⟨mt239, rfl, sxo239⟩
  | n + 16, h => cases h
theorem sxr15 : ∀ j m, [sxm240, sxm241, sxm242, sxm243, sxm244, sxm245, sxm246, sxm247, sxm248, sxm249, sxm250, sxm251, sxm252, sxm253, sxm254, sxm255][j]? = some m → m.1 = 240 + j → ∃ M, m_P[240 + j]? = some M ∧ sx_mw m M := by
  intro j m h e
  match j, h with
  | 0, h => cases h; exact ⟨mt240, rfl, sxo240⟩
  | 1, h => cases h; exact ⟨mt241, rfl, sxo241⟩
  | 2, h => cases h; exact ⟨mt242, rfl, sxo242⟩
  | 3, h => cases h; exact ⟨mt243, rfl, sxo243⟩
  | 4, h => cases h; exact ⟨mt244, rfl, sxo244⟩
  | 5, h => cases h; exact ⟨mt245, rfl, sxo245⟩
  | 6, h => cases h; exact ⟨mt246, rfl, sxo246⟩
  | 7, h => cases h; exact ⟨mt247, rfl, sxo247⟩
  | 8, h => cases h; exact ⟨mt248, rfl, sxo248⟩
  | 9, h => cases h; exact ⟨mt249, rfl, sxo249⟩
  | 10, h => cases h; exact ⟨mt250, rfl, sxo250⟩
  | 11, h => cases h; exact ⟨mt251, rfl, sxo251⟩
  | 12, h => cases h; exact ⟨mt252, rfl, sxo252⟩
  | 13, h => cases h; exact ⟨mt253, rfl, sxo253⟩
  | 14, h => cases h; exact ⟨mt254, rfl, sxo254⟩
  | 15, h => cases h; exact ⟨mt255, rfl, sxo255⟩
  | n + 16, h => cases h
theorem sxr16 : ∀ j m, [sxm256, sxm257, sxm258, sxm259, sxm260, sxm261, sxm262, sxm263, sxm264, sxm265, sxm266, sxm267, sxm268, sxm269, sxm270, sxm271][j]? = some m → m.1 = 256 + j → ∃ M, m_P[256 + j]? = some M ∧ sx_mw m M := by
  intro j m h e
  match j, h with
  | 0, h => cases h; exact ⟨mt256, rfl, sxo256⟩
  | 1, h => cases h; exact ⟨mt257, rfl, sxo257⟩
  | 2, h => cases h; exact ⟨mt258, rfl, sxo258⟩
  | 3, h => cases h; exact ⟨mt259, rfl, sxo259⟩
  | 4, h => cases h; exact ⟨mt260, rfl, sxo260⟩
  | 5, h => cases h; exact ⟨mt261, rfl, sxo261⟩
  | 6, h => cases h; exact ⟨mt262, rfl, sxo262⟩
  | 7, h => cases h; exact ⟨mt263, rfl, sxo263⟩
  | 8, h => cases h; exact ⟨mt264, rfl, sxo264⟩
  | 9, h => cases h; exact ⟨mt265, rfl, sxo265⟩
  | 10, h => cases h; exact ⟨mt266, rfl, sxo266⟩
  | 11, h => cases h; exact ⟨mt267, rfl, sxo267⟩
  | 12, h => cases h; exact ⟨mt268, rfl, sxo268⟩
  | 13, h => cases h; exact ⟨mt269, rfl, sxo269⟩
  | 14, h => cases h; exact ⟨mt270, rfl, sxo270⟩
  | 15, h => cases h; exact ⟨mt271, rfl, sxo271⟩
  | n + 16, h => cases h
theorem sxr17 : ∀ j m, [sxm272, sxm273, sxm274, sxm275, sxm276, sxm277, sxm278, sxm279, sxm280, sxm281, sxm282, sxm283, sxm284, sxm285, sxm286, sxm287][j]? = some m → m.1 = 272 + j → ∃ M, m_P[272 + j]? = some M ∧ sx_mw m M := by
  intro j m h e
  match j, h with
  | 0, h => cases h; exact ⟨mt272, rfl, sxo272⟩
  | 1, h => cases h; exact ⟨mt273, rfl, sxo273⟩
  | 2, h => cases h; exact ⟨mt274, rfl, sxo274⟩
  | 3, h => cases h; exact ⟨mt275, rfl, sxo275⟩
  | 4, h => cases h; exact ⟨mt276, rfl, sxo276⟩
  | 5, h => cases h; exact ⟨mt277, rfl, sxo277⟩
  | 6, h => cases h; exact ⟨mt278, rfl, sxo278⟩
  | 7, h => cases h; exact ⟨mt279, rfl, sxo279⟩
  | 8, h => cases h; exact ⟨mt280, rfl, sxo280⟩
  | 9, h => cases h; exact ⟨mt281, rfl, sxo281⟩
  | 10, h => cases h; exact ⟨mt282, rfl, sxo282⟩
  | 11, h => cases h; exact ⟨mt283, rfl, sxo283⟩
  | 12, h => cases h; exact ⟨mt284, rfl, sxo284⟩
  | 13, h => cases h; exact ⟨mt285, rfl, sxo285⟩
  | 14, h => cases h; exact ⟨mt286, rfl, sxo286⟩
  | 15, h => cases h; exact ⟨mt287, rfl, sxo287⟩
  | n + 16, h => cases h
theorem sxr18 : ∀ j m, [sxm288, sxm289, sxm290, sxm291, sxm292, sxm293, sxm294, sxm295, sxm296, sxm297, sxm298, sxm299, sxm300, sxm301, sxm302, sxm303][j]? = some m → m.1 = 288 + j → ∃ M, m_P[288 + j]? = some M ∧ sx_mw m M := by
  intro j m h e
  match j, h with
  | 0, h => cases h; exact ⟨mt288, rfl, sxo288⟩
  | 1, h => cases h; exact ⟨mt289, rfl, sxo289⟩
  | 2, h => cases h; exact ⟨mt290, rfl, sxo290⟩
  | 3, h => cases h; exact ⟨mt291, rfl, sxo291⟩
  | 4, h => cases h; exact ⟨mt292, rfl, sxo292⟩
  | 5, h => cases h; exact ⟨mt293, rfl, sxo293⟩
  | 6, h => cases h; exact ⟨mt294, rfl, sxo294⟩
  | 7, h => cases h; exact ⟨mt295, rfl, sxo295⟩
  | 8, h => cases h; exact ⟨mt296, rfl, sxo296⟩
  | 9, h => cases h; exact ⟨mt297, rfl, sxo297⟩
  | 10, h => cases h; exact ⟨mt298, rfl, sxo298⟩
  | 11, h => cases h; exact ⟨mt299, rfl, sxo299⟩
  | 12, h => cases h; exact ⟨mt300, rfl, sxo300⟩
  | 13, h => cases h; exact ⟨mt301, rfl, sxo301⟩
  | 14, h => cases h; exact ⟨mt302, rfl, sxo302⟩
  | 15, h => cases h; exact ⟨mt303, rfl, sxo303⟩
  | n + 16, h => cases h
theorem sxr19 : ∀ j m, [sxm304, sxm305, sxm306, sxm307, sxm308, sxm309, sxm310, sxm311, sxm312, sxm313, sxm314, sxm315, sxm316, sxm317, sxm318, sxm319][j]? = some m → m.1 = 304 + j → ∃ M, m_P[304 + j]? = some M ∧ sx_mw m M := by
  intro j m h e
  match j, h with
  | 0, h => cases h; exact ⟨mt304, rfl, sxo304⟩
  | 1, h => cases h; exact ⟨mt305, rfl, sxo305⟩
  | 2, h => cases h; exact ⟨mt306, rfl, sxo306⟩
  | 3, h => cases h; exact ⟨mt307, rfl, sxo307⟩
  | 4, h => cases h; exact ⟨mt308, rfl, sxo308⟩
  | 5, h => cases h; exact ⟨mt309, rfl, sxo309⟩
  | 6, h => cases h; exact ⟨mt310, rfl, sxo310⟩
  | 7, h => cases h; exact ⟨mt311, rfl, sxo311⟩
  | 8, h => cases h; exact ⟨mt312, rfl, sxo312⟩
  | 9, h => cases h; exact ⟨mt313, rfl, sxo313⟩
  | 10, h => cases h; exact ⟨mt314, rfl, sxo314⟩
  | 11, h => cases h; exact ⟨mt315, rfl, sxo315⟩
  | 12, h => cases h; exact ⟨mt316, rfl, sxo316⟩
  | 13, h => cases h; exact ⟨mt317, rfl, sxo317⟩
  | 14, h => cases h; exact ⟨mt318, rfl, sxo318⟩
  | 15, h => cases h; exact ⟨mt319, rfl, sxo319⟩
  | n + 16, h => cases h
theorem sxr20 : ∀ j m, [sxm320, sxm321, sxm322, sxm323, sxm324, sxm325, sxm326, sxm327, sxm328, sxm329, sxm330, sxm331, sxm332, sxm333, sxm334, sxm335][j]? = some m → m.1 = 320 + j → ∃ M, m_P[320 + j]? = some M ∧ sx_mw m M := by
  intro j m h e
  match j, h with
  | 0, h => cases h; exact ⟨mt320, rfl, sxo320⟩
  | 1, h => cases h; exact ⟨mt321, rfl, sxo321⟩
  | 2, h => cases h; exact ⟨mt322, rfl, sxo322⟩
  | 3, h => cases h; exact ⟨mt323, rfl, sxo323⟩
  | 4, h => cases h; exact ⟨mt324, rfl, sxo324⟩
  | 5, h => cases h; exact ⟨mt325, rfl, sxo325⟩
  | 6, h => cases h; exact ⟨mt326, rfl, sxo326⟩
  | 7, h => cases h; exact ⟨mt327, rfl, sxo327⟩
  | 8, h => cases h; exact ⟨mt328, rfl, sxo328⟩
  | 9, h => cases h; exact ⟨mt329, rfl, sxo329⟩
  | 10, h => cases h; exact ⟨mt330, rfl, sxo330⟩
  | 11, h => cases h; exact ⟨mt331, rfl, sxo331⟩
  | 12, h => cases h; exact ⟨mt332, rfl, sxo332⟩
  | 13, h => cases h; exact ⟨mt333, rfl, sxo333⟩
  | 14, h => cases h; exact ⟨mt334, rfl, sxo334⟩
  | 15, h => cases h; exact ⟨mt335, rfl, sxo335⟩
  | n + 16, h => cases h
theorem sxr21 : ∀ j m, [sxm336, sxm337, sxm338, sxm339, sxm340, sxm341, sxm342, sxm343, sxm344, sxm345, sxm346, sxm347, sxm348, sxm349, sxm350, sxm351][j]? = some m → m.1 = 336 + j → ∃ M, m_P[336 + j]? = some M ∧ sx_mw m M := by
  intro j m h e
  match j, h with
  | 0, h => cases h; exact ⟨mt336, rfl, sxo336⟩
  | 1, h => cases h; exact ⟨mt337, rfl, sxo337⟩
  | 2, h => cases h; exact ⟨mt338, rfl, sxo338⟩
  | 3, h => cases h; exact ⟨mt339, rfl, sxo339⟩
  | 4, h => cases h; exact ⟨mt340, rfl, sxo340⟩
  | 5, h => cases h; exact ⟨mt341, rfl, sxo341⟩
  | 6, h => cases h; exact ⟨mt342, rfl, sxo342⟩
  | 7, h => cases h; exact ⟨mt343, rfl, sxo343⟩
  | 8, h => cases h; exact ⟨mt344, rfl, sxo344⟩
  | 9, h => cases h; exact ⟨mt345, rfl, sxo345⟩
  | 10, h => cases h; exact ⟨mt346, rfl, sxo346⟩
  | 11, h => cases h; exact ⟨mt347, rfl, sxo347⟩
  | 12, h => cases h; exact ⟨mt348, rfl, sxo348⟩
  | 13, h => cases h; exact ⟨mt349, rfl, sxo349⟩
  | 14, h => cases h; exact ⟨mt350, rfl, sxo350⟩
  | 15, h => cases h; exact ⟨mt351, rfl, sxo351⟩
  | n + 16, h => cases h
theorem sxr22 : ∀ j m, [sxm352, sxm353, sxm354, sxm355, sxm356, sxm357, sxm358, sxm359, sxm360, sxm361, sxm362, sxm363, sxm364, sxm365, sxm366, sxm367][j]? = some m → m.1 = 352 + j → ∃ M, m_P[352 + j]? = some M ∧ sx_mw m M := by
  intro j m h e
  match j, h with
  | 0, h => cases h; exact ⟨mt352, rfl, sxo352⟩
  | 1, h => cases h; exact ⟨mt353, rfl, sxo353⟩
  | 2, h => cases h; exact ⟨mt354, rfl, sxo354⟩
  | 3, h => cases h; exact ⟨mt355, rfl, sxo355⟩
  | 4, h => cases h; exact ⟨mt356, rfl, sxo356⟩
  | 5, h => cases h; exact ⟨mt357, rfl, sxo357⟩
  | 6, h => cases h; exact ⟨mt358, rfl, sxo358⟩
  | 7, h => cases h; exact ⟨mt359, rfl, sxo359⟩
  | 8, h => cases h; exact ⟨mt360, rfl, sxo360⟩
  | 9, h => cases h; exact ⟨mt361, rfl, sxo361⟩
  | 10, h => cases h; exact ⟨mt362, rfl, sxo362⟩
  | 11, h => cases h; exact ⟨mt363, rfl, sxo363⟩
  | 12, h => cases h; exact ⟨mt364, rfl, sxo364⟩
  | 13, h => cases h; exact ⟨mt365, rfl, sxo365⟩
  | 14, h => cases h; exact ⟨mt366, rfl, sxo366⟩
  | 15, h => cases h; exact ⟨mt367, rfl, sxo367⟩
  | n + 16, h => cases h
theorem sxr23 : ∀ j m, [sxm368, sxm369, sxm370, sxm371, sxm372, sxm373, sxm374, sxm375, sxm376, sxm377, sxm378, sxm379, sxm380, sxm381, sxm382, sxm383][j]? = some m → m.1 = 368 + j → ∃ M, m_P[368 + j]? = some M ∧ sx_mw m M := by
  intro j m h e
  match j, h with
  | 0, h => cases h; exact ⟨mt368, rfl, sxo368⟩
  | 1, h => cases h; exact ⟨mt369, rfl, sxo369⟩
  | 2, h => cases h; exact ⟨mt370, rfl, sxo370⟩
  | 3, h => cases h; exact ⟨mt371, rfl, sxo371⟩
  | 4, h => cases h; exact ⟨mt372, rfl, sxo372⟩
  | 5, h => cases h; exact ⟨mt373, rfl, sxo373⟩
  | 6, h => cases h; exact ⟨mt374, rfl, sxo374⟩
  | 7, h => cases h; exact ⟨mt375, rfl, sxo375⟩
  | 8, h => cases h; exact ⟨mt376, rfl, sxo376⟩
  | 9, h => cases h; exact ⟨mt377, rfl, sxo377⟩
  | 10, h => cases h; exact ⟨mt378, rfl, sxo378⟩
  | 11, h => cases h; exact ⟨mt379, rfl, sxo379⟩
  | 12, h => cases h; exact ⟨mt380, rfl, sxo380⟩
  | 13, h => cases h; exact ⟨mt381, rfl, sxo381⟩
  | 14, h => cases h; exact ⟨mt382, rfl, sxo382⟩
  | 15, h => cases h; exact ⟨mt383, rfl, sxo383⟩
  | n + 16, h => cases h
theorem sxr24 : ∀ j m, [sxm384, sxm385, sxm386, sxm387, sxm388, sxm389, sxm390, sxm391, sxm392, sxm393, sxm394, sxm395, sxm396, sxm397, sxm398, sxm399][j]? = some m → m.1 = 384 + j → ∃ M, m_P[384 + j]? = some M ∧ sx_mw m M := by
  intro j m h e
  match j, h with
  | 0, h => cases h; exact ⟨mt384, rfl, sxo384⟩
  | 1, h => cases h; exact ⟨mt385, rfl, sxo385⟩
  | 2, h => cases h; exact ⟨mt386, rfl, sxo386⟩
  | 3, h => cases h; exact ⟨mt387, rfl, sxo387⟩
  | 4, h => cases h; exact ⟨mt388, rfl, sxo388⟩
  | 5, h => cases h; exact ⟨mt389, rfl, sxo389⟩
  | 6, h => cases h; exact ⟨mt390, rfl, sxo390⟩
  | 7, h => cases h; exact ⟨mt391, rfl, sxo391⟩
  | 8, h => cases h; exact ⟨mt392, rfl, sxo392⟩
  | 9, h => cases h; exact ⟨mt393, rfl, sxo393⟩
  | 10, h => cases h; exact ⟨mt394, rfl, sxo394⟩
  | 11, h => cases h; exact ⟨mt395, rfl, sxo395⟩
  | 12, h => cases h; exact ⟨mt396, rfl, sxo396⟩
  | 13, h => cases h; exact ⟨mt397, rfl, sxo397⟩
  | 14, h => cases h; exact ⟨mt398, rfl, sxo398⟩
  | 15, h => cases h; exact ⟨mt399, rfl, sxo399⟩
  | n + 16, h => cases h
theorem sxr25 : ∀ j m, [sxm400, sxm401, sxm402, sxm403, sxm404, sxm405, sxm406, sxm407, sxm408, sxm409, sxm410, sxm411, sxm412, sxm413, sxm414, sxm415][j]? = some m → m.1 = 400 + j → ∃ M, m_P[400 + j]? = some M ∧ sx_mw m M := by
  intro j m h e
  match j, h with
  | 0, h => cases h; exact ⟨mt400, rfl, sxo400⟩
  | 1, h => cases h; exact ⟨mt401, rfl, sxo401⟩
  | 2, h => cases h; exact ⟨mt402, rfl, sxo402⟩
  | 3, h => cases h; exact ⟨mt403, rfl, sxo403⟩
  | 4, h => cases h; exact ⟨mt404, rfl, sxo404⟩
  | 5, h => cases h; exact ⟨mt405, rfl, sxo405⟩
  | 6, h => cases h; exact ⟨mt406, rfl, sxo406⟩
  | 7, h => cases h; exact ⟨mt407, rfl, sxo407⟩
  | 8, h => cases h; exact ⟨mt408, rfl, sxo408⟩
  | 9, h => cases h; exact ⟨mt409, rfl, sxo409⟩
  | 10, h => cases h; exact ⟨mt410, rfl, sxo410⟩
  | 11, h => cases h; exact ⟨mt411, rfl, sxo411⟩
  | 12, h => cases h; exact ⟨mt412, rfl, sxo412⟩
  | 13, h => cases h; exact ⟨mt413, rfl, sxo413⟩
  | 14, h => cases h; exact ⟨mt414, rfl, sxo414⟩
  | 15, h => cases h; exact ⟨mt415, rfl, sxo415⟩
  | n + 16, h => cases h
theorem sxr26 : ∀ j m, [sxm416, sxm417, sxm418][j]? = some m → m.1 = 416 + j → ∃ M, m_P[416 + j]? = some M ∧ sx_mw m M := by
  intro j m h e
  match j, h with
  | 0, h => cases h; exact ⟨mt416, rfl, sxo416⟩
  | 1, h => cases h; exact ⟨mt417, rfl, sxo417⟩
  | 2, h => cases h; exact ⟨mt418, rfl, sxo418⟩
  | n + 3, h => cases h
theorem sx_tok_m : sx_tok m_cl m_P m_PL sx_T := by
  intro mi m h e
  unfold sx_ch at h
  split at h
  case h_2 => cases h
  rename_i r hr
  have key : ∃ M, m_P[mi]? = some M ∧ sx_mw m M := by
    have em : mi = 16 * (mi / 16) + mi % 16 := by omega
    generalize mi / 16 = a at *
    generalize mi % 16 = b at *
    subst em
    match a, hr with
    | 0, hr => cases hr; exact sxr0 b m h e
    | 1, hr => cases hr; exact sxr1 b m h e
    | 2, hr => cases hr; exact sxr2 b m h e
    | 3, hr => cases hr; exact sxr3 b m h e
    | 4, hr => cases hr; exact sxr4 b m h e
    | 5, hr => cases hr; exact sxr5 b m h e
    | 6, hr => cases hr; exact sxr6 b m h e
    | 7, hr => cases hr; exact sxr7 b m h e
    | 8, hr => cases hr; exact sxr8 b m h e
    | 9, hr => cases hr; exact sxr9 b m h e
    | 10, hr => cases hr; exact sxr10 b m h e
    | 11, hr => cases hr; exact sxr11 b m h e
    | 12, hr => cases hr; exact sxr12 b m h e
    | 13, hr => cases hr; exact sxr13 b m h e
    | 14, hr => cases hr; exact sxr14 b m h e
    | 15, hr => cases hr; exact sxr15 b m h e
    | 16, hr => cases hr; exact sxr16 b m h e
    | 17, hr => cases hr; exact sxr17 b m h e
    | 18, hr => cases hr; exact sxr18 b m h e
    | 19, hr => cases hr; exact sxr19 b m h e
    | 20, hr => cases hr; exact sxr20 b m h e
    | 21, hr => cases hr; exact sxr21 b m h e
    | 22, hr => cases hr; exact sxr22 b m h e
    | 23, hr => cases hr; exact sxr23 b m h e
    | 24, hr => cases hr; exact sxr24 b m h e
    | 25, hr => cases hr; exact sxr25 b m h e
    | 26, hr => cases hr; exact sxr26 b m h e
    | n + 27, hr => cases hr
  obtain ⟨M, hM, w1, w2, w3, w4, w5⟩ := key
  exact ⟨M, hM, ⟨by rw [e]; exact sx_PL hM, w1, w2⟩, w3, w4, w5⟩
