/-! PRINTED by wip/p2/lyprint.py -/
def ly_kept (mi : Nat) (y : ly_C) : Prop := (∃ fuel pts, ly_chk sx_T sx_KK m_tt m_cl ly_TH ly_Y mi fuel pts y = true) ∨ (mi = 133 ∧ ∃ fuel p eM, mk_chk sx_KK ly_Y fuel p eM y = true) ∨ hp_kept mi y
def ly_keptL (mi : Nat) (ys : List ly_C) : Prop := ∀ y ∈ ys, ly_kept mi y
theorem ly_kpn (mi : Nat) : ly_keptL mi [] := fun y h => by cases h
theorem ly_kpc {mi : Nat} {y : ly_C} {ys : List ly_C} (h : ly_kept mi y) (t : ly_keptL mi ys) : ly_keptL mi (y :: ys) := fun z hz => (List.mem_cons.mp hz).elim (fun e => e ▸ h) (t z)
theorem ly_kpi {mi fuel : Nat} {pts : List (Nat × ly_P × ly_e)} {y : ly_C} (h : ly_chk sx_T sx_KK m_tt m_cl ly_TH ly_Y mi fuel pts y = true) : ly_kept mi y := Or.inl ⟨fuel, pts, h⟩
theorem ly_kpj {fuel : Nat} {p : ly_P} {eM : ly_e} {y : ly_C} (h : mk_chk sx_KK ly_Y fuel p eM y = true) : ly_kept 133 y := Or.inr (Or.inl ⟨rfl, fuel, p, eM, h⟩)
theorem lyr0  : ∀ (j : Nat) (ys : List ly_C), ([[], [], [], [], [], [], [], [], [], [], [], [], [], [], [], []] : List (List ly_C))[j]? = some ys → ly_keptL (0 + j) ys := by
  intro j ys h
  match j, h with
  | 0, h => cases h; exact (ly_kpn _)
  | 1, h => cases h; exact (ly_kpn _)
  | 2, h => cases h; exact (ly_kpn _)
  | 3, h => cases h; exact (ly_kpn _)
  | 4, h => cases h; exact (ly_kpn _)
  | 5, h => cases h; exact (ly_kpn _)
  | 6, h => cases h; exact (ly_kpn _)
  | 7, h => cases h; exact (ly_kpn _)
  | 8, h => cases h; exact (ly_kpn _)
  | 9, h => cases h; exact (ly_kpn _)
  | 10, h => cases h; exact (ly_kpn _)
  | 11, h => cases h; exact (ly_kpn _)
  | 12, h => cases h; exact (ly_kpn _)
  | 13, h => cases h; exact (ly_kpn _)
  | 14, h => cases h; exact (ly_kpn _)
  | 15, h => cases h; exact (ly_kpn _)
  | n + 16, h => cases h
theorem lyr1  : ∀ (j : Nat) (ys : List ly_C), ([[], [lyc59, lyc60], [], [], [], [lyc89], [], [lyc108], [lyc117], [], [lyc146], [], [lyc161], [lyc207], [lyc216], [lyc227]] : List (List ly_C))[j]? = some ys → ly_keptL (16 + j) ys := by
  intro j ys h
  match j, h with
  | 0, h => cases h; exact (ly_kpn _)
  | 1, h => cases h; exact (ly_kpc (ly_kpi lyk59) (ly_kpc (ly_kpi lyk60) (ly_kpn _)))
  | 2, h => cases h; exact (ly_kpn _)
  | 3, h => cases h; exact (ly_kpn _)
  | 4, h => cases h; exact (ly_kpn _)
  | 5, h => cases h; exact (ly_kpc (ly_kpi lyk89) (ly_kpn _))
  | 6, h => cases h; exact (ly_kpn _)
  | 7, h => cases h; exact (ly_kpc (ly_kpi lyk108) (ly_kpn _))
  | 8, h => cases h; exact (ly_kpc (ly_kpi lyk117) (ly_kpn _))
  | 9, h => cases h; exact (ly_kpn _)
  | 10, h => cases h; exact (ly_kpc (ly_kpi lyk146) (ly_kpn _))
  | 11, h => cases h; exact (ly_kpn _)
  | 12, h => cases h; exact (ly_kpc (ly_kpi lyk161) (ly_kpn _))
  | 13, h => cases h; exact (ly_kpc (ly_kpi lyk207) (ly_kpn _))
  | 14, h => cases h; exact (ly_kpc (ly_kpi lyk216) (ly_kpn _))
  | 15, h => cases h; exact (ly_kpc (ly_kpi lyk227) (ly_kpn _))
  | n + 16, h => cases h
theorem lyr2  : ∀ (j : Nat) (ys : List ly_C), ([[lyc253], [lyc263], [], [lyc280], [lyc289], [lyc299], [], [], [lyc327], [lyc338], [lyc353], [], [], [lyc354], [], []] : List (List ly_C))[j]? = some ys → ly_keptL (32 + j) ys := by
  intro j ys h
  match j, h with
  | 0, h => cases h; exact (ly_kpc (ly_kpi lyk253) (ly_kpn _))
  | 1, h => cases h; exact (ly_kpc (ly_kpi lyk263) (ly_kpn _))
  | 2, h => cases h; exact (ly_kpn _)
  | 3, h => cases h; exact (ly_kpc (ly_kpi lyk280) (ly_kpn _))
  | 4, h => cases h; exact (ly_kpc (ly_kpi lyk289) (ly_kpn _))
  | 5, h => cases h; exact (ly_kpc (ly_kpi lyk299) (ly_kpn _))
  | 6, h => cases h; exact (ly_kpn _)
  | 7, h => cases h; exact (ly_kpn _)
  | 8, h => cases h; exact (ly_kpc (ly_kpi lyk327) (ly_kpn _))
  | 9, h => cases h; exact (ly_kpc (ly_kpi lyk338) (ly_kpn _))
  | 10, h => cases h; exact (ly_kpc (ly_kpi lyk353) (ly_kpn _))
  | 11, h => cases h; exact (ly_kpn _)
  | 12, h => cases h; exact (ly_kpn _)
  | 13, h => cases h; exact (ly_kpc (ly_kpi lyk354) (ly_kpn _))
  | 14, h => cases h; exact (ly_kpn _)
  | 15, h => cases h; exact (ly_kpn _)
  | n + 16, h => cases h
theorem lyr3  : ∀ (j : Nat) (ys : List ly_C), ([[], [lyc355, lyc356, lyc357, lyc358, lyc359, lyc360], [], [], [lyc361], [lyc362], [lyc363], [lyc364], [lyc365], [lyc366], [], [], [], [], [], []] : List (List ly_C))[j]? = some ys → ly_keptL (48 + j) ys := by
  intro j ys h
  match j, h with
  | 0, h => cases h; exact (ly_kpn _)
  | 1, h => cases h; exact (ly_kpc (ly_kpi lyk355) (ly_kpc (ly_kpi lyk356) (ly_kpc (ly_kpi lyk357) (ly_kpc (ly_kpi lyk358) (ly_kpc (ly_kpi lyk359) (ly_kpc (ly_kpi lyk360) (ly_kpn _)))))))
  | 2, h => cases h; exact (ly_kpn _)
  | 3, h => cases h; exact (ly_kpn _)
  | 4, h => cases h; exact (ly_kpc (ly_kpi lyk361) (ly_kpn _))
  | 5, h => cases h; exact (ly_kpc (ly_kpi lyk362) (ly_kpn _))
  | 6, h => cases h; exact (ly_kpc (ly_kpi lyk363) (ly_kpn _))
  | 7, h => cases h; exact (ly_kpc (ly_kpi lyk364) (ly_kpn _))
  | 8, h => cases h; exact (ly_kpc (ly_kpi lyk365) (ly_kpn _))
  | 9, h => cases h; exact (ly_kpc (ly_kpi lyk366) (ly_kpn _))
  | 10, h => cases h; exact (ly_kpn _)
  | 11, h => cases h; exact (ly_kpn _)
  | 12, h => cases h; exact (ly_kpn _)
  | 13, h => cases h; exact (ly_kpn _)
  | 14, h => cases h; exact (ly_kpn _)
  | 15, h => cases h; exact (ly_kpn _)
  | n + 16, h => cases h
theorem lyr4  : ∀ (j : Nat) (ys : List ly_C), ([[lyc367], [lyc368], [lyc369], [lyc370], [lyc371], [lyc372], [lyc373], [lyc374], [], [lyc375], [lyc376], [], [], [lyc377], [lyc378], []] : List (List ly_C))[j]? = some ys → ly_keptL (64 + j) ys := by
  intro j ys h
  match j, h with
  | 0, h => cases h; exact (ly_kpc (ly_kpi lyk367) (ly_kpn _))
  | 1, h => cases h; exact (ly_kpc (ly_kpi lyk368) (ly_kpn _))
  | 2, h => cases h; exact (ly_kpc (ly_kpi lyk369) (ly_kpn _))
  | 3, h => cases h; exact (ly_kpc (ly_kpi lyk370) (ly_kpn _))
  | 4, h => cases h; exact (ly_kpc (ly_kpi lyk371) (ly_kpn _))
  | 5, h => cases h; exact (ly_kpc (ly_kpi lyk372) (ly_kpn _))
  | 6, h => cases h; exact (ly_kpc (ly_kpi lyk373) (ly_kpn _))
  | 7, h => cases h; exact (ly_kpc (ly_kpi lyk374) (ly_kpn _))
  | 8, h => cases h; exact (ly_kpn _)
  | 9, h => cases h; exact (ly_kpc (ly_kpi lyk375) (ly_kpn _))
  | 10, h => cases h; exact (ly_kpc (ly_kpi lyk376) (ly_kpn _))
  | 11, h => cases h; exact (ly_kpn _)
  | 12, h => cases h; exact (ly_kpn _)
  | 13, h => cases h; exact (ly_kpc (ly_kpi lyk377) (ly_kpn _))
  | 14, h => cases h; exact (ly_kpc (ly_kpi lyk378) (ly_kpn _))
  | 15, h => cases h; exact (ly_kpn _)
  | n + 16, h => cases h
theorem lyr5  : ∀ (j : Nat) (ys : List ly_C), ([[], [lyc379, lyc380], [lyc381], [], [], [], [], [lyc382], [lyc383], [lyc384], [lyc385], [], [], [], [lyc386], []] : List (List ly_C))[j]? = some ys → ly_keptL (80 + j) ys := by
  intro j ys h
  match j, h with
  | 0, h => cases h; exact (ly_kpn _)
  | 1, h => cases h; exact (ly_kpc (ly_kpi lyk379) (ly_kpc (ly_kpi lyk380) (ly_kpn _)))
  | 2, h => cases h; exact (ly_kpc (ly_kpi lyk381) (ly_kpn _))
  | 3, h => cases h; exact (ly_kpn _)
  | 4, h => cases h; exact (ly_kpn _)
  | 5, h => cases h; exact (ly_kpn _)
  | 6, h => cases h; exact (ly_kpn _)
  | 7, h => cases h; exact (ly_kpc (ly_kpi lyk382) (ly_kpn _))
  | 8, h => cases h; exact (ly_kpc (ly_kpi lyk383) (ly_kpn _))
  | 9, h => cases h; exact (ly_kpc (ly_kpi lyk384) (ly_kpn _))
  | 10, h => cases h; exact (ly_kpc (ly_kpi lyk385) (ly_kpn _))
  | 11, h => cases h; exact (ly_kpn _)
  | 12, h => cases h; exact (ly_kpn _)
  | 13, h => cases h; exact (ly_kpn _)
  | 14, h => cases h; exact (ly_kpc (ly_kpi lyk386) (ly_kpn _))
  | 15, h => cases h; exact (ly_kpn _)
  | n + 16, h => cases h
theorem lyr6  : ∀ (j : Nat) (ys : List ly_C), ([[lyc387], [], [], [lyc388], [lyc0, lyc1], [], [lyc2], [lyc3], [lyc4], [lyc5], [], [lyc6], [lyc7], [lyc8], [lyc9], [lyc10]] : List (List ly_C))[j]? = some ys → ly_keptL (96 + j) ys := by
  intro j ys h
  match j, h with
  | 0, h => cases h; exact (ly_kpc (ly_kpi lyk387) (ly_kpn _))
  | 1, h => cases h; exact (ly_kpn _)
  | 2, h => cases h; exact (ly_kpn _)
  | 3, h => cases h; exact (ly_kpc (ly_kpi lyk388) (ly_kpn _))
  | 4, h => cases h; exact (ly_kpc (ly_kpi lyk0) (ly_kpc (ly_kpi lyk1) (ly_kpn _)))
  | 5, h => cases h; exact (ly_kpn _)
  | 6, h => cases h; exact (ly_kpc (ly_kpi lyk2) (ly_kpn _))
  | 7, h => cases h; exact (ly_kpc (ly_kpi lyk3) (ly_kpn _))
  | 8, h => cases h; exact (ly_kpc (ly_kpi lyk4) (ly_kpn _))
  | 9, h => cases h; exact (ly_kpc (ly_kpi lyk5) (ly_kpn _))
  | 10, h => cases h; exact (ly_kpn _)
  | 11, h => cases h; exact (ly_kpc (ly_kpi lyk6) (ly_kpn _))
  | 12, h => cases h; exact (ly_kpc (ly_kpi lyk7) (ly_kpn _))
  | 13, h => cases h; exact (ly_kpc (ly_kpi lyk8) (ly_kpn _))
  | 14, h => cases h; exact (ly_kpc (ly_kpi lyk9) (ly_kpn _))
  | 15, h => cases h; exact (ly_kpc (ly_kpi lyk10) (ly_kpn _))
  | n + 16, h => cases h
theorem lyr7  : ∀ (j : Nat) (ys : List ly_C), ([[], [], [], [], [lyc11], [lyc12], [lyc13], [lyc14], [lyc15], [lyc16], [lyc17, lyc18, lyc19, lyc20, lyc21, lyc22, lyc23, lyc24], [lyc25, lyc26, lyc27], [], [], [], [lyc28]] : List (List ly_C))[j]? = some ys → ly_keptL (112 + j) ys := by
  intro j ys h
  match j, h with
  | 0, h => cases h; exact (ly_kpn _)
  | 1, h => cases h; exact (ly_kpn _)
  | 2, h => cases h; exact (ly_kpn _)
  | 3, h => cases h; exact (ly_kpn _)
  | 4, h => cases h; exact (ly_kpc (ly_kpi lyk11) (ly_kpn _))
  | 5, h => cases h; exact (ly_kpc (ly_kpi lyk12) (ly_kpn _))
  | 6, h => cases h; exact (ly_kpc (ly_kpi lyk13) (ly_kpn _))
  | 7, h => cases h; exact (ly_kpc (ly_kpi lyk14) (ly_kpn _))
  | 8, h => cases h; exact (ly_kpc (ly_kpi lyk15) (ly_kpn _))
  | 9, h => cases h; exact (ly_kpc (ly_kpi lyk16) (ly_kpn _))
  | 10, h => cases h; exact (ly_kpc (ly_kpi lyk17) (ly_kpc (ly_kpi lyk18) (ly_kpc (ly_kpi lyk19) (ly_kpc (ly_kpi lyk20) (ly_kpc (ly_kpi lyk21) (ly_kpc (ly_kpi lyk22) (ly_kpc (ly_kpi lyk23) (ly_kpc (ly_kpi lyk24) (ly_kpn _)))))))))
  | 11, h => cases h; exact (ly_kpc (ly_kpi lyk25) (ly_kpc (ly_kpi lyk26) (ly_kpc (ly_kpi lyk27) (ly_kpn _))))
  | 12, h => cases h; exact (ly_kpn _)
  | 13, h => cases h; exact (ly_kpn _)
  | 14, h => cases h; exact (ly_kpn _)
  | 15, h => cases h; exact (ly_kpc (ly_kpi lyk28) (ly_kpn _))
  | n + 16, h => cases h
theorem lyr8  : ∀ (j : Nat) (ys : List ly_C), ([[lyc29], [lyc30], [lyc31], [lyc32], [], [lyc33], [], [], [], [lyc34], [lyc35], [], [lyc36], [lyc37], [lyc38, lyc39, lyc40], [lyc41]] : List (List ly_C))[j]? = some ys → ly_keptL (128 + j) ys := by
  intro j ys h
  match j, h with
  | 0, h => cases h; exact (ly_kpc (ly_kpi lyk29) (ly_kpn _))
  | 1, h => cases h; exact (ly_kpc (ly_kpi lyk30) (ly_kpn _))
  | 2, h => cases h; exact (ly_kpc (ly_kpi lyk31) (ly_kpn _))
  | 3, h => cases h; exact (ly_kpc (ly_kpi lyk32) (ly_kpn _))
  | 4, h => cases h; exact (ly_kpn _)
  | 5, h => cases h; exact (ly_kpc (ly_kpj lyk33) (ly_kpn _))
  | 6, h => cases h; exact (ly_kpn _)
  | 7, h => cases h; exact (ly_kpn _)
  | 8, h => cases h; exact (ly_kpn _)
  | 9, h => cases h; exact (ly_kpc (ly_kpi lyk34) (ly_kpn _))
  | 10, h => cases h; exact (ly_kpc (ly_kpi lyk35) (ly_kpn _))
  | 11, h => cases h; exact (ly_kpn _)
  | 12, h => cases h; exact (ly_kpc (ly_kpi lyk36) (ly_kpn _))
  | 13, h => cases h; exact (ly_kpc (ly_kpi lyk37) (ly_kpn _))
  | 14, h => cases h; exact (ly_kpc (ly_kpi lyk38) (ly_kpc (ly_kpi lyk39) (ly_kpc (ly_kpi lyk40) (ly_kpn _))))
  | 15, h => cases h; exact (ly_kpc (ly_kpi lyk41) (ly_kpn _))
  | n + 16, h => cases h
theorem lyr9  : ∀ (j : Nat) (ys : List ly_C), ([[lyc42], [lyc43], [], [lyc44], [lyc45], [lyc46], [], [lyc47], [lyc48], [lyc49], [lyc50], [lyc51], [], [], [lyc52], []] : List (List ly_C))[j]? = some ys → ly_keptL (144 + j) ys := by
  intro j ys h
  match j, h with
  | 0, h => cases h; exact (ly_kpc (ly_kpi lyk42) (ly_kpn _))
  | 1, h => cases h; exact (ly_kpc (ly_kpi lyk43) (ly_kpn _))
  | 2, h => cases h; exact (ly_kpn _)
  | 3, h => cases h; exact (ly_kpc (ly_kpi lyk44) (ly_kpn _))
  | 4, h => cases h; exact (ly_kpc (ly_kpi lyk45) (ly_kpn _))
  | 5, h => cases h; exact (ly_kpc (ly_kpi lyk46) (ly_kpn _))
  | 6, h => cases h; exact (ly_kpn _)
  | 7, h => cases h; exact (ly_kpc (ly_kpi lyk47) (ly_kpn _))
  | 8, h => cases h; exact (ly_kpc (ly_kpi lyk48) (ly_kpn _))
  | 9, h => cases h; exact (ly_kpc (ly_kpi lyk49) (ly_kpn _))
  | 10, h => cases h; exact (ly_kpc (ly_kpi lyk50) (ly_kpn _))
  | 11, h => cases h; exact (ly_kpc (ly_kpi lyk51) (ly_kpn _))
  | 12, h => cases h; exact (ly_kpn _)
  | 13, h => cases h; exact (ly_kpn _)
  | 14, h => cases h; exact (ly_kpc (ly_kpi lyk52) (ly_kpn _))
  | 15, h => cases h; exact (ly_kpn _)
  | n + 16, h => cases h
theorem lyr10  : ∀ (j : Nat) (ys : List ly_C), ([[lyc53], [], [], [lyc54], [], [lyc55], [lyc56], [], [lyc57], [lyc58], [lyc61], [], [], [lyc62], [], [lyc63]] : List (List ly_C))[j]? = some ys → ly_keptL (160 + j) ys := by
  intro j ys h
  match j, h with
  | 0, h => cases h; exact (ly_kpc (ly_kpi lyk53) (ly_kpn _))
  | 1, h => cases h; exact (ly_kpn _)
  | 2, h => cases h; exact (ly_kpn _)
  | 3, h => cases h; exact (ly_kpc (ly_kpi lyk54) (ly_kpn _))
  | 4, h => cases h; exact (ly_kpn _)
  | 5, h => cases h; exact (ly_kpc (ly_kpi lyk55) (ly_kpn _))
  | 6, h => cases h; exact (ly_kpc (ly_kpi lyk56) (ly_kpn _))
  | 7, h => cases h; exact (ly_kpn _)
  | 8, h => cases h; exact (ly_kpc (ly_kpi lyk57) (ly_kpn _))
  | 9, h => cases h; exact (ly_kpc (ly_kpi lyk58) (ly_kpn _))
  | 10, h => cases h; exact (ly_kpc (ly_kpi lyk61) (ly_kpn _))
  | 11, h => cases h; exact (ly_kpn _)
  | 12, h => cases h; exact (ly_kpn _)
  | 13, h => cases h; exact (ly_kpc (ly_kpi lyk62) (ly_kpn _))
  | 14, h => cases h; exact (ly_kpn _)
  | 15, h => cases h; exact (ly_kpc (ly_kpi lyk63) (ly_kpn _))
  | n + 16, h => cases h
theorem lyr11  : ∀ (j : Nat) (ys : List ly_C), ([[lyc64], [lyc65], [], [lyc66], [lyc67], [lyc68], [], [lyc69], [], [], [], [lyc70], [lyc71], [lyc72], [lyc73], [lyc74]] : List (List ly_C))[j]? = some ys → ly_keptL (176 + j) ys := by
  intro j ys h
  match j, h with
  | 0, h => cases h; exact (ly_kpc (ly_kpi lyk64) (ly_kpn _))
  | 1, h => cases h; exact (ly_kpc (ly_kpi lyk65) (ly_kpn _))
  | 2, h => cases h; exact (ly_kpn _)
  | 3, h => cases h; exact (ly_kpc (ly_kpi lyk66) (ly_kpn _))
  | 4, h => cases h; exact (ly_kpc (ly_kpi lyk67) (ly_kpn _))
  | 5, h => cases h; exact (ly_kpc (ly_kpi lyk68) (ly_kpn _))
  | 6, h => cases h; exact (ly_kpn _)
  | 7, h => cases h; exact (ly_kpc (ly_kpi lyk69) (ly_kpn _))
  | 8, h => cases h; exact (ly_kpn _)
  | 9, h => cases h; exact (ly_kpn _)
  | 10, h => cases h; exact (ly_kpn _)
  | 11, h => cases h; exact (ly_kpc (ly_kpi lyk70) (ly_kpn _))
  | 12, h => cases h; exact (ly_kpc (ly_kpi lyk71) (ly_kpn _))
  | 13, h => cases h; exact (ly_kpc (ly_kpi lyk72) (ly_kpn _))
  | 14, h => cases h; exact (ly_kpc (ly_kpi lyk73) (ly_kpn _))
  | 15, h => cases h; exact (ly_kpc (ly_kpi lyk74) (ly_kpn _))
  | n + 16, h => cases h
theorem lyr12  : ∀ (j : Nat) (ys : List ly_C), ([[lyc75], [], [], [lyc76], [lyc77], [], [lyc78], [lyc79], [lyc80], [], [lyc81], [lyc82], [lyc83], [lyc84], [lyc85], [lyc86]] : List (List ly_C))[j]? = some ys → ly_keptL (192 + j) ys := by
  intro j ys h
  match j, h with
  | 0, h => cases h; exact (ly_kpc (ly_kpi lyk75) (ly_kpn _))
  | 1, h => cases h; exact (ly_kpn _)
  | 2, h => cases h; exact (ly_kpn _)
  | 3, h => cases h; exact (ly_kpc (ly_kpi lyk76) (ly_kpn _))
  | 4, h => cases h; exact (ly_kpc (ly_kpi lyk77) (ly_kpn _))
  | 5, h => cases h; exact (ly_kpn _)
  | 6, h => cases h; exact (ly_kpc (ly_kpi lyk78) (ly_kpn _))
  | 7, h => cases h; exact (ly_kpc (ly_kpi lyk79) (ly_kpn _))
  | 8, h => cases h; exact (ly_kpc (ly_kpi lyk80) (ly_kpn _))
  | 9, h => cases h; exact (ly_kpn _)
  | 10, h => cases h; exact (ly_kpc (ly_kpi lyk81) (ly_kpn _))
  | 11, h => cases h; exact (ly_kpc (ly_kpi lyk82) (ly_kpn _))
  | 12, h => cases h; exact (ly_kpc (ly_kpi lyk83) (ly_kpn _))
  | 13, h => cases h; exact (ly_kpc (ly_kpi lyk84) (ly_kpn _))
  | 14, h => cases h; exact (ly_kpc (ly_kpi lyk85) (ly_kpn _))
  | 15, h => cases h; exact (ly_kpc (ly_kpi lyk86) (ly_kpn _))
  | n + 16, h => cases h
theorem lyr13  : ∀ (j : Nat) (ys : List ly_C), ([[lyc87], [lyc88], [lyc90], [lyc91], [lyc92], [lyc93], [lyc94], [], [lyc95], [lyc96], [lyc97], [lyc98], [lyc99], [lyc100], [lyc101], [lyc102]] : List (List ly_C))[j]? = some ys → ly_keptL (208 + j) ys := by
  intro j ys h
  match j, h with
  | 0, h => cases h; exact (ly_kpc (ly_kpi lyk87) (ly_kpn _))
  | 1, h => cases h; exact (ly_kpc (ly_kpi lyk88) (ly_kpn _))
  | 2, h => cases h; exact (ly_kpc (ly_kpi lyk90) (ly_kpn _))
  | 3, h => cases h; exact (ly_kpc (ly_kpi lyk91) (ly_kpn _))
  | 4, h => cases h; exact (ly_kpc (ly_kpi lyk92) (ly_kpn _))
  | 5, h => cases h; exact (ly_kpc (ly_kpi lyk93) (ly_kpn _))
  | 6, h => cases h; exact (ly_kpc (ly_kpi lyk94) (ly_kpn _))
  | 7, h => cases h; exact (ly_kpn _)
  | 8, h => cases h; exact (ly_kpc (ly_kpi lyk95) (ly_kpn _))
  | 9, h => cases h; exact (ly_kpc (ly_kpi lyk96) (ly_kpn _))
  | 10, h => cases h; exact (ly_kpc (ly_kpi lyk97) (ly_kpn _))
  | 11, h => cases h; exact (ly_kpc (ly_kpi lyk98) (ly_kpn _))
  | 12, h => cases h; exact (ly_kpc (ly_kpi lyk99) (ly_kpn _))
  | 13, h => cases h; exact (ly_kpc (ly_kpi lyk100) (ly_kpn _))
  | 14, h => cases h; exact (ly_kpc (ly_kpi lyk101) (ly_kpn _))
  | 15, h => cases h; exact (ly_kpc (ly_kpi lyk102) (ly_kpn _))
  | n + 16, h => cases h
theorem lyr14  : ∀ (j : Nat) (ys : List ly_C), ([[lyc103], [lyc104], [lyc105], [lyc106], [lyc107], [], [lyc109], [lyc110], [lyc111], [lyc112], [], [lyc113], [], [lyc114], [lyc115], [lyc116]] : List (List ly_C))[j]? = some ys → ly_keptL (224 + j) ys := by
  intro j ys h
  match j, h with
  | 0, h => cases h; exact (ly_kpc (ly_kpi lyk103) (ly_kpn _))
  | 1, h => cases h; exact (ly_kpc (ly_kpi lyk104) (ly_kpn _))
  | 2, h => cases h; exact (ly_kpc (ly_kpi lyk105) (ly_kpn _))
  | 3, h => cases h; exact (ly_kpc (ly_kpi lyk106) (ly_kpn _))
  | 4, h => cases h; exact (ly_kpc (ly_kpi lyk107) (ly_kpn _))
  | 5, h => cases h; exact (ly_kpn _)
  | 6, h => cases h; exact (ly_kpc (ly_kpi lyk109) (ly_kpn _))
  | 7, h => cases h; exact (ly_kpc (ly_kpi lyk110) (ly_kpn _))
  | 8, h => cases h; exact (ly_kpc (ly_kpi lyk111) (ly_kpn _))
  | 9, h => cases h; exact (ly_kpc (ly_kpi lyk112) (ly_kpn _))
  | 10, h => cases h; exact (ly_kpn _)
  | 11, h => cases h; exact (ly_kpc (ly_kpi lyk113) (ly_kpn _))
  | 12, h => cases h; exact (ly_kpn _)
  | 13, h => cases h; exact (ly_kpc (ly_kpi lyk114) (ly_kpn _))
  | 14, h => cases h; exact (ly_kpc (ly_kpi lyk115) (ly_kpn _))
  | 15, h => cases h; exact (ly_kpc (ly_kpi lyk116) (ly_kpn _))
  | n + 16, h => cases h
theorem lyr15  : ∀ (j : Nat) (ys : List ly_C), ([[lyc118], [lyc119], [lyc120], [lyc121], [lyc122], [lyc123], [lyc124], [lyc125], [lyc126], [], [lyc127, lyc128, lyc129, lyc130, lyc131, lyc132, lyc133], [], [lyc134, lyc135, lyc136, lyc137, lyc138, lyc139, lyc140], [], [], [lyc141]] : List (List ly_C))[j]? = some ys → ly_keptL (240 + j) ys := by
  intro j ys h
  match j, h with
  | 0, h => cases h; exact (ly_kpc (ly_kpi lyk118) (ly_kpn _))
  | 1, h => cases h; exact (ly_kpc (ly_kpi lyk119) (ly_kpn _))
  | 2, h => cases h; exact (ly_kpc (ly_kpi lyk120) (ly_kpn _))
  | 3, h => cases h; exact (ly_kpc (ly_kpi lyk121) (ly_kpn _))
  | 4, h => cases h; exact (ly_kpc (ly_kpi lyk122) (ly_kpn _))
  | 5, h => cases h; exact (ly_kpc (ly_kpi lyk123) (ly_kpn _))
  | 6, h => cases h; exact (ly_kpc (ly_kpi lyk124) (ly_kpn _))
  | 7, h => cases h; exact (ly_kpc (ly_kpi lyk125) (ly_kpn _))
  | 8, h => cases h; exact (ly_kpc (ly_kpi lyk126) (ly_kpn _))
  | 9, h => cases h; exact (ly_kpn _)
  | 10, h => cases h; exact (ly_kpc (ly_kpi lyk127) (ly_kpc (ly_kpi lyk128) (ly_kpc (ly_kpi lyk129) (ly_kpc (ly_kpi lyk130) (ly_kpc (ly_kpi lyk131) (ly_kpc (ly_kpi lyk132) (ly_kpc (ly_kpi lyk133) (ly_kpn _))))))))
  | 11, h => cases h; exact (ly_kpn _)
  | 12, h => cases h; exact (ly_kpc (ly_kpi lyk134) (ly_kpc (ly_kpi lyk135) (ly_kpc (ly_kpi lyk136) (ly_kpc (ly_kpi lyk137) (ly_kpc (ly_kpi lyk138) (ly_kpc (ly_kpi lyk139) (ly_kpc (ly_kpi lyk140) (ly_kpn _))))))))
  | 13, h => cases h; exact (ly_kpn _)
  | 14, h => cases h; exact (ly_kpn _)
  | 15, h => cases h; exact (ly_kpc (ly_kpi lyk141) (ly_kpn _))
  | n + 16, h => cases h
theorem lyr16  : ∀ (j : Nat) (ys : List ly_C), ([[lyc142], [lyc143], [lyc144], [lyc145], [lyc147], [lyc148], [lyc149], [lyc150], [], [lyc151], [lyc152], [lyc153], [], [lyc154], [lyc155], [lyc156]] : List (List ly_C))[j]? = some ys → ly_keptL (256 + j) ys := by
  intro j ys h
  match j, h with
  | 0, h => cases h; exact (ly_kpc (ly_kpi lyk142) (ly_kpn _))
  | 1, h => cases h; exact (ly_kpc (ly_kpi lyk143) (ly_kpn _))
  | 2, h => cases h; exact (ly_kpc (ly_kpi lyk144) (ly_kpn _))
  | 3, h => cases h; exact (ly_kpc (ly_kpi lyk145) (ly_kpn _))
  | 4, h => cases h; exact (ly_kpc (ly_kpi lyk147) (ly_kpn _))
  | 5, h => cases h; exact (ly_kpc (ly_kpi lyk148) (ly_kpn _))
  | 6, h => cases h; exact (ly_kpc (ly_kpi lyk149) (ly_kpn _))
  | 7, h => cases h; exact (ly_kpc (ly_kpi lyk150) (ly_kpn _))
  | 8, h => cases h; exact (ly_kpn _)
  | 9, h => cases h; exact (ly_kpc (ly_kpi lyk151) (ly_kpn _))
  | 10, h => cases h; exact (ly_kpc (ly_kpi lyk152) (ly_kpn _))
  | 11, h => cases h; exact (ly_kpc (ly_kpi lyk153) (ly_kpn _))
  | 12, h => cases h; exact (ly_kpn _)
  | 13, h => cases h; exact (ly_kpc (ly_kpi lyk154) (ly_kpn _))
  | 14, h => cases h; exact (ly_kpc (ly_kpi lyk155) (ly_kpn _))
  | 15, h => cases h; exact (ly_kpc (ly_kpi lyk156) (ly_kpn _))
  | n + 16, h => cases h
theorem lyr17  : ∀ (j : Nat) (ys : List ly_C), ([[], [], [lyc157], [lyc158], [], [], [lyc159], [lyc160], [lyc162], [], [], [lyc164, lyc165, lyc166, lyc167, lyc168, lyc169, lyc170, lyc171, lyc172, lyc173, lyc174, lyc175, lyc163], [lyc177, lyc178, lyc179, lyc180, lyc181, lyc182, lyc183, lyc184, lyc185, lyc186, lyc187, lyc188, lyc189, lyc190, lyc176], [lyc192, lyc193, lyc194, lyc195, lyc196, lyc197, lyc198, lyc199, lyc200, lyc201, lyc202, lyc203, lyc204, lyc205, lyc191], [], [lyc206]] : List (List ly_C))[j]? = some ys → ly_keptL (272 + j) ys := by
  intro j ys h
  match j, h with
  | 0, h => cases h; exact (ly_kpn _)
  | 1, h => cases h; exact (ly_kpn _)
  | 2, h => cases h; exact (ly_kpc (ly_kpi lyk157) (ly_kpn _))
  | 3, h => cases h; exact (ly_kpc (ly_kpi lyk158) (ly_kpn _))
  | 4, h => cases h; exact (ly_kpn _)
  | 5, h => cases h; exact (ly_kpn _)
  | 6, h => cases h; exact (ly_kpc (ly_kpi lyk159) (ly_kpn _))
  | 7, h => cases h; exact (ly_kpc (ly_kpi lyk160) (ly_kpn _))
  | 8, h => cases h; exact (ly_kpc (ly_kpi lyk162) (ly_kpn _))
  | 9, h => cases h; exact (ly_kpn _)
  | 10, h => cases h; exact (ly_kpn _)
  | 11, h => cases h; exact (ly_kpc (ly_kpi lyk164) (ly_kpc (ly_kpi lyk165) (ly_kpc (ly_kpi lyk166) (ly_kpc (ly_kpi lyk167) (ly_kpc (ly_kpi lyk168) (ly_kpc (ly_kpi lyk169) (ly_kpc (ly_kpi lyk170) (ly_kpc (ly_kpi lyk171) (ly_kpc (ly_kpi lyk172) (ly_kpc (ly_kpi lyk173) (ly_kpc (ly_kpi lyk174) (ly_kpc (ly_kpi lyk175) (ly_kpc (ly_kpi lyk163) (ly_kpn _))))))))))))))
  | 12, h => cases h; exact (ly_kpc (ly_kpi lyk177) (ly_kpc (ly_kpi lyk178) (ly_kpc (ly_kpi lyk179) (ly_kpc (ly_kpi lyk180) (ly_kpc (ly_kpi lyk181) (ly_kpc (ly_kpi lyk182) (ly_kpc (ly_kpi lyk183) (ly_kpc (ly_kpi lyk184) (ly_kpc (ly_kpi lyk185) (ly_kpc (ly_kpi lyk186) (ly_kpc (ly_kpi lyk187) (ly_kpc (ly_kpi lyk188) (ly_kpc (ly_kpi lyk189) (ly_kpc (ly_kpi lyk190) (ly_kpc (ly_kpi lyk176) (ly_kpn _))))))))))))))))
  | 13, h => cases h; exact (ly_kpc (ly_kpi lyk192) (ly_kpc (ly_kpi lyk193) (ly_kpc (ly_kpi lyk194) (ly_kpc (ly_kpi lyk195) (ly_kpc (ly_kpi lyk196) (ly_kpc (ly_kpi lyk197) (ly_kpc (ly_kpi lyk198) (ly_kpc (ly_kpi lyk199) (ly_kpc (ly_kpi lyk200) (ly_kpc (ly_kpi lyk201) (ly_kpc (ly_kpi lyk202) (ly_kpc (ly_kpi lyk203) (ly_kpc (ly_kpi lyk204) (ly_kpc (ly_kpi lyk205) (ly_kpc (ly_kpi lyk191) (ly_kpn _))))))))))))))))
  | 14, h => cases h; exact (ly_kpn _)
  | 15, h => cases h; exact (ly_kpc (ly_kpi lyk206) (ly_kpn _))
  | n + 16, h => cases h
theorem lyr18  : ∀ (j : Nat) (ys : List ly_C), ([[], [], [], [lyc208], [lyc209], [lyc210], [lyc211], [lyc212], [lyc213], [lyc214], [], [lyc215], [], [], [lyc217], []] : List (List ly_C))[j]? = some ys → ly_keptL (288 + j) ys := by
  intro j ys h
  match j, h with
  | 0, h => cases h; exact (ly_kpn _)
  | 1, h => cases h; exact (ly_kpn _)
  | 2, h => cases h; exact (ly_kpn _)
  | 3, h => cases h; exact (ly_kpc (ly_kpi lyk208) (ly_kpn _))
  | 4, h => cases h; exact (ly_kpc (ly_kpi lyk209) (ly_kpn _))
  | 5, h => cases h; exact (ly_kpc (ly_kpi lyk210) (ly_kpn _))
  | 6, h => cases h; exact (ly_kpc (ly_kpi lyk211) (ly_kpn _))
  | 7, h => cases h; exact (ly_kpc (ly_kpi lyk212) (ly_kpn _))
  | 8, h => cases h; exact (ly_kpc (ly_kpi lyk213) (ly_kpn _))
  | 9, h => cases h; exact (ly_kpc (ly_kpi lyk214) (ly_kpn _))
  | 10, h => cases h; exact (ly_kpn _)
  | 11, h => cases h; exact (ly_kpc (ly_kpi lyk215) (ly_kpn _))
  | 12, h => cases h; exact (ly_kpn _)
  | 13, h => cases h; exact (ly_kpn _)
  | 14, h => cases h; exact (ly_kpc (ly_kpi lyk217) (ly_kpn _))
  | 15, h => cases h; exact (ly_kpn _)
  | n + 16, h => cases h
theorem lyr19  : ∀ (j : Nat) (ys : List ly_C), ([[lyc218, lyc219], [], [], [lyc220], [lyc221, lyc222, lyc223], [lyc224, lyc225, lyc226], [lyc228, lyc229, lyc230], [lyc231, lyc232, lyc233], [lyc234, lyc235, lyc236], [], [lyc237, lyc238, lyc239], [lyc240, lyc241, lyc242], [lyc243, lyc244, lyc245], [lyc246, lyc247, lyc248], [lyc249, lyc250, lyc251], [lyc252]] : List (List ly_C))[j]? = some ys → ly_keptL (304 + j) ys := by
  intro j ys h
  match j, h with
  | 0, h => cases h; exact (ly_kpc (ly_kpi lyk218) (ly_kpc (ly_kpi lyk219) (ly_kpn _)))
  | 1, h => cases h; exact (ly_kpn _)
  | 2, h => cases h; exact (ly_kpn _)
  | 3, h => cases h; exact (ly_kpc (ly_kpi lyk220) (ly_kpn _))
  | 4, h => cases h; exact (ly_kpc (ly_kpi lyk221) (ly_kpc (ly_kpi lyk222) (ly_kpc (ly_kpi lyk223) (ly_kpn _))))
  | 5, h => cases h; exact (ly_kpc (ly_kpi lyk224) (ly_kpc (ly_kpi lyk225) (ly_kpc (ly_kpi lyk226) (ly_kpn _))))
  | 6, h => cases h; exact (ly_kpc (ly_kpi lyk228) (ly_kpc (ly_kpi lyk229) (ly_kpc (ly_kpi lyk230) (ly_kpn _))))
  | 7, h => cases h; exact (ly_kpc (ly_kpi lyk231) (ly_kpc (ly_kpi lyk232) (ly_kpc (ly_kpi lyk233) (ly_kpn _))))
  | 8, h => cases h; exact (ly_kpc (ly_kpi lyk234) (ly_kpc (ly_kpi lyk235) (ly_kpc (ly_kpi lyk236) (ly_kpn _))))
  | 9, h => cases h; exact (ly_kpn _)
  | 10, h => cases h; exact (ly_kpc (ly_kpi lyk237) (ly_kpc (ly_kpi lyk238) (ly_kpc (ly_kpi lyk239) (ly_kpn _))))
  | 11, h => cases h; exact (ly_kpc (ly_kpi lyk240) (ly_kpc (ly_kpi lyk241) (ly_kpc (ly_kpi lyk242) (ly_kpn _))))
  | 12, h => cases h; exact (ly_kpc (ly_kpi lyk243) (ly_kpc (ly_kpi lyk244) (ly_kpc (ly_kpi lyk245) (ly_kpn _))))
  | 13, h => cases h; exact (ly_kpc (ly_kpi lyk246) (ly_kpc (ly_kpi lyk247) (ly_kpc (ly_kpi lyk248) (ly_kpn _))))
  | 14, h => cases h; exact (ly_kpc (ly_kpi lyk249) (ly_kpc (ly_kpi lyk250) (ly_kpc (ly_kpi lyk251) (ly_kpn _))))
  | 15, h => cases h; exact (ly_kpc (ly_kpi lyk252) (ly_kpn _))
  | n + 16, h => cases h
theorem lyr20  : ∀ (j : Nat) (ys : List ly_C), ([[lyc254], [lyc255], [lyc256], [], [lyc257], [lyc258], [lyc259], [lyc260], [lyc261], [lyc262], [lyc264], [lyc265], [lyc266], [lyc267], [lyc268], [lyc269]] : List (List ly_C))[j]? = some ys → ly_keptL (320 + j) ys := by
  intro j ys h
  match j, h with
  | 0, h => cases h; exact (ly_kpc (ly_kpi lyk254) (ly_kpn _))
  | 1, h => cases h; exact (ly_kpc (ly_kpi lyk255) (ly_kpn _))
  | 2, h => cases h; exact (ly_kpc (ly_kpi lyk256) (ly_kpn _))
  | 3, h => cases h; exact (ly_kpn _)
  | 4, h => cases h; exact (ly_kpc (ly_kpi lyk257) (ly_kpn _))
  | 5, h => cases h; exact (ly_kpc (ly_kpi lyk258) (ly_kpn _))
  | 6, h => cases h; exact (ly_kpc (ly_kpi lyk259) (ly_kpn _))
  | 7, h => cases h; exact (ly_kpc (ly_kpi lyk260) (ly_kpn _))
  | 8, h => cases h; exact (ly_kpc (ly_kpi lyk261) (ly_kpn _))
  | 9, h => cases h; exact (ly_kpc (ly_kpi lyk262) (ly_kpn _))
  | 10, h => cases h; exact (ly_kpc (ly_kpi lyk264) (ly_kpn _))
  | 11, h => cases h; exact (ly_kpc (ly_kpi lyk265) (ly_kpn _))
  | 12, h => cases h; exact (ly_kpc (ly_kpi lyk266) (ly_kpn _))
  | 13, h => cases h; exact (ly_kpc (ly_kpi lyk267) (ly_kpn _))
  | 14, h => cases h; exact (ly_kpc (ly_kpi lyk268) (ly_kpn _))
  | 15, h => cases h; exact (ly_kpc (ly_kpi lyk269) (ly_kpn _))
  | n + 16, h => cases h
theorem lyr21 (hx275 : ly_kept 345 lyc275) (hx276 : ly_kept 346 lyc276) : ∀ (j : Nat) (ys : List ly_C), ([[lyc270], [lyc271], [], [], [lyc272], [], [lyc273], [lyc274], [], [lyc275], [lyc276], [lyc277], [lyc278], [lyc279], [lyc281], [lyc282]] : List (List ly_C))[j]? = some ys → ly_keptL (336 + j) ys := by
  intro j ys h
  match j, h with
  | 0, h => cases h; exact (ly_kpc (ly_kpi lyk270) (ly_kpn _))
  | 1, h => cases h; exact (ly_kpc (ly_kpi lyk271) (ly_kpn _))
  | 2, h => cases h; exact (ly_kpn _)
  | 3, h => cases h; exact (ly_kpn _)
  | 4, h => cases h; exact (ly_kpc (ly_kpi lyk272) (ly_kpn _))
  | 5, h => cases h; exact (ly_kpn _)
  | 6, h => cases h; exact (ly_kpc (ly_kpi lyk273) (ly_kpn _))
  | 7, h => cases h; exact (ly_kpc (ly_kpi lyk274) (ly_kpn _))
  | 8, h => cases h; exact (ly_kpn _)
  | 9, h => cases h; exact (ly_kpc (hx275) (ly_kpn _))
  | 10, h => cases h; exact (ly_kpc (hx276) (ly_kpn _))
  | 11, h => cases h; exact (ly_kpc (ly_kpi lyk277) (ly_kpn _))
  | 12, h => cases h; exact (ly_kpc (ly_kpi lyk278) (ly_kpn _))
  | 13, h => cases h; exact (ly_kpc (ly_kpi lyk279) (ly_kpn _))
  | 14, h => cases h; exact (ly_kpc (ly_kpi lyk281) (ly_kpn _))
  | 15, h => cases h; exact (ly_kpc (ly_kpi lyk282) (ly_kpn _))
  | n + 16, h => cases h
theorem lyr22  : ∀ (j : Nat) (ys : List ly_C), ([[lyc283], [lyc284], [lyc285], [lyc286], [], [lyc287], [], [lyc288], [lyc290], [lyc291], [lyc292], [], [lyc293], [lyc294], [lyc295], [lyc296]] : List (List ly_C))[j]? = some ys → ly_keptL (352 + j) ys := by
  intro j ys h
  match j, h with
  | 0, h => cases h; exact (ly_kpc (ly_kpi lyk283) (ly_kpn _))
  | 1, h => cases h; exact (ly_kpc (ly_kpi lyk284) (ly_kpn _))
  | 2, h => cases h; exact (ly_kpc (ly_kpi lyk285) (ly_kpn _))
  | 3, h => cases h; exact (ly_kpc (ly_kpi lyk286) (ly_kpn _))
  | 4, h => cases h; exact (ly_kpn _)
  | 5, h => cases h; exact (ly_kpc (ly_kpi lyk287) (ly_kpn _))
  | 6, h => cases h; exact (ly_kpn _)
  | 7, h => cases h; exact (ly_kpc (ly_kpi lyk288) (ly_kpn _))
  | 8, h => cases h; exact (ly_kpc (ly_kpi lyk290) (ly_kpn _))
  | 9, h => cases h; exact (ly_kpc (ly_kpi lyk291) (ly_kpn _))
  | 10, h => cases h; exact (ly_kpc (ly_kpi lyk292) (ly_kpn _))
  | 11, h => cases h; exact (ly_kpn _)
  | 12, h => cases h; exact (ly_kpc (ly_kpi lyk293) (ly_kpn _))
  | 13, h => cases h; exact (ly_kpc (ly_kpi lyk294) (ly_kpn _))
  | 14, h => cases h; exact (ly_kpc (ly_kpi lyk295) (ly_kpn _))
  | 15, h => cases h; exact (ly_kpc (ly_kpi lyk296) (ly_kpn _))
  | n + 16, h => cases h
theorem lyr23  : ∀ (j : Nat) (ys : List ly_C), ([[lyc297], [lyc298], [lyc300], [], [lyc301], [lyc302], [lyc303], [lyc304], [lyc305], [lyc306], [lyc307], [lyc308], [lyc309], [], [lyc310], [lyc311]] : List (List ly_C))[j]? = some ys → ly_keptL (368 + j) ys := by
  intro j ys h
  match j, h with
  | 0, h => cases h; exact (ly_kpc (ly_kpi lyk297) (ly_kpn _))
  | 1, h => cases h; exact (ly_kpc (ly_kpi lyk298) (ly_kpn _))
  | 2, h => cases h; exact (ly_kpc (ly_kpi lyk300) (ly_kpn _))
  | 3, h => cases h; exact (ly_kpn _)
  | 4, h => cases h; exact (ly_kpc (ly_kpi lyk301) (ly_kpn _))
  | 5, h => cases h; exact (ly_kpc (ly_kpi lyk302) (ly_kpn _))
  | 6, h => cases h; exact (ly_kpc (ly_kpi lyk303) (ly_kpn _))
  | 7, h => cases h; exact (ly_kpc (ly_kpi lyk304) (ly_kpn _))
  | 8, h => cases h; exact (ly_kpc (ly_kpi lyk305) (ly_kpn _))
  | 9, h => cases h; exact (ly_kpc (ly_kpi lyk306) (ly_kpn _))
  | 10, h => cases h; exact (ly_kpc (ly_kpi lyk307) (ly_kpn _))
  | 11, h => cases h; exact (ly_kpc (ly_kpi lyk308) (ly_kpn _))
  | 12, h => cases h; exact (ly_kpc (ly_kpi lyk309) (ly_kpn _))
  | 13, h => cases h; exact (ly_kpn _)
  | 14, h => cases h; exact (ly_kpc (ly_kpi lyk310) (ly_kpn _))
  | 15, h => cases h; exact (ly_kpc (ly_kpi lyk311) (ly_kpn _))
  | n + 16, h => cases h
theorem lyr24  : ∀ (j : Nat) (ys : List ly_C), ([[lyc312], [lyc313], [lyc314], [lyc315], [lyc316], [lyc317], [lyc318], [lyc319], [lyc320], [lyc321], [lyc322], [lyc323], [lyc324], [], [lyc325], [lyc326]] : List (List ly_C))[j]? = some ys → ly_keptL (384 + j) ys := by
  intro j ys h
  match j, h with
  | 0, h => cases h; exact (ly_kpc (ly_kpi lyk312) (ly_kpn _))
  | 1, h => cases h; exact (ly_kpc (ly_kpi lyk313) (ly_kpn _))
  | 2, h => cases h; exact (ly_kpc (ly_kpi lyk314) (ly_kpn _))
  | 3, h => cases h; exact (ly_kpc (ly_kpi lyk315) (ly_kpn _))
  | 4, h => cases h; exact (ly_kpc (ly_kpi lyk316) (ly_kpn _))
  | 5, h => cases h; exact (ly_kpc (ly_kpi lyk317) (ly_kpn _))
  | 6, h => cases h; exact (ly_kpc (ly_kpi lyk318) (ly_kpn _))
  | 7, h => cases h; exact (ly_kpc (ly_kpi lyk319) (ly_kpn _))
  | 8, h => cases h; exact (ly_kpc (ly_kpi lyk320) (ly_kpn _))
  | 9, h => cases h; exact (ly_kpc (ly_kpi lyk321) (ly_kpn _))
  | 10, h => cases h; exact (ly_kpc (ly_kpi lyk322) (ly_kpn _))
  | 11, h => cases h; exact (ly_kpc (ly_kpi lyk323) (ly_kpn _))
  | 12, h => cases h; exact (ly_kpc (ly_kpi lyk324) (ly_kpn _))
  | 13, h => cases h; exact (ly_kpn _)
  | 14, h => cases h; exact (ly_kpc (ly_kpi lyk325) (ly_kpn _))
  | 15, h => cases h; exact (ly_kpc (ly_kpi lyk326) (ly_kpn _))
  | n + 16, h => cases h
theorem lyr25 (hx340 : ly_kept 411 lyc340) : ∀ (j : Nat) (ys : List ly_C), ([[lyc328], [lyc329], [lyc330], [lyc331], [lyc332], [lyc333], [lyc334], [lyc335], [lyc336], [lyc337], [lyc339], [lyc340], [lyc341, lyc342, lyc343, lyc344, lyc345, lyc346, lyc347], [], [lyc348], [lyc349]] : List (List ly_C))[j]? = some ys → ly_keptL (400 + j) ys := by
  intro j ys h
  match j, h with
  | 0, h => cases h; exact (ly_kpc (ly_kpi lyk328) (ly_kpn _))
  | 1, h => cases h; exact (ly_kpc (ly_kpi lyk329) (ly_kpn _))
  | 2, h => cases h; exact (ly_kpc (ly_kpi lyk330) (ly_kpn _))
  | 3, h => cases h; exact (ly_kpc (ly_kpi lyk331) (ly_kpn _))
  | 4, h => cases h; exact (ly_kpc (ly_kpi lyk332) (ly_kpn _))
  | 5, h => cases h; exact (ly_kpc (ly_kpi lyk333) (ly_kpn _))
  | 6, h => cases h; exact (ly_kpc (ly_kpi lyk334) (ly_kpn _))
  | 7, h => cases h; exact (ly_kpc (ly_kpi lyk335) (ly_kpn _))
  | 8, h => cases h; exact (ly_kpc (ly_kpi lyk336) (ly_kpn _))
  | 9, h => cases h; exact (ly_kpc (ly_kpi lyk337) (ly_kpn _))
  | 10, h => cases h; exact (ly_kpc (ly_kpi lyk339) (ly_kpn _))
  | 11, h => cases h; exact (ly_kpc (hx340) (ly_kpn _))
  | 12, h => cases h; exact (ly_kpc (ly_kpi lyk341) (ly_kpc (ly_kpi lyk342) (ly_kpc (ly_kpi lyk343) (ly_kpc (ly_kpi lyk344) (ly_kpc (ly_kpi lyk345) (ly_kpc (ly_kpi lyk346) (ly_kpc (ly_kpi lyk347) (ly_kpn _))))))))
  | 13, h => cases h; exact (ly_kpn _)
  | 14, h => cases h; exact (ly_kpc (ly_kpi lyk348) (ly_kpn _))
  | 15, h => cases h; exact (ly_kpc (ly_kpi lyk349) (ly_kpn _))
  | n + 16, h => cases h
theorem lyr26  : ∀ (j : Nat) (ys : List ly_C), ([[lyc350], [lyc351], [lyc352]] : List (List ly_C))[j]? = some ys → ly_keptL (416 + j) ys := by
  intro j ys h
  match j, h with
  | 0, h => cases h; exact (ly_kpc (ly_kpi lyk350) (ly_kpn _))
  | 1, h => cases h; exact (ly_kpc (ly_kpi lyk351) (ly_kpn _))
  | 2, h => cases h; exact (ly_kpc (ly_kpi lyk352) (ly_kpn _))
  | n + 3, h => cases h
theorem ly_hall (hx275 : ly_kept 345 lyc275) (hx276 : ly_kept 346 lyc276) (hx340 : ly_kept 411 lyc340) : ∀ mi ys y, sx_ch 16 mi ly_Y = some ys → y ∈ ys → ly_kept mi y := by
  intro mi ys y h hy
  unfold sx_ch at h
  split at h
  case h_2 => cases h
  rename_i r hr
  have em : mi = 16 * (mi / 16) + mi % 16 := by omega
  generalize mi / 16 = a at *
  generalize mi % 16 = b at *
  subst em
  match a, hr with
  | 0, hr => cases hr; exact lyr0  b ys h y hy
  | 1, hr => cases hr; exact lyr1  b ys h y hy
  | 2, hr => cases hr; exact lyr2  b ys h y hy
  | 3, hr => cases hr; exact lyr3  b ys h y hy
  | 4, hr => cases hr; exact lyr4  b ys h y hy
  | 5, hr => cases hr; exact lyr5  b ys h y hy
  | 6, hr => cases hr; exact lyr6  b ys h y hy
  | 7, hr => cases hr; exact lyr7  b ys h y hy
  | 8, hr => cases hr; exact lyr8  b ys h y hy
  | 9, hr => cases hr; exact lyr9  b ys h y hy
  | 10, hr => cases hr; exact lyr10  b ys h y hy
  | 11, hr => cases hr; exact lyr11  b ys h y hy
  | 12, hr => cases hr; exact lyr12  b ys h y hy
  | 13, hr => cases hr; exact lyr13  b ys h y hy
  | 14, hr => cases hr; exact lyr14  b ys h y hy
  | 15, hr => cases hr; exact lyr15  b ys h y hy
  | 16, hr => cases hr; exact lyr16  b ys h y hy
  | 17, hr => cases hr; exact lyr17  b ys h y hy
  | 18, hr => cases hr; exact lyr18  b ys h y hy
  | 19, hr => cases hr; exact lyr19  b ys h y hy
  | 20, hr => cases hr; exact lyr20  b ys h y hy
  | 21, hr => cases hr; exact lyr21 hx275 hx276 b ys h y hy
  | 22, hr => cases hr; exact lyr22  b ys h y hy
  | 23, hr => cases hr; exact lyr23  b ys h y hy
  | 24, hr => cases hr; exact lyr24  b ys h y hy
  | 25, hr => cases hr; exact lyr25 hx340 b ys h y hy
  | 26, hr => cases hr; exact lyr26  b ys h y hy
  | n + 27, hr => cases hr
theorem ly_holds (hx275 : ly_kept 345 lyc275) (hx276 : ly_kept 346 lyc276) (hx340 : ly_kept 411 lyc340) {cst : am_K} {strs : List Nat} (gC : ly_gC sx_KK cst) (hstr : ∀ a, 8 ≤ a → a < 12 → a ∈ strs) : ∀ D, ly_Yok cst m_cl m_tt m_P strs ly_TH ly_Y D :=
  ly_all gC sx_tok_m hstr (fun mi ys y h1 h2 => (ly_hall hx275 hx276 hx340 mi ys y h1 h2).elim Or.inl (fun h => Or.inr (fun D hY => h.elim (fun h9 => by
    obtain ⟨e, fuel, p, eM, hc⟩ := h9
    subst e
    exact mk_chk_ok gC hstr hc D hY) (fun h => h cst strs gC hstr D hY))))
theorem ly_every {cst : am_K} {strs : List Nat} (gC : ly_gC sx_KK cst) (hstr : ∀ a, 8 ≤ a → a < 12 → a ∈ strs) : ∀ D, ly_Yok cst m_cl m_tt m_P strs ly_TH ly_Y D := ly_holds (Or.inr (Or.inr md_kept)) (Or.inr (Or.inr mb_kept)) (Or.inr (Or.inr jn_kept)) gC hstr
