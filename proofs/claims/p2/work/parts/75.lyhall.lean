/-! PRINTED by wip/p2/lyprint.py -/
def ly_kept (mi : Nat) (y : ly_C) : Prop := (∃ fuel pts, ly_chk sx_T sx_KK m_tt m_cl ly_TH ly_Y mi fuel pts y = true) ∨ (mi = 133 ∧ ∃ fuel p eM, mk_chk sx_KK ly_Y fuel p eM y = true)
def ly_keptL (mi : Nat) (ys : List ly_C) : Prop := ∀ y ∈ ys, ly_kept mi y
theorem ly_kn (mi : Nat) : ly_keptL mi [] := fun y h => by cases h
theorem ly_kc {mi : Nat} {y : ly_C} {ys : List ly_C} (h : ly_kept mi y) (t : ly_keptL mi ys) : ly_keptL mi (y :: ys) := fun z hz => (List.mem_cons.mp hz).elim (fun e => e ▸ h) (t z)
theorem ly_ki {mi fuel : Nat} {pts : List (Nat × ly_P × ly_e)} {y : ly_C} (h : ly_chk sx_T sx_KK m_tt m_cl ly_TH ly_Y mi fuel pts y = true) : ly_kept mi y := Or.inl ⟨fuel, pts, h⟩
theorem ly_kj {fuel : Nat} {p : ly_P} {eM : ly_e} {y : ly_C} (h : mk_chk sx_KK ly_Y fuel p eM y = true) : ly_kept 133 y := Or.inr ⟨rfl, fuel, p, eM, h⟩
theorem lyr0  : ∀ (j : Nat) (ys : List ly_C), ([[], [], [], [], [], [], [], [], [], [], [], [], [], [], [], []] : List (List ly_C))[j]? = some ys → ly_keptL (0 + j) ys := by
  intro j ys h
  match j, h with
  | 0, h => cases h; exact (ly_kn _)
  | 1, h => cases h; exact (ly_kn _)
  | 2, h => cases h; exact (ly_kn _)
  | 3, h => cases h; exact (ly_kn _)
  | 4, h => cases h; exact (ly_kn _)
  | 5, h => cases h; exact (ly_kn _)
  | 6, h => cases h; exact (ly_kn _)
  | 7, h => cases h; exact (ly_kn _)
  | 8, h => cases h; exact (ly_kn _)
  | 9, h => cases h; exact (ly_kn _)
  | 10, h => cases h; exact (ly_kn _)
  | 11, h => cases h; exact (ly_kn _)
  | 12, h => cases h; exact (ly_kn _)
  | 13, h => cases h; exact (ly_kn _)
  | 14, h => cases h; exact (ly_kn _)
  | 15, h => cases h; exact (ly_kn _)
  | n + 16, h => cases h
theorem lyr1  : ∀ (j : Nat) (ys : List ly_C), ([[], [lyc59, lyc60], [], [], [], [lyc90], [], [lyc109], [lyc118], [], [lyc147], [], [lyc162], [lyc209], [lyc219], [lyc230]] : List (List ly_C))[j]? = some ys → ly_keptL (16 + j) ys := by
  intro j ys h
  match j, h with
  | 0, h => cases h; exact (ly_kn _)
  | 1, h => cases h; exact (ly_kc (ly_ki lyk59) (ly_kc (ly_ki lyk60) (ly_kn _)))
  | 2, h => cases h; exact (ly_kn _)
  | 3, h => cases h; exact (ly_kn _)
  | 4, h => cases h; exact (ly_kn _)
  | 5, h => cases h; exact (ly_kc (ly_ki lyk90) (ly_kn _))
  | 6, h => cases h; exact (ly_kn _)
  | 7, h => cases h; exact (ly_kc (ly_ki lyk109) (ly_kn _))
  | 8, h => cases h; exact (ly_kc (ly_ki lyk118) (ly_kn _))
  | 9, h => cases h; exact (ly_kn _)
  | 10, h => cases h; exact (ly_kc (ly_ki lyk147) (ly_kn _))
  | 11, h => cases h; exact (ly_kn _)
  | 12, h => cases h; exact (ly_kc (ly_ki lyk162) (ly_kn _))
  | 13, h => cases h; exact (ly_kc (ly_ki lyk209) (ly_kn _))
  | 14, h => cases h; exact (ly_kc (ly_ki lyk219) (ly_kn _))
  | 15, h => cases h; exact (ly_kc (ly_ki lyk230) (ly_kn _))
  | n + 16, h => cases h
theorem lyr2  : ∀ (j : Nat) (ys : List ly_C), ([[lyc256], [lyc266], [], [lyc284], [lyc293], [lyc303], [], [], [lyc332], [lyc343], [lyc358], [], [], [lyc359], [], [lyc360]] : List (List ly_C))[j]? = some ys → ly_keptL (32 + j) ys := by
  intro j ys h
  match j, h with
  | 0, h => cases h; exact (ly_kc (ly_ki lyk256) (ly_kn _))
  | 1, h => cases h; exact (ly_kc (ly_ki lyk266) (ly_kn _))
  | 2, h => cases h; exact (ly_kn _)
  | 3, h => cases h; exact (ly_kc (ly_ki lyk284) (ly_kn _))
  | 4, h => cases h; exact (ly_kc (ly_ki lyk293) (ly_kn _))
  | 5, h => cases h; exact (ly_kc (ly_ki lyk303) (ly_kn _))
  | 6, h => cases h; exact (ly_kn _)
  | 7, h => cases h; exact (ly_kn _)
  | 8, h => cases h; exact (ly_kc (ly_ki lyk332) (ly_kn _))
  | 9, h => cases h; exact (ly_kc (ly_ki lyk343) (ly_kn _))
  | 10, h => cases h; exact (ly_kc (ly_ki lyk358) (ly_kn _))
  | 11, h => cases h; exact (ly_kn _)
  | 12, h => cases h; exact (ly_kn _)
  | 13, h => cases h; exact (ly_kc (ly_ki lyk359) (ly_kn _))
  | 14, h => cases h; exact (ly_kn _)
  | 15, h => cases h; exact (ly_kc (ly_ki lyk360) (ly_kn _))
  | n + 16, h => cases h
theorem lyr3  : ∀ (j : Nat) (ys : List ly_C), ([[], [lyc361, lyc362, lyc363, lyc364, lyc365, lyc366], [], [], [lyc367], [lyc368], [lyc369], [lyc370], [lyc371], [lyc372], [lyc373], [], [], [], [], []] : List (List ly_C))[j]? = some ys → ly_keptL (48 + j) ys := by
  intro j ys h
  match j, h with
  | 0, h => cases h; exact (ly_kn _)
  | 1, h => cases h; exact (ly_kc (ly_ki lyk361) (ly_kc (ly_ki lyk362) (ly_kc (ly_ki lyk363) (ly_kc (ly_ki lyk364) (ly_kc (ly_ki lyk365) (ly_kc (ly_ki lyk366) (ly_kn _)))))))
  | 2, h => cases h; exact (ly_kn _)
  | 3, h => cases h; exact (ly_kn _)
  | 4, h => cases h; exact (ly_kc (ly_ki lyk367) (ly_kn _))
  | 5, h => cases h; exact (ly_kc (ly_ki lyk368) (ly_kn _))
  | 6, h => cases h; exact (ly_kc (ly_ki lyk369) (ly_kn _))
  | 7, h => cases h; exact (ly_kc (ly_ki lyk370) (ly_kn _))
  | 8, h => cases h; exact (ly_kc (ly_ki lyk371) (ly_kn _))
  | 9, h => cases h; exact (ly_kc (ly_ki lyk372) (ly_kn _))
  | 10, h => cases h; exact (ly_kc (ly_ki lyk373) (ly_kn _))
  | 11, h => cases h; exact (ly_kn _)
  | 12, h => cases h; exact (ly_kn _)
  | 13, h => cases h; exact (ly_kn _)
  | 14, h => cases h; exact (ly_kn _)
  | 15, h => cases h; exact (ly_kn _)
  | n + 16, h => cases h
theorem lyr4  : ∀ (j : Nat) (ys : List ly_C), ([[lyc374], [lyc375], [lyc376], [lyc377], [lyc378], [lyc379], [lyc380], [lyc381], [], [lyc382], [lyc383], [], [], [lyc384], [lyc385], []] : List (List ly_C))[j]? = some ys → ly_keptL (64 + j) ys := by
  intro j ys h
  match j, h with
  | 0, h => cases h; exact (ly_kc (ly_ki lyk374) (ly_kn _))
  | 1, h => cases h; exact (ly_kc (ly_ki lyk375) (ly_kn _))
  | 2, h => cases h; exact (ly_kc (ly_ki lyk376) (ly_kn _))
  | 3, h => cases h; exact (ly_kc (ly_ki lyk377) (ly_kn _))
  | 4, h => cases h; exact (ly_kc (ly_ki lyk378) (ly_kn _))
  | 5, h => cases h; exact (ly_kc (ly_ki lyk379) (ly_kn _))
  | 6, h => cases h; exact (ly_kc (ly_ki lyk380) (ly_kn _))
  | 7, h => cases h; exact (ly_kc (ly_ki lyk381) (ly_kn _))
  | 8, h => cases h; exact (ly_kn _)
  | 9, h => cases h; exact (ly_kc (ly_ki lyk382) (ly_kn _))
  | 10, h => cases h; exact (ly_kc (ly_ki lyk383) (ly_kn _))
  | 11, h => cases h; exact (ly_kn _)
  | 12, h => cases h; exact (ly_kn _)
  | 13, h => cases h; exact (ly_kc (ly_ki lyk384) (ly_kn _))
  | 14, h => cases h; exact (ly_kc (ly_ki lyk385) (ly_kn _))
  | 15, h => cases h; exact (ly_kn _)
  | n + 16, h => cases h
theorem lyr5  : ∀ (j : Nat) (ys : List ly_C), ([[], [lyc386, lyc387], [lyc388], [], [], [], [], [lyc389], [lyc390], [lyc391], [lyc392], [], [], [], [lyc393], []] : List (List ly_C))[j]? = some ys → ly_keptL (80 + j) ys := by
  intro j ys h
  match j, h with
  | 0, h => cases h; exact (ly_kn _)
  | 1, h => cases h; exact (ly_kc (ly_ki lyk386) (ly_kc (ly_ki lyk387) (ly_kn _)))
  | 2, h => cases h; exact (ly_kc (ly_ki lyk388) (ly_kn _))
  | 3, h => cases h; exact (ly_kn _)
  | 4, h => cases h; exact (ly_kn _)
  | 5, h => cases h; exact (ly_kn _)
  | 6, h => cases h; exact (ly_kn _)
  | 7, h => cases h; exact (ly_kc (ly_ki lyk389) (ly_kn _))
  | 8, h => cases h; exact (ly_kc (ly_ki lyk390) (ly_kn _))
  | 9, h => cases h; exact (ly_kc (ly_ki lyk391) (ly_kn _))
  | 10, h => cases h; exact (ly_kc (ly_ki lyk392) (ly_kn _))
  | 11, h => cases h; exact (ly_kn _)
  | 12, h => cases h; exact (ly_kn _)
  | 13, h => cases h; exact (ly_kn _)
  | 14, h => cases h; exact (ly_kc (ly_ki lyk393) (ly_kn _))
  | 15, h => cases h; exact (ly_kn _)
  | n + 16, h => cases h
theorem lyr6  : ∀ (j : Nat) (ys : List ly_C), ([[lyc394], [], [], [lyc395], [lyc0, lyc1], [], [lyc2], [lyc3], [lyc4], [lyc5], [], [lyc6], [lyc7], [lyc8], [lyc9], [lyc10]] : List (List ly_C))[j]? = some ys → ly_keptL (96 + j) ys := by
  intro j ys h
  match j, h with
  | 0, h => cases h; exact (ly_kc (ly_ki lyk394) (ly_kn _))
  | 1, h => cases h; exact (ly_kn _)
  | 2, h => cases h; exact (ly_kn _)
  | 3, h => cases h; exact (ly_kc (ly_ki lyk395) (ly_kn _))
  | 4, h => cases h; exact (ly_kc (ly_ki lyk0) (ly_kc (ly_ki lyk1) (ly_kn _)))
  | 5, h => cases h; exact (ly_kn _)
  | 6, h => cases h; exact (ly_kc (ly_ki lyk2) (ly_kn _))
  | 7, h => cases h; exact (ly_kc (ly_ki lyk3) (ly_kn _))
  | 8, h => cases h; exact (ly_kc (ly_ki lyk4) (ly_kn _))
  | 9, h => cases h; exact (ly_kc (ly_ki lyk5) (ly_kn _))
  | 10, h => cases h; exact (ly_kn _)
  | 11, h => cases h; exact (ly_kc (ly_ki lyk6) (ly_kn _))
  | 12, h => cases h; exact (ly_kc (ly_ki lyk7) (ly_kn _))
  | 13, h => cases h; exact (ly_kc (ly_ki lyk8) (ly_kn _))
  | 14, h => cases h; exact (ly_kc (ly_ki lyk9) (ly_kn _))
  | 15, h => cases h; exact (ly_kc (ly_ki lyk10) (ly_kn _))
  | n + 16, h => cases h
theorem lyr7  : ∀ (j : Nat) (ys : List ly_C), ([[], [], [], [], [lyc11], [lyc12], [lyc13], [lyc14], [lyc15], [lyc16], [lyc17, lyc18, lyc19, lyc20, lyc21, lyc22, lyc23, lyc24], [lyc25, lyc26, lyc27], [], [], [], [lyc28]] : List (List ly_C))[j]? = some ys → ly_keptL (112 + j) ys := by
  intro j ys h
  match j, h with
  | 0, h => cases h; exact (ly_kn _)
  | 1, h => cases h; exact (ly_kn _)
  | 2, h => cases h; exact (ly_kn _)
  | 3, h => cases h; exact (ly_kn _)
  | 4, h => cases h; exact (ly_kc (ly_ki lyk11) (ly_kn _))
  | 5, h => cases h; exact (ly_kc (ly_ki lyk12) (ly_kn _))
  | 6, h => cases h; exact (ly_kc (ly_ki lyk13) (ly_kn _))
  | 7, h => cases h; exact (ly_kc (ly_ki lyk14) (ly_kn _))
  | 8, h => cases h; exact (ly_kc (ly_ki lyk15) (ly_kn _))
  | 9, h => cases h; exact (ly_kc (ly_ki lyk16) (ly_kn _))
  | 10, h => cases h; exact (ly_kc (ly_ki lyk17) (ly_kc (ly_ki lyk18) (ly_kc (ly_ki lyk19) (ly_kc (ly_ki lyk20) (ly_kc (ly_ki lyk21) (ly_kc (ly_ki lyk22) (ly_kc (ly_ki lyk23) (ly_kc (ly_ki lyk24) (ly_kn _)))))))))
  | 11, h => cases h; exact (ly_kc (ly_ki lyk25) (ly_kc (ly_ki lyk26) (ly_kc (ly_ki lyk27) (ly_kn _))))
  | 12, h => cases h; exact (ly_kn _)
  | 13, h => cases h; exact (ly_kn _)
  | 14, h => cases h; exact (ly_kn _)
  | 15, h => cases h; exact (ly_kc (ly_ki lyk28) (ly_kn _))
  | n + 16, h => cases h
theorem lyr8  : ∀ (j : Nat) (ys : List ly_C), ([[lyc29], [lyc30], [lyc31], [lyc32], [], [lyc33], [], [], [], [lyc34], [lyc35], [], [lyc36], [lyc37], [lyc38, lyc39, lyc40], [lyc41]] : List (List ly_C))[j]? = some ys → ly_keptL (128 + j) ys := by
  intro j ys h
  match j, h with
  | 0, h => cases h; exact (ly_kc (ly_ki lyk29) (ly_kn _))
  | 1, h => cases h; exact (ly_kc (ly_ki lyk30) (ly_kn _))
  | 2, h => cases h; exact (ly_kc (ly_ki lyk31) (ly_kn _))
  | 3, h => cases h; exact (ly_kc (ly_ki lyk32) (ly_kn _))
  | 4, h => cases h; exact (ly_kn _)
  | 5, h => cases h; exact (ly_kc (ly_kj lyk33) (ly_kn _))
  | 6, h => cases h; exact (ly_kn _)
  | 7, h => cases h; exact (ly_kn _)
  | 8, h => cases h; exact (ly_kn _)
  | 9, h => cases h; exact (ly_kc (ly_ki lyk34) (ly_kn _))
  | 10, h => cases h; exact (ly_kc (ly_ki lyk35) (ly_kn _))
  | 11, h => cases h; exact (ly_kn _)
  | 12, h => cases h; exact (ly_kc (ly_ki lyk36) (ly_kn _))
  | 13, h => cases h; exact (ly_kc (ly_ki lyk37) (ly_kn _))
  | 14, h => cases h; exact (ly_kc (ly_ki lyk38) (ly_kc (ly_ki lyk39) (ly_kc (ly_ki lyk40) (ly_kn _))))
  | 15, h => cases h; exact (ly_kc (ly_ki lyk41) (ly_kn _))
  | n + 16, h => cases h
theorem lyr9  : ∀ (j : Nat) (ys : List ly_C), ([[lyc42], [lyc43], [], [lyc44], [lyc45], [lyc46], [], [lyc47], [lyc48], [lyc49], [lyc50], [lyc51], [], [], [lyc52], []] : List (List ly_C))[j]? = some ys → ly_keptL (144 + j) ys := by
  intro j ys h
  match j, h with
  | 0, h => cases h; exact (ly_kc (ly_ki lyk42) (ly_kn _))
  | 1, h => cases h; exact (ly_kc (ly_ki lyk43) (ly_kn _))
  | 2, h => cases h; exact (ly_kn _)
  | 3, h => cases h; exact (ly_kc (ly_ki lyk44) (ly_kn _))
  | 4, h => cases h; exact (ly_kc (ly_ki lyk45) (ly_kn _))
  | 5, h => cases h; exact (ly_kc (ly_ki lyk46) (ly_kn _))
  | 6, h => cases h; exact (ly_kn _)
  | 7, h => cases h; exact (ly_kc (ly_ki lyk47) (ly_kn _))
  | 8, h => cases h; exact (ly_kc (ly_ki lyk48) (ly_kn _))
  | 9, h => cases h; exact (ly_kc (ly_ki lyk49) (ly_kn _))
  | 10, h => cases h; exact (ly_kc (ly_ki lyk50) (ly_kn _))
  | 11, h => cases h; exact (ly_kc (ly_ki lyk51) (ly_kn _))
  | 12, h => cases h; exact (ly_kn _)
  | 13, h => cases h; exact (ly_kn _)
  | 14, h => cases h; exact (ly_kc (ly_ki lyk52) (ly_kn _))
  | 15, h => cases h; exact (ly_kn _)
  | n + 16, h => cases h
theorem lyr10  : ∀ (j : Nat) (ys : List ly_C), ([[lyc53], [], [], [lyc54], [], [lyc55], [lyc56], [], [lyc57], [lyc58], [lyc61], [], [], [lyc62], [], [lyc63]] : List (List ly_C))[j]? = some ys → ly_keptL (160 + j) ys := by
  intro j ys h
  match j, h with
  | 0, h => cases h; exact (ly_kc (ly_ki lyk53) (ly_kn _))
  | 1, h => cases h; exact (ly_kn _)
  | 2, h => cases h; exact (ly_kn _)
  | 3, h => cases h; exact (ly_kc (ly_ki lyk54) (ly_kn _))
  | 4, h => cases h; exact (ly_kn _)
  | 5, h => cases h; exact (ly_kc (ly_ki lyk55) (ly_kn _))
  | 6, h => cases h; exact (ly_kc (ly_ki lyk56) (ly_kn _))
  | 7, h => cases h; exact (ly_kn _)
  | 8, h => cases h; exact (ly_kc (ly_ki lyk57) (ly_kn _))
  | 9, h => cases h; exact (ly_kc (ly_ki lyk58) (ly_kn _))
  | 10, h => cases h; exact (ly_kc (ly_ki lyk61) (ly_kn _))
  | 11, h => cases h; exact (ly_kn _)
  | 12, h => cases h; exact (ly_kn _)
  | 13, h => cases h; exact (ly_kc (ly_ki lyk62) (ly_kn _))
  | 14, h => cases h; exact (ly_kn _)
  | 15, h => cases h; exact (ly_kc (ly_ki lyk63) (ly_kn _))
  | n + 16, h => cases h
theorem lyr11  : ∀ (j : Nat) (ys : List ly_C), ([[lyc64], [lyc65], [], [lyc66], [lyc67], [lyc68], [lyc69], [lyc70], [], [], [], [lyc71], [lyc72], [lyc73], [lyc74], [lyc75]] : List (List ly_C))[j]? = some ys → ly_keptL (176 + j) ys := by
  intro j ys h
  match j, h with
  | 0, h => cases h; exact (ly_kc (ly_ki lyk64) (ly_kn _))
  | 1, h => cases h; exact (ly_kc (ly_ki lyk65) (ly_kn _))
  | 2, h => cases h; exact (ly_kn _)
  | 3, h => cases h; exact (ly_kc (ly_ki lyk66) (ly_kn _))
  | 4, h => cases h; exact (ly_kc (ly_ki lyk67) (ly_kn _))
  | 5, h => cases h; exact (ly_kc (ly_ki lyk68) (ly_kn _))
  | 6, h => cases h; exact (ly_kc (ly_ki lyk69) (ly_kn _))
  | 7, h => cases h; exact (ly_kc (ly_ki lyk70) (ly_kn _))
  | 8, h => cases h; exact (ly_kn _)
  | 9, h => cases h; exact (ly_kn _)
  | 10, h => cases h; exact (ly_kn _)
  | 11, h => cases h; exact (ly_kc (ly_ki lyk71) (ly_kn _))
  | 12, h => cases h; exact (ly_kc (ly_ki lyk72) (ly_kn _))
  | 13, h => cases h; exact (ly_kc (ly_ki lyk73) (ly_kn _))
  | 14, h => cases h; exact (ly_kc (ly_ki lyk74) (ly_kn _))
  | 15, h => cases h; exact (ly_kc (ly_ki lyk75) (ly_kn _))
  | n + 16, h => cases h
theorem lyr12  : ∀ (j : Nat) (ys : List ly_C), ([[lyc76], [], [], [lyc77], [lyc78], [], [lyc79], [lyc80], [lyc81], [], [lyc82], [lyc83], [lyc84], [lyc85], [lyc86], [lyc87]] : List (List ly_C))[j]? = some ys → ly_keptL (192 + j) ys := by
  intro j ys h
  match j, h with
  | 0, h => cases h; exact (ly_kc (ly_ki lyk76) (ly_kn _))
  | 1, h => cases h; exact (ly_kn _)
  | 2, h => cases h; exact (ly_kn _)
  | 3, h => cases h; exact (ly_kc (ly_ki lyk77) (ly_kn _))
  | 4, h => cases h; exact (ly_kc (ly_ki lyk78) (ly_kn _))
  | 5, h => cases h; exact (ly_kn _)
  | 6, h => cases h; exact (ly_kc (ly_ki lyk79) (ly_kn _))
  | 7, h => cases h; exact (ly_kc (ly_ki lyk80) (ly_kn _))
  | 8, h => cases h; exact (ly_kc (ly_ki lyk81) (ly_kn _))
  | 9, h => cases h; exact (ly_kn _)
  | 10, h => cases h; exact (ly_kc (ly_ki lyk82) (ly_kn _))
  | 11, h => cases h; exact (ly_kc (ly_ki lyk83) (ly_kn _))
  | 12, h => cases h; exact (ly_kc (ly_ki lyk84) (ly_kn _))
  | 13, h => cases h; exact (ly_kc (ly_ki lyk85) (ly_kn _))
  | 14, h => cases h; exact (ly_kc (ly_ki lyk86) (ly_kn _))
  | 15, h => cases h; exact (ly_kc (ly_ki lyk87) (ly_kn _))
  | n + 16, h => cases h
theorem lyr13  : ∀ (j : Nat) (ys : List ly_C), ([[lyc88], [lyc89], [lyc91], [lyc92], [lyc93], [lyc94], [lyc95], [], [lyc96], [lyc97], [lyc98], [lyc99], [lyc100], [lyc101], [lyc102], [lyc103]] : List (List ly_C))[j]? = some ys → ly_keptL (208 + j) ys := by
  intro j ys h
  match j, h with
  | 0, h => cases h; exact (ly_kc (ly_ki lyk88) (ly_kn _))
  | 1, h => cases h; exact (ly_kc (ly_ki lyk89) (ly_kn _))
  | 2, h => cases h; exact (ly_kc (ly_ki lyk91) (ly_kn _))
  | 3, h => cases h; exact (ly_kc (ly_ki lyk92) (ly_kn _))
  | 4, h => cases h; exact (ly_kc (ly_ki lyk93) (ly_kn _))
  | 5, h => cases h; exact (ly_kc (ly_ki lyk94) (ly_kn _))
  | 6, h => cases h; exact (ly_kc (ly_ki lyk95) (ly_kn _))
  | 7, h => cases h; exact (ly_kn _)
  | 8, h => cases h; exact (ly_kc (ly_ki lyk96) (ly_kn _))
  | 9, h => cases h; exact (ly_kc (ly_ki lyk97) (ly_kn _))
  | 10, h => cases h; exact (ly_kc (ly_ki lyk98) (ly_kn _))
  | 11, h => cases h; exact (ly_kc (ly_ki lyk99) (ly_kn _))
  | 12, h => cases h; exact (ly_kc (ly_ki lyk100) (ly_kn _))
  | 13, h => cases h; exact (ly_kc (ly_ki lyk101) (ly_kn _))
  | 14, h => cases h; exact (ly_kc (ly_ki lyk102) (ly_kn _))
  | 15, h => cases h; exact (ly_kc (ly_ki lyk103) (ly_kn _))
  | n + 16, h => cases h
theorem lyr14  : ∀ (j : Nat) (ys : List ly_C), ([[lyc104], [lyc105], [lyc106], [lyc107], [lyc108], [], [lyc110], [lyc111], [lyc112], [lyc113], [], [lyc114], [], [lyc115], [lyc116], [lyc117]] : List (List ly_C))[j]? = some ys → ly_keptL (224 + j) ys := by
  intro j ys h
  match j, h with
  | 0, h => cases h; exact (ly_kc (ly_ki lyk104) (ly_kn _))
  | 1, h => cases h; exact (ly_kc (ly_ki lyk105) (ly_kn _))
  | 2, h => cases h; exact (ly_kc (ly_ki lyk106) (ly_kn _))
  | 3, h => cases h; exact (ly_kc (ly_ki lyk107) (ly_kn _))
  | 4, h => cases h; exact (ly_kc (ly_ki lyk108) (ly_kn _))
  | 5, h => cases h; exact (ly_kn _)
  | 6, h => cases h; exact (ly_kc (ly_ki lyk110) (ly_kn _))
  | 7, h => cases h; exact (ly_kc (ly_ki lyk111) (ly_kn _))
  | 8, h => cases h; exact (ly_kc (ly_ki lyk112) (ly_kn _))
  | 9, h => cases h; exact (ly_kc (ly_ki lyk113) (ly_kn _))
  | 10, h => cases h; exact (ly_kn _)
  | 11, h => cases h; exact (ly_kc (ly_ki lyk114) (ly_kn _))
  | 12, h => cases h; exact (ly_kn _)
  | 13, h => cases h; exact (ly_kc (ly_ki lyk115) (ly_kn _))
  | 14, h => cases h; exact (ly_kc (ly_ki lyk116) (ly_kn _))
  | 15, h => cases h; exact (ly_kc (ly_ki lyk117) (ly_kn _))
  | n + 16, h => cases h
theorem lyr15  : ∀ (j : Nat) (ys : List ly_C), ([[lyc119], [lyc120], [lyc121], [lyc122], [lyc123], [lyc124], [lyc125], [lyc126], [lyc127], [], [lyc128, lyc129, lyc130, lyc131, lyc132, lyc133, lyc134], [], [lyc135, lyc136, lyc137, lyc138, lyc139, lyc140, lyc141], [], [], [lyc142]] : List (List ly_C))[j]? = some ys → ly_keptL (240 + j) ys := by
  intro j ys h
  match j, h with
  | 0, h => cases h; exact (ly_kc (ly_ki lyk119) (ly_kn _))
  | 1, h => cases h; exact (ly_kc (ly_ki lyk120) (ly_kn _))
  | 2, h => cases h; exact (ly_kc (ly_ki lyk121) (ly_kn _))
  | 3, h => cases h; exact (ly_kc (ly_ki lyk122) (ly_kn _))
  | 4, h => cases h; exact (ly_kc (ly_ki lyk123) (ly_kn _))
  | 5, h => cases h; exact (ly_kc (ly_ki lyk124) (ly_kn _))
  | 6, h => cases h; exact (ly_kc (ly_ki lyk125) (ly_kn _))
  | 7, h => cases h; exact (ly_kc (ly_ki lyk126) (ly_kn _))
  | 8, h => cases h; exact (ly_kc (ly_ki lyk127) (ly_kn _))
  | 9, h => cases h; exact (ly_kn _)
  | 10, h => cases h; exact (ly_kc (ly_ki lyk128) (ly_kc (ly_ki lyk129) (ly_kc (ly_ki lyk130) (ly_kc (ly_ki lyk131) (ly_kc (ly_ki lyk132) (ly_kc (ly_ki lyk133) (ly_kc (ly_ki lyk134) (ly_kn _))))))))
  | 11, h => cases h; exact (ly_kn _)
  | 12, h => cases h; exact (ly_kc (ly_ki lyk135) (ly_kc (ly_ki lyk136) (ly_kc (ly_ki lyk137) (ly_kc (ly_ki lyk138) (ly_kc (ly_ki lyk139) (ly_kc (ly_ki lyk140) (ly_kc (ly_ki lyk141) (ly_kn _))))))))
  | 13, h => cases h; exact (ly_kn _)
  | 14, h => cases h; exact (ly_kn _)
  | 15, h => cases h; exact (ly_kc (ly_ki lyk142) (ly_kn _))
  | n + 16, h => cases h
theorem lyr16  : ∀ (j : Nat) (ys : List ly_C), ([[lyc143], [lyc144], [lyc145], [lyc146], [lyc148], [lyc149], [lyc150], [lyc151], [], [lyc152], [lyc153], [lyc154], [], [lyc155], [lyc156], [lyc157]] : List (List ly_C))[j]? = some ys → ly_keptL (256 + j) ys := by
  intro j ys h
  match j, h with
  | 0, h => cases h; exact (ly_kc (ly_ki lyk143) (ly_kn _))
  | 1, h => cases h; exact (ly_kc (ly_ki lyk144) (ly_kn _))
  | 2, h => cases h; exact (ly_kc (ly_ki lyk145) (ly_kn _))
  | 3, h => cases h; exact (ly_kc (ly_ki lyk146) (ly_kn _))
  | 4, h => cases h; exact (ly_kc (ly_ki lyk148) (ly_kn _))
  | 5, h => cases h; exact (ly_kc (ly_ki lyk149) (ly_kn _))
  | 6, h => cases h; exact (ly_kc (ly_ki lyk150) (ly_kn _))
  | 7, h => cases h; exact (ly_kc (ly_ki lyk151) (ly_kn _))
  | 8, h => cases h; exact (ly_kn _)
  | 9, h => cases h; exact (ly_kc (ly_ki lyk152) (ly_kn _))
  | 10, h => cases h; exact (ly_kc (ly_ki lyk153) (ly_kn _))
  | 11, h => cases h; exact (ly_kc (ly_ki lyk154) (ly_kn _))
  | 12, h => cases h; exact (ly_kn _)
  | 13, h => cases h; exact (ly_kc (ly_ki lyk155) (ly_kn _))
  | 14, h => cases h; exact (ly_kc (ly_ki lyk156) (ly_kn _))
  | 15, h => cases h; exact (ly_kc (ly_ki lyk157) (ly_kn _))
  | n + 16, h => cases h
theorem lyr17  : ∀ (j : Nat) (ys : List ly_C), ([[], [], [lyc158], [lyc159], [], [], [lyc160], [lyc161], [lyc163], [], [], [lyc165, lyc166, lyc167, lyc168, lyc169, lyc170, lyc171, lyc172, lyc173, lyc174, lyc175, lyc176, lyc164], [lyc178, lyc179, lyc180, lyc181, lyc182, lyc183, lyc184, lyc185, lyc186, lyc187, lyc188, lyc189, lyc190, lyc191, lyc177], [lyc193, lyc194, lyc195, lyc196, lyc197, lyc198, lyc199, lyc200, lyc201, lyc202, lyc203, lyc204, lyc205, lyc206, lyc192], [], [lyc207]] : List (List ly_C))[j]? = some ys → ly_keptL (272 + j) ys := by
  intro j ys h
  match j, h with
  | 0, h => cases h; exact (ly_kn _)
  | 1, h => cases h; exact (ly_kn _)
  | 2, h => cases h; exact (ly_kc (ly_ki lyk158) (ly_kn _))
  | 3, h => cases h; exact (ly_kc (ly_ki lyk159) (ly_kn _))
  | 4, h => cases h; exact (ly_kn _)
  | 5, h => cases h; exact (ly_kn _)
  | 6, h => cases h; exact (ly_kc (ly_ki lyk160) (ly_kn _))
  | 7, h => cases h; exact (ly_kc (ly_ki lyk161) (ly_kn _))
  | 8, h => cases h; exact (ly_kc (ly_ki lyk163) (ly_kn _))
  | 9, h => cases h; exact (ly_kn _)
  | 10, h => cases h; exact (ly_kn _)
  | 11, h => cases h; exact (ly_kc (ly_ki lyk165) (ly_kc (ly_ki lyk166) (ly_kc (ly_ki lyk167) (ly_kc (ly_ki lyk168) (ly_kc (ly_ki lyk169) (ly_kc (ly_ki lyk170) (ly_kc (ly_ki lyk171) (ly_kc (ly_ki lyk172) (ly_kc (ly_ki lyk173) (ly_kc (ly_ki lyk174) (ly_kc (ly_ki lyk175) (ly_kc (ly_ki lyk176) (ly_kc (ly_ki lyk164) (ly_kn _))))))))))))))
  | 12, h => cases h; exact (ly_kc (ly_ki lyk178) (ly_kc (ly_ki lyk179) (ly_kc (ly_ki lyk180) (ly_kc (ly_ki lyk181) (ly_kc (ly_ki lyk182) (ly_kc (ly_ki lyk183) (ly_kc (ly_ki lyk184) (ly_kc (ly_ki lyk185) (ly_kc (ly_ki lyk186) (ly_kc (ly_ki lyk187) (ly_kc (ly_ki lyk188) (ly_kc (ly_ki lyk189) (ly_kc (ly_ki lyk190) (ly_kc (ly_ki lyk191) (ly_kc (ly_ki lyk177) (ly_kn _))))))))))))))))
  | 13, h => cases h; exact (ly_kc (ly_ki lyk193) (ly_kc (ly_ki lyk194) (ly_kc (ly_ki lyk195) (ly_kc (ly_ki lyk196) (ly_kc (ly_ki lyk197) (ly_kc (ly_ki lyk198) (ly_kc (ly_ki lyk199) (ly_kc (ly_ki lyk200) (ly_kc (ly_ki lyk201) (ly_kc (ly_ki lyk202) (ly_kc (ly_ki lyk203) (ly_kc (ly_ki lyk204) (ly_kc (ly_ki lyk205) (ly_kc (ly_ki lyk206) (ly_kc (ly_ki lyk192) (ly_kn _))))))))))))))))
  | 14, h => cases h; exact (ly_kn _)
  | 15, h => cases h; exact (ly_kc (ly_ki lyk207) (ly_kn _))
  | n + 16, h => cases h
theorem lyr18  : ∀ (j : Nat) (ys : List ly_C), ([[], [lyc208], [lyc210], [lyc211], [lyc212], [lyc213], [lyc214], [lyc215], [lyc216], [lyc217], [], [lyc218], [], [], [lyc220], []] : List (List ly_C))[j]? = some ys → ly_keptL (288 + j) ys := by
  intro j ys h
  match j, h with
  | 0, h => cases h; exact (ly_kn _)
  | 1, h => cases h; exact (ly_kc (ly_ki lyk208) (ly_kn _))
  | 2, h => cases h; exact (ly_kc (ly_ki lyk210) (ly_kn _))
  | 3, h => cases h; exact (ly_kc (ly_ki lyk211) (ly_kn _))
  | 4, h => cases h; exact (ly_kc (ly_ki lyk212) (ly_kn _))
  | 5, h => cases h; exact (ly_kc (ly_ki lyk213) (ly_kn _))
  | 6, h => cases h; exact (ly_kc (ly_ki lyk214) (ly_kn _))
  | 7, h => cases h; exact (ly_kc (ly_ki lyk215) (ly_kn _))
  | 8, h => cases h; exact (ly_kc (ly_ki lyk216) (ly_kn _))
  | 9, h => cases h; exact (ly_kc (ly_ki lyk217) (ly_kn _))
  | 10, h => cases h; exact (ly_kn _)
  | 11, h => cases h; exact (ly_kc (ly_ki lyk218) (ly_kn _))
  | 12, h => cases h; exact (ly_kn _)
  | 13, h => cases h; exact (ly_kn _)
  | 14, h => cases h; exact (ly_kc (ly_ki lyk220) (ly_kn _))
  | 15, h => cases h; exact (ly_kn _)
  | n + 16, h => cases h
theorem lyr19  : ∀ (j : Nat) (ys : List ly_C), ([[lyc221, lyc222], [], [], [lyc223], [lyc224, lyc225, lyc226], [lyc227, lyc228, lyc229], [lyc231, lyc232, lyc233], [lyc234, lyc235, lyc236], [lyc237, lyc238, lyc239], [], [lyc240, lyc241, lyc242], [lyc243, lyc244, lyc245], [lyc246, lyc247, lyc248], [lyc249, lyc250, lyc251], [lyc252, lyc253, lyc254], [lyc255]] : List (List ly_C))[j]? = some ys → ly_keptL (304 + j) ys := by
  intro j ys h
  match j, h with
  | 0, h => cases h; exact (ly_kc (ly_ki lyk221) (ly_kc (ly_ki lyk222) (ly_kn _)))
  | 1, h => cases h; exact (ly_kn _)
  | 2, h => cases h; exact (ly_kn _)
  | 3, h => cases h; exact (ly_kc (ly_ki lyk223) (ly_kn _))
  | 4, h => cases h; exact (ly_kc (ly_ki lyk224) (ly_kc (ly_ki lyk225) (ly_kc (ly_ki lyk226) (ly_kn _))))
  | 5, h => cases h; exact (ly_kc (ly_ki lyk227) (ly_kc (ly_ki lyk228) (ly_kc (ly_ki lyk229) (ly_kn _))))
  | 6, h => cases h; exact (ly_kc (ly_ki lyk231) (ly_kc (ly_ki lyk232) (ly_kc (ly_ki lyk233) (ly_kn _))))
  | 7, h => cases h; exact (ly_kc (ly_ki lyk234) (ly_kc (ly_ki lyk235) (ly_kc (ly_ki lyk236) (ly_kn _))))
  | 8, h => cases h; exact (ly_kc (ly_ki lyk237) (ly_kc (ly_ki lyk238) (ly_kc (ly_ki lyk239) (ly_kn _))))
  | 9, h => cases h; exact (ly_kn _)
  | 10, h => cases h; exact (ly_kc (ly_ki lyk240) (ly_kc (ly_ki lyk241) (ly_kc (ly_ki lyk242) (ly_kn _))))
  | 11, h => cases h; exact (ly_kc (ly_ki lyk243) (ly_kc (ly_ki lyk244) (ly_kc (ly_ki lyk245) (ly_kn _))))
  | 12, h => cases h; exact (ly_kc (ly_ki lyk246) (ly_kc (ly_ki lyk247) (ly_kc (ly_ki lyk248) (ly_kn _))))
  | 13, h => cases h; exact (ly_kc (ly_ki lyk249) (ly_kc (ly_ki lyk250) (ly_kc (ly_ki lyk251) (ly_kn _))))
  | 14, h => cases h; exact (ly_kc (ly_ki lyk252) (ly_kc (ly_ki lyk253) (ly_kc (ly_ki lyk254) (ly_kn _))))
  | 15, h => cases h; exact (ly_kc (ly_ki lyk255) (ly_kn _))
  | n + 16, h => cases h
theorem lyr20  : ∀ (j : Nat) (ys : List ly_C), ([[lyc257], [lyc258], [lyc259], [], [lyc260], [lyc261], [lyc262], [lyc263], [lyc264], [lyc265], [lyc267], [lyc268], [lyc269], [lyc270], [lyc271], [lyc272]] : List (List ly_C))[j]? = some ys → ly_keptL (320 + j) ys := by
  intro j ys h
  match j, h with
  | 0, h => cases h; exact (ly_kc (ly_ki lyk257) (ly_kn _))
  | 1, h => cases h; exact (ly_kc (ly_ki lyk258) (ly_kn _))
  | 2, h => cases h; exact (ly_kc (ly_ki lyk259) (ly_kn _))
  | 3, h => cases h; exact (ly_kn _)
  | 4, h => cases h; exact (ly_kc (ly_ki lyk260) (ly_kn _))
  | 5, h => cases h; exact (ly_kc (ly_ki lyk261) (ly_kn _))
  | 6, h => cases h; exact (ly_kc (ly_ki lyk262) (ly_kn _))
  | 7, h => cases h; exact (ly_kc (ly_ki lyk263) (ly_kn _))
  | 8, h => cases h; exact (ly_kc (ly_ki lyk264) (ly_kn _))
  | 9, h => cases h; exact (ly_kc (ly_ki lyk265) (ly_kn _))
  | 10, h => cases h; exact (ly_kc (ly_ki lyk267) (ly_kn _))
  | 11, h => cases h; exact (ly_kc (ly_ki lyk268) (ly_kn _))
  | 12, h => cases h; exact (ly_kc (ly_ki lyk269) (ly_kn _))
  | 13, h => cases h; exact (ly_kc (ly_ki lyk270) (ly_kn _))
  | 14, h => cases h; exact (ly_kc (ly_ki lyk271) (ly_kn _))
  | 15, h => cases h; exact (ly_kc (ly_ki lyk272) (ly_kn _))
  | n + 16, h => cases h
theorem lyr21 (hx279 : ly_kept 345 lyc279) (hx280 : ly_kept 346 lyc280) : ∀ (j : Nat) (ys : List ly_C), ([[lyc273], [lyc274], [], [], [lyc275], [lyc276], [lyc277], [lyc278], [], [lyc279], [lyc280], [lyc281], [lyc282], [lyc283], [lyc285], [lyc286]] : List (List ly_C))[j]? = some ys → ly_keptL (336 + j) ys := by
  intro j ys h
  match j, h with
  | 0, h => cases h; exact (ly_kc (ly_ki lyk273) (ly_kn _))
  | 1, h => cases h; exact (ly_kc (ly_ki lyk274) (ly_kn _))
  | 2, h => cases h; exact (ly_kn _)
  | 3, h => cases h; exact (ly_kn _)
  | 4, h => cases h; exact (ly_kc (ly_ki lyk275) (ly_kn _))
  | 5, h => cases h; exact (ly_kc (ly_ki lyk276) (ly_kn _))
  | 6, h => cases h; exact (ly_kc (ly_ki lyk277) (ly_kn _))
  | 7, h => cases h; exact (ly_kc (ly_ki lyk278) (ly_kn _))
  | 8, h => cases h; exact (ly_kn _)
  | 9, h => cases h; exact (ly_kc (hx279) (ly_kn _))
  | 10, h => cases h; exact (ly_kc (hx280) (ly_kn _))
  | 11, h => cases h; exact (ly_kc (ly_ki lyk281) (ly_kn _))
  | 12, h => cases h; exact (ly_kc (ly_ki lyk282) (ly_kn _))
  | 13, h => cases h; exact (ly_kc (ly_ki lyk283) (ly_kn _))
  | 14, h => cases h; exact (ly_kc (ly_ki lyk285) (ly_kn _))
  | 15, h => cases h; exact (ly_kc (ly_ki lyk286) (ly_kn _))
  | n + 16, h => cases h
theorem lyr22  : ∀ (j : Nat) (ys : List ly_C), ([[lyc287], [lyc288], [lyc289], [lyc290], [], [lyc291], [], [lyc292], [lyc294], [lyc295], [lyc296], [], [lyc297], [lyc298], [lyc299], [lyc300]] : List (List ly_C))[j]? = some ys → ly_keptL (352 + j) ys := by
  intro j ys h
  match j, h with
  | 0, h => cases h; exact (ly_kc (ly_ki lyk287) (ly_kn _))
  | 1, h => cases h; exact (ly_kc (ly_ki lyk288) (ly_kn _))
  | 2, h => cases h; exact (ly_kc (ly_ki lyk289) (ly_kn _))
  | 3, h => cases h; exact (ly_kc (ly_ki lyk290) (ly_kn _))
  | 4, h => cases h; exact (ly_kn _)
  | 5, h => cases h; exact (ly_kc (ly_ki lyk291) (ly_kn _))
  | 6, h => cases h; exact (ly_kn _)
  | 7, h => cases h; exact (ly_kc (ly_ki lyk292) (ly_kn _))
  | 8, h => cases h; exact (ly_kc (ly_ki lyk294) (ly_kn _))
  | 9, h => cases h; exact (ly_kc (ly_ki lyk295) (ly_kn _))
  | 10, h => cases h; exact (ly_kc (ly_ki lyk296) (ly_kn _))
  | 11, h => cases h; exact (ly_kn _)
  | 12, h => cases h; exact (ly_kc (ly_ki lyk297) (ly_kn _))
  | 13, h => cases h; exact (ly_kc (ly_ki lyk298) (ly_kn _))
  | 14, h => cases h; exact (ly_kc (ly_ki lyk299) (ly_kn _))
  | 15, h => cases h; exact (ly_kc (ly_ki lyk300) (ly_kn _))
  | n + 16, h => cases h
theorem lyr23  : ∀ (j : Nat) (ys : List ly_C), ([[lyc301], [lyc302], [lyc304], [lyc305], [lyc306], [lyc307], [lyc308], [lyc309], [lyc310], [lyc311], [lyc312], [lyc313], [lyc314], [], [lyc315], [lyc316]] : List (List ly_C))[j]? = some ys → ly_keptL (368 + j) ys := by
  intro j ys h
  match j, h with
  | 0, h => cases h; exact (ly_kc (ly_ki lyk301) (ly_kn _))
  | 1, h => cases h; exact (ly_kc (ly_ki lyk302) (ly_kn _))
  | 2, h => cases h; exact (ly_kc (ly_ki lyk304) (ly_kn _))
  | 3, h => cases h; exact (ly_kc (ly_ki lyk305) (ly_kn _))
  | 4, h => cases h; exact (ly_kc (ly_ki lyk306) (ly_kn _))
  | 5, h => cases h; exact (ly_kc (ly_ki lyk307) (ly_kn _))
  | 6, h => cases h; exact (ly_kc (ly_ki lyk308) (ly_kn _))
  | 7, h => cases h; exact (ly_kc (ly_ki lyk309) (ly_kn _))
  | 8, h => cases h; exact (ly_kc (ly_ki lyk310) (ly_kn _))
  | 9, h => cases h; exact (ly_kc (ly_ki lyk311) (ly_kn _))
  | 10, h => cases h; exact (ly_kc (ly_ki lyk312) (ly_kn _))
  | 11, h => cases h; exact (ly_kc (ly_ki lyk313) (ly_kn _))
  | 12, h => cases h; exact (ly_kc (ly_ki lyk314) (ly_kn _))
  | 13, h => cases h; exact (ly_kn _)
  | 14, h => cases h; exact (ly_kc (ly_ki lyk315) (ly_kn _))
  | 15, h => cases h; exact (ly_kc (ly_ki lyk316) (ly_kn _))
  | n + 16, h => cases h
theorem lyr24  : ∀ (j : Nat) (ys : List ly_C), ([[lyc317], [lyc318], [lyc319], [lyc320], [lyc321], [lyc322], [lyc323], [lyc324], [lyc325], [lyc326], [lyc327], [lyc328], [lyc329], [], [lyc330], [lyc331]] : List (List ly_C))[j]? = some ys → ly_keptL (384 + j) ys := by
  intro j ys h
  match j, h with
  | 0, h => cases h; exact (ly_kc (ly_ki lyk317) (ly_kn _))
  | 1, h => cases h; exact (ly_kc (ly_ki lyk318) (ly_kn _))
  | 2, h => cases h; exact (ly_kc (ly_ki lyk319) (ly_kn _))
  | 3, h => cases h; exact (ly_kc (ly_ki lyk320) (ly_kn _))
  | 4, h => cases h; exact (ly_kc (ly_ki lyk321) (ly_kn _))
  | 5, h => cases h; exact (ly_kc (ly_ki lyk322) (ly_kn _))
  | 6, h => cases h; exact (ly_kc (ly_ki lyk323) (ly_kn _))
  | 7, h => cases h; exact (ly_kc (ly_ki lyk324) (ly_kn _))
  | 8, h => cases h; exact (ly_kc (ly_ki lyk325) (ly_kn _))
  | 9, h => cases h; exact (ly_kc (ly_ki lyk326) (ly_kn _))
  | 10, h => cases h; exact (ly_kc (ly_ki lyk327) (ly_kn _))
  | 11, h => cases h; exact (ly_kc (ly_ki lyk328) (ly_kn _))
  | 12, h => cases h; exact (ly_kc (ly_ki lyk329) (ly_kn _))
  | 13, h => cases h; exact (ly_kn _)
  | 14, h => cases h; exact (ly_kc (ly_ki lyk330) (ly_kn _))
  | 15, h => cases h; exact (ly_kc (ly_ki lyk331) (ly_kn _))
  | n + 16, h => cases h
theorem lyr25 (hx345 : ly_kept 411 lyc345) : ∀ (j : Nat) (ys : List ly_C), ([[lyc333], [lyc334], [lyc335], [lyc336], [lyc337], [lyc338], [lyc339], [lyc340], [lyc341], [lyc342], [lyc344], [lyc345], [lyc346, lyc347, lyc348, lyc349, lyc350, lyc351, lyc352], [], [lyc353], [lyc354]] : List (List ly_C))[j]? = some ys → ly_keptL (400 + j) ys := by
  intro j ys h
  match j, h with
  | 0, h => cases h; exact (ly_kc (ly_ki lyk333) (ly_kn _))
  | 1, h => cases h; exact (ly_kc (ly_ki lyk334) (ly_kn _))
  | 2, h => cases h; exact (ly_kc (ly_ki lyk335) (ly_kn _))
  | 3, h => cases h; exact (ly_kc (ly_ki lyk336) (ly_kn _))
  | 4, h => cases h; exact (ly_kc (ly_ki lyk337) (ly_kn _))
  | 5, h => cases h; exact (ly_kc (ly_ki lyk338) (ly_kn _))
  | 6, h => cases h; exact (ly_kc (ly_ki lyk339) (ly_kn _))
  | 7, h => cases h; exact (ly_kc (ly_ki lyk340) (ly_kn _))
  | 8, h => cases h; exact (ly_kc (ly_ki lyk341) (ly_kn _))
  | 9, h => cases h; exact (ly_kc (ly_ki lyk342) (ly_kn _))
  | 10, h => cases h; exact (ly_kc (ly_ki lyk344) (ly_kn _))
  | 11, h => cases h; exact (ly_kc (hx345) (ly_kn _))
  | 12, h => cases h; exact (ly_kc (ly_ki lyk346) (ly_kc (ly_ki lyk347) (ly_kc (ly_ki lyk348) (ly_kc (ly_ki lyk349) (ly_kc (ly_ki lyk350) (ly_kc (ly_ki lyk351) (ly_kc (ly_ki lyk352) (ly_kn _))))))))
  | 13, h => cases h; exact (ly_kn _)
  | 14, h => cases h; exact (ly_kc (ly_ki lyk353) (ly_kn _))
  | 15, h => cases h; exact (ly_kc (ly_ki lyk354) (ly_kn _))
  | n + 16, h => cases h
theorem lyr26  : ∀ (j : Nat) (ys : List ly_C), ([[lyc355], [lyc356], [lyc357]] : List (List ly_C))[j]? = some ys → ly_keptL (416 + j) ys := by
  intro j ys h
  match j, h with
  | 0, h => cases h; exact (ly_kc (ly_ki lyk355) (ly_kn _))
  | 1, h => cases h; exact (ly_kc (ly_ki lyk356) (ly_kn _))
  | 2, h => cases h; exact (ly_kc (ly_ki lyk357) (ly_kn _))
  | n + 3, h => cases h
theorem ly_hall (hx279 : ly_kept 345 lyc279) (hx280 : ly_kept 346 lyc280) (hx345 : ly_kept 411 lyc345) : ∀ mi ys y, sx_ch 16 mi ly_Y = some ys → y ∈ ys → ly_kept mi y := by
  intro mi ys y h hy
  unfold sx_ch at h
  split at h
  case h_2 => cases h
  rename_i r hr
  have em : mi = 16 * (mi / 16) + mi % 16 := by omega
  generalize mi / 16 = a at *
  generalize mi % 16 = b at *
  subst em
  match a, hr with
  | 0, hr => cases hr; exact lyr0  b ys h y hy
  | 1, hr => cases hr; exact lyr1  b ys h y hy
  | 2, hr => cases hr; exact lyr2  b ys h y hy
  | 3, hr => cases hr; exact lyr3  b ys h y hy
  | 4, hr => cases hr; exact lyr4  b ys h y hy
  | 5, hr => cases hr; exact lyr5  b ys h y hy
  | 6, hr => cases hr; exact lyr6  b ys h y hy
  | 7, hr => cases hr; exact lyr7  b ys h y hy
  | 8, hr => cases hr; exact lyr8  b ys h y hy
  | 9, hr => cases hr; exact lyr9  b ys h y hy
  | 10, hr => cases hr; exact lyr10  b ys h y hy
  | 11, hr => cases hr; exact lyr11  b ys h y hy
  | 12, hr => cases hr; exact lyr12  b ys h y hy
  | 13, hr => cases hr; exact lyr13  b ys h y hy
  | 14, hr => cases hr; exact lyr14  b ys h y hy
  | 15, hr => cases hr; exact lyr15  b ys h y hy
  | 16, hr => cases hr; exact lyr16  b ys h y hy
  | 17, hr => cases hr; exact lyr17  b ys h y hy
  | 18, hr => cases hr; exact lyr18  b ys h y hy
  | 19, hr => cases hr; exact lyr19  b ys h y hy
  | 20, hr => cases hr; exact lyr20  b ys h y hy
  | 21, hr => cases hr; exact lyr21 hx279 hx280 b ys h y hy
  | 22, hr => cases hr; exact lyr22  b ys h y hy
  | 23, hr => cases hr; exact lyr23  b ys h y hy
  | 24, hr => cases hr; exact lyr24  b ys h y hy
  | 25, hr => cases hr; exact lyr25 hx345 b ys h y hy
  | 26, hr => cases hr; exact lyr26  b ys h y hy
  | n + 27, hr => cases hr
theorem ly_holds (hx279 : ly_kept 345 lyc279) (hx280 : ly_kept 346 lyc280) (hx345 : ly_kept 411 lyc345) {cst : am_K} {strs : List Nat} (gC : ly_gC sx_KK cst) (hstr : ∀ a, 8 ≤ a → a < 12 → a ∈ strs) : ∀ D, ly_Yok cst m_cl m_tt m_P strs ly_TH ly_Y D :=
  ly_all gC sx_tok_m hstr (fun mi ys y h1 h2 => (ly_hall hx279 hx280 hx345 mi ys y h1 h2).elim Or.inl (fun h => Or.inr (fun D hY => by
    obtain ⟨e, fuel, p, eM, h⟩ := h
    subst e
    exact mk_chk_ok gC hstr h D hY)))
