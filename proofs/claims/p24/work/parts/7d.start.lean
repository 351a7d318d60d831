/-! PRINTED by wip/p2/genstart.py: what holds at the law's entry; the law's walk -/
def m_r0 : List Int32 := [(-1), 0, 0, 0, 0, 0, 0, 6, 20, 2, 2, 1, 12, 0]
def m_r1 : List Int32 := [0, 0, 0, 9999, 0, 0, 0, 12, 9999, 4, 12, 12, 23]
def m_r2 : List Int32 := [0, 0, 0, 0, 0, 0, 0, 1, 0, 0, 0, 0, 0]
def m_r3 : List Int32 := [7, 3, 5, 6, 1, 2, 4]
def m_b0 : List Int32 := [100, 101, 101, 100, 32, 119, 111, 114, 100, 115, 32, 100, 101, 97, 116, 104, 32, 102, 105, 110, 101, 32, 99, 108, 101, 114, 103, 121, 32, 107, 101, 101, 112, 32, 109, 101, 110, 100, 32, 106, 117, 114, 121, 32, 108, 97, 110, 100, 32, 107, 105, 110, 32, 99, 104, 97, 108, 108, 101, 110, 103, 101, 32, 104, 117, 110, 100, 114, 101, 100, 32, 98, 105, 108, 108, 32, 118, 111, 105, 100, 32, 115, 116, 114, 105, 107, 101, 32, 114, 101, 102, 117, 115, 101, 32, 115, 116, 97, 110, 100, 32]
def m_b1 : List Int32 := [111, 114, 32, 97, 110, 100, 32, 110, 111, 116, 32, 117, 110, 108, 101, 115, 115, 32, 97, 98, 111, 118, 101, 32, 98, 101, 108, 111, 119, 32, 105, 115, 32]
def m_b2 : List Int32 := [100, 101, 101, 100, 32, 119, 111, 114, 100, 115, 32, 100, 101, 97, 116, 104, 32, 102, 105, 110, 101, 32, 99, 108, 101, 114, 103, 121, 32, 114, 101, 102, 117, 115, 101, 32, 107, 101, 101, 112, 32, 109, 101, 110, 100, 32, 106, 117, 114, 121, 32, 108, 97, 110, 100, 32, 107, 105, 110, 32, 99, 104, 97, 108, 108, 101, 110, 103, 101, 32, 104, 117, 110, 100, 114, 101, 100, 32, 98, 105, 108, 108, 32, 118, 111, 105, 100, 32, 115, 116, 97, 110, 100, 32, 115, 116, 114, 105, 107, 101, 32, 117, 110, 108, 101, 115, 115, 32, 111, 114, 32, 97, 110, 100, 32, 110, 111, 116, 32, 97, 98, 111, 118, 101, 32, 98, 101, 108, 111, 119, 32, 105, 115, 32]
def m_b3 : List Int32 := [55, 51, 53, 54, 49, 50, 52]
theorem m_cd0 {k i : Nat} {c : List Cond} (hk : m_Tc[k]? = some c) {w : Cond} (hi : c[i]? = some w) : w ∈ lw_tbl := m_Tc_in0 c (List.mem_of_getElem? hk) w (List.mem_of_getElem? hi)
def m_fl : List Cond := flatC (Jvm.Cond.and given_1 narrow_1)
theorem m_flm {i : Nat} {w : Cond} (h : m_fl[i]? = some w) : w ∈ flatC (Jvm.Cond.and given_1 narrow_1) := List.mem_of_getElem? h
set_option maxRecDepth 1000000 in
theorem m_ra0 : m_fl[10]? = some (.arrayOf (.static "AssizeRide$Law" "WITHOUT" "[I") .int) := by decide +kernel
set_option maxRecDepth 1000000 in
theorem m_rl0 : m_fl[11]? = some (.eq (.length (.static "AssizeRide$Law" "WITHOUT" "[I")) (.int (Int32.ofNat 14))) := by decide +kernel
set_option maxRecDepth 1000000 in
theorem m_re0 : ∀ j, j < 14 → m_fl[12 + j]? = some (.eq (.elem (.static "AssizeRide$Law" "WITHOUT" "[I") (.int (Int32.ofNat j))) (.int (m_r0.getD j 0))) := by decide +kernel
set_option maxRecDepth 1000000 in
theorem m_ra1 : m_fl[27]? = some (.arrayOf (.static "AssizeRide$ActReader" "MOST" "[I") .int) := by decide +kernel
set_option maxRecDepth 1000000 in
theorem m_rl1 : m_fl[28]? = some (.eq (.length (.static "AssizeRide$ActReader" "MOST" "[I")) (.int (Int32.ofNat 13))) := by decide +kernel
set_option maxRecDepth 1000000 in
theorem m_re1 : ∀ j, j < 13 → m_fl[29 + j]? = some (.eq (.elem (.static "AssizeRide$ActReader" "MOST" "[I") (.int (Int32.ofNat j))) (.int (m_r1.getD j 0))) := by decide +kernel
set_option maxRecDepth 1000000 in
theorem m_ra2 : m_fl[43]? = some (.arrayOf (.static "AssizeRide$ActReader" "LEAST" "[I") .int) := by decide +kernel
set_option maxRecDepth 1000000 in
theorem m_rl2 : m_fl[44]? = some (.eq (.length (.static "AssizeRide$ActReader" "LEAST" "[I")) (.int (Int32.ofNat 13))) := by decide +kernel
set_option maxRecDepth 1000000 in
theorem m_re2 : ∀ j, j < 13 → m_fl[45 + j]? = some (.eq (.elem (.static "AssizeRide$ActReader" "LEAST" "[I") (.int (Int32.ofNat j))) (.int (m_r2.getD j 0))) := by decide +kernel
set_option maxRecDepth 1000000 in
theorem m_ra3 : m_fl[59]? = some (.arrayOf (.static "AssizeRide$Rolls" "TAKES" "[I") .int) := by decide +kernel
set_option maxRecDepth 1000000 in
theorem m_rl3 : m_fl[60]? = some (.eq (.length (.static "AssizeRide$Rolls" "TAKES" "[I")) (.int (Int32.ofNat 7))) := by decide +kernel
set_option maxRecDepth 1000000 in
theorem m_re3 : ∀ j, j < 7 → m_fl[61 + j]? = some (.eq (.elem (.static "AssizeRide$Rolls" "TAKES" "[I") (.int (Int32.ofNat j))) (.int (m_r3.getD j 0))) := by decide +kernel
def m_tm (i : Nat) : Term := match i with
  | 0 => .string "AssizeRide$ActReader" 63
  | 1 => .string "AssizeRide$ActReader" 73
  | 2 => .string "AssizeRideModel" 334
  | _ => .string "AssizeRideModel" 709
def m_len : List Nat := [101, 33, 134, 7]
def m_byt : List (List Int32) := [m_b0, m_b1, m_b2, m_b3]
set_option maxRecDepth 1000000 in
theorem m_tex : ∀ i, i < 4 → m_fl[[68, 173, 211, 351].getD i 0]? = some (.exactly (m_tm i) "java/lang/String") := by decide +kernel
set_option maxRecDepth 1000000 in
theorem m_tco : ∀ i, i < 4 → m_fl[[69, 174, 212, 352].getD i 0]? = some (.eq (.field (m_tm i) "java/lang/String" "coder" "B") (.int 0)) := by decide +kernel
set_option maxRecDepth 1000000 in
theorem m_tar : ∀ i, i < 4 → m_fl[[70, 175, 213, 353].getD i 0]? = some (.arrayOf (.field (m_tm i) "java/lang/String" "value" "[B") .byte) := by decide +kernel
set_option maxRecDepth 1000000 in
theorem m_tle : ∀ i, i < 4 → m_fl[[71, 176, 214, 354].getD i 0]? = some (.eq (.length (.field (m_tm i) "java/lang/String" "value" "[B")) (.int (Int32.ofNat (m_len.getD i 0)))) := by decide +kernel
set_option maxRecDepth 1000000 in
theorem m_tel0 : ∀ j, j < 101 → m_fl[72 + j]? = some (.eq (.elem (.field (m_tm 0) "java/lang/String" "value" "[B") (.int (Int32.ofNat j))) (.int (m_b0.getD j 0))) := by decide +kernel
set_option maxRecDepth 1000000 in
theorem m_tel1 : ∀ j, j < 33 → m_fl[177 + j]? = some (.eq (.elem (.field (m_tm 1) "java/lang/String" "value" "[B") (.int (Int32.ofNat j))) (.int (m_b1.getD j 0))) := by decide +kernel
set_option maxRecDepth 1000000 in
theorem m_tel2 : ∀ j, j < 134 → m_fl[215 + j]? = some (.eq (.elem (.field (m_tm 2) "java/lang/String" "value" "[B") (.int (Int32.ofNat j))) (.int (m_b2.getD j 0))) := by decide +kernel
set_option maxRecDepth 1000000 in
theorem m_tel3 : ∀ j, j < 7 → m_fl[355 + j]? = some (.eq (.elem (.field (m_tm 3) "java/lang/String" "value" "[B") (.int (Int32.ofNat j))) (.int (m_b3.getD j 0))) := by decide +kernel
theorem m_ins0 : Cond.instantiable "AssizeRide" 13 ∈ lw_tbl := m_cd0 (k := 1) (i := 23) rfl rfl
theorem m_ins1 : Cond.instantiable "AssizeRide$Tape" 7 ∈ lw_tbl := m_cd0 (k := 1) (i := 31) rfl rfl
theorem m_ins2 : Cond.instantiable "AssizeRide$People" 9 ∈ lw_tbl := m_cd0 (k := 1) (i := 64) rfl rfl
theorem m_ins3 : Cond.instantiable "AssizeRide$Law" 13 ∈ lw_tbl := m_cd0 (k := 1) (i := 100) rfl rfl
theorem m_ins4 : Cond.instantiable "AssizeRide$ActReader" 17 ∈ lw_tbl := m_cd0 (k := 1) (i := 148) rfl rfl
theorem m_ins5 : Cond.instantiable "AssizeRide$Docket" 18 ∈ lw_tbl := m_cd0 (k := 2) (i := 26) rfl rfl
theorem m_ins6 : Cond.instantiable "AssizeRide$Row" 4 ∈ lw_tbl := m_cd0 (k := 2) (i := 34) rfl rfl
theorem m_ins7 : Cond.instantiable "AssizeRide$Gaols" 14 ∈ lw_tbl := m_cd0 (k := 2) (i := 117) rfl rfl
theorem m_ins8 : Cond.instantiable "AssizeRide$DayOrder" 9 ∈ lw_tbl := m_cd0 (k := 2) (i := 171) rfl rfl
theorem m_ins9 : Cond.instantiable "AssizeRide$Circuit" 12 ∈ lw_tbl := m_cd0 (k := 2) (i := 206) rfl rfl
theorem m_ins10 : Cond.instantiable "AssizeRide$Rolls" 6 ∈ lw_tbl := m_cd0 (k := 3) (i := 11) rfl rfl
theorem m_ins11 : Cond.instantiable "AssizeRide$Matter" 21 ∈ lw_tbl := m_cd0 (k := 5) (i := 87) rfl rfl
theorem m_ins12 : Cond.instantiable "AssizeRideModel" 140 ∈ lw_tbl := m_cd0 (k := 8) (i := 52) rfl rfl
theorem m_kn {s : State} {args : Array Value} (hts : ∀ w ∈ lw_tbl, w.before args s = true) : ∃ (dC : Nat → ClassId) (dI : Nat → Nat → Nat), ∀ (k : Nat) (q : vw_C), m_cl[k]? = some q → u_Kn s q.1 q.2.1 q.2.2 (dC k) (dI k) := by
  have one : ∀ (k : Nat) (q : vw_C), m_cl[k]? = some q → ∃ n, Cond.instantiable q.1 n ∈ lw_tbl := by
    intro k q hq
    match k, hq with
    | 0, hq => cases hq; exact ⟨_, m_ins0⟩
    | 1, hq => cases hq; exact ⟨_, m_ins1⟩
    | 2, hq => cases hq; exact ⟨_, m_ins2⟩
    | 3, hq => cases hq; exact ⟨_, m_ins3⟩
    | 4, hq => cases hq; exact ⟨_, m_ins4⟩
    | 5, hq => cases hq; exact ⟨_, m_ins5⟩
    | 6, hq => cases hq; exact ⟨_, m_ins6⟩
    | 7, hq => cases hq; exact ⟨_, m_ins7⟩
    | 8, hq => cases hq; exact ⟨_, m_ins8⟩
    | 9, hq => cases hq; exact ⟨_, m_ins9⟩
    | 10, hq => cases hq; exact ⟨_, m_ins10⟩
    | 11, hq => cases hq; exact ⟨_, m_ins11⟩
    | 12, hq => cases hq; exact ⟨_, m_ins12⟩
    | n + 13, hq => cases hq
  have h0 : ∀ k : Nat, ∃ z : ClassId × (Nat → Nat), ∀ q : vw_C, m_cl[k]? = some q → u_Kn s q.1 q.2.1 q.2.2 z.1 z.2 := by
    intro k
    cases hk : m_cl[k]? with
    | none => exact ⟨(0, fun _ => 0), fun q hq => by cases hq⟩
    | some q =>
      obtain ⟨n, hn⟩ := one k q hk
      obtain ⟨cC, iS, hKn⟩ := u_known (C := q.1) (T := q.2.1) (N := q.2.2) (n := n) hts (fun w hw => m_Ts_in w ((m_clok k q hk).1 w hw)) (hts _ hn)
      exact ⟨(cC, iS), fun q' hq' => by cases hq'; exact hKn⟩
  obtain ⟨f, hf⟩ := Classical.axiomOfChoice h0
  exact ⟨fun k => (f k).1, fun k => (f k).2, fun k q hq => hf k q hq⟩
theorem m_at_int : Cond.arrayClass .int ∈ lw_tbl := m_cd0 (k := 1) (i := 61) rfl rfl
theorem m_at_long : Cond.arrayClass .long ∈ lw_tbl := m_cd0 (k := 1) (i := 62) rfl rfl
theorem m_at_byte : Cond.arrayClass .byte ∈ lw_tbl := m_cd0 (k := 2) (i := 24) rfl rfl
theorem m_at_boolean : Cond.arrayClass .boolean ∈ lw_tbl := m_cd0 (k := 2) (i := 58) rfl rfl
theorem m_ao : Cond.arrayOver (.object "AssizeRide$Matter") ∈ lw_tbl := m_cd0 (k := 2) (i := 32) rfl rfl
theorem m_ca {s : State} {args : Array Value} (hts : ∀ w ∈ lw_tbl, w.before args s = true) : ∃ ca : FieldType → ClassId, ∀ ty ∈ m_tys, ArrOfT s (ca ty) ty ∧ va_RA s (ca ty) ty := by
  have prim : ∀ ty : FieldType, Cond.arrayClass ty ∈ lw_tbl → (∀ c, s.vm.findClass ("[" ++ ty.toString) = some c → va_RA s c ty) → ∃ c, ArrOfT s c ty ∧ va_RA s c ty := by
    intro ty h k
    obtain ⟨c, kk, comp, h1, h2, h3⟩ := Cond.arrayClass_spec (hts _ h)
    exact ⟨c, fun n z => ⟨(fun k hk => by cases hk), kk, h2, comp, h3⟩, k c h1⟩
  have h0 : ∀ ty : FieldType, ∃ c : ClassId, ty ∈ m_tys → ArrOfT s c ty ∧ va_RA s c ty := by
    intro ty
    by_cases hm : ty ∈ m_tys
    · simp only [m_tys, List.mem_cons, List.not_mem_nil, or_false] at hm
      rcases hm with rfl | rfl | rfl | rfl | rfl
      · obtain ⟨c, h⟩ := prim .int m_at_int (fun c h => h); exact ⟨c, fun _ => h⟩
      · obtain ⟨c, h⟩ := prim .long m_at_long (fun c h => h); exact ⟨c, fun _ => h⟩
      · obtain ⟨c, h⟩ := prim .byte m_at_byte (fun c h => h); exact ⟨c, fun _ => h⟩
      · obtain ⟨c, h⟩ := prim .boolean m_at_boolean (fun c h => h); exact ⟨c, fun _ => h⟩
      · obtain ⟨comp, c, k, h1, h2, h3, h4, h5⟩ := Cond.arrayOver_spec (hts _ m_ao)
        exact ⟨c, fun _ => ⟨fun n z => ⟨(fun k hk => by cases hk), k, h3, comp, h4⟩, k, comp, h3, h4, h1, h5⟩⟩
    · exact ⟨0, fun h => absurd h hm⟩
  obtain ⟨f, hf⟩ := Classical.axiomOfChoice h0
  exact ⟨f, hf⟩
theorem m_ls0 : Cond.laysStatic "AssizeRide$Law" "WITHOUT" "[I" ∈ lw_tbl := m_cd0 (k := 3) (i := 225) rfl rfl
theorem m_li0 : Cond.initialized "AssizeRide$Law" ∈ lw_tbl := m_cd0 (k := 1) (i := 4) rfl rfl
theorem m_ls1 : Cond.laysStatic "AssizeRide$ActReader" "MOST" "[I" ∈ lw_tbl := m_cd0 (k := 4) (i := 187) rfl rfl
theorem m_li1 : Cond.initialized "AssizeRide$ActReader" ∈ lw_tbl := m_cd0 (k := 1) (i := 5) rfl rfl
theorem m_ls2 : Cond.laysStatic "AssizeRide$ActReader" "LEAST" "[I" ∈ lw_tbl := m_cd0 (k := 4) (i := 189) rfl rfl
theorem m_li2 : Cond.initialized "AssizeRide$ActReader" ∈ lw_tbl := m_cd0 (k := 1) (i := 5) rfl rfl
theorem m_ls3 : Cond.laysStatic "AssizeRide$Rolls" "TAKES" "[I" ∈ lw_tbl := m_cd0 (k := 7) (i := 212) rfl rfl
theorem m_li3 : Cond.initialized "AssizeRide$Rolls" ∈ lw_tbl := m_cd0 (k := 1) (i := 17) rfl rfl
theorem m_ls8 : Cond.laysStatic "java/lang/String" "COMPACT_STRINGS" "Z" ∈ lw_tbl := m_cd0 (k := 1) (i := 169) rfl rfl
theorem m_li8 : Cond.initialized "java/lang/String" ∈ lw_tbl := m_cd0 (k := 1) (i := 7) rfl rfl
theorem m_ls9 : Cond.laysStatic "jdk/internal/util/Preconditions" "SIOOBE_FORMATTER" "Ljava/util/function/BiFunction;" ∈ lw_tbl := m_cd0 (k := 1) (i := 185) rfl rfl
theorem m_li9 : Cond.initialized "jdk/internal/util/Preconditions" ∈ lw_tbl := m_cd0 (k := 1) (i := 9) rfl rfl
theorem m_st0 : Cond.stringRef "AssizeRide$ActReader" 63 "deed words death fine clergy keep mend jury land kin challenge hundred bill void strike refuse stand " ∈ lw_tbl := m_cd0 (k := 1) (i := 153) rfl rfl
theorem m_st1 : Cond.stringRef "AssizeRide$ActReader" 73 "or and not unless above below is " ∈ lw_tbl := m_cd0 (k := 1) (i := 209) rfl rfl
theorem m_st2 : Cond.stringRef "AssizeRideModel" 334 "deed words death fine clergy refuse keep mend jury land kin challenge hundred bill void stand strike unless or and not above below is " ∈ lw_tbl := m_cd0 (k := 10) (i := 132) rfl rfl
theorem m_st3 : Cond.stringRef "AssizeRideModel" 709 "7356124" ∈ lw_tbl := m_cd0 (k := 12) (i := 90) rfl rfl
theorem m_ne0 : Cond.methodLinkNest "AssizeRide" 9 ⟨"AssizeRide$Tape", "<init>", "()V"⟩ "AssizeRide" ∈ lw_tbl := m_cd0 (k := 1) (i := 32) rfl rfl
theorem m_ne1 : Cond.methodLinkNest "AssizeRide" 18 ⟨"AssizeRide$People", "<init>", "()V"⟩ "AssizeRide" ∈ lw_tbl := m_cd0 (k := 1) (i := 65) rfl rfl
theorem m_ne2 : Cond.methodLinkNest "AssizeRide" 25 ⟨"AssizeRide$Law", "<init>", "()V"⟩ "AssizeRide" ∈ lw_tbl := m_cd0 (k := 1) (i := 101) rfl rfl
theorem m_ne3 : Cond.methodLinkNest "AssizeRide" 57 ⟨"AssizeRide$DayOrder", "<init>", "()V"⟩ "AssizeRide" ∈ lw_tbl := m_cd0 (k := 2) (i := 172) rfl rfl
theorem m_ne4 : Cond.methodLinkNest "AssizeRide" 71 ⟨"AssizeRide$Rolls", "<init>", "()V"⟩ "AssizeRide" ∈ lw_tbl := m_cd0 (k := 3) (i := 12) rfl rfl
theorem m_ne5 : Cond.methodLinkNest "AssizeRide$People" 40 ⟨"AssizeRide", "within", "(III)Z"⟩ "AssizeRide" ∈ lw_tbl := m_cd0 (k := 3) (i := 150) rfl rfl
theorem m_ne6 : Cond.methodLinkNest "AssizeRide$Tape" 48 ⟨"AssizeRide", "within", "(III)Z"⟩ "AssizeRide" ∈ lw_tbl := m_cd0 (k := 4) (i := 51) rfl rfl
theorem m_ne7 : Cond.methodLinkNest "AssizeRide$Law" 63 ⟨"AssizeRide", "within", "(III)Z"⟩ "AssizeRide" ∈ lw_tbl := m_cd0 (k := 4) (i := 211) rfl rfl
theorem m_ne8 : Cond.methodLinkNest "AssizeRide$Row" 33 ⟨"AssizeRide", "within", "(III)Z"⟩ "AssizeRide" ∈ lw_tbl := m_cd0 (k := 5) (i := 213) rfl rfl
theorem m_ne9 : Cond.methodLinkNest "AssizeRide$Docket" 120 ⟨"AssizeRide", "within", "(III)Z"⟩ "AssizeRide" ∈ lw_tbl := m_cd0 (k := 6) (i := 80) rfl rfl
theorem m_ne10 : Cond.methodLinkNest "AssizeRide$Gaols" 76 ⟨"AssizeRide", "within", "(III)Z"⟩ "AssizeRide" ∈ lw_tbl := m_cd0 (k := 7) (i := 16) rfl rfl
theorem m_ne11 : Cond.methodLinkNest "AssizeRide$Circuit" 100 ⟨"AssizeRide", "within", "(III)Z"⟩ "AssizeRide" ∈ lw_tbl := m_cd0 (k := 7) (i := 189) rfl rfl
theorem m_ne12 : Cond.methodLinkNest "AssizeRide$Rolls" 36 ⟨"AssizeRide", "within", "(III)Z"⟩ "AssizeRide" ∈ lw_tbl := m_cd0 (k := 7) (i := 198) rfl rfl
def m_kd (t0 t1 t2 t3 b t7 : Nat) (adK adV : Nat → Nat) (a : Nat) : Nat := if a = 0 then t0 else if a = 1 then t1 else if a = 2 then t2 else if a = 3 then t3 else if a = 4 then b else if a = 7 then t7 else if a < 12 then adK (a - 8) else adV (a - 12)
def m_cst (L : List Int32) (fm : Value) : am_K := ([m_r0, m_r1, m_r2, m_r3, L], [m_b0, m_b1, m_b2, m_b3], fm)
set_option maxRecDepth 1000000 in
theorem m_gC {L : List Int32} {fm : Value} (hl : L.length ≤ 3584) (hf : fm = .ref 7 ∨ fm = .null) : ly_gC sx_KK (m_cst L fm) := by
  refine ⟨fun a r h => ?_, ⟨L, rfl, hl⟩, rfl, hf⟩
  have hm := sx_get_mem h
  simp only [sx_KK, List.mem_cons, List.not_mem_nil, or_false, Prod.mk.injEq] at hm
  rcases hm with ⟨rfl, rfl⟩ | ⟨rfl, rfl⟩ | ⟨rfl, rfl⟩ | ⟨rfl, rfl⟩ | ⟨rfl, rfl⟩ | ⟨rfl, rfl⟩ | ⟨rfl, rfl⟩ | ⟨rfl, rfl⟩
  · exact ⟨by decide, Or.inl ⟨by decide, m_r0, rfl, by decide +kernel⟩⟩
  · exact ⟨by decide, Or.inl ⟨by decide, m_r1, rfl, by decide +kernel⟩⟩
  · exact ⟨by decide, Or.inl ⟨by decide, m_r2, rfl, by decide +kernel⟩⟩
  · exact ⟨by decide, Or.inl ⟨by decide, m_r3, rfl, by decide +kernel⟩⟩
  · exact ⟨by decide, Or.inr ⟨by decide, by decide, m_b0, rfl, by decide +kernel⟩⟩
  · exact ⟨by decide, Or.inr ⟨by decide, by decide, m_b1, rfl, by decide +kernel⟩⟩
  · exact ⟨by decide, Or.inr ⟨by decide, by decide, m_b2, rfl, by decide +kernel⟩⟩
  · exact ⟨by decide, Or.inr ⟨by decide, by decide, m_b3, rfl, by decide +kernel⟩⟩
theorem m_gK {cst : am_K} (g : ly_gC sx_KK cst) : sx_gK (fun _ => -1) sx_KK cst := by
  obtain ⟨g1, ⟨L, eL, -⟩, g3, g4⟩ := g
  refine ⟨fun a r h => ?_, ⟨L, eL, fun h => absurd h (by decide)⟩, g3, g4⟩
  obtain ⟨h1, h2⟩ := g1 a r h
  exact ⟨h1, h2.imp id (fun q => ⟨q.1, q.2.2⟩)⟩
set_option maxHeartbeats 4000000 in
set_option maxRecDepth 1000000 in
/-- THE LAW, from its entry -/
theorem whole_start {p : Program} {e : Env} {s : State} {m : MethodId} {below : List Frame} {meth : Method} {c : Code} (l : Launch) {b L : Nat} {xs : Nat → Int32} (hL : L ≤ 3584) (C0 : lw_At p s m meth c b L xs) : W p l e room_1 s m #[Value.ref b] below meth c s.heap [] 0 0 (lw_Z below #[Value.ref b] s) (entryFrame m ([Value.ref b] : List Value).toArray 4) := by
  obtain ⟨hx, hb, hr, hml, hown, hts, hX, hbl, hlocks, hgv⟩ := id C0
  have hA : ∀ a : Nat, a < s.heap.size → ¬ (fun q : Nat => s.heap.size ≤ q) a := fun a h => Nat.not_le.mpr h
  have hs := flat_of_before _ hgv
  obtain ⟨dC, dI, hKc⟩ := m_kn hts
  obtain ⟨ca, hca⟩ := m_ca hts
  obtain ⟨t0, e0, T0⟩ := va_Tof (tm := .static "AssizeRide$Law" "WITHOUT" "[I") (ty := .int) (N := 14) (f := fun j => .int (m_r0.getD j 0)) (by decide) (hs _ (m_flm m_ra0)) (va_eqt (hs _ (m_flm m_rl0))) (fun j hj => va_eqt (hs _ (m_flm (m_re0 j hj)))) hA
  obtain ⟨t1, e1, T1⟩ := va_Tof (tm := .static "AssizeRide$ActReader" "MOST" "[I") (ty := .int) (N := 13) (f := fun j => .int (m_r1.getD j 0)) (by decide) (hs _ (m_flm m_ra1)) (va_eqt (hs _ (m_flm m_rl1))) (fun j hj => va_eqt (hs _ (m_flm (m_re1 j hj)))) hA
  obtain ⟨t2, e2, T2⟩ := va_Tof (tm := .static "AssizeRide$ActReader" "LEAST" "[I") (ty := .int) (N := 13) (f := fun j => .int (m_r2.getD j 0)) (by decide) (hs _ (m_flm m_ra2)) (va_eqt (hs _ (m_flm m_rl2))) (fun j hj => va_eqt (hs _ (m_flm (m_re2 j hj)))) hA
  obtain ⟨t3, e3, T3⟩ := va_Tof (tm := .static "AssizeRide$Rolls" "TAKES" "[I") (ty := .int) (N := 7) (f := fun j => .int (m_r3.getD j 0)) (by decide) (hs _ (m_flm m_ra3)) (va_eqt (hs _ (m_flm m_rl3))) (fun j hj => va_eqt (hs _ (m_flm (m_re3 j hj)))) hA
  obtain ⟨adK, adV, hS, hev⟩ := vk_Sof (N := 4) (tm := m_tm) (len := m_len) (byt := m_byt) (by decide) (fun i hi => hs _ (m_flm (m_tex i hi))) (fun i hi => hs _ (m_flm (m_tco i hi))) (fun i hi => hs _ (m_flm (m_tar i hi))) (fun i hi => hs _ (m_flm (m_tle i hi))) (fun i hi j hj => by
    match i, hi with
    | 0, _ => exact hs _ (m_flm (m_tel0 j hj))
    | 1, _ => exact hs _ (m_flm (m_tel1 j hj))
    | 2, _ => exact hs _ (m_flm (m_tel2 j hj))
    | 3, _ => exact hs _ (m_flm (m_tel3 j hj))
    | n + 4, h => omega) (fun i j hi hj hij => by
    match i, j with
    | 0, 1 => exact Or.inl (hs _ (m_flm (i := 210) (by decide +kernel)))
    | 0, 2 => exact Or.inl (hs _ (m_flm (i := 349) (by decide +kernel)))
    | 0, 3 => exact Or.inl (hs _ (m_flm (i := 362) (by decide +kernel)))
    | 1, 0 => exact Or.inr (hs _ (m_flm (i := 210) (by decide +kernel)))
    | 1, 2 => exact Or.inl (hs _ (m_flm (i := 350) (by decide +kernel)))
    | 1, 3 => exact Or.inl (hs _ (m_flm (i := 363) (by decide +kernel)))
    | 2, 0 => exact Or.inr (hs _ (m_flm (i := 349) (by decide +kernel)))
    | 2, 1 => exact Or.inr (hs _ (m_flm (i := 350) (by decide +kernel)))
    | 2, 3 => exact Or.inl (hs _ (m_flm (i := 364) (by decide +kernel)))
    | 3, 0 => exact Or.inr (hs _ (m_flm (i := 362) (by decide +kernel)))
    | 3, 1 => exact Or.inr (hs _ (m_flm (i := 363) (by decide +kernel)))
    | 3, 2 => exact Or.inr (hs _ (m_flm (i := 364) (by decide +kernel)))
    | 0, 0 => exact absurd rfl hij
    | 1, 1 => exact absurd rfl hij
    | 2, 2 => exact absurd rfl hij
    | 3, 3 => exact absurd rfl hij
    | n + 4, _ => omega
    | _, n + 4 => omega) hA
  have hfm : ∃ (fm : Value) (t7 : Nat), (fm = .ref 7 ∨ fm = .null) ∧ va_Z "jdk/internal/util/Preconditions" "SIOOBE_FORMATTER" "Ljava/util/function/BiFunction;" (am_v (m_kd t0 t1 t2 t3 b t7 adK adV) fm) (fun q : Nat => s.heap.size ≤ q) s s.heap := by
    rcases va_Zqof (hts _ m_ls9) (hts _ m_li9) (hs _ (m_flm (i := 5) (by decide +kernel))) hA with h | ⟨t, h⟩
    · exact ⟨.null, 0, Or.inr rfl, h⟩
    · exact ⟨.ref 7, t, Or.inl rfl, h⟩
  obtain ⟨fm, t7, hf7, hZ9⟩ := hfm
  have hlen : ((List.range L).map xs).length = L := by simp
  have hget : ∀ k, k < L → ((List.range L).map xs).getD k 0 = xs k := by
    intro k hk
    rw [List.getD_eq_getElem?_getD]
    simp [hk]
  have TX : va_T .int b L (fun j => .int (((List.range L).map xs).getD j 0)) (fun q : Nat => s.heap.size ≤ q) s s.heap := by
    obtain ⟨scr, h1, h2, h3, h4, h5⟩ := hX
    exact ⟨scr, h1, h2, h3, Nat.le_of_eq h4.symm, by rw [h4], (fun j hj => by rw [h5 j hj]; simp only [hget j hj]), hA b hbl⟩
  have hW : am_W (dC, dI) m_cl m_tys ca (m_kd t0 t1 t2 t3 b t7 adK adV) (fun q : Nat => s.heap.size ≤ q) (m_cst ((List.range L).map xs) fm) m_sn m_sr m_strs [] [] (fun _ => 0) s := by
    refine ⟨⟨hKc, fun k q h => by simp at h⟩, hca, fun a R ha hR => ?_, fun a C n d h => ?_, fun o i tx a h => ?_, fun a h => ?_, fun i R hR => ?_, fun q hq => ?_, fun C hC => ?_⟩
    · match a, hR with
      | 0, hR => cases hR; exact T0
      | 1, hR => cases hR; exact T1
      | 2, hR => cases hR; exact T2
      | 3, hR => cases hR; exact T3
      | 4, hR => cases hR; rw [hlen]; exact TX
      | n + 5, hR => cases hR
    · simp only [m_sn, List.mem_cons, List.not_mem_nil, or_false, Prod.mk.injEq] at h
      rcases h with ⟨rfl, rfl, rfl, rfl⟩ | ⟨rfl, rfl, rfl, rfl⟩ | ⟨rfl, rfl, rfl, rfl⟩ | ⟨rfl, rfl, rfl, rfl⟩ | ⟨rfl, rfl, rfl, rfl⟩ | ⟨rfl, rfl, rfl, rfl⟩
      · exact va_Zref (hts _ m_ls0) (hts _ m_li0) e0 hA
      · exact va_Zref (hts _ m_ls1) (hts _ m_li1) e1 hA
      · exact va_Zref (hts _ m_ls2) (hts _ m_li2) e2 hA
      · exact va_Zref (hts _ m_ls3) (hts _ m_li3) e3 hA
      · exact va_Zof (hts _ m_ls8) (hts _ m_li8) (va_eqi (hs _ (m_flm (i := 4) (by decide +kernel)))) hA
      · exact hZ9
    · simp only [m_sr, List.mem_cons, List.not_mem_nil, or_false, Prod.mk.injEq] at h
      rcases h with ⟨rfl, rfl, rfl, rfl⟩ | ⟨rfl, rfl, rfl, rfl⟩ | ⟨rfl, rfl, rfl, rfl⟩ | ⟨rfl, rfl, rfl, rfl⟩
      · exact vk_R.of (hts _ m_st0) (hev 0 (by decide))
      · exact vk_R.of (hts _ m_st1) (hev 1 (by decide))
      · exact vk_R.of (hts _ m_st2) (hev 2 (by decide))
      · exact vk_R.of (hts _ m_st3) (hev 3 (by decide))
    · simp only [m_strs, List.mem_cons, List.not_mem_nil, or_false] at h
      rcases h with rfl | rfl | rfl | rfl
      · exact (hS.1 0 (by decide)).1
      · exact (hS.1 1 (by decide)).1
      · exact (hS.1 2 (by decide)).1
      · exact (hS.1 3 (by decide)).1
    · match i, hR with
      | 0, hR => cases hR; obtain ⟨-, z1, z2, z3⟩ := hS.1 0 (by decide); exact ⟨z2, z1, z3⟩
      | 1, hR => cases hR; obtain ⟨-, z1, z2, z3⟩ := hS.1 1 (by decide); exact ⟨z2, z1, z3⟩
      | 2, hR => cases hR; obtain ⟨-, z1, z2, z3⟩ := hS.1 2 (by decide); exact ⟨z2, z1, z3⟩
      | 3, hR => cases hR; obtain ⟨-, z1, z2, z3⟩ := hS.1 3 (by decide); exact ⟨z2, z1, z3⟩
      | n + 4, hR => cases hR
    · simp only [m_sr, List.mem_cons, List.not_mem_nil, or_false] at hq
      rcases hq with rfl | rfl | rfl | rfl | rfl | rfl | rfl | rfl | rfl | rfl | rfl | rfl | rfl
      · exact va_tabs rfl rfl (hts _ m_ne0)
      · exact va_tabs rfl rfl (hts _ m_ne1)
      · exact va_tabs rfl rfl (hts _ m_ne2)
      · exact va_tabs rfl rfl (hts _ m_ne3)
      · exact va_tabs rfl rfl (hts _ m_ne4)
      · exact va_tabs rfl rfl (hts _ m_ne5)
      · exact va_tabs rfl rfl (hts _ m_ne6)
      · exact va_tabs rfl rfl (hts _ m_ne7)
      · exact va_tabs rfl rfl (hts _ m_ne8)
      · exact va_tabs rfl rfl (hts _ m_ne9)
      · exact va_tabs rfl rfl (hts _ m_ne10)
      · exact va_tabs rfl rfl (hts _ m_ne11)
      · exact va_tabs rfl rfl (hts _ m_ne12)
    · simp only [m_tys, List.mem_cons, List.not_mem_nil, or_false, reduceCtorEq, false_or, FieldType.object.injEq] at hC
      subst hC
      exact va_AO.of (hts _ m_ao)
  have gC : ly_gC sx_KK (m_cst ((List.range L).map xs) fm) := m_gC (by rw [hlen]; exact hL) hf7
  obtain ⟨n, r, hgo, h1, h2, h3⟩ := lw_law gC (m_gK gC)
  simp only [Nat.zero_add] at h1 h2 h3
  exact m_start0 l C0 hW rfl (d := 50) (by decide) hgo h1 h2 h3
