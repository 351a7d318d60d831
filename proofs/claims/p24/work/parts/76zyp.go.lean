/-! PRINTED by hand: frames of rows as frames of regions, for the roads of the law (p25, p26, p27) -/
theorem hs_no {r : Nat} {L : List Nat} (a : ly_has r L = false) (b : ly_has r L = true) : False := by
  rw [a] at b
  cases b
theorem hs_sub {L L' : List Nat} (q : L.all (fun r => ly_has r L') = true) {r : Nat} (hr : ly_has r L' = false) : ly_has r L = false := by
  cases hh : ly_has r L with
  | false => rfl
  | true =>
    exfalso
    unfold ly_has at hh
    obtain ⟨w_9, hw, hwe⟩ := List.any_eq_true.mp hh
    have z_9 := List.all_eq_true.mp q w_9 hw
    have ew : w_9 = r := by first | exact sx_beqn.mp hwe | exact (sx_beqn.mp hwe).symm | exact Nat.eq_of_beq_eq_true hwe | exact (Nat.eq_of_beq_eq_true hwe).symm
    rw [ew] at z_9
    exact hs_no hr z_9
theorem mfr_to {cst : am_K} {B : Nat} {m : Int} {L L' : List Nat} {h h' : am_H} (a : mfr cst B m L h h') (q : L.all (fun r_9 => ly_has r_9 L') = true) (q1 : ly_has (B + 2) L' = true) (q2 : ly_has (B + 3) L' = true) (q3 : ly_has (B + 256) L' = true) (q4 : ly_has (B + 512) L' = true) : ly_fr cst L' h h' := fun r_9 i_9 v_9 hr e_9 =>
  a r_9 i_9 v_9 (hs_sub q hr) (fun z_9 => by
    rcases z_9 with z_9 | z_9
    · rw [z_9] at hr; exact (hs_no hr q1).elim
    · rw [z_9] at hr; exact (hs_no hr q2).elim) (fun z_9 => by
    rcases z_9 with z_9 | z_9
    · rw [z_9] at hr; exact (hs_no hr q3).elim
    · rw [z_9] at hr; exact (hs_no hr q4).elim) e_9
theorem nfr_to {cst : am_K} {m : Int} {L L' : List Nat} {h h' : am_H} (a : nfr cst m L h h') (q : L.all (fun r_9 => ly_has r_9 L') = true) (q1 : ly_has 33280 L' = true) (q2 : ly_has 33536 L' = true) (q3 : ly_has 33024 L' = true) : ly_fr cst L' h h' := fun r_9 i_9 v_9 hr e_9 =>
  a r_9 i_9 v_9 (hs_sub q hr) (fun z_9 => by
    rcases z_9 with z_9 | z_9
    · rw [z_9] at hr; exact (hs_no hr q1).elim
    · rw [z_9] at hr; exact (hs_no hr q2).elim) (fun z_9 => by
    rw [z_9] at hr; exact (hs_no hr q3).elim) e_9
theorem afr_to {cst : am_K} {m : Int} {L L' : List Nat} {h h' : am_H} (a : afr cst m L h h') (q : L.all (fun r_9 => ly_has r_9 L') = true) (q1 : ly_has 60092 L' = true) (q2 : ly_has 60093 L' = true) (q3 : ly_has 60094 L' = true) (q4 : ly_has 33792 L' = true) : ly_fr cst L' h h' := fun r_9 i_9 v_9 hr e_9 =>
  a r_9 i_9 v_9 (hs_sub q hr) (fun z_9 => by
    rw [z_9] at hr; exact (hs_no hr q1).elim) (fun z_9 => by
    rcases z_9 with z_9 | z_9
    · rw [z_9] at hr; exact (hs_no hr q2).elim
    · rw [z_9] at hr; exact (hs_no hr q3).elim) (fun z_9 => by
    rw [z_9] at hr; exact (hs_no hr q4).elim) e_9
/-- an answer with a frame of rows, as one with a frame of regions -/
theorem go_m {cst : am_K} {R : am_Q → Prop} {h : am_H} {Fr : am_H → Prop} {L' : List Nat} {P : am_Q → Int32 → Prop} (H : ∃ r_9, R r_9 ∧ (fun r_9 : am_Q => ∃ w_9 : Int32, r_9.1 = some (.int w_9) ∧ r_9.2.2.1 = 0 ∧ r_9.2.2.2 = 0 ∧ ly_hy m_tt ly_TH r_9.2.1 ∧ Fr r_9.2.1 ∧ P r_9 w_9) r_9) (q : ∀ h_9', Fr h_9' → ly_fr cst L' h h_9') :
    ∃ r_9, R r_9 ∧ ∃ w_9 : Int32, r_9.1 = some (.int w_9) ∧ r_9.2.2.1 = 0 ∧ r_9.2.2.2 = 0 ∧ ly_hy m_tt ly_TH r_9.2.1 ∧ ly_fr cst L' h r_9.2.1 ∧ (Fr r_9.2.1 ∧ P r_9 w_9) := by
  obtain ⟨r_9, h1, w_9, h2, h3, h4, h5, h6, h7⟩ := H
  exact ⟨r_9, h1, w_9, h2, h3, h4, h5, q _ h6, h6, h7⟩
abbrev gwq_mods : List Nat := [257, 261, 262, 768, 1024, 1280, 45570, 45571, 45824, 46080]
abbrev gwo_mods : List Nat := [19969, 19970, 19971, 19972, 19973, 19974, 19975, 19976, 33024, 33280, 33536]
abbrev gaq_mods : List Nat := [257, 261, 262, 768, 1024, 1280, 19202, 19203, 19456, 19712, 46338, 46339, 46592, 46848]
abbrev gar_mods : List Nat := [19969, 19970, 19971, 19972, 19973, 19974, 19975, 19976, 27392, 27648, 27904, 33792, 60092, 60093, 60094]
abbrev gmq_mods : List Nat := [9984, 10242, 10243, 10496, 10752, 45570, 45571, 45824, 46080]
abbrev gmr_mods : List Nat := [33024, 33280, 33536, 37376]
theorem go_wq {cst : am_K} {m : Int} {h h' : am_H} (a : mfr cst 45568 m wq_mods h h') : ly_fr cst gwq_mods h h' := mfr_to a rfl rfl rfl rfl rfl
theorem go_wo {cst : am_K} {m : Int} {h h' : am_H} (a : nfr cst m wo_mods h h') : ly_fr cst gwo_mods h h' := nfr_to a rfl rfl rfl rfl
theorem go_aq {cst : am_K} {m : Int} {h h' : am_H} (a : mfr cst 46336 m aq_mods h h') : ly_fr cst gaq_mods h h' := mfr_to a rfl rfl rfl rfl rfl
theorem go_ar {cst : am_K} {m : Int} {h h' : am_H} (a : afr cst m ar_mods h h') : ly_fr cst gar_mods h h' := afr_to a rfl rfl rfl rfl rfl
theorem go_mq {cst : am_K} {m : Int} {h h' : am_H} (a : mfr cst 45568 m wi_mods h h') : ly_fr cst gmq_mods h h' := mfr_to a rfl rfl rfl rfl rfl
theorem go_mr {cst : am_K} {m : Int} {h h' : am_H} (a : nfr cst m [37376] h h') : ly_fr cst gmr_mods h h' := nfr_to a rfl rfl rfl rfl
