theorem am_r_int {ret : Option FieldType} {I : Instr} {st : List Value} {v : Int32} (h : am_r ret I st = some (some (.int v))) : I = .ireturn ∧ st = [.int v] := by
  cases I with
  | ireturn =>
    refine ⟨rfl, ?_⟩
    simp only [am_r] at h
    split at h
    case h_2 => cases h
    split at h
    · cases h; rfl
    · split at h
      · cases h; rfl
      · cases h
    · split at h
      · cases h; rfl
      · cases h
    · split at h
      · cases h; rfl
      · cases h
    · cases h
  | lreturn =>
    simp only [am_r] at h
    split at h
    case h_2 => cases h
    split at h <;> cases h
  | areturn =>
    simp only [am_r] at h
    split at h
    · split at h <;> cases h
    · split at h <;> cases h
    · cases h
  | return_ =>
    simp only [am_r] at h
    split at h
    case h_2 => cases h
    split at h <;> cases h
  | _ => simp [am_r] at h
set_option maxHeartbeats 4000000 in
set_option maxRecDepth 100000 in
/-- the law's walk out of a run of the abstract machine -/
theorem m_start0 {p : Program} {e : Env} {s : State} {m : MethodId} {below : List Frame} {meth : Method} {c : Code} (l : Launch) {b L : Nat} {xs : Nat → Int32} (C0 : lw_At p s m meth c b L xs)
    {D : va_G} {ca : FieldType → ClassId} {kd adV : Nat → Nat} {cst : am_K} {lens : List Nat} {byts : List (List Int32)} (hw : am_W D m_cl m_tys ca kd (fun q => s.heap.size ≤ q) cst m_sn m_sr m_strs lens byts adV s) (hk4 : kd 4 = b)
    {d n : Nat} {r : am_Q} (hd : d ≤ 400) (hgo : am_Go cst m_cl m_tt m_P m_strs (am_Run cst m_cl m_tt m_P m_strs (fun _ _ _ _ => False) d) mtL n 0 (lv_args 0 [.ref 4]) [] [] r) (hr1 : r.1 = some (.int 1)) (hc : r.2.2.1 ≤ 600000) (hs : r.2.2.2 ≤ 7302249) :
    W p l e room_1 s m #[Value.ref b] below meth c s.heap [] 0 0 (lw_Z below #[Value.ref b] s) (entryFrame m ([Value.ref b] : List Value).toArray 4) := by
  obtain ⟨hx, hb, hr, hml, hown, hts, hX, hbl, hlocks, hgv⟩ := C0
  have hl := lv_entry ([Value.ref b]) (n := 4) (Nat.le_of_ble_eq_true rfl)
  rw [lg_entry_eq]
  have e4 : am_ad kd s.heap.size 4 = b := by unfold am_ad; rw [if_pos (by decide)]; exact hk4
  have hl' : lv_has ((lg_sl [Value.ref b] ++ List.replicate (4 - (lg_sl [Value.ref b]).length) Slot.unset).toArray) mtL.2.2.1 (am_lc (am_ad kd s.heap.size) (lv_args 0 [.ref 4])) := by
    rw [← am_args_lc]
    show lv_has _ 4 (lv_args 0 [Value.ref (am_ad kd s.heap.size 4)])
    rw [e4]
    exact hl
  have hR0 : am_R D m_cl m_tys (am_ad kd s.heap.size) ca s.heap.size [] s.heap := ⟨fun i e h => by simp at h, by simp, fun i ty a h => by simp at h⟩
  refine am_sim (M := mtL) (d := d) (base := s.heap.size) (R := room_1) hx hb hml (fun w hq => hts w (m_Ts_in w hq)) hown (fun h => absurd h (by decide)) mgL m_ctx hw (am_met m_ctx m_tabs (fun _ h => h) (fun _ _ _ _ _ _ _ _ h => h.elim) d) (fun _ h => h) (by show d + 1 ≤ 2048; omega) (by show 200 * d + 200 ≤ 84000; omega) n 0 _ [] [] r s.heap [] 0 0 _ hgo hl' hR0 va_S.rf (by rw [Nat.zero_add]; exact hc) (by rw [Nat.zero_add]; exact hs) (fun pcr I X st' ls' H' locs' hf hv hR' hS' => ?_)
  rw [hr1] at hv
  obtain ⟨rfl, rfl⟩ := am_r_int hv
  have hdec := (mgL pcr _ X hf).1
  refine W.widen (k := 600000) (n := 7302249) (by rw [Nat.zero_add]; exact hc) (by rw [Nat.zero_add]; exact hs) ?_
  refine va_forget (fun q hq => hS'.2.2 q hq) ?_
  exact lw_ret hx hb hr hlocks hdec
