/-! values, regions, heaps of the linear machine -/
def ly_g (ν : ly_N) (len : Nat) : ly_V → Value → Prop
  | .inl e, w => ∃ x : Int32, w = .int x ∧ ly_ev ν e = some x.toInt
  | .inr (.inl e), w => ∃ x : Int64, w = .long x ∧ ly_ev ν e = some x.toInt
  | .inr (.inr (.inl none)), w => w = .null
  | .inr (.inr (.inl (some a))), w => w = .ref a ∨ (a = 7 ∧ w = .null)
  | .inr (.inr (.inr (j, e))), w => j < 19 ∧ ∃ z : Nat, ly_ev ν e = some (z : Int) ∧ w = .ref (16 + (177 + 19 * z + j)) ∧ 177 + 19 * (z + 1) ≤ len
def ly_gS (ν : ly_N) (len : Nat) : List ly_V → List Value → Prop
  | [], [] => True
  | v :: vs, w :: ws => ly_g ν len v w ∧ ly_gS ν len vs ws
  | _, _ => False
def ly_gL (ν : ly_N) (len : Nat) (l : ly_L) (l' : am_L) : Prop := ∀ q ∈ l, ∃ w, am_ld q.1 l' = some w ∧ ly_g ν len q.2 w
def ly_hs (x : Option am_E) (k : Nat) (i : Int) : Option Int := match x with
  | some (.inr (_, fs)) => if i = 0 then (match fs[k]? with
    | some (.int x) => some x.toInt
    | some (.long x) => some x.toInt
    | _ => none) else none
  | some (.inl (_, n, .inl f)) => if k = 0 ∧ 0 ≤ i ∧ i.toNat < n then some (f i.toNat).toInt else none
  | some (.inl (_, n, .inr (.inl f))) => if k = 0 ∧ 0 ≤ i ∧ i.toNat < n then some (f i.toNat).toInt else none
  | some (.inl (_, n, .inr (.inr (.inr (.inr f))))) => if k = 0 ∧ 0 ≤ i ∧ i.toNat < n ∧ (f i.toNat).isSome = true then some 1 else none
  | _ => none
def ly_hm (x : Option am_E) (k : Nat) : Option Int := match x with
  | some (.inr (_, fs)) => (match fs[k]? with
    | some (.int x) => some x.toInt
    | some (.long x) => some x.toInt
    | _ => none)
  | _ => none
/-- cell j of the matter i: a field of it; or, where cells j are rows, the element i % 32 of the row of the matter i / 32 -/
def ly_h2 (h : am_H) (j k i : Nat) : Option Int := if j = 0 then ly_hm h[177 + 19 * i + j]? k else match h[177 + 19 * (i / 32) + j]? with
  | some (.inl y) => if k = 0 then ly_hs (some (.inl y)) 0 ((i % 32 : Nat) : Int) else none
  | _ => ly_hm h[177 + 19 * i + j]? k
/-- the script's length and its elements -/
def ly_hk (cst : am_K) (r : Nat) (i : Int) : Option Int := match cst.1[4]? with
  | some L => if r = 60000 then (if i = 0 then some (L.length : Int) else none) else if r = 60001 ∧ 0 ≤ i then (match L[i.toNat]? with
    | some x => some x.toInt
    | none => none) else none
  | none => none
/-- what stands in a region at an index -/
def ly_h0 (cst : am_K) (h : am_H) (r : Nat) (i : Int) : Option Int :=
  if r / 256 < 177 then ly_hs h[r / 256]? (r % 256) i
  else if r / 256 < 196 then (if 0 ≤ i then ly_h2 h (r / 256 - 177) (r % 256) i.toNat else none)
  else if r = 60002 then (if i = 0 then some (h.length : Int) else none)
  else ly_hk cst r i
/-- regions, ghosts, and what hangs on the index alone -/
noncomputable def ly_hv (cst : am_K) (h : am_H) (r : Nat) (i : Int) : Option Int :=
  if r < 60010 then ly_h0 cst h r i else if r < 61000 then ly_gv (ly_h0 cst h) r i else if r = 61000 then some (if i = 0 then 0 else 1) else if r < 62000 then none else if r < 63001 then some (i.tdiv ((r - 62000 : Nat) : Int)) else some (i % (2 ^ (r - 63000) : Nat))
theorem ly_hv0 {cst : am_K} {h : am_H} {r : Nat} {i : Int} (hr : r < 60010) : ly_hv cst h r i = ly_h0 cst h r i := if_pos hr
def ly_gK (cst : am_K) (ν : ly_N) (h : am_H) (K : ly_K) : Prop := ∀ q ∈ K, ∃ i v, ly_ev ν q.2.1 = some i ∧ ly_ev ν q.2.2 = some v ∧ ly_hv cst h q.1 i = some v
def ly_gZ (cst : am_K) (ν : ly_N) (Z : ly_Z) (h : am_H) : Prop := (∀ k, Z.1 ≤ k → ν k = none) ∧ ly_gB ν Z.2.1 ∧ ly_gF ν Z.2.2.1 ∧ ly_gK cst ν h Z.2.2.2
/-- a field, a cell, a heap of its kind -/
def ly_gf (b : Nat) : ly_F → Value → Prop
  | .inl p, w => ∃ x : Int32, w = .int x ∧ p.1 ≤ x.toInt ∧ x.toInt ≤ p.2
  | .inr (.inl _), w => ∃ x : Int64, w = .long x
  | .inr (.inr (.inl none)), w => w = .null
  | .inr (.inr (.inl (some a))), w => w = .ref a
  | .inr (.inr (.inr j)), w => w = .ref (16 + (b + j))
def ly_gT (tt : List (List FieldType)) (len b : Nat) : ly_T → am_E → Prop
  | .inl (ty, n, lo, hi), x => ∃ c, x = .inl (ty, n, c) ∧ (match ty with
    | .long => ∃ f, c = .inr (.inl f)
    | .object _ => ∃ f, c = .inr (.inr (.inr (.inr f))) ∧ ∀ j, j < n → f j = none ∨ (f j = some (16 + (177 + 19 * j)) ∧ 177 + 19 * (j + 1) ≤ len)
    | _ => ∃ f, c = .inl f ∧ ∀ j, j < n → lo ≤ (f j).toInt ∧ (f j).toInt ≤ hi)
  | .inr (ci, fs), x => ∃ vs : List Value, x = .inr (ci, vs) ∧ vs.length = (tt.getD ci []).length ∧ ∀ k f, sx_ch 8 k fs = some f → ∃ w, vs[k]? = some w ∧ ly_gf b f w
def ly_hy (tt : List (List FieldType)) (TH : List (List ly_T)) (h : am_H) : Prop :=
  177 ≤ h.length ∧ (∀ i t, ly_ths TH i = some t → ∃ x, h[i]? = some x ∧ ly_gT tt h.length 0 t x) ∧ ∀ e j t, 177 + 19 * (e + 1) ≤ h.length → ly_thm TH j = some t → ∃ x, h[177 + 19 * e + j]? = some x ∧ ly_gT tt h.length (177 + 19 * e) t x
/-- other regions than these stand as they stood -/
def ly_fr (cst : am_K) (mods : List Nat) (h h' : am_H) : Prop := ∀ r i v, ly_has r mods = false → ly_hv cst h r i = some v → ly_hv cst h' r i = some v
theorem ly_fr_rf {cst : am_K} {mods : List Nat} (h : am_H) : ly_fr cst mods h h := fun _ _ _ _ e => e
theorem ly_fr_tr {cst : am_K} {mods : List Nat} {a b c : am_H} (h1 : ly_fr cst mods a b) (h2 : ly_fr cst mods b c) : ly_fr cst mods a c := fun r i v hr e => h2 r i v hr (h1 r i v hr e)
section LY2
variable {ν ν' : ly_N} {len len' : Nat}
theorem ly_g_le (hl : ly_le ν ν') (hn : len ≤ len') : ∀ {v : ly_V} {w : Value}, ly_g ν len v w → ly_g ν' len' v w
  | .inl e, w, h => by
    obtain ⟨x, e1, e2⟩ := h
    exact ⟨x, e1, ly_ev_le hl e2⟩
  | .inr (.inl e), w, h => by
    obtain ⟨x, e1, e2⟩ := h
    exact ⟨x, e1, ly_ev_le hl e2⟩
  | .inr (.inr (.inl none)), w, h => h
  | .inr (.inr (.inl (some a))), w, h => h
  | .inr (.inr (.inr (j, e))), w, h => by
    obtain ⟨hj, z, e1, e2, e3⟩ := h
    exact ⟨hj, z, ly_ev_le hl e1, e2, by omega⟩
theorem ly_gS_le (hl : ly_le ν ν') (hn : len ≤ len') : ∀ {vs : List ly_V} {ws : List Value}, ly_gS ν len vs ws → ly_gS ν' len' vs ws
  | [], [], _ => trivial
  | _ :: _, _ :: _, h => ⟨ly_g_le hl hn h.1, ly_gS_le hl hn h.2⟩
  | [], _ :: _, h => h.elim
  | _ :: _, [], h => h.elim
theorem ly_gL_le (hl : ly_le ν ν') (hn : len ≤ len') {l : ly_L} {l' : am_L} (h : ly_gL ν len l l') : ly_gL ν' len' l l' := fun q hq => by
  obtain ⟨w, e, g⟩ := h q hq
  exact ⟨w, e, ly_g_le hl hn g⟩
theorem ly_gK_le {cst : am_K} {h : am_H} (hl : ly_le ν ν') {K : ly_K} (g : ly_gK cst ν h K) : ly_gK cst ν' h K := fun q hq => by
  obtain ⟨i, v, e1, e2, e3⟩ := g q hq
  exact ⟨i, v, ly_ev_le hl e1, ly_ev_le hl e2, e3⟩
theorem ly_g_cat : ∀ {v : ly_V} {w : Value}, ly_g ν len v w → w.category = ly_cat v
  | .inl e, w, h => by obtain ⟨x, e1, -⟩ := h; rw [e1]; rfl
  | .inr (.inl _), w, h => by obtain ⟨x, e1, -⟩ := h; rw [e1]; rfl
  | .inr (.inr (.inl none)), w, h => by rw [show w = .null from h]; rfl
  | .inr (.inr (.inl (some a))), w, h => by rcases h with e | ⟨-, e⟩ <;> rw [e] <;> rfl
  | .inr (.inr (.inr (j, e))), w, h => by obtain ⟨-, z, -, e2, -⟩ := h; rw [e2]; rfl
theorem ly_g_isI {v : ly_V} {w : Value} (hg : ly_g ν len v w) (h : ly_isI v = true) : ∃ x : Int32, w = .int x := by
  match v, hg, h with
  | .inl e, hg, _ => obtain ⟨x, e1, -⟩ := hg; exact ⟨x, e1⟩
theorem ly_g_isJ {v : ly_V} {w : Value} (hg : ly_g ν len v w) (h : ly_isJ v = true) : ∃ x : Int64, w = .long x := by
  match v, hg, h with
  | .inr (.inl _), hg, _ => obtain ⟨x, e1, -⟩ := hg; exact ⟨x, e1⟩
theorem ly_g_isA {v : ly_V} {w : Value} (hg : ly_g ν len v w) (h : ly_isA v = true) : (∃ a, w = .ref a) ∨ w = .null := by
  match v, hg, h with
  | .inr (.inr (.inl none)), hg, _ => exact Or.inr hg
  | .inr (.inr (.inl (some a))), hg, _ =>
    rcases hg with e | ⟨-, e⟩
    · exact Or.inl ⟨a, e⟩
    · exact Or.inr e
  | .inr (.inr (.inr (j, e))), hg, _ => obtain ⟨-, z, -, e2, -⟩ := hg; exact Or.inl ⟨_, e2⟩
theorem ly_g_ref {a : Nat} {w : Value} (g : ly_g ν len (.inr (.inr (.inl (some a)))) w) (h : a ≠ 7) : w = .ref a := by
  rcases g with e | ⟨e, -⟩
  · exact e
  · exact absurd e h
theorem ly_gS_cons {v : ly_V} {vs : List ly_V} {ws : List Value} (h : ly_gS ν len (v :: vs) ws) : ∃ w ws', ws = w :: ws' ∧ ly_g ν len v w ∧ ly_gS ν len vs ws' := by
  match ws, h with
  | w :: ws', h => exact ⟨w, ws', rfl, h.1, h.2⟩
theorem ly_gS_nil {ws : List Value} (h : ly_gS ν len [] ws) : ws = [] := by
  match ws, h with
  | [], _ => rfl
theorem ly_gS_len : ∀ {vs : List ly_V} {ws : List Value}, ly_gS ν len vs ws → ws.length = vs.length
  | [], [], _ => rfl
  | _ :: _, _ :: _, h => by simp [ly_gS_len h.2]
theorem ly_gS_take (n : Nat) : ∀ {vs : List ly_V} {ws : List Value}, ly_gS ν len vs ws → ly_gS ν len (vs.take n) (ws.take n) := by
  induction n with
  | zero => intro vs ws _; simp [ly_gS]
  | succ n ih =>
    intro vs ws h
    match vs, ws, h with
    | [], [], _ => simp [ly_gS]
    | v :: vs, w :: ws, h => exact ⟨h.1, ih h.2⟩
theorem ly_gS_drop (n : Nat) : ∀ {vs : List ly_V} {ws : List Value}, ly_gS ν len vs ws → ly_gS ν len (vs.drop n) (ws.drop n) := by
  induction n with
  | zero => intro vs ws h; exact h
  | succ n ih =>
    intro vs ws h
    match vs, ws, h with
    | [], [], _ => simp [ly_gS]
    | v :: vs, w :: ws, h => exact ih h.2
theorem ly_gS_app : ∀ {vs : List ly_V} {ws : List Value} {vs' : List ly_V} {ws' : List Value}, ly_gS ν len vs ws → ly_gS ν len vs' ws' → ly_gS ν len (vs ++ vs') (ws ++ ws')
  | [], [], _, _, _, h => h
  | _ :: _, _ :: _, _, _, h, h' => ⟨h.1, ly_gS_app h.2 h'⟩
theorem ly_gS_rev : ∀ {vs : List ly_V} {ws : List Value}, ly_gS ν len vs ws → ly_gS ν len vs.reverse ws.reverse
  | [], [], _ => trivial
  | v :: vs, w :: ws, h => by
    rw [List.reverse_cons, List.reverse_cons]
    exact ly_gS_app (ly_gS_rev h.2) ⟨h.1, trivial⟩
theorem ly_gS_cats : ∀ {vs : List ly_V} {ws : List Value}, ly_gS ν len vs ws → (ws.map fun v => v.category).sum = ly_cats vs
  | [], [], _ => rfl
  | v :: vs, w :: ws, h => by
    simp only [List.map_cons, List.sum_cons, ly_cats]
    rw [ly_gS_cats h.2, ly_g_cat h.1]
theorem ly_gS_get {i : Nat} {v : ly_V} : ∀ {vs : List ly_V} {ws : List Value}, ly_gS ν len vs ws → vs[i]? = some v → ∃ w, ws[i]? = some w ∧ ly_g ν len v w := by
  induction i with
  | zero =>
    intro vs ws h hv
    match vs, ws, h with
    | v' :: vs, w :: ws, h => simp only [List.getElem?_cons_zero, Option.some.injEq] at hv; subst hv; exact ⟨w, rfl, h.1⟩
  | succ i ih =>
    intro vs ws h hv
    match vs, ws, h with
    | v' :: vs, w :: ws, h => simp only [List.getElem?_cons_succ] at hv ⊢; exact ih h.2 hv
theorem ly_cat_12 (v : ly_V) : ly_cat v = 1 ∨ ly_cat v = 2 := by
  match v with
  | .inl _ => exact Or.inl rfl
  | .inr (.inl _) => exact Or.inr rfl
  | .inr (.inr (.inl _)) => exact Or.inl rfl
  | .inr (.inr (.inr _)) => exact Or.inl rfl
theorem ly_cats_sl : ∀ {vs : List ly_V} {ws : List Value}, ly_gS ν len vs ws → (lg_sl ws).length = ly_cats vs
  | [], [], _ => rfl
  | v :: vs, w :: ws, g => by
    have ih := ly_cats_sl g.2
    unfold lg_sl at ih ⊢
    rw [List.flatMap_cons, List.length_append, ih]
    show _ = ly_cat v + ly_cats vs
    congr 1
    rw [ly_g_cat g.1]
    rcases ly_cat_12 v with e | e <;> rw [e] <;> rfl
theorem ly_ld_filter {p : Nat × Value → Bool} {i : Nat} {w : Value} : ∀ {l : am_L}, am_ld i l = some w → p (i, w) = true → am_ld i (l.filter p) = some w
  | [], h, _ => by cases h
  | q :: l, h, hp => by
    unfold am_ld at h
    by_cases hq : q.1 = i
    · rw [if_pos hq] at h
      cases h
      have : p q = true := by
        have e : q = (i, q.2) := Prod.ext hq rfl
        rw [e]
        exact hp
      rw [List.filter_cons, if_pos this]
      unfold am_ld
      rw [if_pos hq]
    · rw [if_neg hq] at h
      have ih := ly_ld_filter h hp
      rw [List.filter_cons]
      by_cases hpq : p q = true
      · rw [if_pos hpq]
        unfold am_ld
        rw [if_neg hq]
        exact ih
      · rw [if_neg hpq]
        exact ih
theorem ly_gL_get {i : Nat} {v : ly_V} {l : ly_L} {l' : am_L} (g : ly_gL ν len l l') (h : sx_get i l = some v) : ∃ w, am_ld i l' = some w ∧ ly_g ν len v w := g (i, v) (sx_get_mem h)
theorem ly_gL_st1 {i : Nat} {v : ly_V} {w : Value} {l : ly_L} {l' : am_L} (hl : ly_gL ν len l l') (hg : ly_g ν len v w) : ly_gL ν len (ly_st1 i v l) (am_st1 i w l') := by
  intro q hq
  unfold ly_st1 at hq
  rcases List.mem_cons.mp hq with rfl | hq
  · exact ⟨w, by simp [am_st1, am_ld], hg⟩
  · obtain ⟨hq, hp⟩ := List.mem_filter.mp hq
    obtain ⟨w', e, g⟩ := hl q hq
    refine ⟨w', ?_, g⟩
    unfold am_st1 am_ld
    simp only [Bool.and_eq_true, Bool.not_eq_true'] at hp
    have hne : ¬ i = q.1 := fun e => by
      have := sx_beq_neg hp.1
      exact this e.symm
    rw [if_neg hne]
    refine ly_ld_filter e ?_
    rw [Bool.and_eq_true]
    refine ⟨by rw [sx_beq, hp.1]; rfl, ?_⟩
    rw [sx_beq, sx_beq, ly_g_cat g, hp.2]
    rfl
theorem ly_gL_st2 {i : Nat} {v : ly_V} {w : Value} {l : ly_L} {l' : am_L} (hl : ly_gL ν len l l') (hg : ly_g ν len v w) : ly_gL ν len (ly_st2 i v l) (am_st2 i w l') := by
  intro q hq
  unfold ly_st2 at hq
  rcases List.mem_cons.mp hq with rfl | hq
  · exact ⟨w, by simp [am_st2, am_ld], hg⟩
  · obtain ⟨hq, hp⟩ := List.mem_filter.mp hq
    obtain ⟨w', e, g⟩ := hl q hq
    refine ⟨w', ?_, g⟩
    unfold am_st2 am_ld
    simp only [Bool.and_eq_true, Bool.not_eq_true'] at hp
    have hne : ¬ i = q.1 := fun e => by
      have := sx_beq_neg hp.1
      exact this e.symm
    rw [if_neg hne]
    refine ly_ld_filter e ?_
    rw [Bool.and_eq_true, Bool.and_eq_true]
    refine ⟨by rw [sx_beq, hp.1]; rfl, by rw [sx_beq, hp.2.1]; rfl, ?_⟩
    rw [sx_beq, sx_beq, ly_g_cat g, hp.2.2]
    rfl
theorem ly_ld_args : ∀ {vs : List ly_V} {ws : List Value} {i : Nat} {q : Nat × ly_V}, ly_gS ν len vs ws → q ∈ ly_args i vs → i ≤ q.1 ∧ ∃ w, am_ld q.1 (lv_args i ws) = some w ∧ ly_g ν len q.2 w
  | [], [], i, q, _, h => by cases h
  | v :: vs, w :: ws, i, q, g, h => by
    unfold ly_args at h
    unfold lv_args am_ld
    rcases List.mem_cons.mp h with rfl | h
    · exact ⟨Nat.le_refl _, w, by rw [if_pos rfl], g.1⟩
    · have e : (if w.category = 2 then i + 2 else i + 1) = i + ly_cat v := by
        rw [ly_g_cat g.1]
        rcases ly_cat_12 v with e | e <;> rw [e] <;> rfl
      obtain ⟨hi, w', e', g'⟩ := ly_ld_args g.2 h
      have h12 := ly_cat_12 v
      refine ⟨by omega, w', ?_, g'⟩
      rw [if_neg (show ¬ i = q.1 by omega), e]
      exact e'
theorem ly_gL_args {vs : List ly_V} {ws : List Value} (i : Nat) (g : ly_gS ν len vs ws) : ly_gL ν len (ly_args i vs) (lv_args i ws) := fun _ hq => (ly_ld_args g hq).2
end LY2
