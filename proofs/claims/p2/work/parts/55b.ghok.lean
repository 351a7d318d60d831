/-! what is said of ghosts holds -/
section LY3G
variable {cst : am_K} {ν : ly_N} {Z : ly_Z} {h h' : am_H}
theorem ly_dg_ok {f f' : Nat → Int → Option Int} {g r : Nat} (hd : ly_has g (ly_dg r) = false) (e : ∀ r', r' ≠ r → ∀ i, f' r' i = f r' i) (i : Int) : ly_gv f' g i = ly_gv f g i := rfl
theorem ly_dg_hi {g r : Nat} (hd : ly_has g (ly_dg r) = true) : 60010 ≤ g := by cases hd
theorem ly_om_ok {r : Nat} {i v : ly_e} {zi zv : Int} (g : ly_gZ cst ν Z h) (hr : r < 60010) (hi : ly_ev ν i = some zi) (hv : ly_ev ν v = some zv) (e1 : ly_h0 cst h' r zi = some zv) (e2 : ∀ r' i', r' ≠ r ∨ i' ≠ zi → ly_h0 cst h' r' i' = ly_h0 cst h r' i') : ly_gK cst ν h' (ly_om Z r i v) := fun q hq => by cases hq
theorem ly_ri_ok {r : Nat} {x e : ly_e} {zx : Int} {Z' : ly_Z} (g : ly_gZ cst ν Z h) (h1 : 60010 ≤ r) (h2 : r < 61000) (hs : ly_ri Z r x = some (Z', e)) (hx : ly_ev ν x = some zx) : ∃ ν', ly_le ν ν' ∧ ly_gZ cst ν' Z' h ∧ ∃ z, ly_ev ν' e = some z := by cases hs
theorem ly_rr_ok {r : Nat} {i : ly_e} {zi : Int} (g : ly_gZ cst ν Z h) (hi : ly_ev ν i = some zi) : ∃ Z1 ∈ ly_rr r i Z, ly_gZ cst ν Z1 h := ⟨Z, List.mem_singleton.mpr rfl, g⟩
end LY3G
