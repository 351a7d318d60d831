/-! stores into rows as functions (where 76s.tell is not there) -/
theorem hp_sub2 {ms ms' : List Nat} (h : ms.all (fun q => ly_has q ms') = true) {cst : am_K} {a b : am_H} (f : ly_fr cst ms a b) : ly_fr cst ms' a b := by
  intro r i v hr e
  refine f r i v ?_ e
  cases hh : ly_has r ms with
  | false => rfl
  | true =>
    unfold ly_has at hh
    obtain ⟨q, hq, hqe⟩ := List.any_eq_true.mp hh
    have := List.all_eq_true.mp h q hq
    rw [← sx_beqn.mp hqe, this] at hr
    cases hr
def hp_upd (f : Int → Option Int) (k v : Int) : Int → Option Int := fun i => if i = k then some v else f i
theorem hp_put_eq {cst : am_K} {r : Nat} {k v : Int} {h h' : am_H} (p : hp_put cst r k v h h') : ly_hv cst h' r = hp_upd (ly_hv cst h r) k v := by
  funext i
  unfold hp_upd
  by_cases q : i = k
  · rw [if_pos q, q]
    exact p.1
  · rw [if_neg q]
    exact p.2 r i (Or.inr q)
theorem hp_put_ne {cst : am_K} {r r' : Nat} {k v : Int} {h h' : am_H} (p : hp_put cst r k v h h') (q : r' ≠ r) : ly_hv cst h' r' = ly_hv cst h r' := funext fun i => p.2 r' i (Or.inl q)
