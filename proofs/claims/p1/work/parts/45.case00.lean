/-! PRINTED by wip/p1/gencases.py: the roads behind the switch -/
def sx_B7 : sx_B := [(sx_min, sx_max), (sx_min, sx_max), (sx_min, sx_max), (sx_min, sx_max), (sx_min, sx_max), (sx_min, sx_max), (sx_min, sx_max), (7, 7)]
def sx_cuts : List (Nat × List Int) → sx_B → List sx_B
  | [], B => [B]
  | q :: cs, B => (sx_cut q.1 q.2 B).flatMap (sx_cuts cs)
noncomputable def sx_go (n pc : Nat) (B : sx_B) : Bool := sx_run sx_T sx_KK m_tt m_cl 100000 0 (fun _ => false) [sx_y2, sx_y3] 2 sx_fin1 n (50, (sxmL, pc, sx_l0, []), [], sx_H0, B, 177, 288833)
/-- every script of the box goes well from this place -/
def sx_well (pc : Nat) (B : sx_B) : Prop := ∃ cs n, (sx_cuts cs B).all (sx_go n pc) = true
