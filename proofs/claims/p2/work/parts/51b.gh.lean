/-! ghosts: what is worked out of regions, by number from 60010 on; which ghosts hang on a region; what a write leaves of them; what can be told of them; what a read tells -/
def ly_gv (f : Nat → Int → Option Int) (r : Nat) (i : Int) : Option Int := none
def ly_dg (r : Nat) : List Nat := []
def ly_om (Z : ly_Z) (r : Nat) (i v : ly_e) : ly_K := []
def ly_ri (Z : ly_Z) (r : Nat) (x : ly_e) : Option (ly_Z × ly_e) := none
def ly_rr (r : Nat) (i : ly_e) (Z : ly_Z) : List ly_Z := [Z]
