/-! PRINTED by wip/p2/gen_law.py: the roads of the switch -/
-- None
theorem lc2532 : lw_chk ly_Y 2532 lw_n lwB lwF lwL [] lwK [] [(18, lwE)] [] 19 261 = true := by decide +kernel
