/-! PRINTED by wip/whole/gen.py: the checks of the instructions -/
theorem mtL_ck : am_all mK16 false mtL = true := by decide +kernel
