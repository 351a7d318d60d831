/-! PRINTED by wip/whole/gen.py: the checks of the instructions -/
set_option maxRecDepth 100000 in
theorem mtL_ck : am_all mK19 (mtL.1.name == "<init>") mtL = true := by decide +kernel
