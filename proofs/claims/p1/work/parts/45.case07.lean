/-! PRINTED by wip/p1/gencases.py: the roads behind the switch -/
def sx_parts (k : Nat) : List Int → sx_B → List sx_B
  | [], B => [B]
  | p :: ps, B => sx_ref .le k 0 (p, p) B ++ (sx_ref .gt k 0 (p, p) B).flatMap (sx_parts k ps)
def sx_b58_0_0 : sx_B := [(sx_min, sx_max), ((.negSucc 2147483647), (.negSucc 0)), (sx_min, sx_max), ((.negSucc 2147483647), (.ofNat 0)), (sx_min, sx_max), (sx_min, sx_max), (sx_min, sx_max), (7, 7)]
def sx_b58_0_1 : sx_B := [(sx_min, sx_max), ((.negSucc 2147483647), (.negSucc 0)), (sx_min, sx_max), ((.ofNat 1), (.ofNat 8)), (sx_min, sx_max), (sx_min, sx_max), (sx_min, sx_max), (7, 7)]
def sx_b58_0_2 : sx_B := [(sx_min, sx_max), ((.negSucc 2147483647), (.negSucc 0)), (sx_min, sx_max), ((.ofNat 9), (.ofNat 16)), (sx_min, sx_max), (sx_min, sx_max), (sx_min, sx_max), (7, 7)]
def sx_b58_0_3 : sx_B := [(sx_min, sx_max), ((.negSucc 2147483647), (.negSucc 0)), (sx_min, sx_max), ((.ofNat 17), (.ofNat 24)), (sx_min, sx_max), (sx_min, sx_max), (sx_min, sx_max), (7, 7)]
def sx_b58_0_4 : sx_B := [(sx_min, sx_max), ((.negSucc 2147483647), (.negSucc 0)), (sx_min, sx_max), ((.ofNat 25), (.ofNat 32)), (sx_min, sx_max), (sx_min, sx_max), (sx_min, sx_max), (7, 7)]
def sx_b58_0_5 : sx_B := [(sx_min, sx_max), ((.negSucc 2147483647), (.negSucc 0)), (sx_min, sx_max), ((.ofNat 33), (.ofNat 40)), (sx_min, sx_max), (sx_min, sx_max), (sx_min, sx_max), (7, 7)]
def sx_b58_0_6 : sx_B := [(sx_min, sx_max), ((.negSucc 2147483647), (.negSucc 0)), (sx_min, sx_max), ((.ofNat 41), (.ofNat 48)), (sx_min, sx_max), (sx_min, sx_max), (sx_min, sx_max), (7, 7)]
def sx_b58_0_7 : sx_B := [(sx_min, sx_max), ((.negSucc 2147483647), (.negSucc 0)), (sx_min, sx_max), ((.ofNat 49), (.ofNat 56)), (sx_min, sx_max), (sx_min, sx_max), (sx_min, sx_max), (7, 7)]
def sx_b58_0_8 : sx_B := [(sx_min, sx_max), ((.negSucc 2147483647), (.negSucc 0)), (sx_min, sx_max), ((.ofNat 57), (.ofNat 63)), (sx_min, sx_max), (sx_min, sx_max), (sx_min, sx_max), (7, 7)]
def sx_b58_0_9 : sx_B := [(sx_min, sx_max), ((.negSucc 2147483647), (.negSucc 0)), (sx_min, sx_max), ((.ofNat 64), (.ofNat 2147483647)), (sx_min, sx_max), (sx_min, sx_max), (sx_min, sx_max), (7, 7)]
def sx_b58_1_0 : sx_B := [(sx_min, sx_max), ((.ofNat 0), (.ofNat 0)), (sx_min, sx_max), ((.negSucc 2147483647), (.ofNat 0)), (sx_min, sx_max), (sx_min, sx_max), (sx_min, sx_max), (7, 7)]
def sx_b58_1_1 : sx_B := [(sx_min, sx_max), ((.ofNat 0), (.ofNat 0)), (sx_min, sx_max), ((.ofNat 1), (.ofNat 8)), (sx_min, sx_max), (sx_min, sx_max), (sx_min, sx_max), (7, 7)]
def sx_b58_1_2 : sx_B := [(sx_min, sx_max), ((.ofNat 0), (.ofNat 0)), (sx_min, sx_max), ((.ofNat 9), (.ofNat 16)), (sx_min, sx_max), (sx_min, sx_max), (sx_min, sx_max), (7, 7)]
def sx_b58_1_3 : sx_B := [(sx_min, sx_max), ((.ofNat 0), (.ofNat 0)), (sx_min, sx_max), ((.ofNat 17), (.ofNat 24)), (sx_min, sx_max), (sx_min, sx_max), (sx_min, sx_max), (7, 7)]
def sx_b58_1_4 : sx_B := [(sx_min, sx_max), ((.ofNat 0), (.ofNat 0)), (sx_min, sx_max), ((.ofNat 25), (.ofNat 32)), (sx_min, sx_max), (sx_min, sx_max), (sx_min, sx_max), (7, 7)]
def sx_b58_1_5 : sx_B := [(sx_min, sx_max), ((.ofNat 0), (.ofNat 0)), (sx_min, sx_max), ((.ofNat 33), (.ofNat 40)), (sx_min, sx_max), (sx_min, sx_max), (sx_min, sx_max), (7, 7)]
def sx_b58_1_6 : sx_B := [(sx_min, sx_max), ((.ofNat 0), (.ofNat 0)), (sx_min, sx_max), ((.ofNat 41), (.ofNat 48)), (sx_min, sx_max), (sx_min, sx_max), (sx_min, sx_max), (7, 7)]
def sx_b58_1_7 : sx_B := [(sx_min, sx_max), ((.ofNat 0), (.ofNat 0)), (sx_min, sx_max), ((.ofNat 49), (.ofNat 56)), (sx_min, sx_max), (sx_min, sx_max), (sx_min, sx_max), (7, 7)]
def sx_b58_1_8 : sx_B := [(sx_min, sx_max), ((.ofNat 0), (.ofNat 0)), (sx_min, sx_max), ((.ofNat 57), (.ofNat 63)), (sx_min, sx_max), (sx_min, sx_max), (sx_min, sx_max), (7, 7)]
def sx_b58_1_9 : sx_B := [(sx_min, sx_max), ((.ofNat 0), (.ofNat 0)), (sx_min, sx_max), ((.ofNat 64), (.ofNat 2147483647)), (sx_min, sx_max), (sx_min, sx_max), (sx_min, sx_max), (7, 7)]
def sx_b58_2_0 : sx_B := [(sx_min, sx_max), ((.ofNat 1), (.ofNat 1)), (sx_min, sx_max), ((.negSucc 2147483647), (.ofNat 0)), (sx_min, sx_max), (sx_min, sx_max), (sx_min, sx_max), (7, 7)]
def sx_b58_2_1 : sx_B := [(sx_min, sx_max), ((.ofNat 1), (.ofNat 1)), (sx_min, sx_max), ((.ofNat 1), (.ofNat 8)), (sx_min, sx_max), (sx_min, sx_max), (sx_min, sx_max), (7, 7)]
def sx_b58_2_2 : sx_B := [(sx_min, sx_max), ((.ofNat 1), (.ofNat 1)), (sx_min, sx_max), ((.ofNat 9), (.ofNat 16)), (sx_min, sx_max), (sx_min, sx_max), (sx_min, sx_max), (7, 7)]
def sx_b58_2_3 : sx_B := [(sx_min, sx_max), ((.ofNat 1), (.ofNat 1)), (sx_min, sx_max), ((.ofNat 17), (.ofNat 24)), (sx_min, sx_max), (sx_min, sx_max), (sx_min, sx_max), (7, 7)]
def sx_b58_2_4 : sx_B := [(sx_min, sx_max), ((.ofNat 1), (.ofNat 1)), (sx_min, sx_max), ((.ofNat 25), (.ofNat 32)), (sx_min, sx_max), (sx_min, sx_max), (sx_min, sx_max), (7, 7)]
def sx_b58_2_5 : sx_B := [(sx_min, sx_max), ((.ofNat 1), (.ofNat 1)), (sx_min, sx_max), ((.ofNat 33), (.ofNat 40)), (sx_min, sx_max), (sx_min, sx_max), (sx_min, sx_max), (7, 7)]
def sx_b58_2_6 : sx_B := [(sx_min, sx_max), ((.ofNat 1), (.ofNat 1)), (sx_min, sx_max), ((.ofNat 41), (.ofNat 48)), (sx_min, sx_max), (sx_min, sx_max), (sx_min, sx_max), (7, 7)]
def sx_b58_2_7 : sx_B := [(sx_min, sx_max), ((.ofNat 1), (.ofNat 1)), (sx_min, sx_max), ((.ofNat 49), (.ofNat 56)), (sx_min, sx_max), (sx_min, sx_max), (sx_min, sx_max), (7, 7)]
def sx_b58_2_8 : sx_B := [(sx_min, sx_max), ((.ofNat 1), (.ofNat 1)), (sx_min, sx_max), ((.ofNat 57), (.ofNat 63)), (sx_min, sx_max), (sx_min, sx_max), (sx_min, sx_max), (7, 7)]
def sx_b58_2_9 : sx_B := [(sx_min, sx_max), ((.ofNat 1), (.ofNat 1)), (sx_min, sx_max), ((.ofNat 64), (.ofNat 2147483647)), (sx_min, sx_max), (sx_min, sx_max), (sx_min, sx_max), (7, 7)]
def sx_b58_3_0 : sx_B := [(sx_min, sx_max), ((.ofNat 2), (.ofNat 2)), (sx_min, sx_max), ((.negSucc 2147483647), (.ofNat 0)), (sx_min, sx_max), (sx_min, sx_max), (sx_min, sx_max), (7, 7)]
def sx_b58_3_1 : sx_B := [(sx_min, sx_max), ((.ofNat 2), (.ofNat 2)), (sx_min, sx_max), ((.ofNat 1), (.ofNat 8)), (sx_min, sx_max), (sx_min, sx_max), (sx_min, sx_max), (7, 7)]
def sx_b58_3_2 : sx_B := [(sx_min, sx_max), ((.ofNat 2), (.ofNat 2)), (sx_min, sx_max), ((.ofNat 9), (.ofNat 16)), (sx_min, sx_max), (sx_min, sx_max), (sx_min, sx_max), (7, 7)]
def sx_b58_3_3 : sx_B := [(sx_min, sx_max), ((.ofNat 2), (.ofNat 2)), (sx_min, sx_max), ((.ofNat 17), (.ofNat 24)), (sx_min, sx_max), (sx_min, sx_max), (sx_min, sx_max), (7, 7)]
def sx_b58_3_4 : sx_B := [(sx_min, sx_max), ((.ofNat 2), (.ofNat 2)), (sx_min, sx_max), ((.ofNat 25), (.ofNat 32)), (sx_min, sx_max), (sx_min, sx_max), (sx_min, sx_max), (7, 7)]
def sx_b58_3_5 : sx_B := [(sx_min, sx_max), ((.ofNat 2), (.ofNat 2)), (sx_min, sx_max), ((.ofNat 33), (.ofNat 40)), (sx_min, sx_max), (sx_min, sx_max), (sx_min, sx_max), (7, 7)]
def sx_b58_3_6 : sx_B := [(sx_min, sx_max), ((.ofNat 2), (.ofNat 2)), (sx_min, sx_max), ((.ofNat 41), (.ofNat 48)), (sx_min, sx_max), (sx_min, sx_max), (sx_min, sx_max), (7, 7)]
def sx_b58_3_7 : sx_B := [(sx_min, sx_max), ((.ofNat 2), (.ofNat 2)), (sx_min, sx_max), ((.ofNat 49), (.ofNat 56)), (sx_min, sx_max), (sx_min, sx_max), (sx_min, sx_max), (7, 7)]
def sx_b58_3_8 : sx_B := [(sx_min, sx_max), ((.ofNat 2), (.ofNat 2)), (sx_min, sx_max), ((.ofNat 57), (.ofNat 63)), (sx_min, sx_max), (sx_min, sx_max), (sx_min, sx_max), (7, 7)]
def sx_b58_3_9 : sx_B := [(sx_min, sx_max), ((.ofNat 2), (.ofNat 2)), (sx_min, sx_max), ((.ofNat 64), (.ofNat 2147483647)), (sx_min, sx_max), (sx_min, sx_max), (sx_min, sx_max), (7, 7)]
def sx_b58_4_0 : sx_B := [(sx_min, sx_max), ((.ofNat 3), (.ofNat 3)), (sx_min, sx_max), ((.negSucc 2147483647), (.ofNat 0)), (sx_min, sx_max), (sx_min, sx_max), (sx_min, sx_max), (7, 7)]
def sx_b58_4_1 : sx_B := [(sx_min, sx_max), ((.ofNat 3), (.ofNat 3)), (sx_min, sx_max), ((.ofNat 1), (.ofNat 8)), (sx_min, sx_max), (sx_min, sx_max), (sx_min, sx_max), (7, 7)]
def sx_b58_4_2 : sx_B := [(sx_min, sx_max), ((.ofNat 3), (.ofNat 3)), (sx_min, sx_max), ((.ofNat 9), (.ofNat 16)), (sx_min, sx_max), (sx_min, sx_max), (sx_min, sx_max), (7, 7)]
def sx_b58_4_3 : sx_B := [(sx_min, sx_max), ((.ofNat 3), (.ofNat 3)), (sx_min, sx_max), ((.ofNat 17), (.ofNat 24)), (sx_min, sx_max), (sx_min, sx_max), (sx_min, sx_max), (7, 7)]
def sx_b58_4_4 : sx_B := [(sx_min, sx_max), ((.ofNat 3), (.ofNat 3)), (sx_min, sx_max), ((.ofNat 25), (.ofNat 32)), (sx_min, sx_max), (sx_min, sx_max), (sx_min, sx_max), (7, 7)]
def sx_b58_4_5 : sx_B := [(sx_min, sx_max), ((.ofNat 3), (.ofNat 3)), (sx_min, sx_max), ((.ofNat 33), (.ofNat 40)), (sx_min, sx_max), (sx_min, sx_max), (sx_min, sx_max), (7, 7)]
def sx_b58_4_6 : sx_B := [(sx_min, sx_max), ((.ofNat 3), (.ofNat 3)), (sx_min, sx_max), ((.ofNat 41), (.ofNat 48)), (sx_min, sx_max), (sx_min, sx_max), (sx_min, sx_max), (7, 7)]
def sx_b58_4_7 : sx_B := [(sx_min, sx_max), ((.ofNat 3), (.ofNat 3)), (sx_min, sx_max), ((.ofNat 49), (.ofNat 56)), (sx_min, sx_max), (sx_min, sx_max), (sx_min, sx_max), (7, 7)]
def sx_b58_4_8 : sx_B := [(sx_min, sx_max), ((.ofNat 3), (.ofNat 3)), (sx_min, sx_max), ((.ofNat 57), (.ofNat 63)), (sx_min, sx_max), (sx_min, sx_max), (sx_min, sx_max), (7, 7)]
def sx_b58_4_9 : sx_B := [(sx_min, sx_max), ((.ofNat 3), (.ofNat 3)), (sx_min, sx_max), ((.ofNat 64), (.ofNat 2147483647)), (sx_min, sx_max), (sx_min, sx_max), (sx_min, sx_max), (7, 7)]
def sx_b58_5_0 : sx_B := [(sx_min, sx_max), ((.ofNat 4), (.ofNat 4)), (sx_min, sx_max), ((.negSucc 2147483647), (.ofNat 0)), (sx_min, sx_max), (sx_min, sx_max), (sx_min, sx_max), (7, 7)]
def sx_b58_5_1 : sx_B := [(sx_min, sx_max), ((.ofNat 4), (.ofNat 4)), (sx_min, sx_max), ((.ofNat 1), (.ofNat 8)), (sx_min, sx_max), (sx_min, sx_max), (sx_min, sx_max), (7, 7)]
def sx_b58_5_2 : sx_B := [(sx_min, sx_max), ((.ofNat 4), (.ofNat 4)), (sx_min, sx_max), ((.ofNat 9), (.ofNat 16)), (sx_min, sx_max), (sx_min, sx_max), (sx_min, sx_max), (7, 7)]
def sx_b58_5_3 : sx_B := [(sx_min, sx_max), ((.ofNat 4), (.ofNat 4)), (sx_min, sx_max), ((.ofNat 17), (.ofNat 24)), (sx_min, sx_max), (sx_min, sx_max), (sx_min, sx_max), (7, 7)]
def sx_b58_5_4 : sx_B := [(sx_min, sx_max), ((.ofNat 4), (.ofNat 4)), (sx_min, sx_max), ((.ofNat 25), (.ofNat 32)), (sx_min, sx_max), (sx_min, sx_max), (sx_min, sx_max), (7, 7)]
def sx_b58_5_5 : sx_B := [(sx_min, sx_max), ((.ofNat 4), (.ofNat 4)), (sx_min, sx_max), ((.ofNat 33), (.ofNat 40)), (sx_min, sx_max), (sx_min, sx_max), (sx_min, sx_max), (7, 7)]
def sx_b58_5_6 : sx_B := [(sx_min, sx_max), ((.ofNat 4), (.ofNat 4)), (sx_min, sx_max), ((.ofNat 41), (.ofNat 48)), (sx_min, sx_max), (sx_min, sx_max), (sx_min, sx_max), (7, 7)]
def sx_b58_5_7 : sx_B := [(sx_min, sx_max), ((.ofNat 4), (.ofNat 4)), (sx_min, sx_max), ((.ofNat 49), (.ofNat 56)), (sx_min, sx_max), (sx_min, sx_max), (sx_min, sx_max), (7, 7)]
def sx_b58_5_8 : sx_B := [(sx_min, sx_max), ((.ofNat 4), (.ofNat 4)), (sx_min, sx_max), ((.ofNat 57), (.ofNat 63)), (sx_min, sx_max), (sx_min, sx_max), (sx_min, sx_max), (7, 7)]
def sx_b58_5_9 : sx_B := [(sx_min, sx_max), ((.ofNat 4), (.ofNat 4)), (sx_min, sx_max), ((.ofNat 64), (.ofNat 2147483647)), (sx_min, sx_max), (sx_min, sx_max), (sx_min, sx_max), (7, 7)]
def sx_b58_6_0 : sx_B := [(sx_min, sx_max), ((.ofNat 5), (.ofNat 5)), (sx_min, sx_max), ((.negSucc 2147483647), (.ofNat 0)), (sx_min, sx_max), (sx_min, sx_max), (sx_min, sx_max), (7, 7)]
def sx_b58_6_1 : sx_B := [(sx_min, sx_max), ((.ofNat 5), (.ofNat 5)), (sx_min, sx_max), ((.ofNat 1), (.ofNat 8)), (sx_min, sx_max), (sx_min, sx_max), (sx_min, sx_max), (7, 7)]
def sx_b58_6_2 : sx_B := [(sx_min, sx_max), ((.ofNat 5), (.ofNat 5)), (sx_min, sx_max), ((.ofNat 9), (.ofNat 16)), (sx_min, sx_max), (sx_min, sx_max), (sx_min, sx_max), (7, 7)]
def sx_b58_6_3 : sx_B := [(sx_min, sx_max), ((.ofNat 5), (.ofNat 5)), (sx_min, sx_max), ((.ofNat 17), (.ofNat 24)), (sx_min, sx_max), (sx_min, sx_max), (sx_min, sx_max), (7, 7)]
def sx_b58_6_4 : sx_B := [(sx_min, sx_max), ((.ofNat 5), (.ofNat 5)), (sx_min, sx_max), ((.ofNat 25), (.ofNat 32)), (sx_min, sx_max), (sx_min, sx_max), (sx_min, sx_max), (7, 7)]
def sx_b58_6_5 : sx_B := [(sx_min, sx_max), ((.ofNat 5), (.ofNat 5)), (sx_min, sx_max), ((.ofNat 33), (.ofNat 40)), (sx_min, sx_max), (sx_min, sx_max), (sx_min, sx_max), (7, 7)]
def sx_b58_6_6 : sx_B := [(sx_min, sx_max), ((.ofNat 5), (.ofNat 5)), (sx_min, sx_max), ((.ofNat 41), (.ofNat 48)), (sx_min, sx_max), (sx_min, sx_max), (sx_min, sx_max), (7, 7)]
def sx_b58_6_7 : sx_B := [(sx_min, sx_max), ((.ofNat 5), (.ofNat 5)), (sx_min, sx_max), ((.ofNat 49), (.ofNat 56)), (sx_min, sx_max), (sx_min, sx_max), (sx_min, sx_max), (7, 7)]
def sx_b58_6_8 : sx_B := [(sx_min, sx_max), ((.ofNat 5), (.ofNat 5)), (sx_min, sx_max), ((.ofNat 57), (.ofNat 63)), (sx_min, sx_max), (sx_min, sx_max), (sx_min, sx_max), (7, 7)]
def sx_b58_6_9 : sx_B := [(sx_min, sx_max), ((.ofNat 5), (.ofNat 5)), (sx_min, sx_max), ((.ofNat 64), (.ofNat 2147483647)), (sx_min, sx_max), (sx_min, sx_max), (sx_min, sx_max), (7, 7)]
def sx_b58_7_0 : sx_B := [(sx_min, sx_max), ((.ofNat 6), (.ofNat 2147483647)), (sx_min, sx_max), ((.negSucc 2147483647), (.ofNat 0)), (sx_min, sx_max), (sx_min, sx_max), (sx_min, sx_max), (7, 7)]
def sx_b58_7_1 : sx_B := [(sx_min, sx_max), ((.ofNat 6), (.ofNat 2147483647)), (sx_min, sx_max), ((.ofNat 1), (.ofNat 8)), (sx_min, sx_max), (sx_min, sx_max), (sx_min, sx_max), (7, 7)]
def sx_b58_7_2 : sx_B := [(sx_min, sx_max), ((.ofNat 6), (.ofNat 2147483647)), (sx_min, sx_max), ((.ofNat 9), (.ofNat 16)), (sx_min, sx_max), (sx_min, sx_max), (sx_min, sx_max), (7, 7)]
def sx_b58_7_3 : sx_B := [(sx_min, sx_max), ((.ofNat 6), (.ofNat 2147483647)), (sx_min, sx_max), ((.ofNat 17), (.ofNat 24)), (sx_min, sx_max), (sx_min, sx_max), (sx_min, sx_max), (7, 7)]
def sx_b58_7_4 : sx_B := [(sx_min, sx_max), ((.ofNat 6), (.ofNat 2147483647)), (sx_min, sx_max), ((.ofNat 25), (.ofNat 32)), (sx_min, sx_max), (sx_min, sx_max), (sx_min, sx_max), (7, 7)]
def sx_b58_7_5 : sx_B := [(sx_min, sx_max), ((.ofNat 6), (.ofNat 2147483647)), (sx_min, sx_max), ((.ofNat 33), (.ofNat 40)), (sx_min, sx_max), (sx_min, sx_max), (sx_min, sx_max), (7, 7)]
def sx_b58_7_6 : sx_B := [(sx_min, sx_max), ((.ofNat 6), (.ofNat 2147483647)), (sx_min, sx_max), ((.ofNat 41), (.ofNat 48)), (sx_min, sx_max), (sx_min, sx_max), (sx_min, sx_max), (7, 7)]
def sx_b58_7_7 : sx_B := [(sx_min, sx_max), ((.ofNat 6), (.ofNat 2147483647)), (sx_min, sx_max), ((.ofNat 49), (.ofNat 56)), (sx_min, sx_max), (sx_min, sx_max), (sx_min, sx_max), (7, 7)]
def sx_b58_7_8 : sx_B := [(sx_min, sx_max), ((.ofNat 6), (.ofNat 2147483647)), (sx_min, sx_max), ((.ofNat 57), (.ofNat 63)), (sx_min, sx_max), (sx_min, sx_max), (sx_min, sx_max), (7, 7)]
def sx_b58_7_9 : sx_B := [(sx_min, sx_max), ((.ofNat 6), (.ofNat 2147483647)), (sx_min, sx_max), ((.ofNat 64), (.ofNat 2147483647)), (sx_min, sx_max), (sx_min, sx_max), (sx_min, sx_max), (7, 7)]
set_option maxRecDepth 1000000 in
theorem sxc58_b : (sx_cut 1 [0, 1, 2, 3, 4, 5] sx_B7).flatMap (sx_parts 3 [0, 8, 16, 24, 32, 40, 48, 56, 63]) = [sx_b58_0_0, sx_b58_0_1, sx_b58_0_2, sx_b58_0_3, sx_b58_0_4, sx_b58_0_5, sx_b58_0_6, sx_b58_0_7, sx_b58_0_8, sx_b58_0_9, sx_b58_1_0, sx_b58_1_1, sx_b58_1_2, sx_b58_1_3, sx_b58_1_4, sx_b58_1_5, sx_b58_1_6, sx_b58_1_7, sx_b58_1_8, sx_b58_1_9, sx_b58_2_0, sx_b58_2_1, sx_b58_2_2, sx_b58_2_3, sx_b58_2_4, sx_b58_2_5, sx_b58_2_6, sx_b58_2_7, sx_b58_2_8, sx_b58_2_9, sx_b58_3_0, sx_b58_3_1, sx_b58_3_2, sx_b58_3_3, sx_b58_3_4, sx_b58_3_5, sx_b58_3_6, sx_b58_3_7, sx_b58_3_8, sx_b58_3_9, sx_b58_4_0, sx_b58_4_1, sx_b58_4_2, sx_b58_4_3, sx_b58_4_4, sx_b58_4_5, sx_b58_4_6, sx_b58_4_7, sx_b58_4_8, sx_b58_4_9, sx_b58_5_0, sx_b58_5_1, sx_b58_5_2, sx_b58_5_3, sx_b58_5_4, sx_b58_5_5, sx_b58_5_6, sx_b58_5_7, sx_b58_5_8, sx_b58_5_9, sx_b58_6_0, sx_b58_6_1, sx_b58_6_2, sx_b58_6_3, sx_b58_6_4, sx_b58_6_5, sx_b58_6_6, sx_b58_6_7, sx_b58_6_8, sx_b58_6_9, sx_b58_7_0, sx_b58_7_1, sx_b58_7_2, sx_b58_7_3, sx_b58_7_4, sx_b58_7_5, sx_b58_7_6, sx_b58_7_7, sx_b58_7_8, sx_b58_7_9] := by decide +kernel
set_option maxRecDepth 1000000 in
theorem sxc58_0_0 : (sx_cuts [] sx_b58_0_0).all (sx_go 20000 2212) = true := by decide +kernel
set_option maxRecDepth 1000000 in
theorem sxc58_0_1 : (sx_cuts [] sx_b58_0_1).all (sx_go 20000 2212) = true := by decide +kernel
set_option maxRecDepth 1000000 in
theorem sxc58_0_2 : (sx_cuts [] sx_b58_0_2).all (sx_go 20000 2212) = true := by decide +kernel
set_option maxRecDepth 1000000 in
theorem sxc58_0_3 : (sx_cuts [] sx_b58_0_3).all (sx_go 20000 2212) = true := by decide +kernel
set_option maxRecDepth 1000000 in
theorem sxc58_0_4 : (sx_cuts [] sx_b58_0_4).all (sx_go 20000 2212) = true := by decide +kernel
set_option maxRecDepth 1000000 in
theorem sxc58_0_5 : (sx_cuts [] sx_b58_0_5).all (sx_go 20000 2212) = true := by decide +kernel
set_option maxRecDepth 1000000 in
theorem sxc58_0_6 : (sx_cuts [] sx_b58_0_6).all (sx_go 20000 2212) = true := by decide +kernel
set_option maxRecDepth 1000000 in
theorem sxc58_0_7 : (sx_cuts [] sx_b58_0_7).all (sx_go 20000 2212) = true := by decide +kernel
set_option maxRecDepth 1000000 in
theorem sxc58_0_8 : (sx_cuts [] sx_b58_0_8).all (sx_go 20000 2212) = true := by decide +kernel
set_option maxRecDepth 1000000 in
theorem sxc58_0_9 : (sx_cuts [] sx_b58_0_9).all (sx_go 20000 2212) = true := by decide +kernel
set_option maxRecDepth 1000000 in
theorem sxc58_1_0 : (sx_cuts [] sx_b58_1_0).all (sx_go 20000 2212) = true := by decide +kernel
set_option maxRecDepth 1000000 in
theorem sxc58_1_9 : (sx_cuts [] sx_b58_1_9).all (sx_go 20000 2212) = true := by decide +kernel
set_option maxRecDepth 1000000 in
theorem sxc58_2_0 : (sx_cuts [] sx_b58_2_0).all (sx_go 20000 2212) = true := by decide +kernel
set_option maxRecDepth 1000000 in
theorem sxc58_2_9 : (sx_cuts [] sx_b58_2_9).all (sx_go 20000 2212) = true := by decide +kernel
set_option maxRecDepth 1000000 in
theorem sxc58_3_0 : (sx_cuts [] sx_b58_3_0).all (sx_go 20000 2212) = true := by decide +kernel
set_option maxRecDepth 1000000 in
theorem sxc58_3_9 : (sx_cuts [] sx_b58_3_9).all (sx_go 20000 2212) = true := by decide +kernel
set_option maxRecDepth 1000000 in
theorem sxc58_4_0 : (sx_cuts [] sx_b58_4_0).all (sx_go 20000 2212) = true := by decide +kernel
set_option maxRecDepth 1000000 in
theorem sxc58_4_9 : (sx_cuts [] sx_b58_4_9).all (sx_go 20000 2212) = true := by decide +kernel
set_option maxRecDepth 1000000 in
theorem sxc58_5_0 : (sx_cuts [] sx_b58_5_0).all (sx_go 20000 2212) = true := by decide +kernel
set_option maxRecDepth 1000000 in
theorem sxc58_5_9 : (sx_cuts [] sx_b58_5_9).all (sx_go 20000 2212) = true := by decide +kernel
set_option maxRecDepth 1000000 in
theorem sxc58_6_0 : (sx_cuts [] sx_b58_6_0).all (sx_go 20000 2212) = true := by decide +kernel
set_option maxRecDepth 1000000 in
theorem sxc58_6_9 : (sx_cuts [] sx_b58_6_9).all (sx_go 20000 2212) = true := by decide +kernel
set_option maxRecDepth 1000000 in
theorem sxc58_7_0 : (sx_cuts [] sx_b58_7_0).all (sx_go 20000 2212) = true := by decide +kernel
set_option maxRecDepth 1000000 in
theorem sxc58_7_1 : (sx_cuts [] sx_b58_7_1).all (sx_go 20000 2212) = true := by decide +kernel
set_option maxRecDepth 1000000 in
theorem sxc58_7_2 : (sx_cuts [] sx_b58_7_2).all (sx_go 20000 2212) = true := by decide +kernel
set_option maxRecDepth 1000000 in
theorem sxc58_7_3 : (sx_cuts [] sx_b58_7_3).all (sx_go 20000 2212) = true := by decide +kernel
set_option maxRecDepth 1000000 in
theorem sxc58_7_4 : (sx_cuts [] sx_b58_7_4).all (sx_go 20000 2212) = true := by decide +kernel
set_option maxRecDepth 1000000 in
theorem sxc58_7_5 : (sx_cuts [] sx_b58_7_5).all (sx_go 20000 2212) = true := by decide +kernel
set_option maxRecDepth 1000000 in
theorem sxc58_7_6 : (sx_cuts [] sx_b58_7_6).all (sx_go 20000 2212) = true := by decide +kernel
set_option maxRecDepth 1000000 in
theorem sxc58_7_7 : (sx_cuts [] sx_b58_7_7).all (sx_go 20000 2212) = true := by decide +kernel
set_option maxRecDepth 1000000 in
theorem sxc58_7_8 : (sx_cuts [] sx_b58_7_8).all (sx_go 20000 2212) = true := by decide +kernel
set_option maxRecDepth 1000000 in
theorem sxc58_7_9 : (sx_cuts [] sx_b58_7_9).all (sx_go 20000 2212) = true := by decide +kernel
