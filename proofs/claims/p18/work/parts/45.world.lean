/-! ===== the world as the checker knows it (printed by a program of mine) ===== -/
def zB_sh : List zp_K := [.inl 11, .inr (1, 700), .inl 10, .inr (3, 4), .inr (0, 64), .inr (3, 4), .inr (0, 20), .inr (0, 4), .inr (0, 4), .inr (0, 4), .inr (0, 8), .inr (0, 8), .inr (0, 700), .inl 0, .inr (0, 8), .inr (0, 8), .inr (0, 8), .inr (0, 8), .inr (0, 64), .inr (0, 64), .inr (0, 30), .inr (0, 30), .inl 10, .inr (3, 4), .inr (0, 64), .inr (3, 4), .inr (0, 20), .inr (0, 4), .inr (0, 4), .inr (0, 4), .inr (0, 8), .inr (0, 8), .inr (0, 700), .inl 0, .inr (0, 8), .inr (0, 8), .inr (0, 8), .inr (0, 8), .inr (0, 64), .inr (0, 64), .inr (0, 30), .inr (0, 30), .inl 0, .inr (0, 8), .inr (0, 8), .inr (0, 8), .inr (0, 8), .inr (0, 64), .inr (0, 64), .inr (0, 30), .inr (0, 30), .inl 7, .inl 9, .inl 2, .inl 8, .inl 3, .inl 5, .inl 8, .inr (0, 64), .inr (0, 8), .inl 1, .inr (0, 8), .inr (0, 8), .inr (3, 8), .inr (0, 8), .inr (0, 256), .inr (0, 8), .inr (0, 8), .inr (0, 8), .inr (0, 8), .inl 4, .inl 6, .inl 12, .inr (0, 64), .inr (0, 32), .inr (0, 128), .inr (0, 20), .inr (0, 12), .inr (0, 8), .inr (0, 8), .inr (0, 1600), .inr (0, 700), .inr (0, 2), .inr (0, 64), .inr (0, 32), .inr (0, 128), .inr (0, 20), .inr (0, 12), .inr (0, 8), .inr (0, 8), .inr (0, 1600), .inr (0, 800), .inr (2, 9), .inr (0, 60), .inr (3, 73), .inr (3, 73), .inr (3, 73), .inr (0, 800), .inr (0, 8), .inr (0, 8), .inr (0, 8), .inr (0, 32), .inr (0, 128), .inr (0, 60), .inr (3, 1)]
def zB_l2 {α : Type} : List (Nat × List (Nat × α)) → Nat → Nat → Option α
  | [], _, _ => none
  | q :: l, p, k => bif Nat.beq q.1 p then zB_l1 q.2 k else zB_l2 l p k
where zB_l1 {α : Type} : List (Nat × α) → Nat → Option α
  | [], _ => none
  | q :: l, k => bif Nat.beq q.1 k then some q.2 else zB_l1 l k
def zB_rf : List (Nat × List (Nat × Option Nat)) := [(0, [(0, some 2), (9, some 43), (11, some 52), (12, some 55), (13, some 56), (14, some 57), (15, some 61), (16, some 71), (17, some 72)]), (2, [(4, some 4), (5, some 5), (6, some 6), (8, some 7), (13, some 8), (14, some 9), (15, some 10), (17, some 11), (18, some 12), (19, some 13)]), (13, [(1, some 15), (2, some 16), (3, some 17), (4, some 18), (5, some 19), (6, some 20), (8, some 21), (9, some 22)]), (22, [(4, some 24), (5, some 25), (6, some 26), (8, some 27), (13, some 28), (14, some 29), (15, some 30), (17, some 31), (18, some 32), (19, some 33)]), (33, [(1, some 35), (2, some 36), (3, some 37), (4, some 38), (5, some 39), (6, some 40), (8, some 41), (9, some 42)]), (42, [(1, some 44), (2, some 45), (3, some 46), (4, some 47), (5, some 48), (6, some 49), (8, some 50), (9, some 51)]), (51, [(0, some 53), (1, some 54)]), (52, [(0, some 2)]), (53, [(0, some 53)]), (56, [(0, some 58), (1, some 59), (3, some 60)]), (60, [(1, some 62), (2, some 63), (3, some 64), (4, some 65), (5, some 66), (7, some 67), (8, some 68), (9, some 69), (10, some 70)]), (72, [(13, some 74), (14, some 75), (15, some 76), (16, some 77), (17, some 78), (18, some 79), (19, some 80), (20, some 81), (21, some 82), (25, some 83), (52, some 84), (53, some 85), (54, some 86), (55, some 87), (56, some 88), (57, some 89), (58, some 90), (59, some 91), (60, some 92), (61, some 93), (63, some 94), (72, some 95), (73, some 96), (74, some 97), (75, some 98), (76, some 99), (77, some 100), (78, some 101), (82, some 102), (83, some 103), (84, some 104)])]
def zB_fr : List (Nat × List (Nat × Int × Int)) := [(0, [(1, (0, 700)), (10, (0, 1))]), (2, [(0, (2, 8)), (1, (2, 8)), (7, (0, 5)), (9, (0, 63)), (12, (0, 4)), (16, (0, 8))]), (13, [(0, (0, 8)), (7, (0, 30))]), (22, [(0, (2, 8)), (1, (2, 8)), (7, (0, 5)), (9, (0, 63)), (12, (0, 4)), (16, (0, 8))]), (33, [(0, (0, 8)), (7, (0, 30))]), (42, [(0, (0, 8)), (7, (0, 30))]), (51, [(2, (0, 1)), (3, (0, 1))]), (52, [(1, (0, 700)), (2, (0, 700)), (3, (0, 700)), (5, ((-2147483648), 2147483647))]), (53, [(1, (0, 700))]), (54, [(0, (0, 63)), (3, (0, 8)), (5, (0, 63))]), (56, [(2, (0, 64))]), (57, [(0, (0, 63)), (3, (0, 8)), (5, (0, 63))]), (60, [(0, (0, 8)), (6, (0, 255)), (11, (0, 8))])]
def zB_ar : List (Nat × Nat × List (Int × Int)) := [(1, 1, [((-128), 127)]), (4, 1, [((-1), 3)]), (7, 1, [(0, 63)]), (10, 1, [(0, 3)]), (11, 1, [(0, 700)]), (14, 1, [(0, 63)]), (16, 1, [(0, 8)]), (18, 1, [(0, 3)]), (20, 1, [(0, 7)]), (24, 1, [((-1), 3)]), (27, 1, [(0, 63)]), (30, 1, [(0, 3)]), (31, 1, [(0, 700)]), (34, 1, [(0, 63)]), (36, 1, [(0, 8)]), (38, 1, [(0, 3)]), (40, 1, [(0, 7)]), (43, 1, [(0, 63)]), (45, 1, [(0, 8)]), (47, 1, [(0, 3)]), (49, 1, [(0, 7)]), (61, 1, [(0, 63)]), (62, 1, [(0, 63)]), (64, 1, [(0, 255)]), (66, 1, [(0, 255)]), (67, 1, [(0, 7)])]
def zB_al : List (Nat × Nat × List (Int × Int)) → Nat → Nat × List (Int × Int)
  | [], _ => (1, [(-2147483648, 2147483647)])
  | q :: l, p => bif Nat.beq q.1 p then q.2 else zB_al l p
def zB_cd : List (Nat × Nat × Int × Nat × Int × Int) := [(52, 4, 3, 5, 0, 21)]
def zB_gk (p k : Nat) : Bool := (Nat.beq p 72).and ((Nat.beq k 28).or ((Nat.beq k 30).or (Nat.beq k 33)))
def zB : zk_B := (zB_sh, zB_l2 zB_rf, zB_l2 zB_fr, zB_al zB_ar, zB_cd, zB_gk)
def zB_fl : List (Nat × Nat) := [(2, 0), (2, 1), (22, 0), (22, 1)]
def zB_fs : List Nat := [3, 23]
def zB_fz (p k : Nat) : Bool := (zk_inm zB_fl p k).or (zk_ina zB_fs p)
/-! ===== summaries that are shown by hand (printed) ===== -/
/-- yX10_nextCell -/
def ze_h0 : zk_T := (30, [.inr (some (some 3)), .inl (0, 63), .inl ((-2147483648), 2147483647)], [], [], [], [(.inl (some (.inl ((-1), (-1)))), [], []), (.inl (some (.inl (0, 63))), [], [])], 1)
/-- yX10_setSize -/
def ze_h1 : zk_T := (3, [.inr (some (some 3)), .inl (2, 8), .inl (2, 8)], [], [(2, 0), (2, 1), (2, 2)], [3], [(.inl none, [], [])], 2)
/-- yX10_nextCell -/
def ze_h2 : zk_T := (30, [.inr (some (some 23)), .inl (0, 63), .inl ((-2147483648), 2147483647)], [], [], [], [(.inl (some (.inl ((-1), (-1)))), [], []), (.inl (some (.inl (0, 63))), [], [])], 1)
/-- yX10_setSize -/
def ze_h3 : zk_T := (3, [.inr (some (some 23)), .inl (2, 8), .inl (2, 8)], [], [(22, 0), (22, 1), (22, 2)], [23], [(.inl none, [], [])], 2)
/-- yJ6_numberOfTrailingZeros_0f7a4 -/
def ze_h4 : zk_T := (147, [.inl (1, 255)], [], [], [], [(.inl (some (.inl (0, 7))), [], [])], 1)
/-- yX9_takeWord -/
def ze_h5 : zk_T := (57, [.inr (some (some 53))], [], [(52, 2), (52, 4), (52, 5)], [], [(.inl none, [(52, 4, 3, 3), (52, 5, 0, 21)], [])], 2)
/-- yX6_alikeFrom -/
def ze_h6 : zk_T := (165, [.inr (some (some 14)), .inl (0, 7), .inl (0, 7), .inl (0, 7), .inl (0, 7)], [], [], [], [(.inl (some (.inl (0, 8))), [], [])], 2)
/-- yX6_alikeFrom -/
def ze_h7 : zk_T := (165, [.inr (some (some 34)), .inl (0, 7), .inl (0, 7), .inl (0, 7), .inl (0, 7)], [], [], [], [(.inl (some (.inl (0, 8))), [], [])], 2)
def zh_l : List zk_T := [ze_h0, ze_h1, ze_h2, ze_h3, ze_h4, ze_h5, ze_h6, ze_h7]
