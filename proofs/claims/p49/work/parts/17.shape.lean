/-! THE SHAPE of the world behind both constructors (printed by wip/tools/gen17.py) -/
/-- references; t: what Scan.text holds -/
def rX (t : Option (Nat × Nat)) : tR := fun k i j => (bif Nat.blt k 9 then (bif Nat.blt k 4 then (bif Nat.blt k 2 then (bif Nat.blt k 1 then (bif Nat.beq k 0 then (bif Nat.beq j 19 then some (13, i) else none) else none) else (bif Nat.beq k 1 then (bif Nat.blt j 6 then (bif Nat.blt j 4 then (bif Nat.beq j 3 then some (14, 0) else none) else (bif Nat.blt j 5 then (bif Nat.beq j 4 then some (15, 0) else none) else (bif Nat.beq j 5 then some (16, 0) else none))) else (bif Nat.blt j 8 then (bif Nat.blt j 7 then (bif Nat.beq j 6 then some (17, 0) else none) else (bif Nat.beq j 7 then some (18, 0) else none)) else (bif Nat.blt j 9 then (bif Nat.beq j 8 then some (19, 0) else none) else (bif Nat.beq j 9 then some (20, 0) else none)))) else none)) else (bif Nat.blt k 3 then (bif Nat.beq k 2 then (bif Nat.blt j 2 then (bif Nat.beq j 1 then some (21, 0) else none) else (bif Nat.blt j 3 then (bif Nat.beq j 2 then some (22, 0) else none) else (bif Nat.beq j 3 then some (23, 0) else none))) else none) else (bif Nat.beq k 3 then (bif Nat.blt j 2 then (bif Nat.blt j 1 then (bif Nat.beq j 0 then some (24, 0) else none) else (bif Nat.beq j 1 then some (25, 0) else none)) else (bif Nat.blt j 3 then (bif Nat.beq j 2 then some (1, 0) else none) else (bif Nat.beq j 3 then some (2, 0) else none))) else none))) else (bif Nat.blt k 6 then (bif Nat.blt k 5 then (bif Nat.beq k 4 then (bif Nat.blt j 5 then (bif Nat.blt j 1 then (bif Nat.beq j 0 then some (6, 1) else none) else (bif Nat.beq j 1 then some (6, 2) else none)) else (bif Nat.blt j 6 then (bif Nat.beq j 5 then some (26, 0) else none) else (bif Nat.beq j 6 then some (6, 3) else none))) else none) else (bif Nat.beq k 5 then (bif Nat.blt j 1 then (bif Nat.beq j 0 then some (27, 0) else none) else (bif Nat.blt j 5 then (bif Nat.beq j 1 then some (28, 0) else none) else (bif Nat.beq j 5 then some (29, 0) else none))) else none)) else (bif Nat.blt k 7 then (bif Nat.beq k 6 then (bif Nat.beq j 2 then some (30, i) else none) else none) else (bif Nat.blt k 8 then (bif Nat.beq k 7 then (bif Nat.blt j 1 then (bif Nat.beq j 0 then some (9, 0) else none) else (bif Nat.beq j 1 then t else none)) else none) else (bif Nat.beq k 8 then (bif Nat.beq j 7 then some (31, i) else none) else none))))) else (bif Nat.blt k 24 then (bif Nat.blt k 11 then (bif Nat.blt k 10 then (bif Nat.beq k 9 then (bif Nat.blt j 5 then (bif Nat.blt j 3 then (bif Nat.beq j 2 then some (32, i) else none) else (bif Nat.blt j 4 then (bif Nat.beq j 3 then some (33, i) else none) else (bif Nat.beq j 4 then some (34, i) else none))) else (bif Nat.blt j 7 then (bif Nat.blt j 6 then (bif Nat.beq j 5 then some (35, i) else none) else (bif Nat.beq j 6 then some (36, i) else none)) else (bif Nat.blt j 8 then (bif Nat.beq j 7 then some (37, i) else none) else (bif Nat.beq j 8 then some (38, i) else none)))) else none) else (bif Nat.beq k 10 then (bif Nat.beq j 0 then some (6, 0) else none) else none)) else (bif Nat.blt k 12 then (bif Nat.beq k 11 then (bif Nat.blt j 5 then (bif Nat.blt j 2 then (bif Nat.blt j 1 then (bif Nat.beq j 0 then some (39, 0) else none) else (bif Nat.beq j 1 then some (40, 0) else none)) else (bif Nat.blt j 3 then (bif Nat.beq j 2 then some (41, 0) else none) else (bif Nat.blt j 4 then (bif Nat.beq j 3 then some (7, 0) else none) else (bif Nat.beq j 4 then some (10, 0) else none)))) else (bif Nat.blt j 7 then (bif Nat.blt j 6 then (bif Nat.beq j 5 then some (4, 0) else none) else (bif Nat.beq j 6 then some (5, 0) else none)) else (bif Nat.blt j 8 then (bif Nat.beq j 7 then some (3, 0) else none) else (bif Nat.blt j 9 then (bif Nat.beq j 8 then some (24, 0) else none) else (bif Nat.beq j 9 then some (42, 0) else none))))) else none) else (bif Nat.beq k 12 then (bif Nat.blt j 38 then (bif Nat.blt j 23 then (bif Nat.blt j 11 then (bif Nat.blt j 8 then (bif Nat.blt j 6 then (bif Nat.beq j 1 then some (43, 0) else none) else (bif Nat.blt j 7 then (bif Nat.beq j 6 then some (44, 0) else none) else (bif Nat.beq j 7 then some (45, 0) else none))) else (bif Nat.blt j 9 then (bif Nat.beq j 8 then some (46, 0) else none) else (bif Nat.blt j 10 then (bif Nat.beq j 9 then some (47, 0) else none) else (bif Nat.beq j 10 then some (48, 0) else none)))) else (bif Nat.blt j 17 then (bif Nat.blt j 12 then (bif Nat.beq j 11 then some (49, 0) else none) else (bif Nat.blt j 14 then (bif Nat.beq j 12 then some (50, 0) else none) else (bif Nat.beq j 14 then some (51, 0) else none))) else (bif Nat.blt j 18 then (bif Nat.beq j 17 then some (52, 0) else none) else (bif Nat.blt j 22 then (bif Nat.beq j 18 then some (53, 0) else none) else (bif Nat.beq j 22 then some (54, 0) else none))))) else (bif Nat.blt j 30 then (bif Nat.blt j 27 then (bif Nat.blt j 25 then (bif Nat.beq j 23 then some (55, 0) else none) else (bif Nat.blt j 26 then (bif Nat.beq j 25 then some (56, 0) else none) else (bif Nat.beq j 26 then some (57, 0) else none))) else (bif Nat.blt j 28 then (bif Nat.beq j 27 then some (58, 0) else none) else (bif Nat.blt j 29 then (bif Nat.beq j 28 then some (59, 0) else none) else (bif Nat.beq j 29 then some (60, 0) else none)))) else (bif Nat.blt j 33 then (bif Nat.blt j 31 then (bif Nat.beq j 30 then some (61, 0) else none) else (bif Nat.blt j 32 then (bif Nat.beq j 31 then some (62, 0) else none) else (bif Nat.beq j 32 then some (63, 0) else none))) else (bif Nat.blt j 36 then (bif Nat.blt j 35 then (bif Nat.beq j 33 then some (64, 0) else none) else (bif Nat.beq j 35 then some (65, 0) else none)) else (bif Nat.blt j 37 then (bif Nat.beq j 36 then some (66, 0) else none) else (bif Nat.beq j 37 then some (67, 0) else none)))))) else (bif Nat.blt j 51 then (bif Nat.blt j 44 then (bif Nat.blt j 41 then (bif Nat.blt j 39 then (bif Nat.beq j 38 then some (68, 0) else none) else (bif Nat.blt j 40 then (bif Nat.beq j 39 then some (69, 0) else none) else (bif Nat.beq j 40 then some (70, 0) else none))) else (bif Nat.blt j 42 then (bif Nat.beq j 41 then some (71, 0) else none) else (bif Nat.blt j 43 then (bif Nat.beq j 42 then some (72, 0) else none) else (bif Nat.beq j 43 then some (73, 0) else none)))) else (bif Nat.blt j 47 then (bif Nat.blt j 45 then (bif Nat.beq j 44 then some (74, 0) else none) else (bif Nat.blt j 46 then (bif Nat.beq j 45 then some (75, 0) else none) else (bif Nat.beq j 46 then some (76, 0) else none))) else (bif Nat.blt j 49 then (bif Nat.blt j 48 then (bif Nat.beq j 47 then some (77, 0) else none) else (bif Nat.beq j 48 then some (78, 0) else none)) else (bif Nat.blt j 50 then (bif Nat.beq j 49 then some (79, 0) else none) else (bif Nat.beq j 50 then some (80, 0) else none))))) else (bif Nat.blt j 58 then (bif Nat.blt j 55 then (bif Nat.blt j 52 then (bif Nat.beq j 51 then some (81, 0) else none) else (bif Nat.blt j 53 then (bif Nat.beq j 52 then some (82, 0) else none) else (bif Nat.beq j 53 then some (83, 0) else none))) else (bif Nat.blt j 56 then (bif Nat.beq j 55 then some (84, 0) else none) else (bif Nat.blt j 57 then (bif Nat.beq j 56 then some (85, 0) else none) else (bif Nat.beq j 57 then some (86, 0) else none)))) else (bif Nat.blt j 61 then (bif Nat.blt j 59 then (bif Nat.beq j 58 then some (87, 0) else none) else (bif Nat.blt j 60 then (bif Nat.beq j 59 then some (88, 0) else none) else (bif Nat.beq j 60 then some (89, 0) else none))) else (bif Nat.blt j 66 then (bif Nat.blt j 65 then (bif Nat.beq j 61 then some (90, 0) else none) else (bif Nat.beq j 65 then some (91, 0) else none)) else (bif Nat.blt j 67 then (bif Nat.beq j 66 then some (92, 0) else none) else (bif Nat.beq j 67 then some (93, 0) else none))))))) else none))) else (bif Nat.blt k 39 then (bif Nat.blt k 25 then (bif Nat.beq k 24 then some (8, j) else none) else (bif Nat.beq k 25 then some (0, j) else none)) else (bif Nat.blt k 40 then (bif Nat.beq k 39 then some (6, 4 + j) else none) else (bif Nat.blt k 41 then (bif Nat.beq k 40 then some (6, 10 + j) else none) else (bif Nat.beq k 41 then some (9, 1 + j) else none))))))
def cX : tN := fun k => (bif Nat.blt k 47 then (bif Nat.blt k 23 then (bif Nat.blt k 11 then (bif Nat.blt k 5 then (bif Nat.blt k 2 then (bif Nat.blt k 1 then (bif Nat.beq k 0 then 30 else 0) else (bif Nat.beq k 1 then 1 else 0)) else (bif Nat.blt k 3 then (bif Nat.beq k 2 then 1 else 0) else (bif Nat.blt k 4 then (bif Nat.beq k 3 then 1 else 0) else (bif Nat.beq k 4 then 1 else 0)))) else (bif Nat.blt k 8 then (bif Nat.blt k 6 then (bif Nat.beq k 5 then 1 else 0) else (bif Nat.blt k 7 then (bif Nat.beq k 6 then 16 else 0) else (bif Nat.beq k 7 then 1 else 0))) else (bif Nat.blt k 9 then (bif Nat.beq k 8 then 6 else 0) else (bif Nat.blt k 10 then (bif Nat.beq k 9 then 5 else 0) else (bif Nat.beq k 10 then 1 else 0))))) else (bif Nat.blt k 17 then (bif Nat.blt k 14 then (bif Nat.blt k 12 then (bif Nat.beq k 11 then 1 else 0) else (bif Nat.blt k 13 then (bif Nat.beq k 12 then 1 else 0) else (bif Nat.beq k 13 then 30 else 0))) else (bif Nat.blt k 15 then (bif Nat.beq k 14 then 1 else 0) else (bif Nat.blt k 16 then (bif Nat.beq k 15 then 1 else 0) else (bif Nat.beq k 16 then 1 else 0)))) else (bif Nat.blt k 20 then (bif Nat.blt k 18 then (bif Nat.beq k 17 then 1 else 0) else (bif Nat.blt k 19 then (bif Nat.beq k 18 then 1 else 0) else (bif Nat.beq k 19 then 1 else 0))) else (bif Nat.blt k 21 then (bif Nat.beq k 20 then 1 else 0) else (bif Nat.blt k 22 then (bif Nat.beq k 21 then 1 else 0) else (bif Nat.beq k 22 then 1 else 0)))))) else (bif Nat.blt k 35 then (bif Nat.blt k 29 then (bif Nat.blt k 26 then (bif Nat.blt k 24 then (bif Nat.beq k 23 then 1 else 0) else (bif Nat.blt k 25 then (bif Nat.beq k 24 then 1 else 0) else (bif Nat.beq k 25 then 1 else 0))) else (bif Nat.blt k 27 then (bif Nat.beq k 26 then 1 else 0) else (bif Nat.blt k 28 then (bif Nat.beq k 27 then 1 else 0) else (bif Nat.beq k 28 then 1 else 0)))) else (bif Nat.blt k 32 then (bif Nat.blt k 30 then (bif Nat.beq k 29 then 1 else 0) else (bif Nat.blt k 31 then (bif Nat.beq k 30 then 16 else 0) else (bif Nat.beq k 31 then 6 else 0))) else (bif Nat.blt k 33 then (bif Nat.beq k 32 then 5 else 0) else (bif Nat.blt k 34 then (bif Nat.beq k 33 then 5 else 0) else (bif Nat.beq k 34 then 5 else 0))))) else (bif Nat.blt k 41 then (bif Nat.blt k 38 then (bif Nat.blt k 36 then (bif Nat.beq k 35 then 5 else 0) else (bif Nat.blt k 37 then (bif Nat.beq k 36 then 5 else 0) else (bif Nat.beq k 37 then 5 else 0))) else (bif Nat.blt k 39 then (bif Nat.beq k 38 then 5 else 0) else (bif Nat.blt k 40 then (bif Nat.beq k 39 then 1 else 0) else (bif Nat.beq k 40 then 1 else 0)))) else (bif Nat.blt k 44 then (bif Nat.blt k 42 then (bif Nat.beq k 41 then 1 else 0) else (bif Nat.blt k 43 then (bif Nat.beq k 42 then 1 else 0) else (bif Nat.beq k 43 then 1 else 0))) else (bif Nat.blt k 45 then (bif Nat.beq k 44 then 1 else 0) else (bif Nat.blt k 46 then (bif Nat.beq k 45 then 1 else 0) else (bif Nat.beq k 46 then 1 else 0))))))) else (bif Nat.blt k 70 then (bif Nat.blt k 58 then (bif Nat.blt k 52 then (bif Nat.blt k 49 then (bif Nat.blt k 48 then (bif Nat.beq k 47 then 1 else 0) else (bif Nat.beq k 48 then 1 else 0)) else (bif Nat.blt k 50 then (bif Nat.beq k 49 then 1 else 0) else (bif Nat.blt k 51 then (bif Nat.beq k 50 then 1 else 0) else (bif Nat.beq k 51 then 1 else 0)))) else (bif Nat.blt k 55 then (bif Nat.blt k 53 then (bif Nat.beq k 52 then 1 else 0) else (bif Nat.blt k 54 then (bif Nat.beq k 53 then 1 else 0) else (bif Nat.beq k 54 then 1 else 0))) else (bif Nat.blt k 56 then (bif Nat.beq k 55 then 1 else 0) else (bif Nat.blt k 57 then (bif Nat.beq k 56 then 1 else 0) else (bif Nat.beq k 57 then 1 else 0))))) else (bif Nat.blt k 64 then (bif Nat.blt k 61 then (bif Nat.blt k 59 then (bif Nat.beq k 58 then 1 else 0) else (bif Nat.blt k 60 then (bif Nat.beq k 59 then 1 else 0) else (bif Nat.beq k 60 then 1 else 0))) else (bif Nat.blt k 62 then (bif Nat.beq k 61 then 1 else 0) else (bif Nat.blt k 63 then (bif Nat.beq k 62 then 1 else 0) else (bif Nat.beq k 63 then 1 else 0)))) else (bif Nat.blt k 67 then (bif Nat.blt k 65 then (bif Nat.beq k 64 then 1 else 0) else (bif Nat.blt k 66 then (bif Nat.beq k 65 then 1 else 0) else (bif Nat.beq k 66 then 1 else 0))) else (bif Nat.blt k 68 then (bif Nat.beq k 67 then 1 else 0) else (bif Nat.blt k 69 then (bif Nat.beq k 68 then 1 else 0) else (bif Nat.beq k 69 then 1 else 0)))))) else (bif Nat.blt k 82 then (bif Nat.blt k 76 then (bif Nat.blt k 73 then (bif Nat.blt k 71 then (bif Nat.beq k 70 then 1 else 0) else (bif Nat.blt k 72 then (bif Nat.beq k 71 then 1 else 0) else (bif Nat.beq k 72 then 1 else 0))) else (bif Nat.blt k 74 then (bif Nat.beq k 73 then 1 else 0) else (bif Nat.blt k 75 then (bif Nat.beq k 74 then 1 else 0) else (bif Nat.beq k 75 then 1 else 0)))) else (bif Nat.blt k 79 then (bif Nat.blt k 77 then (bif Nat.beq k 76 then 1 else 0) else (bif Nat.blt k 78 then (bif Nat.beq k 77 then 1 else 0) else (bif Nat.beq k 78 then 1 else 0))) else (bif Nat.blt k 80 then (bif Nat.beq k 79 then 1 else 0) else (bif Nat.blt k 81 then (bif Nat.beq k 80 then 1 else 0) else (bif Nat.beq k 81 then 1 else 0))))) else (bif Nat.blt k 88 then (bif Nat.blt k 85 then (bif Nat.blt k 83 then (bif Nat.beq k 82 then 1 else 0) else (bif Nat.blt k 84 then (bif Nat.beq k 83 then 1 else 0) else (bif Nat.beq k 84 then 1 else 0))) else (bif Nat.blt k 86 then (bif Nat.beq k 85 then 1 else 0) else (bif Nat.blt k 87 then (bif Nat.beq k 86 then 1 else 0) else (bif Nat.beq k 87 then 1 else 0)))) else (bif Nat.blt k 91 then (bif Nat.blt k 89 then (bif Nat.beq k 88 then 1 else 0) else (bif Nat.blt k 90 then (bif Nat.beq k 89 then 1 else 0) else (bif Nat.beq k 90 then 1 else 0))) else (bif Nat.blt k 92 then (bif Nat.beq k 91 then 1 else 0) else (bif Nat.blt k 93 then (bif Nat.beq k 92 then 1 else 0) else (bif Nat.beq k 93 then 1 else 0))))))))
def lX : tM := fun k i => (bif Nat.blt k 53 then (bif Nat.blt k 33 then (bif Nat.blt k 23 then (bif Nat.blt k 18 then (bif Nat.blt k 15 then (bif Nat.blt k 14 then (bif Nat.beq k 13 then 4 else 0) else (bif Nat.beq k 14 then 690 else 0)) else (bif Nat.blt k 16 then (bif Nat.beq k 15 then 690 else 0) else (bif Nat.blt k 17 then (bif Nat.beq k 16 then 690 else 0) else (bif Nat.beq k 17 then 690 else 0)))) else (bif Nat.blt k 20 then (bif Nat.blt k 19 then (bif Nat.beq k 18 then 690 else 0) else (bif Nat.beq k 19 then 690 else 0)) else (bif Nat.blt k 21 then (bif Nat.beq k 20 then 690 else 0) else (bif Nat.blt k 22 then (bif Nat.beq k 21 then 20 else 0) else (bif Nat.beq k 22 then 20 else 0))))) else (bif Nat.blt k 28 then (bif Nat.blt k 25 then (bif Nat.blt k 24 then (bif Nat.beq k 23 then 20 else 0) else (bif Nat.beq k 24 then 6 else 0)) else (bif Nat.blt k 26 then (bif Nat.beq k 25 then 30 else 0) else (bif Nat.blt k 27 then (bif Nat.beq k 26 then 16 else 0) else (bif Nat.beq k 27 then 64 else 0)))) else (bif Nat.blt k 30 then (bif Nat.blt k 29 then (bif Nat.beq k 28 then 64 else 0) else (bif Nat.beq k 29 then 6 else 0)) else (bif Nat.blt k 31 then (bif Nat.beq k 30 then (bif Nat.beq i 0 then 132 else bif Nat.beq i 1 then 120 else 60) else 0) else (bif Nat.blt k 32 then (bif Nat.beq k 31 then 6 else 0) else (bif Nat.beq k 32 then 12 else 0)))))) else (bif Nat.blt k 43 then (bif Nat.blt k 38 then (bif Nat.blt k 35 then (bif Nat.blt k 34 then (bif Nat.beq k 33 then 12 else 0) else (bif Nat.beq k 34 then 12 else 0)) else (bif Nat.blt k 36 then (bif Nat.beq k 35 then 12 else 0) else (bif Nat.blt k 37 then (bif Nat.beq k 36 then 12 else 0) else (bif Nat.beq k 37 then 12 else 0)))) else (bif Nat.blt k 40 then (bif Nat.blt k 39 then (bif Nat.beq k 38 then 160 else 0) else (bif Nat.beq k 39 then 6 else 0)) else (bif Nat.blt k 41 then (bif Nat.beq k 40 then 6 else 0) else (bif Nat.blt k 42 then (bif Nat.beq k 41 then 4 else 0) else (bif Nat.beq k 42 then 6 else 0))))) else (bif Nat.blt k 48 then (bif Nat.blt k 45 then (bif Nat.blt k 44 then (bif Nat.beq k 43 then 6 else 0) else (bif Nat.beq k 44 then 6 else 0)) else (bif Nat.blt k 46 then (bif Nat.beq k 45 then 360 else 0) else (bif Nat.blt k 47 then (bif Nat.beq k 46 then 60 else 0) else (bif Nat.beq k 47 then 6 else 0)))) else (bif Nat.blt k 50 then (bif Nat.blt k 49 then (bif Nat.beq k 48 then 360 else 0) else (bif Nat.beq k 49 then 4 else 0)) else (bif Nat.blt k 51 then (bif Nat.beq k 50 then 288 else 0) else (bif Nat.blt k 52 then (bif Nat.beq k 51 then 72 else 0) else (bif Nat.beq k 52 then 400 else 0))))))) else (bif Nat.blt k 73 then (bif Nat.blt k 63 then (bif Nat.blt k 58 then (bif Nat.blt k 55 then (bif Nat.blt k 54 then (bif Nat.beq k 53 then 16 else 0) else (bif Nat.beq k 54 then 60 else 0)) else (bif Nat.blt k 56 then (bif Nat.beq k 55 then 3 else 0) else (bif Nat.blt k 57 then (bif Nat.beq k 56 then 60 else 0) else (bif Nat.beq k 57 then 6 else 0)))) else (bif Nat.blt k 60 then (bif Nat.blt k 59 then (bif Nat.beq k 58 then 6 else 0) else (bif Nat.beq k 59 then 36 else 0)) else (bif Nat.blt k 61 then (bif Nat.beq k 60 then 64 else 0) else (bif Nat.blt k 62 then (bif Nat.beq k 61 then 64 else 0) else (bif Nat.beq k 62 then 6 else 0))))) else (bif Nat.blt k 68 then (bif Nat.blt k 65 then (bif Nat.blt k 64 then (bif Nat.beq k 63 then 6 else 0) else (bif Nat.beq k 64 then 6 else 0)) else (bif Nat.blt k 66 then (bif Nat.beq k 65 then 30 else 0) else (bif Nat.blt k 67 then (bif Nat.beq k 66 then 30 else 0) else (bif Nat.beq k 67 then 30 else 0)))) else (bif Nat.blt k 70 then (bif Nat.blt k 69 then (bif Nat.beq k 68 then 30 else 0) else (bif Nat.beq k 69 then 30 else 0)) else (bif Nat.blt k 71 then (bif Nat.beq k 70 then 30 else 0) else (bif Nat.blt k 72 then (bif Nat.beq k 71 then 30 else 0) else (bif Nat.beq k 72 then 30 else 0)))))) else (bif Nat.blt k 83 then (bif Nat.blt k 78 then (bif Nat.blt k 75 then (bif Nat.blt k 74 then (bif Nat.beq k 73 then 30 else 0) else (bif Nat.beq k 74 then 30 else 0)) else (bif Nat.blt k 76 then (bif Nat.beq k 75 then 30 else 0) else (bif Nat.blt k 77 then (bif Nat.beq k 76 then 30 else 0) else (bif Nat.beq k 77 then 30 else 0)))) else (bif Nat.blt k 80 then (bif Nat.blt k 79 then (bif Nat.beq k 78 then 30 else 0) else (bif Nat.beq k 79 then 30 else 0)) else (bif Nat.blt k 81 then (bif Nat.beq k 80 then 120 else 0) else (bif Nat.blt k 82 then (bif Nat.beq k 81 then 30 else 0) else (bif Nat.beq k 82 then 30 else 0))))) else (bif Nat.blt k 88 then (bif Nat.blt k 85 then (bif Nat.blt k 84 then (bif Nat.beq k 83 then 30 else 0) else (bif Nat.beq k 84 then 1200 else 0)) else (bif Nat.blt k 86 then (bif Nat.beq k 85 then 1200 else 0) else (bif Nat.blt k 87 then (bif Nat.beq k 86 then 1200 else 0) else (bif Nat.beq k 87 then 1200 else 0)))) else (bif Nat.blt k 91 then (bif Nat.blt k 89 then (bif Nat.beq k 88 then 1200 else 0) else (bif Nat.blt k 90 then (bif Nat.beq k 89 then 1200 else 0) else (bif Nat.beq k 90 then 1200 else 0))) else (bif Nat.blt k 92 then (bif Nat.beq k 91 then 20 else 0) else (bif Nat.blt k 93 then (bif Nat.beq k 92 then 20 else 0) else (bif Nat.beq k 93 then 20 else 0))))))))
theorem am_r0 : am_rt 0 = none := by decide +kernel
theorem am_l0 : am_ml 0 = 1 := by decide +kernel
theorem am_r1 : am_rt 1 = some .int := by decide +kernel
theorem am_l1 : am_ml 1 = 2 := by decide +kernel
theorem am_r2 : am_rt 2 = some .int := by decide +kernel
theorem am_l2 : am_ml 2 = 2 := by decide +kernel
theorem am_r3 : am_rt 3 = some .int := by decide +kernel
theorem am_l3 : am_ml 3 = 1 := by decide +kernel
theorem am_r4 : am_rt 4 = none := by decide +kernel
theorem am_l4 : am_ml 4 = 1 := by decide +kernel
theorem am_r5 : am_rt 5 = some .int := by decide +kernel
theorem am_l5 : am_ml 5 = 8 := by decide +kernel
theorem am_r6 : am_rt 6 = some .int := by decide +kernel
theorem am_l6 : am_ml 6 = 3 := by decide +kernel
theorem am_r7 : am_rt 7 = some .boolean := by decide +kernel
theorem am_l7 : am_ml 7 = 4 := by decide +kernel
theorem am_r8 : am_rt 8 = some .int := by decide +kernel
theorem am_l8 : am_ml 8 = 3 := by decide +kernel
theorem am_r9 : am_rt 9 = none := by decide +kernel
theorem am_l9 : am_ml 9 = 1 := by decide +kernel
theorem am_r10 : am_rt 10 = none := by decide +kernel
theorem am_l10 : am_ml 10 = 5 := by decide +kernel
theorem am_r11 : am_rt 11 = some .boolean := by decide +kernel
theorem am_l11 : am_ml 11 = 6 := by decide +kernel
theorem am_r12 : am_rt 12 = some .int := by decide +kernel
theorem am_l12 : am_ml 12 = 2 := by decide +kernel
theorem am_r13 : am_rt 13 = none := by decide +kernel
theorem am_l13 : am_ml 13 = 2 := by decide +kernel
theorem am_r14 : am_rt 14 = some .int := by decide +kernel
theorem am_l14 : am_ml 14 = 9 := by decide +kernel
theorem am_r15 : am_rt 15 = some .int := by decide +kernel
theorem am_l15 : am_ml 15 = 6 := by decide +kernel
theorem am_r16 : am_rt 16 = none := by decide +kernel
theorem am_l16 : am_ml 16 = 2 := by decide +kernel
theorem am_r17 : am_rt 17 = none := by decide +kernel
theorem am_l17 : am_ml 17 = 3 := by decide +kernel
theorem am_r18 : am_rt 18 = none := by decide +kernel
theorem am_l18 : am_ml 18 = 3 := by decide +kernel
theorem am_r19 : am_rt 19 = some .int := by decide +kernel
theorem am_l19 : am_ml 19 = 3 := by decide +kernel
theorem am_r20 : am_rt 20 = none := by decide +kernel
theorem am_l20 : am_ml 20 = 2 := by decide +kernel
theorem am_r21 : am_rt 21 = some .int := by decide +kernel
theorem am_l21 : am_ml 21 = 5 := by decide +kernel
theorem am_r22 : am_rt 22 = none := by decide +kernel
theorem am_l22 : am_ml 22 = 3 := by decide +kernel
theorem am_r23 : am_rt 23 = none := by decide +kernel
theorem am_l23 : am_ml 23 = 5 := by decide +kernel
theorem am_r24 : am_rt 24 = none := by decide +kernel
theorem am_l24 : am_ml 24 = 2 := by decide +kernel
theorem am_r25 : am_rt 25 = none := by decide +kernel
theorem am_l25 : am_ml 25 = 4 := by decide +kernel
theorem am_r26 : am_rt 26 = none := by decide +kernel
theorem am_l26 : am_ml 26 = 4 := by decide +kernel
theorem am_r27 : am_rt 27 = none := by decide +kernel
theorem am_l27 : am_ml 27 = 4 := by decide +kernel
theorem am_r28 : am_rt 28 = none := by decide +kernel
theorem am_l28 : am_ml 28 = 3 := by decide +kernel
theorem am_r29 : am_rt 29 = none := by decide +kernel
theorem am_l29 : am_ml 29 = 2 := by decide +kernel
theorem am_r30 : am_rt 30 = none := by decide +kernel
theorem am_l30 : am_ml 30 = 3 := by decide +kernel
theorem am_r31 : am_rt 31 = some .boolean := by decide +kernel
theorem am_l31 : am_ml 31 = 2 := by decide +kernel
theorem am_r32 : am_rt 32 = some .int := by decide +kernel
theorem am_l32 : am_ml 32 = 4 := by decide +kernel
theorem am_r33 : am_rt 33 = some .int := by decide +kernel
theorem am_l33 : am_ml 33 = 3 := by decide +kernel
theorem am_r34 : am_rt 34 = some .long := by decide +kernel
theorem am_l34 : am_ml 34 = 4 := by decide +kernel
theorem am_r35 : am_rt 35 = none := by decide +kernel
theorem am_l35 : am_ml 35 = 1 := by decide +kernel
theorem am_r36 : am_rt 36 = some .int := by decide +kernel
theorem am_l36 : am_ml 36 = 12 := by decide +kernel
theorem am_r37 : am_rt 37 = some .int := by decide +kernel
theorem am_l37 : am_ml 37 = 3 := by decide +kernel
theorem am_r38 : am_rt 38 = some .int := by decide +kernel
theorem am_l38 : am_ml 38 = 4 := by decide +kernel
theorem am_r39 : am_rt 39 = some .int := by decide +kernel
theorem am_l39 : am_ml 39 = 3 := by decide +kernel
theorem am_r40 : am_rt 40 = none := by decide +kernel
theorem am_l40 : am_ml 40 = 7 := by decide +kernel
theorem am_r41 : am_rt 41 = some .boolean := by decide +kernel
theorem am_l41 : am_ml 41 = 4 := by decide +kernel
theorem am_r42 : am_rt 42 = none := by decide +kernel
theorem am_l42 : am_ml 42 = 5 := by decide +kernel
theorem am_r43 : am_rt 43 = none := by decide +kernel
theorem am_l43 : am_ml 43 = 7 := by decide +kernel
theorem am_r44 : am_rt 44 = none := by decide +kernel
theorem am_l44 : am_ml 44 = 1 := by decide +kernel
theorem am_r45 : am_rt 45 = none := by decide +kernel
theorem am_l45 : am_ml 45 = 1 := by decide +kernel
theorem am_r46 : am_rt 46 = none := by decide +kernel
theorem am_l46 : am_ml 46 = 6 := by decide +kernel
theorem am_r47 : am_rt 47 = none := by decide +kernel
theorem am_l47 : am_ml 47 = 7 := by decide +kernel
theorem am_r48 : am_rt 48 = none := by decide +kernel
theorem am_l48 : am_ml 48 = 7 := by decide +kernel
theorem am_r49 : am_rt 49 = some .boolean := by decide +kernel
theorem am_l49 : am_ml 49 = 1 := by decide +kernel
theorem am_r50 : am_rt 50 = some .boolean := by decide +kernel
theorem am_l50 : am_ml 50 = 2 := by decide +kernel
theorem am_r51 : am_rt 51 = none := by decide +kernel
theorem am_l51 : am_ml 51 = 1 := by decide +kernel
theorem am_r52 : am_rt 52 = none := by decide +kernel
theorem am_l52 : am_ml 52 = 4 := by decide +kernel
theorem am_r53 : am_rt 53 = some .int := by decide +kernel
theorem am_l53 : am_ml 53 = 3 := by decide +kernel
theorem am_r54 : am_rt 54 = none := by decide +kernel
theorem am_l54 : am_ml 54 = 4 := by decide +kernel
theorem am_r55 : am_rt 55 = some .int := by decide +kernel
theorem am_l55 : am_ml 55 = 3 := by decide +kernel
theorem am_r56 : am_rt 56 = none := by decide +kernel
theorem am_l56 : am_ml 56 = 2 := by decide +kernel
theorem am_r57 : am_rt 57 = none := by decide +kernel
theorem am_l57 : am_ml 57 = 4 := by decide +kernel
theorem am_r58 : am_rt 58 = none := by decide +kernel
theorem am_l58 : am_ml 58 = 2 := by decide +kernel
theorem am_r59 : am_rt 59 = none := by decide +kernel
theorem am_l59 : am_ml 59 = 2 := by decide +kernel
theorem am_r60 : am_rt 60 = none := by decide +kernel
theorem am_l60 : am_ml 60 = 3 := by decide +kernel
theorem am_r61 : am_rt 61 = some .boolean := by decide +kernel
theorem am_l61 : am_ml 61 = 3 := by decide +kernel
theorem am_r62 : am_rt 62 = some .int := by decide +kernel
theorem am_l62 : am_ml 62 = 2 := by decide +kernel
theorem am_r63 : am_rt 63 = none := by decide +kernel
theorem am_l63 : am_ml 63 = 1 := by decide +kernel
theorem am_r64 : am_rt 64 = some .int := by decide +kernel
theorem am_l64 : am_ml 64 = 4 := by decide +kernel
theorem am_r65 : am_rt 65 = some .int := by decide +kernel
theorem am_l65 : am_ml 65 = 1 := by decide +kernel
theorem am_r66 : am_rt 66 = some .int := by decide +kernel
theorem am_l66 : am_ml 66 = 2 := by decide +kernel
theorem am_r67 : am_rt 67 = none := by decide +kernel
theorem am_l67 : am_ml 67 = 2 := by decide +kernel
theorem am_r68 : am_rt 68 = some .int := by decide +kernel
theorem am_l68 : am_ml 68 = 5 := by decide +kernel
theorem am_r69 : am_rt 69 = some .int := by decide +kernel
theorem am_l69 : am_ml 69 = 5 := by decide +kernel
theorem am_r70 : am_rt 70 = none := by decide +kernel
theorem am_l70 : am_ml 70 = 5 := by decide +kernel
theorem am_r71 : am_rt 71 = some .int := by decide +kernel
theorem am_l71 : am_ml 71 = 1 := by decide +kernel
theorem am_r72 : am_rt 72 = some .int := by decide +kernel
theorem am_l72 : am_ml 72 = 1 := by decide +kernel
theorem am_r73 : am_rt 73 = none := by decide +kernel
theorem am_l73 : am_ml 73 = 1 := by decide +kernel
theorem am_r74 : am_rt 74 = none := by decide +kernel
theorem am_l74 : am_ml 74 = 1 := by decide +kernel
theorem am_r75 : am_rt 75 = none := by decide +kernel
theorem am_l75 : am_ml 75 = 2 := by decide +kernel
theorem am_r76 : am_rt 76 = none := by decide +kernel
theorem am_l76 : am_ml 76 = 3 := by decide +kernel
theorem am_r77 : am_rt 77 = none := by decide +kernel
theorem am_l77 : am_ml 77 = 4 := by decide +kernel
theorem am_r78 : am_rt 78 = some .boolean := by decide +kernel
theorem am_l78 : am_ml 78 = 3 := by decide +kernel
theorem am_r79 : am_rt 79 = some .int := by decide +kernel
theorem am_l79 : am_ml 79 = 3 := by decide +kernel
theorem am_r80 : am_rt 80 = some .boolean := by decide +kernel
theorem am_l80 : am_ml 80 = 3 := by decide +kernel
theorem am_r81 : am_rt 81 = some .boolean := by decide +kernel
theorem am_l81 : am_ml 81 = 2 := by decide +kernel
theorem am_r82 : am_rt 82 = some .int := by decide +kernel
theorem am_l82 : am_ml 82 = 4 := by decide +kernel
theorem am_r83 : am_rt 83 = some .int := by decide +kernel
theorem am_l83 : am_ml 83 = 4 := by decide +kernel
theorem am_r84 : am_rt 84 = some .int := by decide +kernel
theorem am_l84 : am_ml 84 = 5 := by decide +kernel
theorem am_r85 : am_rt 85 = some .int := by decide +kernel
theorem am_l85 : am_ml 85 = 7 := by decide +kernel
theorem am_r86 : am_rt 86 = some .boolean := by decide +kernel
theorem am_l86 : am_ml 86 = 3 := by decide +kernel
theorem am_r87 : am_rt 87 = none := by decide +kernel
theorem am_l87 : am_ml 87 = 1 := by decide +kernel
theorem am_r88 : am_rt 88 = some .int := by decide +kernel
theorem am_l88 : am_ml 88 = 6 := by decide +kernel
theorem am_r89 : am_rt 89 = some .int := by decide +kernel
theorem am_l89 : am_ml 89 = 5 := by decide +kernel
theorem am_r90 : am_rt 90 = some .int := by decide +kernel
theorem am_l90 : am_ml 90 = 5 := by decide +kernel
theorem am_r91 : am_rt 91 = some .int := by decide +kernel
theorem am_l91 : am_ml 91 = 2 := by decide +kernel
theorem am_r92 : am_rt 92 = none := by decide +kernel
theorem am_l92 : am_ml 92 = 2 := by decide +kernel
theorem am_r93 : am_rt 93 = some .int := by decide +kernel
theorem am_l93 : am_ml 93 = 3 := by decide +kernel
theorem am_r94 : am_rt 94 = some .int := by decide +kernel
theorem am_l94 : am_ml 94 = 5 := by decide +kernel
theorem am_r95 : am_rt 95 = some .int := by decide +kernel
theorem am_l95 : am_ml 95 = 4 := by decide +kernel
theorem am_r96 : am_rt 96 = some .int := by decide +kernel
theorem am_l96 : am_ml 96 = 2 := by decide +kernel
theorem am_r97 : am_rt 97 = some .int := by decide +kernel
theorem am_l97 : am_ml 97 = 6 := by decide +kernel
theorem am_r98 : am_rt 98 = some .int := by decide +kernel
theorem am_l98 : am_ml 98 = 3 := by decide +kernel
theorem am_r99 : am_rt 99 = some .int := by decide +kernel
theorem am_l99 : am_ml 99 = 5 := by decide +kernel
theorem am_r100 : am_rt 100 = some .int := by decide +kernel
theorem am_l100 : am_ml 100 = 2 := by decide +kernel
theorem am_r101 : am_rt 101 = some .int := by decide +kernel
theorem am_l101 : am_ml 101 = 2 := by decide +kernel
theorem am_r102 : am_rt 102 = some .int := by decide +kernel
theorem am_l102 : am_ml 102 = 3 := by decide +kernel
theorem am_r103 : am_rt 103 = some .int := by decide +kernel
theorem am_l103 : am_ml 103 = 4 := by decide +kernel
theorem am_r104 : am_rt 104 = some .int := by decide +kernel
theorem am_l104 : am_ml 104 = 3 := by decide +kernel
theorem am_r105 : am_rt 105 = some .int := by decide +kernel
theorem am_l105 : am_ml 105 = 6 := by decide +kernel
theorem am_r106 : am_rt 106 = some .int := by decide +kernel
theorem am_l106 : am_ml 106 = 6 := by decide +kernel
theorem am_r107 : am_rt 107 = some .int := by decide +kernel
theorem am_l107 : am_ml 107 = 2 := by decide +kernel
theorem am_r108 : am_rt 108 = some .int := by decide +kernel
theorem am_l108 : am_ml 108 = 2 := by decide +kernel
theorem am_r109 : am_rt 109 = some .int := by decide +kernel
theorem am_l109 : am_ml 109 = 5 := by decide +kernel
theorem am_r110 : am_rt 110 = some .int := by decide +kernel
theorem am_l110 : am_ml 110 = 7 := by decide +kernel
theorem am_r111 : am_rt 111 = some .int := by decide +kernel
theorem am_l111 : am_ml 111 = 4 := by decide +kernel
theorem am_r112 : am_rt 112 = some .int := by decide +kernel
theorem am_l112 : am_ml 112 = 5 := by decide +kernel
theorem am_r113 : am_rt 113 = some .int := by decide +kernel
theorem am_l113 : am_ml 113 = 6 := by decide +kernel
theorem am_r114 : am_rt 114 = some .int := by decide +kernel
theorem am_l114 : am_ml 114 = 1 := by decide +kernel
theorem am_r115 : am_rt 115 = some .int := by decide +kernel
theorem am_l115 : am_ml 115 = 2 := by decide +kernel
theorem am_r116 : am_rt 116 = some .int := by decide +kernel
theorem am_l116 : am_ml 116 = 2 := by decide +kernel
theorem am_r117 : am_rt 117 = some .int := by decide +kernel
theorem am_l117 : am_ml 117 = 5 := by decide +kernel
theorem am_r118 : am_rt 118 = some .int := by decide +kernel
theorem am_l118 : am_ml 118 = 7 := by decide +kernel
theorem am_r119 : am_rt 119 = some .int := by decide +kernel
theorem am_l119 : am_ml 119 = 5 := by decide +kernel
theorem am_r120 : am_rt 120 = some .int := by decide +kernel
theorem am_l120 : am_ml 120 = 3 := by decide +kernel
theorem am_r121 : am_rt 121 = some .int := by decide +kernel
theorem am_l121 : am_ml 121 = 1 := by decide +kernel
theorem am_r122 : am_rt 122 = some .int := by decide +kernel
theorem am_l122 : am_ml 122 = 4 := by decide +kernel
theorem am_r123 : am_rt 123 = some .int := by decide +kernel
theorem am_l123 : am_ml 123 = 2 := by decide +kernel
theorem am_r124 : am_rt 124 = some .int := by decide +kernel
theorem am_l124 : am_ml 124 = 3 := by decide +kernel
theorem am_r125 : am_rt 125 = some .int := by decide +kernel
theorem am_l125 : am_ml 125 = 3 := by decide +kernel
theorem am_r126 : am_rt 126 = some .int := by decide +kernel
theorem am_l126 : am_ml 126 = 2 := by decide +kernel
theorem am_r127 : am_rt 127 = some .int := by decide +kernel
theorem am_l127 : am_ml 127 = 2 := by decide +kernel
theorem am_r128 : am_rt 128 = some .int := by decide +kernel
theorem am_l128 : am_ml 128 = 3 := by decide +kernel
theorem am_r129 : am_rt 129 = some .int := by decide +kernel
theorem am_l129 : am_ml 129 = 3 := by decide +kernel
theorem am_r130 : am_rt 130 = some .int := by decide +kernel
theorem am_l130 : am_ml 130 = 3 := by decide +kernel
theorem am_r131 : am_rt 131 = some .int := by decide +kernel
theorem am_l131 : am_ml 131 = 3 := by decide +kernel
theorem am_r132 : am_rt 132 = some .int := by decide +kernel
theorem am_l132 : am_ml 132 = 3 := by decide +kernel
theorem am_r133 : am_rt 133 = some .int := by decide +kernel
theorem am_l133 : am_ml 133 = 6 := by decide +kernel
theorem am_r134 : am_rt 134 = some .int := by decide +kernel
theorem am_l134 : am_ml 134 = 1 := by decide +kernel
theorem am_r135 : am_rt 135 = some .long := by decide +kernel
theorem am_l135 : am_ml 135 = 1 := by decide +kernel
theorem am_r136 : am_rt 136 = some .long := by decide +kernel
theorem am_l136 : am_ml 136 = 1 := by decide +kernel
theorem am_r137 : am_rt 137 = some .int := by decide +kernel
theorem am_l137 : am_ml 137 = 2 := by decide +kernel
theorem am_r138 : am_rt 138 = some .int := by decide +kernel
theorem am_l138 : am_ml 138 = 1 := by decide +kernel
theorem am_r139 : am_rt 139 = some .int := by decide +kernel
theorem am_l139 : am_ml 139 = 2 := by decide +kernel
theorem am_r140 : am_rt 140 = some .long := by decide +kernel
theorem am_l140 : am_ml 140 = 5 := by decide +kernel
theorem am_r141 : am_rt 141 = some .boolean := by decide +kernel
theorem am_l141 : am_ml 141 = 2 := by decide +kernel
theorem am_r142 : am_rt 142 = some .boolean := by decide +kernel
theorem am_l142 : am_ml 142 = 2 := by decide +kernel
theorem am_r143 : am_rt 143 = some .int := by decide +kernel
theorem am_l143 : am_ml 143 = 2 := by decide +kernel
theorem am_r144 : am_rt 144 = some .int := by decide +kernel
theorem am_l144 : am_ml 144 = 3 := by decide +kernel
theorem am_r145 : am_rt 145 = some .int := by decide +kernel
theorem am_l145 : am_ml 145 = 4 := by decide +kernel
theorem am_r146 : am_rt 146 = some .long := by decide +kernel
theorem am_l146 : am_ml 146 = 11 := by decide +kernel
theorem am_r147 : am_rt 147 = some .int := by decide +kernel
theorem am_l147 : am_ml 147 = 2 := by decide +kernel
theorem am_r148 : am_rt 148 = some .int := by decide +kernel
theorem am_l148 : am_ml 148 = 3 := by decide +kernel
theorem am_r149 : am_rt 149 = some .int := by decide +kernel
theorem am_l149 : am_ml 149 = 3 := by decide +kernel
theorem am_r150 : am_rt 150 = some .long := by decide +kernel
theorem am_l150 : am_ml 150 = 7 := by decide +kernel
theorem am_r151 : am_rt 151 = some .long := by decide +kernel
theorem am_l151 : am_ml 151 = 8 := by decide +kernel
theorem am_r152 : am_rt 152 = some .long := by decide +kernel
theorem am_l152 : am_ml 152 = 6 := by decide +kernel
theorem am_r153 : am_rt 153 = some .long := by decide +kernel
theorem am_l153 : am_ml 153 = 6 := by decide +kernel
theorem am_r154 : am_rt 154 = none := by decide +kernel
theorem am_l154 : am_ml 154 = 2 := by decide +kernel
theorem am_r155 : am_rt 155 = some .boolean := by decide +kernel
theorem am_l155 : am_ml 155 = 3 := by decide +kernel
theorem am_r156 : am_rt 156 = some .int := by decide +kernel
theorem am_l156 : am_ml 156 = 2 := by decide +kernel
theorem am_r157 : am_rt 157 = some .int := by decide +kernel
theorem am_l157 : am_ml 157 = 3 := by decide +kernel
theorem am_r158 : am_rt 158 = some .boolean := by decide +kernel
theorem am_l158 : am_ml 158 = 2 := by decide +kernel
theorem am_r159 : am_rt 159 = some .int := by decide +kernel
theorem am_l159 : am_ml 159 = 3 := by decide +kernel
theorem am_r160 : am_rt 160 = some .boolean := by decide +kernel
theorem am_l160 : am_ml 160 = 1 := by decide +kernel
theorem am_r161 : am_rt 161 = some .int := by decide +kernel
theorem am_l161 : am_ml 161 = 2 := by decide +kernel
theorem am_r162 : am_rt 162 = some .int := by decide +kernel
theorem am_l162 : am_ml 162 = 2 := by decide +kernel
theorem am_r163 : am_rt 163 = some .int := by decide +kernel
theorem am_l163 : am_ml 163 = 4 := by decide +kernel
theorem am_r164 : am_rt 164 = some .int := by decide +kernel
theorem am_l164 : am_ml 164 = 5 := by decide +kernel
theorem am_r165 : am_rt 165 = some .int := by decide +kernel
theorem am_l165 : am_ml 165 = 4 := by decide +kernel
theorem am_r166 : am_rt 166 = some .int := by decide +kernel
theorem am_l166 : am_ml 166 = 3 := by decide +kernel
theorem am_r167 : am_rt 167 = some .int := by decide +kernel
theorem am_l167 : am_ml 167 = 7 := by decide +kernel
theorem am_r168 : am_rt 168 = none := by decide +kernel
theorem am_l168 : am_ml 168 = 4 := by decide +kernel
theorem am_r169 : am_rt 169 = some .int := by decide +kernel
theorem am_l169 : am_ml 169 = 3 := by decide +kernel
theorem am_r170 : am_rt 170 = some .int := by decide +kernel
theorem am_l170 : am_ml 170 = 6 := by decide +kernel
theorem am_r171 : am_rt 171 = some .int := by decide +kernel
theorem am_l171 : am_ml 171 = 3 := by decide +kernel
theorem am_r172 : am_rt 172 = some .boolean := by decide +kernel
theorem am_l172 : am_ml 172 = 1 := by decide +kernel
theorem am_r173 : am_rt 173 = some .int := by decide +kernel
theorem am_l173 : am_ml 173 = 2 := by decide +kernel
theorem am_r174 : am_rt 174 = some .int := by decide +kernel
theorem am_l174 : am_ml 174 = 2 := by decide +kernel
theorem am_r175 : am_rt 175 = some .boolean := by decide +kernel
theorem am_l175 : am_ml 175 = 2 := by decide +kernel
theorem am_r176 : am_rt 176 = some .boolean := by decide +kernel
theorem am_l176 : am_ml 176 = 8 := by decide +kernel
theorem am_r177 : am_rt 177 = some .boolean := by decide +kernel
theorem am_l177 : am_ml 177 = 7 := by decide +kernel
theorem am_r178 : am_rt 178 = some .int := by decide +kernel
theorem am_l178 : am_ml 178 = 2 := by decide +kernel
theorem am_r179 : am_rt 179 = some .int := by decide +kernel
theorem am_l179 : am_ml 179 = 3 := by decide +kernel
theorem am_r180 : am_rt 180 = some .int := by decide +kernel
theorem am_l180 : am_ml 180 = 4 := by decide +kernel
theorem am_r181 : am_rt 181 = some .int := by decide +kernel
theorem am_l181 : am_ml 181 = 4 := by decide +kernel
theorem am_r182 : am_rt 182 = some .int := by decide +kernel
theorem am_l182 : am_ml 182 = 5 := by decide +kernel
theorem am_r183 : am_rt 183 = some .boolean := by decide +kernel
theorem am_l183 : am_ml 183 = 1 := by decide +kernel
theorem am_r184 : am_rt 184 = some .boolean := by decide +kernel
theorem am_l184 : am_ml 184 = 4 := by decide +kernel
theorem am_r185 : am_rt 185 = some .int := by decide +kernel
theorem am_l185 : am_ml 185 = 6 := by decide +kernel
theorem am_r186 : am_rt 186 = some .int := by decide +kernel
theorem am_l186 : am_ml 186 = 7 := by decide +kernel
theorem am_r187 : am_rt 187 = none := by decide +kernel
theorem am_l187 : am_ml 187 = 2 := by decide +kernel
theorem am_r188 : am_rt 188 = some .int := by decide +kernel
theorem am_l188 : am_ml 188 = 10 := by decide +kernel
theorem am_r189 : am_rt 189 = some .int := by decide +kernel
theorem am_l189 : am_ml 189 = 3 := by decide +kernel
theorem am_r190 : am_rt 190 = some .int := by decide +kernel
theorem am_l190 : am_ml 190 = 14 := by decide +kernel
theorem am_r191 : am_rt 191 = some .int := by decide +kernel
theorem am_l191 : am_ml 191 = 12 := by decide +kernel
theorem am_r192 : am_rt 192 = some .int := by decide +kernel
theorem am_l192 : am_ml 192 = 2 := by decide +kernel
theorem am_r193 : am_rt 193 = some .int := by decide +kernel
theorem am_l193 : am_ml 193 = 4 := by decide +kernel
theorem am_r194 : am_rt 194 = some .int := by decide +kernel
theorem am_l194 : am_ml 194 = 8 := by decide +kernel
theorem am_r195 : am_rt 195 = some .int := by decide +kernel
theorem am_l195 : am_ml 195 = 5 := by decide +kernel
theorem am_r196 : am_rt 196 = some .int := by decide +kernel
theorem am_l196 : am_ml 196 = 5 := by decide +kernel
theorem am_r197 : am_rt 197 = some .int := by decide +kernel
theorem am_l197 : am_ml 197 = 4 := by decide +kernel
theorem am_r198 : am_rt 198 = some .int := by decide +kernel
theorem am_l198 : am_ml 198 = 5 := by decide +kernel
theorem am_r199 : am_rt 199 = some .int := by decide +kernel
theorem am_l199 : am_ml 199 = 3 := by decide +kernel
theorem am_r200 : am_rt 200 = some .boolean := by decide +kernel
theorem am_l200 : am_ml 200 = 6 := by decide +kernel
theorem am_r201 : am_rt 201 = some .boolean := by decide +kernel
theorem am_l201 : am_ml 201 = 4 := by decide +kernel
theorem am_r202 : am_rt 202 = some .int := by decide +kernel
theorem am_l202 : am_ml 202 = 4 := by decide +kernel
theorem am_r203 : am_rt 203 = some .int := by decide +kernel
theorem am_l203 : am_ml 203 = 3 := by decide +kernel
theorem am_r204 : am_rt 204 = none := by decide +kernel
theorem am_l204 : am_ml 204 = 4 := by decide +kernel
theorem am_r205 : am_rt 205 = some .int := by decide +kernel
theorem am_l205 : am_ml 205 = 3 := by decide +kernel
theorem am_r206 : am_rt 206 = some .int := by decide +kernel
theorem am_l206 : am_ml 206 = 5 := by decide +kernel
theorem am_r207 : am_rt 207 = some .int := by decide +kernel
theorem am_l207 : am_ml 207 = 2 := by decide +kernel
theorem am_r208 : am_rt 208 = some .int := by decide +kernel
theorem am_l208 : am_ml 208 = 5 := by decide +kernel
theorem am_r209 : am_rt 209 = some .int := by decide +kernel
theorem am_l209 : am_ml 209 = 6 := by decide +kernel
theorem am_r210 : am_rt 210 = some .int := by decide +kernel
theorem am_l210 : am_ml 210 = 4 := by decide +kernel
theorem am_r211 : am_rt 211 = some .int := by decide +kernel
theorem am_l211 : am_ml 211 = 4 := by decide +kernel
theorem am_r212 : am_rt 212 = some .int := by decide +kernel
theorem am_l212 : am_ml 212 = 8 := by decide +kernel
theorem am_r213 : am_rt 213 = some .int := by decide +kernel
theorem am_l213 : am_ml 213 = 2 := by decide +kernel
theorem am_r214 : am_rt 214 = some .boolean := by decide +kernel
theorem am_l214 : am_ml 214 = 1 := by decide +kernel
theorem am_r215 : am_rt 215 = some .int := by decide +kernel
theorem am_l215 : am_ml 215 = 5 := by decide +kernel
theorem am_r216 : am_rt 216 = some .boolean := by decide +kernel
theorem am_l216 : am_ml 216 = 5 := by decide +kernel
theorem am_r217 : am_rt 217 = some .int := by decide +kernel
theorem am_l217 : am_ml 217 = 3 := by decide +kernel
theorem am_r218 : am_rt 218 = some .int := by decide +kernel
theorem am_l218 : am_ml 218 = 5 := by decide +kernel
theorem am_r219 : am_rt 219 = none := by decide +kernel
theorem am_l219 : am_ml 219 = 3 := by decide +kernel
theorem am_r220 : am_rt 220 = some .boolean := by decide +kernel
theorem am_l220 : am_ml 220 = 2 := by decide +kernel
theorem am_r221 : am_rt 221 = some .boolean := by decide +kernel
theorem am_l221 : am_ml 221 = 2 := by decide +kernel
theorem am_r222 : am_rt 222 = none := by decide +kernel
theorem am_l222 : am_ml 222 = 5 := by decide +kernel
theorem am_r223 : am_rt 223 = none := by decide +kernel
theorem am_l223 : am_ml 223 = 3 := by decide +kernel
theorem am_r224 : am_rt 224 = none := by decide +kernel
theorem am_l224 : am_ml 224 = 3 := by decide +kernel
theorem am_r225 : am_rt 225 = none := by decide +kernel
theorem am_l225 : am_ml 225 = 3 := by decide +kernel
theorem am_r226 : am_rt 226 = none := by decide +kernel
theorem am_l226 : am_ml 226 = 2 := by decide +kernel
theorem am_r227 : am_rt 227 = none := by decide +kernel
theorem am_l227 : am_ml 227 = 4 := by decide +kernel
theorem am_r228 : am_rt 228 = some .int := by decide +kernel
theorem am_l228 : am_ml 228 = 5 := by decide +kernel
theorem am_r229 : am_rt 229 = some .int := by decide +kernel
theorem am_l229 : am_ml 229 = 1 := by decide +kernel
theorem am_r230 : am_rt 230 = some .int := by decide +kernel
theorem am_l230 : am_ml 230 = 4 := by decide +kernel
theorem am_r231 : am_rt 231 = some .boolean := by decide +kernel
theorem am_l231 : am_ml 231 = 2 := by decide +kernel
theorem am_r232 : am_rt 232 = some .int := by decide +kernel
theorem am_l232 : am_ml 232 = 2 := by decide +kernel
theorem am_r233 : am_rt 233 = some .int := by decide +kernel
theorem am_l233 : am_ml 233 = 3 := by decide +kernel
theorem am_r234 : am_rt 234 = some .int := by decide +kernel
theorem am_l234 : am_ml 234 = 3 := by decide +kernel
theorem am_r235 : am_rt 235 = some .int := by decide +kernel
theorem am_l235 : am_ml 235 = 3 := by decide +kernel
theorem am_r236 : am_rt 236 = some .int := by decide +kernel
theorem am_l236 : am_ml 236 = 2 := by decide +kernel
theorem am_r237 : am_rt 237 = some .int := by decide +kernel
theorem am_l237 : am_ml 237 = 4 := by decide +kernel
theorem am_r238 : am_rt 238 = some .int := by decide +kernel
theorem am_l238 : am_ml 238 = 2 := by decide +kernel
theorem am_r239 : am_rt 239 = some .int := by decide +kernel
theorem am_l239 : am_ml 239 = 3 := by decide +kernel
theorem am_r240 : am_rt 240 = some .int := by decide +kernel
theorem am_l240 : am_ml 240 = 3 := by decide +kernel
theorem am_r241 : am_rt 241 = some .int := by decide +kernel
theorem am_l241 : am_ml 241 = 4 := by decide +kernel
theorem am_r242 : am_rt 242 = some .int := by decide +kernel
theorem am_l242 : am_ml 242 = 3 := by decide +kernel
theorem am_r243 : am_rt 243 = some .int := by decide +kernel
theorem am_l243 : am_ml 243 = 2 := by decide +kernel
theorem am_r244 : am_rt 244 = some .int := by decide +kernel
theorem am_l244 : am_ml 244 = 3 := by decide +kernel
theorem am_r245 : am_rt 245 = some .int := by decide +kernel
theorem am_l245 : am_ml 245 = 3 := by decide +kernel
theorem am_r246 : am_rt 246 = some .int := by decide +kernel
theorem am_l246 : am_ml 246 = 10 := by decide +kernel
theorem am_r247 : am_rt 247 = some .int := by decide +kernel
theorem am_l247 : am_ml 247 = 1 := by decide +kernel
theorem am_r248 : am_rt 248 = some .long := by decide +kernel
theorem am_l248 : am_ml 248 = 1 := by decide +kernel
theorem am_r249 : am_rt 249 = some .long := by decide +kernel
theorem am_l249 : am_ml 249 = 1 := by decide +kernel
theorem am_r250 : am_rt 250 = some .int := by decide +kernel
theorem am_l250 : am_ml 250 = 4 := by decide +kernel
theorem am_r251 : am_rt 251 = some .int := by decide +kernel
theorem am_l251 : am_ml 251 = 2 := by decide +kernel
theorem am_r252 : am_rt 252 = some .int := by decide +kernel
theorem am_l252 : am_ml 252 = 1 := by decide +kernel
theorem am_r253 : am_rt 253 = some .int := by decide +kernel
theorem am_l253 : am_ml 253 = 2 := by decide +kernel
theorem am_r254 : am_rt 254 = none := by decide +kernel
theorem am_l254 : am_ml 254 = 2 := by decide +kernel
theorem am_r255 : am_rt 255 = none := by decide +kernel
theorem am_l255 : am_ml 255 = 4 := by decide +kernel
theorem am_r256 : am_rt 256 = none := by decide +kernel
theorem am_l256 : am_ml 256 = 3 := by decide +kernel
theorem am_r257 : am_rt 257 = none := by decide +kernel
theorem am_l257 : am_ml 257 = 3 := by decide +kernel
theorem am_r258 : am_rt 258 = some .long := by decide +kernel
theorem am_l258 : am_ml 258 = 3 := by decide +kernel
theorem am_r259 : am_rt 259 = some .int := by decide +kernel
theorem am_l259 : am_ml 259 = 1 := by decide +kernel
theorem am_r260 : am_rt 260 = some .int := by decide +kernel
theorem am_l260 : am_ml 260 = 2 := by decide +kernel
theorem am_r261 : am_rt 261 = some .int := by decide +kernel
theorem am_l261 : am_ml 261 = 2 := by decide +kernel
