/-! the cells in their order, and the memory of the start -/
def Wjo (tc : Nat → ClassId) (q5 q6 a0 a1 a2 : Nat) (g h : Nat → Nat) : va_W := [(q5, .inr (5, [.ref (g 0), .ref (g 1), .ref (g 26), .ref (g 2), .ref (g 27), .ref (g 51), .ref (g 52), .ref (g 53), .ref (g 57), .int 0, .int 0, .int 0])), ((g 0), .inl (tc 3, 3, .inr (.inr (.inr (.inr (va_up (va_up (va_up (fun _ => none) (Int32.toNatClampNeg 0) (some (g 59))) (Int32.toNatClampNeg 1) (some (g 61))) (Int32.toNatClampNeg 2) (some (g 63)))))))), ((g 1), .inr (0, [.ref (g 2), .ref (g 13), .ref (g 14), .ref (g 15), .ref (g 16), .ref (g 17), .ref (g 18), .ref (g 19), .ref (g 20), .ref (g 21), .ref (g 22), .ref (g 23), .ref (g 24), .ref (g 25), .int (-1)])), ((g 2), .inr (4, [.int 0, .int 0, .int 0, .int 9, .int 0, .ref (g 3), .ref (g 4), .ref (g 5), .ref (g 6), .ref (g 7), .ref (g 8), .ref (g 9), .ref (g 10), .ref (g 11), .ref (g 12)])), ((g 3), .inl (tc 0, 8, .inl (fun _ => 0))), ((g 4), .inl (tc 0, 8, .inl (fun _ => 0))), ((g 5), .inl (tc 0, 8, .inl (fun _ => 0))), ((g 6), .inl (tc 0, 8, .inl (fun _ => 0))), ((g 7), .inl (tc 0, 8, .inl (fun _ => 0))), ((g 8), .inl (tc 0, 8, .inl (fun _ => 0))), ((g 9), .inl (tc 0, 6, .inl (fun _ => 0))), ((g 10), .inl (tc 0, 6, .inl (fun _ => 0))), ((g 11), .inl (tc 0, 6, .inl (fun _ => 0))), ((g 12), .inl (tc 0, 6, .inl (fun _ => 0))), ((g 13), .inl (tc 0, 8, .inl (fun _ => 0))), ((g 14), .inl (tc 0, 8, .inl (fun _ => 0))), ((g 15), .inl (tc 0, 8, .inl (fun _ => 0))), ((g 16), .inl (tc 0, 8, .inl (fun _ => 0))), ((g 17), .inl (tc 0, 8, .inl (fun _ => 0))), ((g 18), .inl (tc 0, 8, .inl (fun _ => 0))), ((g 19), .inl (tc 0, 6, .inl (fun _ => 0))), ((g 20), .inl (tc 0, 6, .inl (fun _ => 0))), ((g 21), .inl (tc 0, 6, .inl (fun _ => 0))), ((g 22), .inl (tc 0, 240, .inl (fun _ => 0))), ((g 23), .inl (tc 0, 240, .inl (fun _ => 0))), ((g 24), .inl (tc 0, 240, .inl (fun _ => 0))), ((g 25), .inl (tc 0, 240, .inl (fun _ => 0))), ((g 26), .inr (0, [.ref (g 27), .ref (g 38), .ref (g 39), .ref (g 40), .ref (g 41), .ref (g 42), .ref (g 43), .ref (g 44), .ref (g 45), .ref (g 46), .ref (g 47), .ref (g 48), .ref (g 49), .ref (g 50), .int (-1)])), ((g 27), .inr (4, [.int 0, .int 0, .int 0, .int 9, .int 0, .ref (g 28), .ref (g 29), .ref (g 30), .ref (g 31), .ref (g 32), .ref (g 33), .ref (g 34), .ref (g 35), .ref (g 36), .ref (g 37)])), ((g 28), .inl (tc 0, 8, .inl (fun _ => 0))), ((g 29), .inl (tc 0, 8, .inl (fun _ => 0))), ((g 30), .inl (tc 0, 8, .inl (fun _ => 0))), ((g 31), .inl (tc 0, 8, .inl (fun _ => 0))), ((g 32), .inl (tc 0, 8, .inl (fun _ => 0))), ((g 33), .inl (tc 0, 8, .inl (fun _ => 0))), ((g 34), .inl (tc 0, 6, .inl (fun _ => 0))), ((g 35), .inl (tc 0, 6, .inl (fun _ => 0))), ((g 36), .inl (tc 0, 6, .inl (fun _ => 0))), ((g 37), .inl (tc 0, 6, .inl (fun _ => 0))), ((g 38), .inl (tc 0, 8, .inl (fun _ => 0))), ((g 39), .inl (tc 0, 8, .inl (fun _ => 0))), ((g 40), .inl (tc 0, 8, .inl (fun _ => 0))), ((g 41), .inl (tc 0, 8, .inl (fun _ => 0))), ((g 42), .inl (tc 0, 8, .inl (fun _ => 0))), ((g 43), .inl (tc 0, 8, .inl (fun _ => 0))), ((g 44), .inl (tc 0, 6, .inl (fun _ => 0))), ((g 45), .inl (tc 0, 6, .inl (fun _ => 0))), ((g 46), .inl (tc 0, 6, .inl (fun _ => 0))), ((g 47), .inl (tc 0, 240, .inl (fun _ => 0))), ((g 48), .inl (tc 0, 240, .inl (fun _ => 0))), ((g 49), .inl (tc 0, 240, .inl (fun _ => 0))), ((g 50), .inl (tc 0, 240, .inl (fun _ => 0))), ((g 51), .inl (tc 0, 512, .inl (fun _ => 0))), ((g 52), .inl (tc 0, 48, .inl (fun _ => 0))), ((g 53), .inr (2, [.ref (g 54), .ref (g 55), .ref (g 56), .int 0])), ((g 54), .inl (tc 0, 8, .inl (fun _ => 0))), ((g 55), .inl (tc 0, 8, .inl (fun _ => 0))), ((g 56), .inl (tc 0, 8, .inl (fun _ => 0))), ((g 57), .inl (tc 4, 4, .inr (.inr (.inr (.inr (va_up (va_up (va_up (va_up (fun _ => none) (Int32.toNatClampNeg 0) (some (g 64))) (Int32.toNatClampNeg 1) (some (g 66))) (Int32.toNatClampNeg 2) (some (g 68))) (Int32.toNatClampNeg 3) (some (g 70)))))))), ((g 58), .inl (tc 1, 39, .inl (fun _ => 0))), ((g 59), .inr (3, [.ref a0, .ref (g 58), .int 0])), ((g 60), .inl (tc 1, 23, .inl (fun _ => 0))), ((g 61), .inr (3, [.ref a1, .ref (g 60), .int 0])), ((g 62), .inl (tc 1, 35, .inl (fun _ => 0))), ((g 63), .inr (3, [.ref a2, .ref (g 62), .int 0])), ((g 64), .inr (1, [.ref (g 65), .int (-1), .int 0])), ((g 65), .inl (tc 0, 60, .inl (fun _ => 0))), ((g 66), .inr (1, [.ref (g 67), .int (-1), .int 0])), ((g 67), .inl (tc 0, 60, .inl (fun _ => 0))), ((g 68), .inr (1, [.ref (g 69), .int (-1), .int 0])), ((g 69), .inl (tc 0, 60, .inl (fun _ => 0))), ((g 70), .inr (1, [.ref (g 71), .int (-1), .int 0])), ((g 71), .inl (tc 0, 60, .inl (fun _ => 0))), (q6, .inr (6, [.ref (h 0), .ref (h 1), .int 0, .ref (h 2), .ref (h 3), .ref (h 4), .ref (h 5), .int 0, .ref (h 6), .ref (h 7), .int 0, .ref (h 8), .ref (h 9), .ref (h 10), .ref (h 11), .int 9, .int 0, .ref (h 12), .ref (h 13), .ref (h 14), .ref (h 15), .ref (h 16), .ref (h 17), .ref (h 18), .int 0, .ref (h 19), .ref (h 20), .int 0, .ref (h 21), .ref (h 22), .ref (h 23), .ref (h 24), .ref (h 25), .ref (h 26), .ref (h 27), .ref (h 28), .ref (h 29), .int 0])), ((h 0), .inl (tc 0, 3, .inl (fun _ => 0))), ((h 1), .inl (tc 0, 117, .inl (fun _ => 0))), ((h 2), .inl (tc 0, 9, .inl (fun _ => 0))), ((h 3), .inl (tc 0, 9, .inl (fun _ => 0))), ((h 4), .inl (tc 0, 9, .inl (fun _ => 0))), ((h 5), .inl (tc 0, 9, .inl (fun _ => 0))), ((h 6), .inl (tc 0, 9, .inl (fun _ => 0))), ((h 7), .inl (tc 0, 9, .inl (fun _ => 0))), ((h 8), .inl (tc 0, 7, .inl (fun _ => 0))), ((h 9), .inl (tc 0, 7, .inl (fun _ => 0))), ((h 10), .inl (tc 0, 7, .inl (fun _ => 0))), ((h 11), .inl (tc 0, 7, .inl (fun _ => 0))), ((h 12), .inl (tc 0, 8, .inl (fun _ => 0))), ((h 13), .inl (tc 0, 8, .inl (fun _ => 0))), ((h 14), .inl (tc 0, 8, .inl (fun _ => 0))), ((h 15), .inl (tc 0, 8, .inl (fun _ => 0))), ((h 16), .inl (tc 0, 6, .inl (fun _ => 0))), ((h 17), .inl (tc 0, 6, .inl (fun _ => 0))), ((h 18), .inl (tc 0, 6, .inl (fun _ => 0))), ((h 19), .inl (tc 0, 8, .inl (fun _ => 0))), ((h 20), .inl (tc 0, 2, .inl (fun _ => 0))), ((h 21), .inl (tc 0, 8, .inl (fun _ => 0))), ((h 22), .inl (tc 0, 8, .inl (fun _ => 0))), ((h 23), .inl (tc 0, 8, .inl (fun _ => 0))), ((h 24), .inl (tc 0, 48, .inl (fun _ => 0))), ((h 25), .inl (tc 2, 4, .inl (fun _ => 0))), ((h 26), .inl (tc 0, 4, .inl (fun _ => 0))), ((h 27), .inl (tc 0, 4, .inl (fun _ => 0))), ((h 28), .inl (tc 0, 240, .inl (fun _ => 0))), ((h 29), .inl (tc 0, 60, .inl (fun _ => 0)))]
def Wre (tc : Nat → ClassId) (q5 q6 a0 a1 a2 : Nat) (g h : Nat → Nat) : va_W := [(q5, .inr (5, [.ref (g 0), .ref (g 1), .ref (g 26), .ref (g 2), .ref (g 27), .ref (g 51), .ref (g 52), .ref (g 53), .ref (g 57), .int 0, .int 0, .int 0])), ((g 0), .inl (tc 3, 3, .inr (.inr (.inr (.inr (va_up (va_up (va_up (fun _ => none) (Int32.toNatClampNeg 0) (some (g 59))) (Int32.toNatClampNeg 1) (some (g 61))) (Int32.toNatClampNeg 2) (some (g 63)))))))), ((g 59), .inr (3, [.ref a0, .ref (g 58), .int 0])), ((g 61), .inr (3, [.ref a1, .ref (g 60), .int 0])), ((g 63), .inr (3, [.ref a2, .ref (g 62), .int 0])), ((g 58), .inl (tc 1, 39, .inl (fun _ => 0))), ((g 60), .inl (tc 1, 23, .inl (fun _ => 0))), ((g 62), .inl (tc 1, 35, .inl (fun _ => 0))), ((g 2), .inr (4, [.int 0, .int 0, .int 0, .int 9, .int 0, .ref (g 3), .ref (g 4), .ref (g 5), .ref (g 6), .ref (g 7), .ref (g 8), .ref (g 9), .ref (g 10), .ref (g 11), .ref (g 12)])), ((g 3), .inl (tc 0, 8, .inl (fun _ => 0))), ((g 4), .inl (tc 0, 8, .inl (fun _ => 0))), ((g 5), .inl (tc 0, 8, .inl (fun _ => 0))), ((g 6), .inl (tc 0, 8, .inl (fun _ => 0))), ((g 7), .inl (tc 0, 8, .inl (fun _ => 0))), ((g 8), .inl (tc 0, 8, .inl (fun _ => 0))), ((g 9), .inl (tc 0, 6, .inl (fun _ => 0))), ((g 10), .inl (tc 0, 6, .inl (fun _ => 0))), ((g 11), .inl (tc 0, 6, .inl (fun _ => 0))), ((g 12), .inl (tc 0, 6, .inl (fun _ => 0))), ((g 27), .inr (4, [.int 0, .int 0, .int 0, .int 9, .int 0, .ref (g 28), .ref (g 29), .ref (g 30), .ref (g 31), .ref (g 32), .ref (g 33), .ref (g 34), .ref (g 35), .ref (g 36), .ref (g 37)])), ((g 28), .inl (tc 0, 8, .inl (fun _ => 0))), ((g 29), .inl (tc 0, 8, .inl (fun _ => 0))), ((g 30), .inl (tc 0, 8, .inl (fun _ => 0))), ((g 31), .inl (tc 0, 8, .inl (fun _ => 0))), ((g 32), .inl (tc 0, 8, .inl (fun _ => 0))), ((g 33), .inl (tc 0, 8, .inl (fun _ => 0))), ((g 34), .inl (tc 0, 6, .inl (fun _ => 0))), ((g 35), .inl (tc 0, 6, .inl (fun _ => 0))), ((g 36), .inl (tc 0, 6, .inl (fun _ => 0))), ((g 37), .inl (tc 0, 6, .inl (fun _ => 0))), ((g 1), .inr (0, [.ref (g 2), .ref (g 13), .ref (g 14), .ref (g 15), .ref (g 16), .ref (g 17), .ref (g 18), .ref (g 19), .ref (g 20), .ref (g 21), .ref (g 22), .ref (g 23), .ref (g 24), .ref (g 25), .int (-1)])), ((g 13), .inl (tc 0, 8, .inl (fun _ => 0))), ((g 14), .inl (tc 0, 8, .inl (fun _ => 0))), ((g 15), .inl (tc 0, 8, .inl (fun _ => 0))), ((g 16), .inl (tc 0, 8, .inl (fun _ => 0))), ((g 17), .inl (tc 0, 8, .inl (fun _ => 0))), ((g 18), .inl (tc 0, 8, .inl (fun _ => 0))), ((g 19), .inl (tc 0, 6, .inl (fun _ => 0))), ((g 20), .inl (tc 0, 6, .inl (fun _ => 0))), ((g 21), .inl (tc 0, 6, .inl (fun _ => 0))), ((g 22), .inl (tc 0, 240, .inl (fun _ => 0))), ((g 23), .inl (tc 0, 240, .inl (fun _ => 0))), ((g 24), .inl (tc 0, 240, .inl (fun _ => 0))), ((g 25), .inl (tc 0, 240, .inl (fun _ => 0))), ((g 26), .inr (0, [.ref (g 27), .ref (g 38), .ref (g 39), .ref (g 40), .ref (g 41), .ref (g 42), .ref (g 43), .ref (g 44), .ref (g 45), .ref (g 46), .ref (g 47), .ref (g 48), .ref (g 49), .ref (g 50), .int (-1)])), ((g 38), .inl (tc 0, 8, .inl (fun _ => 0))), ((g 39), .inl (tc 0, 8, .inl (fun _ => 0))), ((g 40), .inl (tc 0, 8, .inl (fun _ => 0))), ((g 41), .inl (tc 0, 8, .inl (fun _ => 0))), ((g 42), .inl (tc 0, 8, .inl (fun _ => 0))), ((g 43), .inl (tc 0, 8, .inl (fun _ => 0))), ((g 44), .inl (tc 0, 6, .inl (fun _ => 0))), ((g 45), .inl (tc 0, 6, .inl (fun _ => 0))), ((g 46), .inl (tc 0, 6, .inl (fun _ => 0))), ((g 47), .inl (tc 0, 240, .inl (fun _ => 0))), ((g 48), .inl (tc 0, 240, .inl (fun _ => 0))), ((g 49), .inl (tc 0, 240, .inl (fun _ => 0))), ((g 50), .inl (tc 0, 240, .inl (fun _ => 0))), ((g 51), .inl (tc 0, 512, .inl (fun _ => 0))), ((g 52), .inl (tc 0, 48, .inl (fun _ => 0))), ((g 53), .inr (2, [.ref (g 54), .ref (g 55), .ref (g 56), .int 0])), ((g 54), .inl (tc 0, 8, .inl (fun _ => 0))), ((g 55), .inl (tc 0, 8, .inl (fun _ => 0))), ((g 56), .inl (tc 0, 8, .inl (fun _ => 0))), ((g 57), .inl (tc 4, 4, .inr (.inr (.inr (.inr (va_up (va_up (va_up (va_up (fun _ => none) (Int32.toNatClampNeg 0) (some (g 64))) (Int32.toNatClampNeg 1) (some (g 66))) (Int32.toNatClampNeg 2) (some (g 68))) (Int32.toNatClampNeg 3) (some (g 70)))))))), ((g 64), .inr (1, [.ref (g 65), .int (-1), .int 0])), ((g 66), .inr (1, [.ref (g 67), .int (-1), .int 0])), ((g 68), .inr (1, [.ref (g 69), .int (-1), .int 0])), ((g 70), .inr (1, [.ref (g 71), .int (-1), .int 0])), ((g 65), .inl (tc 0, 60, .inl (fun _ => 0))), ((g 67), .inl (tc 0, 60, .inl (fun _ => 0))), ((g 69), .inl (tc 0, 60, .inl (fun _ => 0))), ((g 71), .inl (tc 0, 60, .inl (fun _ => 0))), (q6, .inr (6, [.ref (h 0), .ref (h 1), .int 0, .ref (h 2), .ref (h 3), .ref (h 4), .ref (h 5), .int 0, .ref (h 6), .ref (h 7), .int 0, .ref (h 8), .ref (h 9), .ref (h 10), .ref (h 11), .int 9, .int 0, .ref (h 12), .ref (h 13), .ref (h 14), .ref (h 15), .ref (h 16), .ref (h 17), .ref (h 18), .int 0, .ref (h 19), .ref (h 20), .int 0, .ref (h 21), .ref (h 22), .ref (h 23), .ref (h 24), .ref (h 25), .ref (h 26), .ref (h 27), .ref (h 28), .ref (h 29), .int 0])), ((h 0), .inl (tc 0, 3, .inl (fun _ => 0))), ((h 1), .inl (tc 0, 117, .inl (fun _ => 0))), ((h 2), .inl (tc 0, 9, .inl (fun _ => 0))), ((h 3), .inl (tc 0, 9, .inl (fun _ => 0))), ((h 4), .inl (tc 0, 9, .inl (fun _ => 0))), ((h 5), .inl (tc 0, 9, .inl (fun _ => 0))), ((h 6), .inl (tc 0, 9, .inl (fun _ => 0))), ((h 7), .inl (tc 0, 9, .inl (fun _ => 0))), ((h 8), .inl (tc 0, 7, .inl (fun _ => 0))), ((h 9), .inl (tc 0, 7, .inl (fun _ => 0))), ((h 10), .inl (tc 0, 7, .inl (fun _ => 0))), ((h 11), .inl (tc 0, 7, .inl (fun _ => 0))), ((h 12), .inl (tc 0, 8, .inl (fun _ => 0))), ((h 13), .inl (tc 0, 8, .inl (fun _ => 0))), ((h 14), .inl (tc 0, 8, .inl (fun _ => 0))), ((h 15), .inl (tc 0, 8, .inl (fun _ => 0))), ((h 16), .inl (tc 0, 6, .inl (fun _ => 0))), ((h 17), .inl (tc 0, 6, .inl (fun _ => 0))), ((h 18), .inl (tc 0, 6, .inl (fun _ => 0))), ((h 19), .inl (tc 0, 8, .inl (fun _ => 0))), ((h 20), .inl (tc 0, 2, .inl (fun _ => 0))), ((h 21), .inl (tc 0, 8, .inl (fun _ => 0))), ((h 22), .inl (tc 0, 8, .inl (fun _ => 0))), ((h 23), .inl (tc 0, 8, .inl (fun _ => 0))), ((h 24), .inl (tc 0, 48, .inl (fun _ => 0))), ((h 25), .inl (tc 2, 4, .inl (fun _ => 0))), ((h 26), .inl (tc 0, 4, .inl (fun _ => 0))), ((h 27), .inl (tc 0, 4, .inl (fun _ => 0))), ((h 28), .inl (tc 0, 240, .inl (fun _ => 0))), ((h 29), .inl (tc 0, 60, .inl (fun _ => 0)))]
def pmL : List Nat := [0, 1, 60, 62, 64, 59, 61, 63, 3, 4, 5, 6, 7, 8, 9, 10, 11, 12, 13, 28, 29, 30, 31, 32, 33, 34, 35, 36, 37, 38, 2, 14, 15, 16, 17, 18, 19, 20, 21, 22, 23, 24, 25, 26, 27, 39, 40, 41, 42, 43, 44, 45, 46, 47, 48, 49, 50, 51, 52, 53, 54, 55, 56, 57, 58, 65, 67, 69, 71, 66, 68, 70, 72, 73, 74, 75, 76, 77, 78, 79, 80, 81, 82, 83, 84, 85, 86, 87, 88, 89, 90, 91, 92, 93, 94, 95, 96, 97, 98, 99, 100, 101, 102, 103]
def adL (q5 q6 b : Nat) (kK kV g h : Nat → Nat) : List Nat := [q5, g 0, g 59, g 61, g 63, g 58, g 60, g 62, g 2, g 3, g 4, g 5, g 6, g 7, g 8, g 9, g 10, g 11, g 12, g 27, g 28, g 29, g 30, g 31, g 32, g 33, g 34, g 35, g 36, g 37, g 1, g 13, g 14, g 15, g 16, g 17, g 18, g 19, g 20, g 21, g 22, g 23, g 24, g 25, g 26, g 38, g 39, g 40, g 41, g 42, g 43, g 44, g 45, g 46, g 47, g 48, g 49, g 50, g 51, g 52, g 53, g 54, g 55, g 56, g 57, g 64, g 66, g 68, g 70, g 65, g 67, g 69, g 71, q6, h 0, h 1, h 2, h 3, h 4, h 5, h 6, h 7, h 8, h 9, h 10, h 11, h 12, h 13, h 14, h 15, h 16, h 17, h 18, h 19, h 20, h 21, h 22, h 23, h 24, h 25, h 26, h 27, h 28, h 29, kK 0, kV 0, kK 1, kV 1, kK 2, kV 2, kK 3, kV 3, b]
def adF (q5 q6 b : Nat) (kK kV g h : Nat → Nat) (k : Nat) : Nat := (adL q5 q6 b kK kV g h).getD k 0
def z0 : Nat → Int32 := fun _ => 0
def m0L : List (Nat → Int32) := [z0, z0, z0, z0, z0, z0, z0, z0, (fun j => [0, 0, 0, 9].getD j 0), z0, z0, z0, z0, z0, z0, z0, z0, z0, z0, (fun j => [0, 0, 0, 9].getD j 0), z0, z0, z0, z0, z0, z0, z0, z0, z0, z0, (fun j => [0, 0, 0, 0, 0, 0, 0, 0, 0, 0, 0, 0, 0, 0, -1].getD j 0), z0, z0, z0, z0, z0, z0, z0, z0, z0, z0, z0, z0, z0, (fun j => [0, 0, 0, 0, 0, 0, 0, 0, 0, 0, 0, 0, 0, 0, -1].getD j 0), z0, z0, z0, z0, z0, z0, z0, z0, z0, z0, z0, z0, z0, z0, z0, z0, z0, z0, z0, z0, (fun j => [0, -1].getD j 0), (fun j => [0, -1].getD j 0), (fun j => [0, -1].getD j 0), (fun j => [0, -1].getD j 0), z0, z0, z0, z0, (fun j => [0, 0, 0, 0, 0, 0, 0, 0, 0, 0, 0, 0, 0, 0, 0, 9].getD j 0), z0, z0, z0, z0, z0, z0, z0, z0, z0, z0, z0, z0, z0, z0, z0, z0, z0, z0, z0, z0, z0, z0, z0, z0, z0, z0, z0, z0, z0, z0, z0, z0, z0, z0, z0, z0, z0, z0, z0]
def m0 : AMem := fun a => m0L.getD a z0
def N0 (i : Nat) : Nat := [0, 0, 0, 9].getD i 0
def B0 : Nat → Nat → Nat := fun _ _ => 0
theorem bs0 : Bs N0 B0 m0 := by
  have e0 : mN N0 B0 = 0 := by decide +kernel
  have e1 : iN N0 B0 = 0 := by decide +kernel
  have e2 : fN N0 B0 = 0 := by decide +kernel
  have n0 : ∀ p : Nat, ¬ p < 0 := Nat.not_lt_zero
  unfold Bs
  rw [e0, e1, e2]
  refine ⟨fun t ht => ?_, ⟨by decide +kernel, by decide +kernel, by decide +kernel, by decide +kernel⟩, ⟨⟨by decide +kernel, by decide +kernel, by decide +kernel⟩, ⟨by decide +kernel, by decide +kernel⟩, fun i k _ _ hk => absurd hk (n0 k), fun i k _ _ hk => absurd hk (n0 k), fun i k _ _ hk => absurd hk (n0 k)⟩, ⟨by decide +kernel, by decide +kernel, fun i hi => absurd hi (n0 i)⟩, ⟨by decide +kernel, fun i hi => absurd hi (n0 i)⟩, by decide +kernel, fun s hs => ?_⟩
  · match t, ht with
    | 0, _ => exact ⟨⟨by decide +kernel, by decide +kernel, fun p hp => absurd hp (n0 p)⟩, ⟨by decide +kernel, by decide +kernel, fun p hp => absurd hp (n0 p)⟩⟩
    | 1, _ => exact ⟨⟨by decide +kernel, by decide +kernel, fun p hp => absurd hp (n0 p)⟩, ⟨by decide +kernel, by decide +kernel, fun p hp => absurd hp (n0 p)⟩⟩
    | 2, _ => exact ⟨⟨by decide +kernel, by decide +kernel, fun p hp => absurd hp (n0 p)⟩, ⟨by decide +kernel, by decide +kernel, fun p hp => absurd hp (n0 p)⟩⟩
    | t + 3, h => exact absurd h (by omega)
  · match s, hs with
    | 0, _ => exact ⟨⟨0, by decide, by decide +kernel, by decide +kernel⟩, Or.inl ⟨by decide +kernel, by decide +kernel⟩, fun i _ => rfl⟩
    | 1, _ => exact ⟨⟨0, by decide, by decide +kernel, by decide +kernel⟩, Or.inl ⟨by decide +kernel, by decide +kernel⟩, fun i _ => rfl⟩
    | 2, _ => exact ⟨⟨0, by decide, by decide +kernel, by decide +kernel⟩, Or.inl ⟨by decide +kernel, by decide +kernel⟩, fun i _ => rfl⟩
    | 3, _ => exact ⟨⟨0, by decide, by decide +kernel, by decide +kernel⟩, Or.inl ⟨by decide +kernel, by decide +kernel⟩, fun i _ => rfl⟩
    | s + 4, h => exact absurd h (by omega)
theorem ca0 : Ca N0 B0 m0 := ⟨Or.inl (by decide +kernel), Or.inl (by decide +kernel)⟩
section REO
variable {tc : Nat → ClassId} {q5 q6 b : Nat} {kK kV g h : Nat → Nat} {D : va_G} {A : Nat → Prop} {H : Heap}
theorem vq_ext {c : ClassId} {n : Nat} {f f2 : Nat → Option Nat} (hf : ∀ j, j < n → f j = f2 j) : vp_cell c (n, .inr (.inr (.inr (.inr f)))) = vp_cell c (n, .inr (.inr (.inr (.inr f2)))) := by
  rw [vp_cell_q, vp_cell_q]
  unfold arrV
  congr 2
  funext j
  show va_rf (f j.val) = va_rf (f2 j.val)
  rw [hf j.val j.isLt]
set_option maxHeartbeats 4000000 in
set_option maxRecDepth 100000 in
theorem re_sub : pmL.filterMap (fun i => (Wjo tc q5 q6 (kK 0) (kK 1) (kK 2) g h)[i]?) = Wre tc q5 q6 (kK 0) (kK 1) (kK 2) g h := rfl
set_option maxHeartbeats 4000000 in
set_option maxRecDepth 100000 in
theorem re_map : pmL.map (fun i => (Wjo tc q5 q6 (kK 0) (kK 1) (kK 2) g h)[i]?) = (Wre tc q5 q6 (kK 0) (kK 1) (kK 2) g h).map some := rfl
set_option maxHeartbeats 4000000 in
set_option maxRecDepth 100000 in
theorem re_at : ∀ k, k < 104 → k ≠ 1 → k ≠ 64 → (Wre tc q5 q6 (kK 0) (kK 1) (kK 2) g h)[k]? = some ((adF q5 q6 b kK kV g h) k, ceE (adF q5 q6 b kK kV g h) tc k (m0 k))
  | 0, _, _, _ => rfl
  | 1, _, h1, h2 => absurd rfl h1
  | 2, _, _, _ => rfl
  | 3, _, _, _ => rfl
  | 4, _, _, _ => rfl
  | 5, _, _, _ => rfl
  | 6, _, _, _ => rfl
  | 7, _, _, _ => rfl
  | 8, _, _, _ => rfl
  | 9, _, _, _ => rfl
  | 10, _, _, _ => rfl
  | 11, _, _, _ => rfl
  | 12, _, _, _ => rfl
  | 13, _, _, _ => rfl
  | 14, _, _, _ => rfl
  | 15, _, _, _ => rfl
  | 16, _, _, _ => rfl
  | 17, _, _, _ => rfl
  | 18, _, _, _ => rfl
  | 19, _, _, _ => rfl
  | 20, _, _, _ => rfl
  | 21, _, _, _ => rfl
  | 22, _, _, _ => rfl
  | 23, _, _, _ => rfl
  | 24, _, _, _ => rfl
  | 25, _, _, _ => rfl
  | 26, _, _, _ => rfl
  | 27, _, _, _ => rfl
  | 28, _, _, _ => rfl
  | 29, _, _, _ => rfl
  | 30, _, _, _ => rfl
  | 31, _, _, _ => rfl
  | 32, _, _, _ => rfl
  | 33, _, _, _ => rfl
  | 34, _, _, _ => rfl
  | 35, _, _, _ => rfl
  | 36, _, _, _ => rfl
  | 37, _, _, _ => rfl
  | 38, _, _, _ => rfl
  | 39, _, _, _ => rfl
  | 40, _, _, _ => rfl
  | 41, _, _, _ => rfl
  | 42, _, _, _ => rfl
  | 43, _, _, _ => rfl
  | 44, _, _, _ => rfl
  | 45, _, _, _ => rfl
  | 46, _, _, _ => rfl
  | 47, _, _, _ => rfl
  | 48, _, _, _ => rfl
  | 49, _, _, _ => rfl
  | 50, _, _, _ => rfl
  | 51, _, _, _ => rfl
  | 52, _, _, _ => rfl
  | 53, _, _, _ => rfl
  | 54, _, _, _ => rfl
  | 55, _, _, _ => rfl
  | 56, _, _, _ => rfl
  | 57, _, _, _ => rfl
  | 58, _, _, _ => rfl
  | 59, _, _, _ => rfl
  | 60, _, _, _ => rfl
  | 61, _, _, _ => rfl
  | 62, _, _, _ => rfl
  | 63, _, _, _ => rfl
  | 64, _, h1, h2 => absurd rfl h2
  | 65, _, _, _ => rfl
  | 66, _, _, _ => rfl
  | 67, _, _, _ => rfl
  | 68, _, _, _ => rfl
  | 69, _, _, _ => rfl
  | 70, _, _, _ => rfl
  | 71, _, _, _ => rfl
  | 72, _, _, _ => rfl
  | 73, _, _, _ => rfl
  | 74, _, _, _ => rfl
  | 75, _, _, _ => rfl
  | 76, _, _, _ => rfl
  | 77, _, _, _ => rfl
  | 78, _, _, _ => rfl
  | 79, _, _, _ => rfl
  | 80, _, _, _ => rfl
  | 81, _, _, _ => rfl
  | 82, _, _, _ => rfl
  | 83, _, _, _ => rfl
  | 84, _, _, _ => rfl
  | 85, _, _, _ => rfl
  | 86, _, _, _ => rfl
  | 87, _, _, _ => rfl
  | 88, _, _, _ => rfl
  | 89, _, _, _ => rfl
  | 90, _, _, _ => rfl
  | 91, _, _, _ => rfl
  | 92, _, _, _ => rfl
  | 93, _, _, _ => rfl
  | 94, _, _, _ => rfl
  | 95, _, _, _ => rfl
  | 96, _, _, _ => rfl
  | 97, _, _, _ => rfl
  | 98, _, _, _ => rfl
  | 99, _, _, _ => rfl
  | 100, _, _, _ => rfl
  | 101, _, _, _ => rfl
  | 102, _, _, _ => rfl
  | 103, _, _, _ => rfl
  | n + 104, hn, _, _ => absurd hn (by omega)
set_option maxHeartbeats 4000000 in
set_option maxRecDepth 100000 in
theorem re_P (hP : va_P D vwCl (Wjo tc q5 q6 (kK 0) (kK 1) (kK 2) g h) H) : va_P D vwCl (wsO (adF q5 q6 b kK kV g h) tc m0) H := by
  have h1 := hP.sub pmL re_sub
  intro k q hk
  obtain ⟨hl, rfl⟩ := wsO_inv hk
  by_cases e1 : k = 1
  · subst e1
    have h2 : H[g 0]? = some _ := h1 1 _ rfl
    refine h2.trans (congrArg some (vq_ext (fun j hj => ?_)))
    match j, hj with
    | 0, _ => rfl
    | 1, _ => rfl
    | 2, _ => rfl
    | j + 3, hj => exact absurd hj (by omega)
  · by_cases e2 : k = 64
    · subst e2
      have h2 : H[g 57]? = some _ := h1 64 _ rfl
      refine h2.trans (congrArg some (vq_ext (fun j hj => ?_)))
      match j, hj with
      | 0, _ => rfl
      | 1, _ => rfl
      | 2, _ => rfl
      | 3, _ => rfl
      | j + 4, hj => exact absurd hj (by omega)
    · exact h1 k _ (re_at k hl e1 e2)
theorem re_ad {k : Nat} (hk : k < 104) : ∃ e, (Wre tc q5 q6 (kK 0) (kK 1) (kK 2) g h)[k]? = some ((adF q5 q6 b kK kV g h) k, e) := by
  by_cases e1 : k = 1
  · subst e1
    exact ⟨_, rfl⟩
  · by_cases e2 : k = 64
    · subst e2
      exact ⟨_, rfl⟩
    · exact ⟨_, re_at (kV := kV) (b := b) k hk e1 e2⟩
theorem re_D (hD : va_D A (Wjo tc q5 q6 (kK 0) (kK 1) (kK 2) g h)) : (∀ i j, i < 104 → j < 104 → (adF q5 q6 b kK kV g h) i = (adF q5 q6 b kK kV g h) j → i = j) ∧ ∀ k, k < 104 → A ((adF q5 q6 b kK kV g h) k) := by
  have h1 := hD.sub pmL (by decide +kernel) re_map
  refine ⟨fun i j hi hj e => ?_, fun k hk => ?_⟩
  · obtain ⟨e1, r1⟩ := re_ad (tc := tc) (q5 := q5) (q6 := q6) (b := b) (kK := kK) (kV := kV) (g := g) (h := h) hi
    obtain ⟨e2, r2⟩ := re_ad (tc := tc) (q5 := q5) (q6 := q6) (b := b) (kK := kK) (kV := kV) (g := g) (h := h) hj
    exact h1.1 i j _ _ r1 r2 e
  · obtain ⟨e1, r1⟩ := re_ad (tc := tc) (q5 := q5) (q6 := q6) (b := b) (kK := kK) (kV := kV) (g := g) (h := h) hk
    exact h1.2 k _ r1
end REO
