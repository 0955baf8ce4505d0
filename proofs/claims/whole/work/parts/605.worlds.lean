/-- KneeBench$Bench: the object, its rows -/
def WX0 (cy : Nat → ClassId) (h : Nat) (a : Nat → Nat) (s : Rc) : va_W := [(h, .inr (0, [.ref (a 0), .ref (a 1), .ref (a 2), .ref (a 3), .ref (a 4), .ref (a 5), .ref (a 6), .ref (a 7), .int (gi s 8), .int (gi s 9), .long (gl s 10), .long (gl s 11), .int (gi s 12), .int (gi s 13)])), (a 0, .inl (cy 2, 8, .inr (.inl (gb s 0)))), (a 1, .inl (cy 1, 8, .inl (ga s 1))), (a 2, .inl (cy 1, 8, .inl (ga s 2))), (a 3, .inl (cy 1, 8, .inl (ga s 3))), (a 4, .inl (cy 1, 8, .inl (ga s 4))), (a 5, .inl (cy 1, 8, .inl (ga s 5))), (a 6, .inl (cy 2, 8, .inr (.inl (gb s 6)))), (a 7, .inl (cy 1, 64, .inl (ga s 7)))]
/-- KneeBench$BenchText: the object, its rows -/
def WX1 (cy : Nat → ClassId) (h : Nat) (a : Nat → Nat) (s : Rc) : va_W := [(h, .inr (1, [.ref (a 0), .ref (a 1), .int (gi s 2), .int (gi s 3)]))]
/-- KneeBench$Draws: the object, its rows -/
def WX2 (cy : Nat → ClassId) (h : Nat) (a : Nat → Nat) (s : Rc) : va_W := [(h, .inr (2, [.int (gi s 0)]))]
/-- KneeBench$Life: the object, its rows -/
def WX3 (cy : Nat → ClassId) (h : Nat) (a : Nat → Nat) (s : Rc) : va_W := [(h, .inr (3, [.ref (a 0), .ref (a 1), .int (gi s 2), .int (gi s 3), .int (gi s 4), .int (gi s 5), .int (gi s 6)])), (a 1, .inl (cy 1, 60, .inl (ga s 1)))]
/-- KneeBench$Mark: the object, its rows -/
def WX4 (cy : Nat → ClassId) (h : Nat) (a : Nat → Nat) (s : Rc) : va_W := [(h, .inr (4, [.ref (a 0), .ref (a 1)]))]
/-- KneeBench$Season: the object, its rows -/
def WX5 (cy : Nat → ClassId) (h : Nat) (a : Nat → Nat) (s : Rc) : va_W := [(h, .inr (5, [.ref (a 0), .ref (a 1), .ref (a 2), .ref (a 3), .ref (a 4), .int (gi s 5), .int (gi s 6), .int (gi s 7)])), (a 0, .inl (cy 1, 60, .inl (ga s 0))), (a 1, .inl (cy 1, 60, .inl (ga s 1))), (a 2, .inl (cy 1, 60, .inl (ga s 2))), (a 3, .inl (cy 1, 60, .inl (ga s 3))), (a 4, .inl (cy 1, 60, .inl (ga s 4)))]
/-- KneeBench$SeasonText: the object, its rows -/
def WX6 (cy : Nat → ClassId) (h : Nat) (a : Nat → Nat) (s : Rc) : va_W := [(h, .inr (6, [.ref (a 0), .ref (a 1), .ref (a 2), .ref (a 3), .int (gi s 4), .int (gi s 5)])), (a 3, .inl (cy 1, 3, .inl (ga s 3)))]
/-- KneeBench$Seats: the object, its rows -/
def WX7 (cy : Nat → ClassId) (h : Nat) (a : Nat → Nat) (s : Rc) : va_W := [(h, .inr (7, [.ref (a 0), .ref (a 1), .int (gi s 2)])), (a 0, .inl (cy 1, 2048, .inl (ga s 0))), (a 1, .inl (cy 1, 8, .inl (ga s 1)))]
/-- KneeBench$Tokens: the object, its rows -/
def WX8 (cy : Nat → ClassId) (h : Nat) (a : Nat → Nat) (s : Rc) : va_W := [(h, .inr (8, [.ref (a 0), .ref (a 1), .int (gi s 2), .int (gi s 3), .int (gi s 4), .int (gi s 5), .int (gi s 6), .long (gl s 7), .int (gi s 8), .int (gi s 9), .int (gi s 10), .int (gi s 11), .int (gi s 12), .int (gi s 13)])), (a 0, .inl (cy 0, 900, .inl (ga s 0))), (a 1, .inl (cy 2, 30, .inr (.inl (gb s 1))))]
/-- KneeBench$Trays: the object, its rows -/
def WX9 (cy : Nat → ClassId) (h : Nat) (a : Nat → Nat) (s : Rc) : va_W := [(h, .inr (9, [.ref (a 0), .ref (a 1), .ref (a 2)])), (a 0, .inl (cy 2, 240, .inr (.inl (gb s 0)))), (a 1, .inl (cy 1, 4, .inl (ga s 1))), (a 2, .inl (cy 1, 4, .inl (ga s 2)))]
/-- KneeBench: the object, its rows -/
def WX10 (cy : Nat → ClassId) (h : Nat) (a : Nat → Nat) (s : Rc) : va_W := [(h, .inr (10, [.ref (a 0), .ref (a 1), .ref (a 2), .ref (a 3), .ref (a 4), .ref (a 5), .ref (a 6), .ref (a 7), .ref (a 8), .ref (a 9), .ref (a 10), .ref (a 11), .ref (a 12), .ref (a 13), .ref (a 14), .int (gi s 15), .int (gi s 16), .long (gl s 17), .long (gl s 18)]))]
/-- KneeBenchModel: the object, its rows -/
def WX11 (cy : Nat → ClassId) (h : Nat) (a : Nat → Nat) (s : Rc) : va_W := [(h, .inr (11, [.ref (a 0), .ref (a 1), .int (gi s 2), .long (gl s 3), .long (gl s 4), .ref (a 5), .ref (a 6), .ref (a 7), .ref (a 8), .ref (a 9), .int (gi s 10), .int (gi s 11), .int (gi s 12), .int (gi s 13), .int (gi s 14), .int (gi s 15), .int (gi s 16), .int (gi s 17), .int (gi s 18), .int (gi s 19), .int (gi s 20), .ref (a 21), .int (gi s 22), .int (gi s 23), .int (gi s 24), .int (gi s 25), .int (gi s 26), .long (gl s 27), .long (gl s 28), .ref (a 29), .ref (a 30), .int (gi s 31), .int (gi s 32), .ref (a 33), .ref (a 34), .ref (a 35), .int (gi s 36), .int (gi s 37)])), (a 0, .inl (cy 1, 6240, .inl (ga s 0))), (a 1, .inl (cy 2, 48, .inr (.inl (gb s 1)))), (a 5, .inl (cy 1, 4, .inl (ga s 5))), (a 6, .inl (cy 1, 4, .inl (ga s 6))), (a 7, .inl (cy 2, 240, .inr (.inl (gb s 7)))), (a 8, .inl (cy 0, 900, .inl (ga s 8))), (a 9, .inl (cy 0, 900, .inl (ga s 9))), (a 21, .inl (cy 1, 3, .inl (ga s 21))), (a 29, .inl (cy 1, 2048, .inl (ga s 29))), (a 30, .inl (cy 1, 8, .inl (ga s 30))), (a 33, .inl (cy 1, 80, .inl (ga s 33))), (a 34, .inl (cy 1, 4, .inl (ga s 34))), (a 35, .inl (cy 1, 4, .inl (ga s 35)))]
