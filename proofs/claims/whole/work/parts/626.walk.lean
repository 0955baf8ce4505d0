abbrev rmX3_doStep : Room := { frames := 4, cells := 0, slots := 0, locals := 93 }
set_option maxHeartbeats 4000000 in
set_option maxRecDepth 100000 in
theorem kX3_doStep (l : Launch) (D : va_G) (cy : Nat → ClassId) (h0 : Nat) (h_p1 : Nat) (h_p2 : Nat) (a0 : Nat → Nat) (a1 : Nat → Nat) (a2 : Nat → Nat) (a3 : Nat → Nat) (s0 : Rc) (s1 : Rc) (s2 : Rc) (s3 : Rc) (p3 : Int32) (res : Rc × Rc × Rc) (h : fX3_doStep p3 s0 s1 s2 s3 = some res) : CV l D cy yX3_doStep wsX3_doStep rmX3_doStep [.ref h0, .ref h_p1, .ref h_p2, .int p3] (flat [WX3 cy h0 a0 s0, WX2 cy (a0 0) a1 s1, WX0 cy h_p1 a2 s2, WX5 cy h_p2 a3 s3]) (flat [WX3 cy h0 a0 res.1, WX2 cy (a0 0) a1 res.2.1, WX0 cy h_p1 a2 res.2.2, WX5 cy h_p2 a3 s3]) := sorry
abbrev rmX3_holds : Room := { frames := 4, cells := 0, slots := 0, locals := 89 }
set_option maxHeartbeats 4000000 in
set_option maxRecDepth 100000 in
theorem kX3_holds (l : Launch) (D : va_G) (cy : Nat → ClassId) (h_p1 : Nat) (h_p2 : Nat) (a0 : Nat → Nat) (a1 : Nat → Nat) (s0 : Rc) (s1 : Rc) (p3 : Int32) (res : Int32) (h : fX3_holds p3 s0 s1 = some res) : CZ l D cy yX3_holds wsX3_holds rmX3_holds [.ref h_p1, .ref h_p2, .int p3] (flat [WX0 cy h_p1 a0 s0, WX5 cy h_p2 a1 s1]) (flat [WX0 cy h_p1 a0 s0, WX5 cy h_p2 a1 s1]) res := sorry
abbrev rmX3_goRound : Room := { frames := 0, cells := 0, slots := 0, locals := 0 }
set_option maxHeartbeats 4000000 in
set_option maxRecDepth 100000 in
theorem kX3_goRound (l : Launch) (D : va_G) (cy : Nat → ClassId) (h0 : Nat) (h_p1 : Nat) (a0 : Nat → Nat) (a1 : Nat → Nat) (s0 : Rc) (s1 : Rc) (p2 : Int32) (res : Int32 × Rc) (h : fX3_goRound p2 s0 s1 = some res) : CI l D cy yX3_goRound wsX3_goRound rmX3_goRound [.ref h0, .ref h_p1, .int p2] (flat [WX3 cy h0 a0 s0, WX5 cy h_p1 a1 s1]) (flat [WX3 cy h0 a0 res.2, WX5 cy h_p1 a1 s1]) res.1 := sorry
abbrev rmX3_follow : Room := { frames := 5, cells := 0, slots := 0, locals := 118 }
set_option maxHeartbeats 4000000 in
set_option maxRecDepth 100000 in
theorem kX3_follow (l : Launch) (D : va_G) (cy : Nat → ClassId) (h0 : Nat) (h_p1 : Nat) (h_p2 : Nat) (a0 : Nat → Nat) (a1 : Nat → Nat) (a2 : Nat → Nat) (a3 : Nat → Nat) (s0 : Rc) (s1 : Rc) (s2 : Rc) (s3 : Rc) (p3 : Int32) (res : Int32 × Rc × Rc × Rc) (h : fX3_follow p3 s0 s1 s2 s3 = some res) : CI l D cy yX3_follow wsX3_follow rmX3_follow [.ref h0, .ref h_p1, .ref h_p2, .int p3] (flat [WX3 cy h0 a0 s0, WX2 cy (a0 0) a1 s1, WX0 cy h_p1 a2 s2, WX5 cy h_p2 a3 s3]) (flat [WX3 cy h0 a0 res.2.1, WX2 cy (a0 0) a1 res.2.2.1, WX0 cy h_p1 a2 res.2.2.2, WX5 cy h_p2 a3 s3]) res.1 := sorry
abbrev rmX3_run : Room := { frames := 6, cells := 0, slots := 0, locals := 141 }
set_option maxHeartbeats 4000000 in
set_option maxRecDepth 100000 in
theorem kX3_run (l : Launch) (D : va_G) (cy : Nat → ClassId) (h0 : Nat) (h_p1 : Nat) (h_p2 : Nat) (a0 : Nat → Nat) (a1 : Nat → Nat) (a2 : Nat → Nat) (a3 : Nat → Nat) (s0 : Rc) (s1 : Rc) (s2 : Rc) (s3 : Rc) (p3 : Int32) (res : Rc × Rc × Rc) (h : fX3_run p3 s0 s1 s2 s3 = some res) : CV l D cy yX3_run wsX3_run rmX3_run [.ref h0, .ref h_p1, .ref h_p2, .int p3] (flat [WX3 cy h0 a0 s0, WX2 cy (a0 0) a1 s1, WX0 cy h_p1 a2 s2, WX5 cy h_p2 a3 s3]) (flat [WX3 cy h0 a0 res.1, WX2 cy (a0 0) a1 res.2.1, WX0 cy h_p1 a2 res.2.2, WX5 cy h_p2 a3 s3]) := sorry
abbrev rmX5_copyFrom : Room := { frames := 1, cells := 0, slots := 0, locals := 40 }
set_option maxHeartbeats 4000000 in
set_option maxRecDepth 100000 in
theorem kX5_copyFrom (l : Launch) (D : va_G) (cy : Nat → ClassId) (h0 : Nat) (h_p1 : Nat) (a0 : Nat → Nat) (a1 : Nat → Nat) (s0 : Rc) (s1 : Rc) (res : Rc) (h : fX5_copyFrom s0 s1 = some res) : CV l D cy yX5_copyFrom wsX5_copyFrom rmX5_copyFrom [.ref h0, .ref h_p1] (flat [WX5 cy h0 a0 s0, WX5 cy h_p1 a1 s1]) (flat [WX5 cy h0 a0 res, WX5 cy h_p1 a1 s1]) := sorry
abbrev rmX4_giveBack : Room := { frames := 2, cells := 0, slots := 0, locals := 61 }
set_option maxHeartbeats 4000000 in
set_option maxRecDepth 100000 in
theorem kX4_giveBack (l : Launch) (D : va_G) (cy : Nat → ClassId) (h0 : Nat) (h_p1 : Nat) (h_p2 : Nat) (a0 : Nat → Nat) (a1 : Nat → Nat) (a2 : Nat → Nat) (a3 : Nat → Nat) (a4 : Nat → Nat) (s0 : Rc) (s1 : Rc) (s2 : Rc) (s3 : Rc) (s4 : Rc) (res : Rc × Rc) (h : fX4_giveBack s0 s1 s2 s3 s4 = some res) : CV l D cy yX4_giveBack wsX4_giveBack rmX4_giveBack [.ref h0, .ref h_p1, .ref h_p2] (flat [WX4 cy h0 a0 s0, WX0 cy (a0 0) a1 s1, WX5 cy (a0 1) a2 s2, WX0 cy h_p1 a3 s3, WX5 cy h_p2 a4 s4]) (flat [WX4 cy h0 a0 s0, WX0 cy (a0 0) a1 s1, WX5 cy (a0 1) a2 s2, WX0 cy h_p1 a3 res.1, WX5 cy h_p2 a4 res.2]) := sorry
abbrev rmX4_keep : Room := { frames := 2, cells := 0, slots := 0, locals := 61 }
set_option maxHeartbeats 4000000 in
set_option maxRecDepth 100000 in
theorem kX4_keep (l : Launch) (D : va_G) (cy : Nat → ClassId) (h0 : Nat) (h_p1 : Nat) (h_p2 : Nat) (a0 : Nat → Nat) (a1 : Nat → Nat) (a2 : Nat → Nat) (a3 : Nat → Nat) (a4 : Nat → Nat) (s0 : Rc) (s1 : Rc) (s2 : Rc) (s3 : Rc) (s4 : Rc) (res : Rc × Rc) (h : fX4_keep s0 s1 s2 s3 s4 = some res) : CV l D cy yX4_keep wsX4_keep rmX4_keep [.ref h0, .ref h_p1, .ref h_p2] (flat [WX4 cy h0 a0 s0, WX0 cy (a0 0) a1 s1, WX5 cy (a0 1) a2 s2, WX0 cy h_p1 a3 s3, WX5 cy h_p2 a4 s4]) (flat [WX4 cy h0 a0 s0, WX0 cy (a0 0) a1 res.1, WX5 cy (a0 1) a2 res.2, WX0 cy h_p1 a3 s3, WX5 cy h_p2 a4 s4]) := sorry
abbrev rmX5_empty : Room := { frames := 0, cells := 0, slots := 0, locals := 0 }
set_option maxHeartbeats 4000000 in
set_option maxRecDepth 100000 in
theorem kX5_empty (l : Launch) (D : va_G) (cy : Nat → ClassId) (h0 : Nat) (a0 : Nat → Nat) (s0 : Rc) (res : Rc) (h : fX5_empty s0 = res) : CV l D cy yX5_empty wsX5_empty rmX5_empty [.ref h0] (flat [WX5 cy h0 a0 s0]) (flat [WX5 cy h0 a0 res]) := sorry
