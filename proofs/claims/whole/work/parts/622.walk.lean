abbrev rmX0_fewestTurned : Room := { frames := 3, cells := 0, slots := 0, locals := 68 }
set_option maxHeartbeats 4000000 in
set_option maxRecDepth 100000 in
theorem kX0_fewestTurned (l : Launch) (D : va_G) (cy : Nat → ClassId) (h0 : Nat) (a0 : Nat → Nat) (s0 : Rc) (p1 : Int32) (res : Int32) (h : fX0_fewestTurned p1 s0 = some res) : CI l D cy yX0_fewestTurned wsX0_fewestTurned rmX0_fewestTurned [.ref h0, .int p1] (flat [WX0 cy h0 a0 s0]) (flat [WX0 cy h0 a0 s0]) res := sorry
abbrev rmX0_fitsBy : Room := { frames := 2, cells := 0, slots := 0, locals := 42 }
set_option maxHeartbeats 4000000 in
set_option maxRecDepth 100000 in
theorem kX0_fitsBy (l : Launch) (D : va_G) (cy : Nat → ClassId) (h0 : Nat) (a0 : Nat → Nat) (s0 : Rc) (p1 : Int32) (p2 : Int32) (res : Int32) (h : fX0_fitsBy p1 p2 s0 = some res) : CI l D cy yX0_fitsBy wsX0_fitsBy rmX0_fitsBy [.ref h0, .int p1, .int p2] (flat [WX0 cy h0 a0 s0]) (flat [WX0 cy h0 a0 s0]) res := sorry
abbrev rmX0_wetOn : Room := { frames := 0, cells := 0, slots := 0, locals := 0 }
set_option maxHeartbeats 4000000 in
set_option maxRecDepth 100000 in
theorem kX0_wetOn (l : Launch) (D : va_G) (cy : Nat → ClassId) (h0 : Nat) (a0 : Nat → Nat) (s0 : Rc) (p1 : Int32) (res : Int32) (h : fX0_wetOn p1 s0 = res) : CI l D cy yX0_wetOn wsX0_wetOn rmX0_wetOn [.ref h0, .int p1] (flat [WX0 cy h0 a0 s0]) (flat [WX0 cy h0 a0 s0]) res := sorry
abbrev rmX0_keptUnder : Room := { frames := 3, cells := 0, slots := 0, locals := 68 }
set_option maxHeartbeats 4000000 in
set_option maxRecDepth 100000 in
theorem kX0_keptUnder (l : Launch) (D : va_G) (cy : Nat → ClassId) (h0 : Nat) (a0 : Nat → Nat) (s0 : Rc) (p1 : Int32) (p2 : Int32) (res : Int32) (h : fX0_keptUnder p1 p2 s0 = some res) : CI l D cy yX0_keptUnder wsX0_keptUnder rmX0_keptUnder [.ref h0, .int p1, .int p2] (flat [WX0 cy h0 a0 s0]) (flat [WX0 cy h0 a0 s0]) res := sorry
abbrev rmX0_leaning : Room := { frames := 3, cells := 0, slots := 0, locals := 68 }
set_option maxHeartbeats 4000000 in
set_option maxRecDepth 100000 in
theorem kX0_leaning (l : Launch) (D : va_G) (cy : Nat → ClassId) (h0 : Nat) (a0 : Nat → Nat) (s0 : Rc) (p1 : Int32) (res : Int32) (h : fX0_leaning p1 s0 = some res) : CI l D cy yX0_leaning wsX0_leaning rmX0_leaning [.ref h0, .int p1] (flat [WX0 cy h0 a0 s0]) (flat [WX0 cy h0 a0 s0]) res := sorry
abbrev rmX0_learnOf : Room := { frames := 2, cells := 0, slots := 0, locals := 45 }
set_option maxHeartbeats 4000000 in
set_option maxRecDepth 100000 in
theorem kX0_learnOf (l : Launch) (D : va_G) (cy : Nat → ClassId) (h0 : Nat) (a0 : Nat → Nat) (s0 : Rc) (p1 : Int32) (res : Int32 × Rc) (h : fX0_learnOf p1 s0 = some res) : CI l D cy yX0_learnOf wsX0_learnOf rmX0_learnOf [.ref h0, .int p1] (flat [WX0 cy h0 a0 s0]) (flat [WX0 cy h0 a0 res.2]) res.1 := sorry
abbrev rmX0_toldDays : Room := { frames := 2, cells := 0, slots := 0, locals := 41 }
set_option maxHeartbeats 4000000 in
set_option maxRecDepth 100000 in
theorem kX0_toldDays (l : Launch) (D : va_G) (cy : Nat → ClassId) (h0 : Nat) (a0 : Nat → Nat) (s0 : Rc) (p1 : Int32) (res : Int64) (h : fX0_toldDays p1 s0 = some res) : CL l D cy yX0_toldDays wsX0_toldDays rmX0_toldDays [.ref h0, .int p1] (flat [WX0 cy h0 a0 s0]) (flat [WX0 cy h0 a0 s0]) res := sorry
abbrev rmX0_rightDays : Room := { frames := 3, cells := 0, slots := 0, locals := 62 }
set_option maxHeartbeats 4000000 in
set_option maxRecDepth 100000 in
theorem kX0_rightDays (l : Launch) (D : va_G) (cy : Nat → ClassId) (h0 : Nat) (a0 : Nat → Nat) (s0 : Rc) (p1 : Int32) (res : Int64) (h : fX0_rightDays p1 s0 = some res) : CL l D cy yX0_rightDays wsX0_rightDays rmX0_rightDays [.ref h0, .int p1] (flat [WX0 cy h0 a0 s0]) (flat [WX0 cy h0 a0 s0]) res := sorry
abbrev rmX0_mostTrusted : Room := { frames := 4, cells := 0, slots := 0, locals := 83 }
set_option maxHeartbeats 4000000 in
set_option maxRecDepth 100000 in
theorem kX0_mostTrusted (l : Launch) (D : va_G) (cy : Nat → ClassId) (h0 : Nat) (a0 : Nat → Nat) (s0 : Rc) (res : Int32) (h : fX0_mostTrusted s0 = some res) : CI l D cy yX0_mostTrusted wsX0_mostTrusted rmX0_mostTrusted [.ref h0] (flat [WX0 cy h0 a0 s0]) (flat [WX0 cy h0 a0 s0]) res := sorry
abbrev rmX0_rainShare : Room := { frames := 3, cells := 0, slots := 0, locals := 71 }
set_option maxHeartbeats 4000000 in
set_option maxRecDepth 100000 in
theorem kX0_rainShare (l : Launch) (D : va_G) (cy : Nat → ClassId) (h0 : Nat) (a0 : Nat → Nat) (s0 : Rc) (p1 : Int32) (p2 : Int32) (res : Int64) (h : fX0_rainShare p1 p2 s0 = some res) : CL l D cy yX0_rainShare wsX0_rainShare rmX0_rainShare [.ref h0, .int p1, .int p2] (flat [WX0 cy h0 a0 s0]) (flat [WX0 cy h0 a0 s0]) res := sorry
abbrev rmX0_setDislike : Room := { frames := 0, cells := 0, slots := 0, locals := 0 }
set_option maxHeartbeats 4000000 in
set_option maxRecDepth 100000 in
theorem kX0_setDislike (l : Launch) (D : va_G) (cy : Nat → ClassId) (h0 : Nat) (a0 : Nat → Nat) (s0 : Rc) (p1 : Int32) (p2 : Int32) (p3 : Int32) (res : Rc) (h : fX0_setDislike p1 p2 p3 s0 = some res) : CV l D cy yX0_setDislike wsX0_setDislike rmX0_setDislike [.ref h0, .int p1, .int p2, .int p3] (flat [WX0 cy h0 a0 s0]) (flat [WX0 cy h0 a0 res]) := sorry
abbrev rmX0_settle : Room := { frames := 3, cells := 0, slots := 0, locals := 63 }
set_option maxHeartbeats 4000000 in
set_option maxRecDepth 100000 in
theorem kX0_settle (l : Launch) (D : va_G) (cy : Nat → ClassId) (h0 : Nat) (a0 : Nat → Nat) (s0 : Rc) (res : Rc) (h : fX0_settle s0 = some res) : CV l D cy yX0_settle wsX0_settle rmX0_settle [.ref h0] (flat [WX0 cy h0 a0 s0]) (flat [WX0 cy h0 a0 res]) := sorry
abbrev rmX0_tippersOf : Room := { frames := 3, cells := 0, slots := 0, locals := 68 }
set_option maxHeartbeats 4000000 in
set_option maxRecDepth 100000 in
theorem kX0_tippersOf (l : Launch) (D : va_G) (cy : Nat → ClassId) (h0 : Nat) (a0 : Nat → Nat) (s0 : Rc) (p1 : Int32) (res : Int32) (h : fX0_tippersOf p1 s0 = some res) : CI l D cy yX0_tippersOf wsX0_tippersOf rmX0_tippersOf [.ref h0, .int p1] (flat [WX0 cy h0 a0 s0]) (flat [WX0 cy h0 a0 s0]) res := sorry
abbrev rmX0_turn : Room := { frames := 0, cells := 0, slots := 0, locals := 0 }
set_option maxHeartbeats 4000000 in
set_option maxRecDepth 100000 in
theorem kX0_turn (l : Launch) (D : va_G) (cy : Nat → ClassId) (h0 : Nat) (a0 : Nat → Nat) (s0 : Rc) (p1 : Int32) (p2 : Int32) (res : Rc) (h : fX0_turn p1 p2 s0 = some res) : CV l D cy yX0_turn wsX0_turn rmX0_turn [.ref h0, .int p1, .int p2] (flat [WX0 cy h0 a0 s0]) (flat [WX0 cy h0 a0 res]) := sorry
