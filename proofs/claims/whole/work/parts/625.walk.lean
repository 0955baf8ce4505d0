abbrev rmX8_mustBeLetters : Room := { frames := 1, cells := 0, slots := 0, locals := 22 }
set_option maxHeartbeats 4000000 in
set_option maxRecDepth 100000 in
theorem kX8_mustBeLetters (l : Launch) (D : va_G) (cy : Nat → ClassId) (h0 : Nat) (a0 : Nat → Nat) (s0 : Rc) (res : Int32 × Rc) (h : fX8_mustBeLetters s0 = some res) : CZ l D cy yX8_mustBeLetters wsX8_mustBeLetters rmX8_mustBeLetters [.ref h0] (flat [WX8 cy h0 a0 s0]) (flat [WX8 cy h0 a0 res.2]) res.1 := sorry
abbrev rmX1_readWeather : Room := { frames := 3, cells := 0, slots := 0, locals := 65 }
set_option maxHeartbeats 4000000 in
set_option maxRecDepth 100000 in
theorem kX1_readWeather (l : Launch) (D : va_G) (cy : Nat → ClassId) (h0 : Nat) (a0 : Nat → Nat) (a1 : Nat → Nat) (a2 : Nat → Nat) (s0 : Rc) (s1 : Rc) (s2 : Rc) (res : Int32 × Rc × Rc) (h : fX1_readWeather s0 s1 s2 = some res) : CZ l D cy yX1_readWeather wsX1_readWeather rmX1_readWeather [.ref h0] (flat [WX1 cy h0 a0 s0, WX8 cy (a0 0) a1 s1, WX0 cy (a0 1) a2 s2]) (flat [WX1 cy h0 a0 s0, WX8 cy (a0 0) a1 res.2.1, WX0 cy (a0 1) a2 res.2.2]) res.1 := sorry
abbrev rmX1_readVote : Room := { frames := 3, cells := 0, slots := 0, locals := 65 }
set_option maxHeartbeats 4000000 in
set_option maxRecDepth 100000 in
theorem kX1_readVote (l : Launch) (D : va_G) (cy : Nat → ClassId) (h0 : Nat) (a0 : Nat → Nat) (a1 : Nat → Nat) (a2 : Nat → Nat) (s0 : Rc) (s1 : Rc) (s2 : Rc) (res : Int32 × Rc × Rc × Rc) (h : fX1_readVote s0 s1 s2 = some res) : CZ l D cy yX1_readVote wsX1_readVote rmX1_readVote [.ref h0] (flat [WX1 cy h0 a0 s0, WX8 cy (a0 0) a1 s1, WX0 cy (a0 1) a2 s2]) (flat [WX1 cy h0 a0 res.2.1, WX8 cy (a0 0) a1 res.2.2.1, WX0 cy (a0 1) a2 res.2.2.2]) res.1 := sorry
abbrev rmX1_readPart : Room := { frames := 5, cells := 0, slots := 0, locals := 108 }
set_option maxHeartbeats 4000000 in
set_option maxRecDepth 100000 in
theorem kX1_readPart (l : Launch) (D : va_G) (cy : Nat → ClassId) (h0 : Nat) (a0 : Nat → Nat) (a1 : Nat → Nat) (a2 : Nat → Nat) (s0 : Rc) (s1 : Rc) (s2 : Rc) (res : Int32 × Rc × Rc × Rc) (h : fX1_readPart s0 s1 s2 = some res) : CZ l D cy yX1_readPart wsX1_readPart rmX1_readPart [.ref h0] (flat [WX1 cy h0 a0 s0, WX8 cy (a0 0) a1 s1, WX0 cy (a0 1) a2 s2]) (flat [WX1 cy h0 a0 res.2.1, WX8 cy (a0 0) a1 res.2.2.1, WX0 cy (a0 1) a2 res.2.2.2]) res.1 := sorry
abbrev rmX8_isSign : Room := { frames := 0, cells := 0, slots := 0, locals := 0 }
set_option maxHeartbeats 4000000 in
set_option maxRecDepth 100000 in
theorem kX8_isSign (l : Launch) (D : va_G) (cy : Nat → ClassId) (h0 : Nat) (a0 : Nat → Nat) (s0 : Rc) (p1 : Int32) (res : Int32) (h : fX8_isSign p1 s0 = res) : CZ l D cy yX8_isSign wsX8_isSign rmX8_isSign [.ref h0, .int p1] (flat [WX8 cy h0 a0 s0]) (flat [WX8 cy h0 a0 s0]) res := sorry
abbrev rmX8_passSign : Room := { frames := 3, cells := 0, slots := 0, locals := 65 }
set_option maxHeartbeats 4000000 in
set_option maxRecDepth 100000 in
theorem kX8_passSign (l : Launch) (D : va_G) (cy : Nat → ClassId) (h0 : Nat) (a0 : Nat → Nat) (s0 : Rc) (p1 : Int32) (res : Int32 × Rc) (h : fX8_passSign p1 s0 = some res) : CZ l D cy yX8_passSign wsX8_passSign rmX8_passSign [.ref h0, .int p1] (flat [WX8 cy h0 a0 s0]) (flat [WX8 cy h0 a0 res.2]) res.1 := sorry
abbrev rmX1_isRead : Room := { frames := 6, cells := 0, slots := 0, locals := 128 }
set_option maxHeartbeats 4000000 in
set_option maxRecDepth 100000 in
theorem kX1_isRead (l : Launch) (D : va_G) (cy : Nat → ClassId) (h0 : Nat) (a0 : Nat → Nat) (a1 : Nat → Nat) (a2 : Nat → Nat) (s0 : Rc) (s1 : Rc) (s2 : Rc) (p1 : Int32) (res : Int32 × Rc × Rc × Rc) (h : fX1_isRead p1 s0 s1 s2 = some res) : CZ l D cy yX1_isRead wsX1_isRead rmX1_isRead [.ref h0, .int p1] (flat [WX1 cy h0 a0 s0, WX8 cy (a0 0) a1 s1, WX0 cy (a0 1) a2 s2]) (flat [WX1 cy h0 a0 res.2.1, WX8 cy (a0 0) a1 res.2.2.1, WX0 cy (a0 1) a2 res.2.2.2]) res.1 := sorry
abbrev rmX2_begin : Room := { frames := 0, cells := 0, slots := 0, locals := 0 }
set_option maxHeartbeats 4000000 in
set_option maxRecDepth 100000 in
theorem kX2_begin (l : Launch) (D : va_G) (cy : Nat → ClassId) (h0 : Nat) (a0 : Nat → Nat) (s0 : Rc) (p1 : Int32) (res : Rc) (h : fX2_begin p1 s0 = res) : CV l D cy yX2_begin wsX2_begin rmX2_begin [.ref h0, .int p1] (flat [WX2 cy h0 a0 s0]) (flat [WX2 cy h0 a0 res]) := sorry
abbrev rmX3_addDay : Room := { frames := 2, cells := 0, slots := 0, locals := 41 }
set_option maxHeartbeats 4000000 in
set_option maxRecDepth 100000 in
theorem kX3_addDay (l : Launch) (D : va_G) (cy : Nat → ClassId) (h0 : Nat) (h_p1 : Nat) (a0 : Nat → Nat) (a1 : Nat → Nat) (s0 : Rc) (s1 : Rc) (p2 : Int32) (res : Rc × Rc) (h : fX3_addDay p2 s0 s1 = res) : CV l D cy yX3_addDay wsX3_addDay rmX3_addDay [.ref h0, .ref h_p1, .int p2] (flat [WX3 cy h0 a0 s0, WX0 cy h_p1 a1 s1]) (flat [WX3 cy h0 a0 res.1, WX0 cy h_p1 a1 res.2]) := sorry
abbrev rmX3_compare : Room := { frames := 0, cells := 0, slots := 0, locals := 0 }
set_option maxHeartbeats 4000000 in
set_option maxRecDepth 100000 in
theorem kX3_compare (l : Launch) (D : va_G) (cy : Nat → ClassId) (p1 : Int32) (p2 : Int32) (p3 : Int32) (res : Int32) (h : fX3_compare p1 p2 p3 = res) : CZ l D cy yX3_compare wsX3_compare rmX3_compare [.int p1, .int p2, .int p3] (flat []) (flat []) res := sorry
abbrev rmX3_lookBack : Room := { frames := 3, cells := 0, slots := 0, locals := 69 }
set_option maxHeartbeats 4000000 in
set_option maxRecDepth 100000 in
theorem kX3_lookBack (l : Launch) (D : va_G) (cy : Nat → ClassId) (h0 : Nat) (h_p1 : Nat) (h_p2 : Nat) (a0 : Nat → Nat) (a1 : Nat → Nat) (a2 : Nat → Nat) (s0 : Rc) (s1 : Rc) (s2 : Rc) (p3 : Int32) (res : Rc × Rc) (h : fX3_lookBack p3 s0 s1 s2 = some res) : CV l D cy yX3_lookBack wsX3_lookBack rmX3_lookBack [.ref h0, .ref h_p1, .ref h_p2, .int p3] (flat [WX3 cy h0 a0 s0, WX0 cy h_p1 a1 s1, WX5 cy h_p2 a2 s2]) (flat [WX3 cy h0 a0 res.1, WX0 cy h_p1 a1 res.2, WX5 cy h_p2 a2 s2]) := sorry
