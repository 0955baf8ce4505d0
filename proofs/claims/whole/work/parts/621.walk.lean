abbrev rmX0_empty : Room := { frames := 0, cells := 0, slots := 0, locals := 0 }
set_option maxHeartbeats 4000000 in
set_option maxRecDepth 100000 in
theorem kX0_empty (l : Launch) (D : va_G) (cy : Nat → ClassId) (h0 : Nat) (a0 : Nat → Nat) (s0 : Rc) (res : Rc) (h : fX0_empty s0 = some res) : CV l D cy yX0_empty wsX0_empty rmX0_empty [.ref h0] (flat [WX0 cy h0 a0 s0]) (flat [WX0 cy h0 a0 res]) := sorry
abbrev rmX0_farmerNamed : Room := { frames := 0, cells := 0, slots := 0, locals := 0 }
set_option maxHeartbeats 4000000 in
set_option maxRecDepth 100000 in
theorem kX0_farmerNamed (l : Launch) (D : va_G) (cy : Nat → ClassId) (h0 : Nat) (a0 : Nat → Nat) (s0 : Rc) (p1 : Int64) (res : Int32) (h : fX0_farmerNamed p1 s0 = some res) : CI l D cy yX0_farmerNamed wsX0_farmerNamed rmX0_farmerNamed [.ref h0, .long p1] (flat [WX0 cy h0 a0 s0]) (flat [WX0 cy h0 a0 s0]) res := sorry
abbrev rmX2_drawBy16 : Room := { frames := 0, cells := 0, slots := 0, locals := 0 }
set_option maxHeartbeats 4000000 in
set_option maxRecDepth 100000 in
theorem kX2_drawBy16 (l : Launch) (D : va_G) (cy : Nat → ClassId) (h0 : Nat) (a0 : Nat → Nat) (s0 : Rc) (res : Int32 × Rc) (h : fX2_drawBy16 s0 = res) : CI l D cy yX2_drawBy16 wsX2_drawBy16 rmX2_drawBy16 [.ref h0] (flat [WX2 cy h0 a0 s0]) (flat [WX2 cy h0 a0 res.2]) res.1 := sorry
abbrev rmX0_feelBy : Room := { frames := 3, cells := 0, slots := 0, locals := 63 }
set_option maxHeartbeats 4000000 in
set_option maxRecDepth 100000 in
theorem kX0_feelBy (l : Launch) (D : va_G) (cy : Nat → ClassId) (h0 : Nat) (h_p1 : Nat) (a0 : Nat → Nat) (a1 : Nat → Nat) (s0 : Rc) (s1 : Rc) (res : Rc × Rc) (h : fX0_feelBy s0 s1 = some res) : CV l D cy yX0_feelBy wsX0_feelBy rmX0_feelBy [.ref h0, .ref h_p1] (flat [WX0 cy h0 a0 s0, WX2 cy h_p1 a1 s1]) (flat [WX0 cy h0 a0 res.1, WX2 cy h_p1 a1 res.2]) := sorry
abbrev rmJ6_bitCount_0f7a4 : Room := { frames := 0, cells := 0, slots := 0, locals := 0 }
set_option maxHeartbeats 4000000 in
set_option maxRecDepth 100000 in
theorem kJ6_bitCount_0f7a4 (l : Launch) (D : va_G) (cy : Nat → ClassId) (p1 : Int32) (res : Int32) (h : fJ6_bitCount_0f7a4 p1 = res) : CI l D cy yJ6_bitCount_0f7a4 wsJ6_bitCount_0f7a4 rmJ6_bitCount_0f7a4 [.int p1] (flat []) (flat []) res := sorry
abbrev rmX0_rainDays : Room := { frames := 2, cells := 0, slots := 0, locals := 41 }
set_option maxHeartbeats 4000000 in
set_option maxRecDepth 100000 in
theorem kX0_rainDays (l : Launch) (D : va_G) (cy : Nat → ClassId) (h0 : Nat) (a0 : Nat → Nat) (s0 : Rc) (p1 : Int32) (res : Int64) (h : fX0_rainDays p1 s0 = some res) : CL l D cy yX0_rainDays wsX0_rainDays rmX0_rainDays [.ref h0, .int p1] (flat [WX0 cy h0 a0 s0]) (flat [WX0 cy h0 a0 s0]) res := sorry
abbrev rmX0_rainDaysOfSet : Room := { frames := 3, cells := 0, slots := 0, locals := 62 }
set_option maxHeartbeats 4000000 in
set_option maxRecDepth 100000 in
theorem kX0_rainDaysOfSet (l : Launch) (D : va_G) (cy : Nat → ClassId) (h0 : Nat) (a0 : Nat → Nat) (s0 : Rc) (p1 : Int32) (res : Int64) (h : fX0_rainDaysOfSet p1 s0 = some res) : CL l D cy yX0_rainDaysOfSet wsX0_rainDaysOfSet rmX0_rainDaysOfSet [.ref h0, .int p1] (flat [WX0 cy h0 a0 s0]) (flat [WX0 cy h0 a0 s0]) res := sorry
abbrev rmX0_isEnough : Room := { frames := 4, cells := 0, slots := 0, locals := 86 }
set_option maxHeartbeats 4000000 in
set_option maxRecDepth 100000 in
theorem kX0_isEnough (l : Launch) (D : va_G) (cy : Nat → ClassId) (h0 : Nat) (a0 : Nat → Nat) (s0 : Rc) (p1 : Int32) (p2 : Int32) (res : Int32) (h : fX0_isEnough p1 p2 s0 = some res) : CZ l D cy yX0_isEnough wsX0_isEnough rmX0_isEnough [.ref h0, .int p1, .int p2] (flat [WX0 cy h0 a0 s0]) (flat [WX0 cy h0 a0 s0]) res := sorry
abbrev rmX0_fewestKnees : Room := { frames := 5, cells := 0, slots := 0, locals := 110 }
set_option maxHeartbeats 4000000 in
set_option maxRecDepth 100000 in
theorem kX0_fewestKnees (l : Launch) (D : va_G) (cy : Nat → ClassId) (h0 : Nat) (a0 : Nat → Nat) (s0 : Rc) (p1 : Int32) (res : Int32) (h : fX0_fewestKnees p1 s0 = some res) : CI l D cy yX0_fewestKnees wsX0_fewestKnees rmX0_fewestKnees [.ref h0, .int p1] (flat [WX0 cy h0 a0 s0]) (flat [WX0 cy h0 a0 s0]) res := sorry
abbrev rmX0_tellersOf : Room := { frames := 1, cells := 0, slots := 0, locals := 23 }
set_option maxHeartbeats 4000000 in
set_option maxRecDepth 100000 in
theorem kX0_tellersOf (l : Launch) (D : va_G) (cy : Nat → ClassId) (h0 : Nat) (a0 : Nat → Nat) (s0 : Rc) (p1 : Int32) (res : Int32) (h : fX0_tellersOf p1 s0 = some res) : CI l D cy yX0_tellersOf wsX0_tellersOf rmX0_tellersOf [.ref h0, .int p1] (flat [WX0 cy h0 a0 s0]) (flat [WX0 cy h0 a0 s0]) res := sorry
abbrev rmX10_bit : Room := { frames := 0, cells := 0, slots := 0, locals := 0 }
set_option maxHeartbeats 4000000 in
set_option maxRecDepth 100000 in
theorem kX10_bit (l : Launch) (D : va_G) (cy : Nat → ClassId) (p1 : Int32) (res : Int32) (h : fX10_bit p1 = res) : CI l D cy yX10_bit wsX10_bit rmX10_bit [.int p1] (flat []) (flat []) res := sorry
abbrev rmX0_weightOf : Room := { frames := 0, cells := 0, slots := 0, locals := 0 }
set_option maxHeartbeats 4000000 in
set_option maxRecDepth 100000 in
theorem kX0_weightOf (l : Launch) (D : va_G) (cy : Nat → ClassId) (h0 : Nat) (a0 : Nat → Nat) (s0 : Rc) (p1 : Int32) (res : Int32) (h : fX0_weightOf p1 s0 = some res) : CI l D cy yX0_weightOf wsX0_weightOf rmX0_weightOf [.ref h0, .int p1] (flat [WX0 cy h0 a0 s0]) (flat [WX0 cy h0 a0 s0]) res := sorry
abbrev rmX0_verdict : Room := { frames := 1, cells := 0, slots := 0, locals := 23 }
set_option maxHeartbeats 4000000 in
set_option maxRecDepth 100000 in
theorem kX0_verdict (l : Launch) (D : va_G) (cy : Nat → ClassId) (h0 : Nat) (a0 : Nat → Nat) (s0 : Rc) (p1 : Int32) (p2 : Int32) (p3 : Int32) (res : Int32) (h : fX0_verdict p1 p2 p3 s0 = some res) : CI l D cy yX0_verdict wsX0_verdict rmX0_verdict [.ref h0, .int p1, .int p2, .int p3] (flat [WX0 cy h0 a0 s0]) (flat [WX0 cy h0 a0 s0]) res := sorry
