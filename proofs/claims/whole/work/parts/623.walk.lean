abbrev rmX0_twingesOn : Room := { frames := 1, cells := 0, slots := 0, locals := 22 }
set_option maxHeartbeats 4000000 in
set_option maxRecDepth 100000 in
theorem kX0_twingesOn (l : Launch) (D : va_G) (cy : Nat → ClassId) (h0 : Nat) (a0 : Nat → Nat) (s0 : Rc) (p1 : Int32) (res : Int32) (h : fX0_twingesOn p1 s0 = some res) : CI l D cy yX0_twingesOn wsX0_twingesOn rmX0_twingesOn [.ref h0, .int p1] (flat [WX0 cy h0 a0 s0]) (flat [WX0 cy h0 a0 s0]) res := sorry
abbrev rmX0_twingesShared : Room := { frames := 1, cells := 0, slots := 0, locals := 21 }
set_option maxHeartbeats 4000000 in
set_option maxRecDepth 100000 in
theorem kX0_twingesShared (l : Launch) (D : va_G) (cy : Nat → ClassId) (h0 : Nat) (a0 : Nat → Nat) (s0 : Rc) (p1 : Int32) (p2 : Int32) (res : Int32) (h : fX0_twingesShared p1 p2 s0 = some res) : CI l D cy yX0_twingesShared wsX0_twingesShared rmX0_twingesShared [.ref h0, .int p1, .int p2] (flat [WX0 cy h0 a0 s0]) (flat [WX0 cy h0 a0 s0]) res := sorry
abbrev rmX0_verdictOf : Room := { frames := 3, cells := 0, slots := 0, locals := 68 }
set_option maxHeartbeats 4000000 in
set_option maxRecDepth 100000 in
theorem kX0_verdictOf (l : Launch) (D : va_G) (cy : Nat → ClassId) (h0 : Nat) (a0 : Nat → Nat) (s0 : Rc) (p1 : Int32) (res : Int32) (h : fX0_verdictOf p1 s0 = some res) : CI l D cy yX0_verdictOf wsX0_verdictOf rmX0_verdictOf [.ref h0, .int p1] (flat [WX0 cy h0 a0 s0]) (flat [WX0 cy h0 a0 s0]) res := sorry
abbrev rmX8_kindOf : Room := { frames := 0, cells := 0, slots := 0, locals := 0 }
set_option maxHeartbeats 4000000 in
set_option maxRecDepth 100000 in
theorem kX8_kindOf (l : Launch) (D : va_G) (cy : Nat → ClassId) (p1 : Int32) (res : Int32) (h : fX8_kindOf p1 = res) : CI l D cy yX8_kindOf wsX8_kindOf rmX8_kindOf [.int p1] (flat []) (flat []) res := sorry
abbrev rmX8_withLetter : Room := { frames := 0, cells := 0, slots := 0, locals := 0 }
set_option maxHeartbeats 4000000 in
set_option maxRecDepth 100000 in
theorem kX8_withLetter (l : Launch) (D : va_G) (cy : Nat → ClassId) (p1 : Int64) (p2 : Int32) (res : Int64) (h : fX8_withLetter p1 p2 = res) : CL l D cy yX8_withLetter wsX8_withLetter rmX8_withLetter [.long p1, .int p2] (flat []) (flat []) res := sorry
abbrev rmX8_lookAtWord : Room := { frames := 1, cells := 0, slots := 0, locals := 22 }
set_option maxHeartbeats 4000000 in
set_option maxRecDepth 100000 in
theorem kX8_lookAtWord (l : Launch) (D : va_G) (cy : Nat → ClassId) (h0 : Nat) (a0 : Nat → Nat) (s0 : Rc) (res : Rc) (h : fX8_lookAtWord s0 = some res) : CV l D cy yX8_lookAtWord wsX8_lookAtWord rmX8_lookAtWord [.ref h0] (flat [WX8 cy h0 a0 s0]) (flat [WX8 cy h0 a0 res]) := sorry
abbrev rmX8_lookAtNumber : Room := { frames := 1, cells := 0, slots := 0, locals := 20 }
set_option maxHeartbeats 4000000 in
set_option maxRecDepth 100000 in
theorem kX8_lookAtNumber (l : Launch) (D : va_G) (cy : Nat → ClassId) (h0 : Nat) (a0 : Nat → Nat) (s0 : Rc) (res : Rc) (h : fX8_lookAtNumber s0 = some res) : CV l D cy yX8_lookAtNumber wsX8_lookAtNumber rmX8_lookAtNumber [.ref h0] (flat [WX8 cy h0 a0 s0]) (flat [WX8 cy h0 a0 res]) := sorry
abbrev rmX8_fail : Room := { frames := 0, cells := 0, slots := 0, locals := 0 }
set_option maxHeartbeats 4000000 in
set_option maxRecDepth 100000 in
theorem kX8_fail (l : Launch) (D : va_G) (cy : Nat → ClassId) (h0 : Nat) (a0 : Nat → Nat) (s0 : Rc) (p1 : Int32) (res : Int32 × Rc) (h : fX8_fail p1 s0 = res) : CZ l D cy yX8_fail wsX8_fail rmX8_fail [.ref h0, .int p1] (flat [WX8 cy h0 a0 s0]) (flat [WX8 cy h0 a0 res.2]) res.1 := sorry
abbrev rmX8_advance : Room := { frames := 2, cells := 0, slots := 0, locals := 45 }
set_option maxHeartbeats 4000000 in
set_option maxRecDepth 100000 in
theorem kX8_advance (l : Launch) (D : va_G) (cy : Nat → ClassId) (h0 : Nat) (a0 : Nat → Nat) (s0 : Rc) (res : Int32 × Rc) (h : fX8_advance s0 = some res) : CZ l D cy yX8_advance wsX8_advance rmX8_advance [.ref h0] (flat [WX8 cy h0 a0 s0]) (flat [WX8 cy h0 a0 res.2]) res.1 := sorry
abbrev rmX8_begin : Room := { frames := 3, cells := 0, slots := 0, locals := 65 }
set_option maxHeartbeats 4000000 in
set_option maxRecDepth 100000 in
theorem kX8_begin (l : Launch) (D : va_G) (cy : Nat → ClassId) (h0 : Nat) (a0 : Nat → Nat) (s0 : Rc) (p1 : Int32) (res : Int32 × Rc) (h : fX8_begin p1 s0 = some res) : CZ l D cy yX8_begin wsX8_begin rmX8_begin [.ref h0, .int p1] (flat [WX8 cy h0 a0 s0]) (flat [WX8 cy h0 a0 res.2]) res.1 := sorry
abbrev rmX8_isAtEnd : Room := { frames := 0, cells := 0, slots := 0, locals := 0 }
set_option maxHeartbeats 4000000 in
set_option maxRecDepth 100000 in
theorem kX8_isAtEnd (l : Launch) (D : va_G) (cy : Nat → ClassId) (h0 : Nat) (a0 : Nat → Nat) (s0 : Rc) (res : Int32) (h : fX8_isAtEnd s0 = res) : CZ l D cy yX8_isAtEnd wsX8_isAtEnd rmX8_isAtEnd [.ref h0] (flat [WX8 cy h0 a0 s0]) (flat [WX8 cy h0 a0 s0]) res := sorry
abbrev rmX8_mustBeName : Room := { frames := 1, cells := 0, slots := 0, locals := 21 }
set_option maxHeartbeats 4000000 in
set_option maxRecDepth 100000 in
theorem kX8_mustBeName (l : Launch) (D : va_G) (cy : Nat → ClassId) (h0 : Nat) (a0 : Nat → Nat) (s0 : Rc) (res : Int32 × Rc) (h : fX8_mustBeName s0 = res) : CZ l D cy yX8_mustBeName wsX8_mustBeName rmX8_mustBeName [.ref h0] (flat [WX8 cy h0 a0 s0]) (flat [WX8 cy h0 a0 res.2]) res.1 := sorry
