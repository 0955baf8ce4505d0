abbrev rmX6_readEnd : Room := { frames := 3, cells := 0, slots := 0, locals := 65 }
set_option maxHeartbeats 4000000 in
set_option maxRecDepth 100000 in
theorem kX6_readEnd (l : Launch) (D : va_G) (cy : Nat → ClassId) (h0 : Nat) (a0 : Nat → Nat) (a1 : Nat → Nat) (a2 : Nat → Nat) (s0 : Rc) (s1 : Rc) (s2 : Rc) (res : Int32 × Rc × Rc × Rc) (h : fX6_readEnd s0 s1 s2 = some res) : CZ l D cy yX6_readEnd wsX6_readEnd rmX6_readEnd [.ref h0] (flat [WX6 cy h0 a0 s0, WX8 cy (a0 0) a1 s1, WX5 cy (a0 1) a2 s2]) (flat [WX6 cy h0 a0 res.2.1, WX8 cy (a0 0) a1 res.2.2.1, WX5 cy (a0 1) a2 res.2.2.2]) res.1 := sorry
abbrev rmX6_isStep : Room := { frames := 0, cells := 0, slots := 0, locals := 0 }
set_option maxHeartbeats 4000000 in
set_option maxRecDepth 100000 in
theorem kX6_isStep (l : Launch) (D : va_G) (cy : Nat → ClassId) (p1 : Int32) (res : Int32) (h : fX6_isStep p1 = res) : CZ l D cy yX6_isStep wsX6_isStep rmX6_isStep [.int p1] (flat []) (flat []) res := sorry
abbrev rmX6_readStep : Room := { frames := 3, cells := 0, slots := 0, locals := 65 }
set_option maxHeartbeats 4000000 in
set_option maxRecDepth 100000 in
theorem kX6_readStep (l : Launch) (D : va_G) (cy : Nat → ClassId) (h0 : Nat) (a0 : Nat → Nat) (a1 : Nat → Nat) (a2 : Nat → Nat) (s0 : Rc) (s1 : Rc) (s2 : Rc) (res : Int32 × Rc × Rc × Rc) (h : fX6_readStep s0 s1 s2 = some res) : CZ l D cy yX6_readStep wsX6_readStep rmX6_readStep [.ref h0] (flat [WX6 cy h0 a0 s0, WX8 cy (a0 0) a1 s1, WX5 cy (a0 1) a2 s2]) (flat [WX6 cy h0 a0 res.2.1, WX8 cy (a0 0) a1 res.2.2.1, WX5 cy (a0 1) a2 res.2.2.2]) res.1 := sorry
abbrev rmX6_readFarmerOn : Room := { frames := 4, cells := 0, slots := 0, locals := 86 }
set_option maxHeartbeats 4000000 in
set_option maxRecDepth 100000 in
theorem kX6_readFarmerOn (l : Launch) (D : va_G) (cy : Nat → ClassId) (h0 : Nat) (a0 : Nat → Nat) (a1 : Nat → Nat) (a2 : Nat → Nat) (s0 : Rc) (s1 : Rc) (s2 : Rc) (res : Int32 × Rc) (h : fX6_readFarmerOn s0 s1 s2 = some res) : CZ l D cy yX6_readFarmerOn wsX6_readFarmerOn rmX6_readFarmerOn [.ref h0] (flat [WX6 cy h0 a0 s0, WX8 cy (a0 0) a1 s1, WX0 cy (a0 2) a2 s2]) (flat [WX6 cy h0 a0 s0, WX8 cy (a0 0) a1 res.2, WX0 cy (a0 2) a2 s2]) res.1 := sorry
abbrev rmX6_readSign : Room := { frames := 3, cells := 0, slots := 0, locals := 65 }
set_option maxHeartbeats 4000000 in
set_option maxRecDepth 100000 in
theorem kX6_readSign (l : Launch) (D : va_G) (cy : Nat → ClassId) (h0 : Nat) (a0 : Nat → Nat) (a1 : Nat → Nat) (a2 : Nat → Nat) (s0 : Rc) (s1 : Rc) (s2 : Rc) (res : Int32 × Rc × Rc) (h : fX6_readSign s0 s1 s2 = some res) : CZ l D cy yX6_readSign wsX6_readSign rmX6_readSign [.ref h0] (flat [WX6 cy h0 a0 s0, WX8 cy (a0 0) a1 s1, WX5 cy (a0 1) a2 s2]) (flat [WX6 cy h0 a0 s0, WX8 cy (a0 0) a1 res.2.1, WX5 cy (a0 1) a2 res.2.2]) res.1 := sorry
abbrev rmX6_readTest : Room := { frames := 4, cells := 0, slots := 0, locals := 87 }
set_option maxHeartbeats 4000000 in
set_option maxRecDepth 100000 in
theorem kX6_readTest (l : Launch) (D : va_G) (cy : Nat → ClassId) (h0 : Nat) (a0 : Nat → Nat) (a1 : Nat → Nat) (a2 : Nat → Nat) (a3 : Nat → Nat) (s0 : Rc) (s1 : Rc) (s2 : Rc) (s3 : Rc) (res : Int32 × Rc × Rc) (h : fX6_readTest s0 s1 s2 s3 = some res) : CZ l D cy yX6_readTest wsX6_readTest rmX6_readTest [.ref h0] (flat [WX6 cy h0 a0 s0, WX8 cy (a0 0) a1 s1, WX5 cy (a0 1) a2 s2, WX0 cy (a0 2) a3 s3]) (flat [WX6 cy h0 a0 s0, WX8 cy (a0 0) a1 res.2.1, WX5 cy (a0 1) a2 res.2.2, WX0 cy (a0 2) a3 s3]) res.1 := sorry
abbrev rmX6_readRest : Room := { frames := 5, cells := 0, slots := 0, locals := 107 }
set_option maxHeartbeats 4000000 in
set_option maxRecDepth 100000 in
theorem kX6_readRest (l : Launch) (D : va_G) (cy : Nat → ClassId) (h0 : Nat) (a0 : Nat → Nat) (a1 : Nat → Nat) (a2 : Nat → Nat) (a3 : Nat → Nat) (s0 : Rc) (s1 : Rc) (s2 : Rc) (s3 : Rc) (res : Int32 × Rc × Rc) (h : fX6_readRest s0 s1 s2 s3 = some res) : CZ l D cy yX6_readRest wsX6_readRest rmX6_readRest [.ref h0] (flat [WX6 cy h0 a0 s0, WX8 cy (a0 0) a1 s1, WX5 cy (a0 1) a2 s2, WX0 cy (a0 2) a3 s3]) (flat [WX6 cy h0 a0 s0, WX8 cy (a0 0) a1 res.2.1, WX5 cy (a0 1) a2 res.2.2, WX0 cy (a0 2) a3 s3]) res.1 := sorry
abbrev rmX6_keepRest : Room := { frames := 0, cells := 0, slots := 0, locals := 0 }
set_option maxHeartbeats 4000000 in
set_option maxRecDepth 100000 in
theorem kX6_keepRest (l : Launch) (D : va_G) (cy : Nat → ClassId) (h0 : Nat) (a0 : Nat → Nat) (a1 : Nat → Nat) (a2 : Nat → Nat) (s0 : Rc) (s1 : Rc) (s2 : Rc) (res : Int32 × Rc) (h : fX6_keepRest s0 s1 s2 = some res) : CZ l D cy yX6_keepRest wsX6_keepRest rmX6_keepRest [.ref h0] (flat [WX6 cy h0 a0 s0, WX8 cy (a0 0) a1 s1, WX5 cy (a0 1) a2 s2]) (flat [WX6 cy h0 a0 s0, WX8 cy (a0 0) a1 s1, WX5 cy (a0 1) a2 res.2]) res.1 := sorry
