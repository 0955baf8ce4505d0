abbrev rmX1_readNewcomer : Room := { frames := 3, cells := 0, slots := 0, locals := 65 }
set_option maxHeartbeats 4000000 in
set_option maxRecDepth 100000 in
theorem kX1_readNewcomer (l : Launch) (D : va_G) (cy : Nat → ClassId) (h0 : Nat) (a0 : Nat → Nat) (a1 : Nat → Nat) (a2 : Nat → Nat) (s0 : Rc) (s1 : Rc) (s2 : Rc) (res : Int32 × Rc × Rc × Rc) (h : fX1_readNewcomer s0 s1 s2 = some res) : CZ l D cy yX1_readNewcomer wsX1_readNewcomer rmX1_readNewcomer [.ref h0] (flat [WX1 cy h0 a0 s0, WX8 cy (a0 0) a1 s1, WX0 cy (a0 1) a2 s2]) (flat [WX1 cy h0 a0 res.2.1, WX8 cy (a0 0) a1 res.2.2.1, WX0 cy (a0 1) a2 res.2.2.2]) res.1 := sorry
abbrev rmX8_passWord : Room := { frames := 3, cells := 0, slots := 0, locals := 65 }
set_option maxHeartbeats 4000000 in
set_option maxRecDepth 100000 in
theorem kX8_passWord (l : Launch) (D : va_G) (cy : Nat → ClassId) (h0 : Nat) (a0 : Nat → Nat) (s0 : Rc) (p1 : Int32) (res : Int32 × Rc) (h : fX8_passWord p1 s0 = some res) : CZ l D cy yX8_passWord wsX8_passWord rmX8_passWord [.ref h0, .int p1] (flat [WX8 cy h0 a0 s0]) (flat [WX8 cy h0 a0 res.2]) res.1 := sorry
abbrev rmX10_outside : Room := { frames := 0, cells := 0, slots := 0, locals := 0 }
set_option maxHeartbeats 4000000 in
set_option maxRecDepth 100000 in
theorem kX10_outside (l : Launch) (D : va_G) (cy : Nat → ClassId) (p1 : Int32) (p2 : Int32) (p3 : Int32) (res : Int32) (h : fX10_outside p1 p2 p3 = res) : CZ l D cy yX10_outside wsX10_outside rmX10_outside [.int p1, .int p2, .int p3] (flat []) (flat []) res := sorry
abbrev rmX8_passNumber : Room := { frames := 3, cells := 0, slots := 0, locals := 65 }
set_option maxHeartbeats 4000000 in
set_option maxRecDepth 100000 in
theorem kX8_passNumber (l : Launch) (D : va_G) (cy : Nat → ClassId) (h0 : Nat) (a0 : Nat → Nat) (s0 : Rc) (p1 : Int32) (p2 : Int32) (res : Int32 × Rc) (h : fX8_passNumber p1 p2 s0 = some res) : CZ l D cy yX8_passNumber wsX8_passNumber rmX8_passNumber [.ref h0, .int p1, .int p2] (flat [WX8 cy h0 a0 s0]) (flat [WX8 cy h0 a0 res.2]) res.1 := sorry
abbrev rmX1_readLag : Room := { frames := 4, cells := 0, slots := 0, locals := 87 }
set_option maxHeartbeats 4000000 in
set_option maxRecDepth 100000 in
theorem kX1_readLag (l : Launch) (D : va_G) (cy : Nat → ClassId) (h0 : Nat) (a0 : Nat → Nat) (a1 : Nat → Nat) (a2 : Nat → Nat) (s0 : Rc) (s1 : Rc) (s2 : Rc) (res : Int32 × Rc × Rc) (h : fX1_readLag s0 s1 s2 = some res) : CZ l D cy yX1_readLag wsX1_readLag rmX1_readLag [.ref h0] (flat [WX1 cy h0 a0 s0, WX8 cy (a0 0) a1 s1, WX0 cy (a0 1) a2 s2]) (flat [WX1 cy h0 a0 s0, WX8 cy (a0 0) a1 res.2.1, WX0 cy (a0 1) a2 res.2.2]) res.1 := sorry
abbrev rmX1_readKnee : Room := { frames := 4, cells := 0, slots := 0, locals := 87 }
set_option maxHeartbeats 4000000 in
set_option maxRecDepth 100000 in
theorem kX1_readKnee (l : Launch) (D : va_G) (cy : Nat → ClassId) (h0 : Nat) (a0 : Nat → Nat) (a1 : Nat → Nat) (a2 : Nat → Nat) (s0 : Rc) (s1 : Rc) (s2 : Rc) (res : Int32 × Rc × Rc) (h : fX1_readKnee s0 s1 s2 = some res) : CZ l D cy yX1_readKnee wsX1_readKnee rmX1_readKnee [.ref h0] (flat [WX1 cy h0 a0 s0, WX8 cy (a0 0) a1 s1, WX0 cy (a0 1) a2 s2]) (flat [WX1 cy h0 a0 s0, WX8 cy (a0 0) a1 res.2.1, WX0 cy (a0 1) a2 res.2.2]) res.1 := sorry
abbrev rmX1_readCure : Room := { frames := 4, cells := 0, slots := 0, locals := 87 }
set_option maxHeartbeats 4000000 in
set_option maxRecDepth 100000 in
theorem kX1_readCure (l : Launch) (D : va_G) (cy : Nat → ClassId) (h0 : Nat) (a0 : Nat → Nat) (a1 : Nat → Nat) (a2 : Nat → Nat) (s0 : Rc) (s1 : Rc) (s2 : Rc) (res : Int32 × Rc × Rc) (h : fX1_readCure s0 s1 s2 = some res) : CZ l D cy yX1_readCure wsX1_readCure rmX1_readCure [.ref h0] (flat [WX1 cy h0 a0 s0, WX8 cy (a0 0) a1 s1, WX0 cy (a0 1) a2 s2]) (flat [WX1 cy h0 a0 s0, WX8 cy (a0 0) a1 res.2.1, WX0 cy (a0 1) a2 res.2.2]) res.1 := sorry
abbrev rmX8_mustBeFarmer : Room := { frames := 2, cells := 0, slots := 0, locals := 41 }
set_option maxHeartbeats 4000000 in
set_option maxRecDepth 100000 in
theorem kX8_mustBeFarmer (l : Launch) (D : va_G) (cy : Nat → ClassId) (h0 : Nat) (h_p1 : Nat) (a0 : Nat → Nat) (a1 : Nat → Nat) (s0 : Rc) (s1 : Rc) (res : Int32 × Rc) (h : fX8_mustBeFarmer s0 s1 = some res) : CZ l D cy yX8_mustBeFarmer wsX8_mustBeFarmer rmX8_mustBeFarmer [.ref h0, .ref h_p1] (flat [WX8 cy h0 a0 s0, WX0 cy h_p1 a1 s1]) (flat [WX8 cy h0 a0 res.2, WX0 cy h_p1 a1 s1]) res.1 := sorry
abbrev rmX8_passFarmer : Room := { frames := 3, cells := 0, slots := 0, locals := 65 }
set_option maxHeartbeats 4000000 in
set_option maxRecDepth 100000 in
theorem kX8_passFarmer (l : Launch) (D : va_G) (cy : Nat → ClassId) (h0 : Nat) (h_p1 : Nat) (a0 : Nat → Nat) (a1 : Nat → Nat) (s0 : Rc) (s1 : Rc) (res : Int32 × Rc) (h : fX8_passFarmer s0 s1 = some res) : CZ l D cy yX8_passFarmer wsX8_passFarmer rmX8_passFarmer [.ref h0, .ref h_p1] (flat [WX8 cy h0 a0 s0, WX0 cy h_p1 a1 s1]) (flat [WX8 cy h0 a0 res.2, WX0 cy h_p1 a1 s1]) res.1 := sorry
abbrev rmX1_readDislikes : Room := { frames := 4, cells := 0, slots := 0, locals := 87 }
set_option maxHeartbeats 4000000 in
set_option maxRecDepth 100000 in
theorem kX1_readDislikes (l : Launch) (D : va_G) (cy : Nat → ClassId) (h0 : Nat) (a0 : Nat → Nat) (a1 : Nat → Nat) (a2 : Nat → Nat) (s0 : Rc) (s1 : Rc) (s2 : Rc) (res : Int32 × Rc × Rc) (h : fX1_readDislikes s0 s1 s2 = some res) : CZ l D cy yX1_readDislikes wsX1_readDislikes rmX1_readDislikes [.ref h0] (flat [WX1 cy h0 a0 s0, WX8 cy (a0 0) a1 s1, WX0 cy (a0 1) a2 s2]) (flat [WX1 cy h0 a0 s0, WX8 cy (a0 0) a1 res.2.1, WX0 cy (a0 1) a2 res.2.2]) res.1 := sorry
abbrev rmX8_weatherAt : Room := { frames := 0, cells := 0, slots := 0, locals := 0 }
set_option maxHeartbeats 4000000 in
set_option maxRecDepth 100000 in
theorem kX8_weatherAt (l : Launch) (D : va_G) (cy : Nat → ClassId) (h0 : Nat) (a0 : Nat → Nat) (s0 : Rc) (p1 : Int32) (res : Int32) (h : fX8_weatherAt p1 s0 = some res) : CI l D cy yX8_weatherAt wsX8_weatherAt rmX8_weatherAt [.ref h0, .int p1] (flat [WX8 cy h0 a0 s0]) (flat [WX8 cy h0 a0 s0]) res := sorry
