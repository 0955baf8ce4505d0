abbrev rmX11_inWords : Room := { frames := 4, cells := 0, slots := 0, locals := 85 }
set_option maxHeartbeats 4000000 in
set_option maxRecDepth 100000 in
theorem kX11_inWords (S : Nat → Nat) (l : Launch) (D : va_G) (cy : Nat → ClassId) (h0 : Nat) (a0 : Nat → Nat) (s0 : Rc) (res : Int32) (h : fX11_inWords s0 = some res) : CI2 S l D cy yX11_inWords wsX11_inWords rmX11_inWords [.ref h0, .ref (S 2)] (flat [WX11 cy h0 a0 s0]) (flat [WX11 cy h0 a0 s0]) res := sorry
abbrev rmX11_isName : Room := { frames := 5, cells := 0, slots := 0, locals := 111 }
set_option maxHeartbeats 4000000 in
set_option maxRecDepth 100000 in
theorem kX11_isName (S : Nat → Nat) (l : Launch) (D : va_G) (cy : Nat → ClassId) (h0 : Nat) (a0 : Nat → Nat) (s0 : Rc) (res : Int32) (h : fX11_isName s0 = some res) : CZ2 S l D cy yX11_isName wsX11_isName rmX11_isName [.ref h0, .ref (S 2)] (flat [WX11 cy h0 a0 s0]) (flat [WX11 cy h0 a0 s0]) res := sorry
abbrev rmX11_oldOne : Room := { frames := 6, cells := 0, slots := 0, locals := 132 }
set_option maxHeartbeats 4000000 in
set_option maxRecDepth 100000 in
theorem kX11_oldOne (S : Nat → Nat) (l : Launch) (D : va_G) (cy : Nat → ClassId) (h0 : Nat) (a0 : Nat → Nat) (s0 : Rc) (p1 : Int32) (p2 : Int32) (p3 : Int32) (res : Int32 × Rc) (h : fX11_oldOne p1 p2 p3 s0 = some res) : CZ2 S l D cy yX11_oldOne wsX11_oldOne rmX11_oldOne [.ref h0, .int p1, .int p2, .int p3] (flat [WX11 cy h0 a0 s0]) (flat [WX11 cy h0 a0 res.2]) res.1 := sorry
abbrev rmX11_aDislike : Room := { frames := 7, cells := 0, slots := 0, locals := 155 }
set_option maxHeartbeats 4000000 in
set_option maxRecDepth 100000 in
theorem kX11_aDislike (S : Nat → Nat) (l : Launch) (D : va_G) (cy : Nat → ClassId) (h0 : Nat) (a0 : Nat → Nat) (s0 : Rc) (res : Int32 × Rc) (h : fX11_aDislike s0 = some res) : CZ2 S l D cy yX11_aDislike wsX11_aDislike rmX11_aDislike [.ref h0] (flat [WX11 cy h0 a0 s0]) (flat [WX11 cy h0 a0 res.2]) res.1 := sorry
abbrev rmX11_wantWord : Room := { frames := 5, cells := 0, slots := 0, locals := 111 }
set_option maxHeartbeats 4000000 in
set_option maxRecDepth 100000 in
theorem kX11_wantWord (S : Nat → Nat) (l : Launch) (D : va_G) (cy : Nat → ClassId) (h0 : Nat) (a0 : Nat → Nat) (s0 : Rc) (p2 : Int32) (res : Int32 × Rc) (h : fX11_wantWord p2 s0 = some res) : CZ2 S l D cy yX11_wantWord wsX11_wantWord rmX11_wantWord [.ref h0, .ref (S 2), .int p2] (flat [WX11 cy h0 a0 s0]) (flat [WX11 cy h0 a0 res.2]) res.1 := sorry
abbrev rmX11_isThere : Room := { frames := 5, cells := 0, slots := 0, locals := 111 }
set_option maxHeartbeats 4000000 in
set_option maxRecDepth 100000 in
theorem kX11_isThere (S : Nat → Nat) (l : Launch) (D : va_G) (cy : Nat → ClassId) (h0 : Nat) (a0 : Nat → Nat) (s0 : Rc) (p1 : Int32) (res : Int32 × Rc) (h : fX11_isThere p1 s0 = some res) : CZ2 S l D cy yX11_isThere wsX11_isThere rmX11_isThere [.ref h0, .int p1] (flat [WX11 cy h0 a0 s0]) (flat [WX11 cy h0 a0 res.2]) res.1 := sorry
abbrev rmX11_aFarmer : Room := { frames := 6, cells := 0, slots := 0, locals := 133 }
set_option maxHeartbeats 4000000 in
set_option maxRecDepth 100000 in
theorem kX11_aFarmer (S : Nat → Nat) (l : Launch) (D : va_G) (cy : Nat → ClassId) (h0 : Nat) (a0 : Nat → Nat) (s0 : Rc) (res : Int32 × Rc) (h : fX11_aFarmer s0 = some res) : CZ2 S l D cy yX11_aFarmer wsX11_aFarmer rmX11_aFarmer [.ref h0] (flat [WX11 cy h0 a0 s0]) (flat [WX11 cy h0 a0 res.2]) res.1 := sorry
