abbrev rmX11_seasonStep : Room := { frames := 10, cells := 0, slots := 0, locals := 220 }
set_option maxHeartbeats 4000000 in
set_option maxRecDepth 100000 in
theorem kX11_seasonStep (S : Nat → Nat) (l : Launch) (D : va_G) (cy : Nat → ClassId) (h0 : Nat) (a0 : Nat → Nat) (s0 : Rc) (res : Int32 × Rc) (h : fX11_seasonStep s0 = some res) : CZ2 S l D cy yX11_seasonStep wsX11_seasonStep rmX11_seasonStep [.ref h0] (flat [WX11 cy h0 a0 s0]) (flat [WX11 cy h0 a0 res.2]) res.1 := sorry
abbrev rmX11_season : Room := { frames := 11, cells := 0, slots := 0, locals := 245 }
set_option maxHeartbeats 4000000 in
set_option maxRecDepth 100000 in
theorem kX11_season (S : Nat → Nat) (l : Launch) (D : va_G) (cy : Nat → ClassId) (h0 : Nat) (a0 : Nat → Nat) (s0 : Rc) (p1 : Int32) (res : Int32 × Rc) (h : fX11_season p1 s0 = some res) : CI2 S l D cy yX11_season wsX11_season rmX11_season [.ref h0, .int p1] (flat [WX11 cy h0 a0 s0]) (flat [WX11 cy h0 a0 res.2]) res.1 := sorry
