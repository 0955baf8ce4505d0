abbrev rmX0_canAddDay : Room := { frames := 0, cells := 0, slots := 0, locals := 0 }
set_option maxHeartbeats 4000000 in
set_option maxRecDepth 100000 in
theorem kX0_canAddDay (l : Launch) (D : va_G) (cy : Nat → ClassId) (h0 : Nat) (a0 : Nat → Nat) (s0 : Rc) (res : Int32) (h : fX0_canAddDay s0 = res) : CZ l D cy yX0_canAddDay wsX0_canAddDay rmX0_canAddDay [.ref h0] (flat [WX0 cy h0 a0 s0]) (flat [WX0 cy h0 a0 s0]) res := sorry
abbrev rmX0_addDay : Room := { frames := 1, cells := 0, slots := 0, locals := 20 }
set_option maxHeartbeats 4000000 in
set_option maxRecDepth 100000 in
theorem kX0_addDay (l : Launch) (D : va_G) (cy : Nat → ClassId) (h0 : Nat) (a0 : Nat → Nat) (s0 : Rc) (p1 : Int32) (res : Rc) (h : fX0_addDay p1 s0 = res) : CV l D cy yX0_addDay wsX0_addDay rmX0_addDay [.ref h0, .int p1] (flat [WX0 cy h0 a0 s0]) (flat [WX0 cy h0 a0 res]) := sorry
abbrev rmJ13_bitCount_95d88 : Room := { frames := 0, cells := 0, slots := 0, locals := 0 }
set_option maxHeartbeats 4000000 in
set_option maxRecDepth 100000 in
theorem kJ13_bitCount_95d88 (l : Launch) (D : va_G) (cy : Nat → ClassId) (p1 : Int64) (res : Int32) (h : fJ13_bitCount_95d88 p1 = res) : CI l D cy yJ13_bitCount_95d88 wsJ13_bitCount_95d88 rmJ13_bitCount_95d88 [.long p1] (flat []) (flat []) res := sorry
abbrev rmX0_allTwinges : Room := { frames := 1, cells := 0, slots := 0, locals := 21 }
set_option maxHeartbeats 4000000 in
set_option maxRecDepth 100000 in
theorem kX0_allTwinges (l : Launch) (D : va_G) (cy : Nat → ClassId) (h0 : Nat) (a0 : Nat → Nat) (s0 : Rc) (res : Int32) (h : fX0_allTwinges s0 = some res) : CI l D cy yX0_allTwinges wsX0_allTwinges rmX0_allTwinges [.ref h0] (flat [WX0 cy h0 a0 s0]) (flat [WX0 cy h0 a0 s0]) res := sorry
abbrev rmX0_hasWord : Room := { frames := 0, cells := 0, slots := 0, locals := 0 }
set_option maxHeartbeats 4000000 in
set_option maxRecDepth 100000 in
theorem kX0_hasWord (l : Launch) (D : va_G) (cy : Nat → ClassId) (h0 : Nat) (a0 : Nat → Nat) (s0 : Rc) (p1 : Int32) (p2 : Int32) (res : Int32) (h : fX0_hasWord p1 p2 s0 = some res) : CZ l D cy yX0_hasWord wsX0_hasWord rmX0_hasWord [.ref h0, .int p1, .int p2] (flat [WX0 cy h0 a0 s0]) (flat [WX0 cy h0 a0 s0]) res := sorry
abbrev rmX0_feltOn : Room := { frames := 0, cells := 0, slots := 0, locals := 0 }
set_option maxHeartbeats 4000000 in
set_option maxRecDepth 100000 in
theorem kX0_feltOn (l : Launch) (D : va_G) (cy : Nat → ClassId) (h0 : Nat) (a0 : Nat → Nat) (s0 : Rc) (p1 : Int32) (p2 : Int32) (res : Int32) (h : fX0_feltOn p1 p2 s0 = some res) : CI l D cy yX0_feltOn wsX0_feltOn rmX0_feltOn [.ref h0, .int p1, .int p2] (flat [WX0 cy h0 a0 s0]) (flat [WX0 cy h0 a0 s0]) res := sorry
abbrev rmX0_believes : Room := { frames := 1, cells := 0, slots := 0, locals := 23 }
set_option maxHeartbeats 4000000 in
set_option maxRecDepth 100000 in
theorem kX0_believes (l : Launch) (D : va_G) (cy : Nat → ClassId) (h0 : Nat) (a0 : Nat → Nat) (s0 : Rc) (p1 : Int32) (p2 : Int32) (res : Int32) (h : fX0_believes p1 p2 s0 = some res) : CZ l D cy yX0_believes wsX0_believes rmX0_believes [.ref h0, .int p1, .int p2] (flat [WX0 cy h0 a0 s0]) (flat [WX0 cy h0 a0 s0]) res := sorry
abbrev rmX0_believersOf : Room := { frames := 2, cells := 0, slots := 0, locals := 45 }
set_option maxHeartbeats 4000000 in
set_option maxRecDepth 100000 in
theorem kX0_believersOf (l : Launch) (D : va_G) (cy : Nat → ClassId) (h0 : Nat) (a0 : Nat → Nat) (s0 : Rc) (p1 : Int32) (res : Int32) (h : fX0_believersOf p1 s0 = some res) : CI l D cy yX0_believersOf wsX0_believersOf rmX0_believersOf [.ref h0, .int p1] (flat [WX0 cy h0 a0 s0]) (flat [WX0 cy h0 a0 s0]) res := sorry
abbrev rmX0_copyFrom : Room := { frames := 1, cells := 0, slots := 0, locals := 40 }
set_option maxHeartbeats 4000000 in
set_option maxRecDepth 100000 in
theorem kX0_copyFrom (l : Launch) (D : va_G) (cy : Nat → ClassId) (h0 : Nat) (h_p1 : Nat) (a0 : Nat → Nat) (a1 : Nat → Nat) (s0 : Rc) (s1 : Rc) (res : Rc) (h : fX0_copyFrom s0 s1 = some res) : CV l D cy yX0_copyFrom wsX0_copyFrom rmX0_copyFrom [.ref h0, .ref h_p1] (flat [WX0 cy h0 a0 s0, WX0 cy h_p1 a1 s1]) (flat [WX0 cy h0 a0 res, WX0 cy h_p1 a1 s1]) := sorry
abbrev rmX10_firstDays : Room := { frames := 0, cells := 0, slots := 0, locals := 0 }
set_option maxHeartbeats 4000000 in
set_option maxRecDepth 100000 in
theorem kX10_firstDays (l : Launch) (D : va_G) (cy : Nat → ClassId) (p1 : Int32) (res : Int64) (h : fX10_firstDays p1 = res) : CL l D cy yX10_firstDays wsX10_firstDays rmX10_firstDays [.int p1] (flat []) (flat []) res := sorry
abbrev rmX0_daysThere : Room := { frames := 1, cells := 0, slots := 0, locals := 20 }
set_option maxHeartbeats 4000000 in
set_option maxRecDepth 100000 in
theorem kX0_daysThere (l : Launch) (D : va_G) (cy : Nat → ClassId) (h0 : Nat) (a0 : Nat → Nat) (s0 : Rc) (res : Int64) (h : fX0_daysThere s0 = res) : CL l D cy yX0_daysThere wsX0_daysThere rmX0_daysThere [.ref h0] (flat [WX0 cy h0 a0 s0]) (flat [WX0 cy h0 a0 s0]) res := sorry
abbrev rmX0_dislike : Room := { frames := 0, cells := 0, slots := 0, locals := 0 }
set_option maxHeartbeats 4000000 in
set_option maxRecDepth 100000 in
theorem kX0_dislike (l : Launch) (D : va_G) (cy : Nat → ClassId) (h0 : Nat) (a0 : Nat → Nat) (s0 : Rc) (p1 : Int32) (p2 : Int32) (res : Int32) (h : fX0_dislike p1 p2 s0 = some res) : CI l D cy yX0_dislike wsX0_dislike rmX0_dislike [.ref h0, .int p1, .int p2] (flat [WX0 cy h0 a0 s0]) (flat [WX0 cy h0 a0 s0]) res := sorry
abbrev rmX0_hasElbow : Room := { frames := 0, cells := 0, slots := 0, locals := 0 }
set_option maxHeartbeats 4000000 in
set_option maxRecDepth 100000 in
theorem kX0_hasElbow (l : Launch) (D : va_G) (cy : Nat → ClassId) (h0 : Nat) (a0 : Nat → Nat) (s0 : Rc) (p1 : Int32) (res : Int32) (h : fX0_hasElbow p1 s0 = res) : CZ l D cy yX0_hasElbow wsX0_hasElbow rmX0_hasElbow [.ref h0, .int p1] (flat [WX0 cy h0 a0 s0]) (flat [WX0 cy h0 a0 s0]) res := sorry
abbrev rmX0_likelihood : Room := { frames := 2, cells := 0, slots := 0, locals := 45 }
set_option maxHeartbeats 4000000 in
set_option maxRecDepth 100000 in
theorem kX0_likelihood (l : Launch) (D : va_G) (cy : Nat → ClassId) (h0 : Nat) (a0 : Nat → Nat) (s0 : Rc) (p1 : Int32) (p2 : Int32) (res : Int64) (h : fX0_likelihood p1 p2 s0 = some res) : CL l D cy yX0_likelihood wsX0_likelihood rmX0_likelihood [.ref h0, .int p1, .int p2] (flat [WX0 cy h0 a0 s0]) (flat [WX0 cy h0 a0 s0]) res := sorry
abbrev rmX0_dryShare : Room := { frames := 3, cells := 0, slots := 0, locals := 71 }
set_option maxHeartbeats 4000000 in
set_option maxRecDepth 100000 in
theorem kX0_dryShare (l : Launch) (D : va_G) (cy : Nat → ClassId) (h0 : Nat) (a0 : Nat → Nat) (s0 : Rc) (p1 : Int32) (p2 : Int32) (res : Int64) (h : fX0_dryShare p1 p2 s0 = some res) : CL l D cy yX0_dryShare wsX0_dryShare rmX0_dryShare [.ref h0, .int p1, .int p2] (flat [WX0 cy h0 a0 s0]) (flat [WX0 cy h0 a0 s0]) res := sorry
abbrev rmX0_feltWeather : Room := { frames := 1, cells := 0, slots := 0, locals := 21 }
set_option maxHeartbeats 4000000 in
set_option maxRecDepth 100000 in
theorem kX0_feltWeather (l : Launch) (D : va_G) (cy : Nat → ClassId) (h0 : Nat) (a0 : Nat → Nat) (s0 : Rc) (p1 : Int32) (res : Int64) (h : fX0_feltWeather p1 s0 = res) : CL l D cy yX0_feltWeather wsX0_feltWeather rmX0_feltWeather [.ref h0, .int p1] (flat [WX0 cy h0 a0 s0]) (flat [WX0 cy h0 a0 s0]) res := sorry
abbrev rmX10_later : Room := { frames := 0, cells := 0, slots := 0, locals := 0 }
set_option maxHeartbeats 4000000 in
set_option maxRecDepth 100000 in
theorem kX10_later (l : Launch) (D : va_G) (cy : Nat → ClassId) (p1 : Int64) (p2 : Int32) (res : Int64) (h : fX10_later p1 p2 = res) : CL l D cy yX10_later wsX10_later rmX10_later [.long p1, .int p2] (flat []) (flat []) res := sorry
abbrev rmX0_feelingDays : Room := { frames := 1, cells := 0, slots := 0, locals := 20 }
set_option maxHeartbeats 4000000 in
set_option maxRecDepth 100000 in
theorem kX0_feelingDays (l : Launch) (D : va_G) (cy : Nat → ClassId) (h0 : Nat) (a0 : Nat → Nat) (s0 : Rc) (p1 : Int32) (res : Int64) (h : fX0_feelingDays p1 s0 = some res) : CL l D cy yX0_feelingDays wsX0_feelingDays rmX0_feelingDays [.ref h0, .int p1] (flat [WX0 cy h0 a0 s0]) (flat [WX0 cy h0 a0 s0]) res := sorry
abbrev rmX0_dueDays : Room := { frames := 2, cells := 0, slots := 0, locals := 42 }
set_option maxHeartbeats 4000000 in
set_option maxRecDepth 100000 in
theorem kX0_dueDays (l : Launch) (D : va_G) (cy : Nat → ClassId) (h0 : Nat) (a0 : Nat → Nat) (s0 : Rc) (p1 : Int32) (res : Int64) (h : fX0_dueDays p1 s0 = some res) : CL l D cy yX0_dueDays wsX0_dueDays rmX0_dueDays [.ref h0, .int p1] (flat [WX0 cy h0 a0 s0]) (flat [WX0 cy h0 a0 s0]) res := sorry
