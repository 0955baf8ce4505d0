set_option maxRecDepth 20000 in
theorem ggX11_stairs_X11_isFarmer : GoodIn wsX11_stairs wsX11_isFarmer := goodIn_r _ [9, 3, 55, 56, 57, 58, 59, 60, 61, 62, 63, 64, 65, 66, 67, 68, 69, 70, 71, 72, 73, 74, 75, 76, 77, 78, 79, 80, 81, 82, 83, 84, 85, 86, 87, 88, 89, 90, 91, 92] (by decide +kernel) (by decide +kernel)
set_option maxRecDepth 20000 in
theorem gX11_stairs_X11_isFarmer : GoodIn wsX11_stairs (wsV RX11 267 RX11 yX11_isFarmer wsX11_isFarmer) := goodIn_app (goodIn_of _ (by decide +kernel)) ggX11_stairs_X11_isFarmer
set_option maxRecDepth 20000 in
theorem ggX11_stairs_X11_isTray : GoodIn wsX11_stairs wsX11_isTray := goodIn_r _ [12] (by decide +kernel) (by decide +kernel)
set_option maxRecDepth 20000 in
theorem gX11_stairs_X11_isTray : GoodIn wsX11_stairs (va_wsS RX11 86 yX11_isTray wsX11_isTray) := goodIn_app (goodIn_of _ (by decide +kernel)) ggX11_stairs_X11_isTray
set_option maxRecDepth 20000 in
theorem ggX11_stairs_X11_isFrom : GoodIn wsX11_stairs wsX11_isFrom := goodIn_r _ [15] (by decide +kernel) (by decide +kernel)
set_option maxRecDepth 20000 in
theorem gX11_stairs_X11_isFrom : GoodIn wsX11_stairs (va_wsS RX11 282 yX11_isFrom wsX11_isFrom) := goodIn_app (goodIn_of _ (by decide +kernel)) ggX11_stairs_X11_isFrom
set_option maxRecDepth 20000 in
theorem ggX11_stairs_X11_refuse : GoodIn wsX11_stairs wsX11_refuse := goodIn_r _ [19, 20, 55, 56, 57, 58, 59, 60, 61, 62, 63, 64, 65, 66, 67, 68, 69, 70, 71, 72, 73, 74, 75, 76, 77, 78, 79, 80, 81, 82, 83, 84, 85, 86, 87, 88, 89, 90, 91, 92] (by decide +kernel) (by decide +kernel)
set_option maxRecDepth 20000 in
theorem gX11_stairs_X11_refuse : GoodIn wsX11_stairs (wsV RX11 75 RX11 yX11_refuse wsX11_refuse) := goodIn_app (goodIn_of _ (by decide +kernel)) ggX11_stairs_X11_refuse
set_option maxRecDepth 20000 in
theorem ggX11_stairs_X11_felt : GoodIn wsX11_stairs wsX11_felt := goodIn_r _ [24, 3, 25, 26, 8, 27, 55, 56, 57, 58, 59, 60, 61, 62, 63, 64, 65, 66, 67, 68, 69, 70, 71, 72, 73, 74, 75, 76, 77, 78, 79, 80, 81, 82, 83, 84, 85, 86, 87, 88, 89, 90, 91, 92] (by decide +kernel) (by decide +kernel)
set_option maxRecDepth 20000 in
theorem gX11_stairs_X11_felt : GoodIn wsX11_stairs (wsV RX11 313 RX11 yX11_felt wsX11_felt) := goodIn_app (goodIn_of _ (by decide +kernel)) ggX11_stairs_X11_felt
set_option maxRecDepth 20000 in
theorem ggX11_stairs_X11_shouldFeel : GoodIn wsX11_stairs wsX11_shouldFeel := goodIn_r _ [31, 32, 33, 34, 8, 35, 3, 36, 37, 38, 39, 40, 41, 42, 43, 44, 45, 46, 47, 48, 49, 50, 55, 56, 57, 58, 59, 60, 61, 62, 63, 64, 65, 66, 67, 68, 69, 70, 71, 72, 73, 74, 75, 76, 77, 78, 79, 80, 81, 82, 83, 84, 85, 86, 87, 88, 89, 90, 91, 92] (by decide +kernel) (by decide +kernel)
set_option maxRecDepth 20000 in
theorem gX11_stairs_X11_shouldFeel : GoodIn wsX11_stairs (wsV RX11 228 RX11 yX11_shouldFeel wsX11_shouldFeel) := goodIn_app (goodIn_of _ (by decide +kernel)) ggX11_stairs_X11_shouldFeel
set_option maxRecDepth 20000 in
theorem ggX11_stairs_X11_gives : GoodIn wsX11_stairs wsX11_gives := goodIn_r _ [54, 20, 55, 56, 57, 58, 59, 60, 61, 62, 63, 64, 65, 66, 67, 68, 69, 70, 71, 72, 73, 74, 75, 76, 77, 78, 79, 80, 81, 82, 83, 84, 85, 86, 87, 88, 89, 90, 91, 92] (by decide +kernel) (by decide +kernel)
set_option maxRecDepth 20000 in
theorem gX11_stairs_X11_gives : GoodIn wsX11_stairs (wsV RX11 79 RX11 yX11_gives wsX11_gives) := goodIn_app (goodIn_of _ (by decide +kernel)) ggX11_stairs_X11_gives
theorem dX11_stairs_0 : decode cX11_stairs 0 = .ok (.aload_n 0, 1) := by decide +kernel
theorem dX11_stairs_1 : decode cX11_stairs 1 = .ok (.iload_n 1, 1) := by decide +kernel
theorem dX11_stairs_2 : decode cX11_stairs 2 = .ok (.invokevirtual 267, 3) := by decide +kernel
theorem dX11_stairs_5 : decode cX11_stairs 5 = .ok (.ifCond .eq 22, 3) := by decide +kernel
theorem dX11_stairs_8 : decode cX11_stairs 8 = .ok (.iload_n 2, 1) := by decide +kernel
theorem dX11_stairs_9 : decode cX11_stairs 9 = .ok (.invokestatic 86, 3) := by decide +kernel
theorem dX11_stairs_12 : decode cX11_stairs 12 = .ok (.ifCond .eq 15, 3) := by decide +kernel
theorem dX11_stairs_15 : decode cX11_stairs 15 = .ok (.iload_n 3, 1) := by decide +kernel
theorem dX11_stairs_16 : decode cX11_stairs 16 = .ok (.i2l, 1) := by decide +kernel
theorem dX11_stairs_17 : decode cX11_stairs 17 = .ok (.lconst 1, 1) := by decide +kernel
theorem dX11_stairs_18 : decode cX11_stairs 18 = .ok (.ldc2_w 390, 3) := by decide +kernel
theorem dX11_stairs_21 : decode cX11_stairs 21 = .ok (.invokestatic 282, 3) := by decide +kernel
theorem dX11_stairs_24 : decode cX11_stairs 24 = .ok (.ifCond .ne 9, 3) := by decide +kernel
theorem dX11_stairs_27 : decode cX11_stairs 27 = .ok (.aload_n 0, 1) := by decide +kernel
theorem dX11_stairs_28 : decode cX11_stairs 28 = .ok (.iconst 1, 1) := by decide +kernel
theorem dX11_stairs_29 : decode cX11_stairs 29 = .ok (.invokevirtual 75, 3) := by decide +kernel
theorem dX11_stairs_32 : decode cX11_stairs 32 = .ok (.ireturn, 1) := by decide +kernel
theorem dX11_stairs_33 : decode cX11_stairs 33 = .ok (.aload_n 0, 1) := by decide +kernel
theorem dX11_stairs_34 : decode cX11_stairs 34 = .ok (.getfield 24, 3) := by decide +kernel
theorem dX11_stairs_37 : decode cX11_stairs 37 = .ok (.iload_n 2, 1) := by decide +kernel
theorem dX11_stairs_38 : decode cX11_stairs 38 = .ok (.iaload, 1) := by decide +kernel
theorem dX11_stairs_39 : decode cX11_stairs 39 = .ok (.iconst (-1), 1) := by decide +kernel
theorem dX11_stairs_40 : decode cX11_stairs 40 = .ok (.if_icmp .ne 9, 3) := by decide +kernel
theorem dX11_stairs_43 : decode cX11_stairs 43 = .ok (.aload_n 0, 1) := by decide +kernel
theorem dX11_stairs_44 : decode cX11_stairs 44 = .ok (.iconst 2, 1) := by decide +kernel
theorem dX11_stairs_45 : decode cX11_stairs 45 = .ok (.invokevirtual 75, 3) := by decide +kernel
theorem dX11_stairs_48 : decode cX11_stairs 48 = .ok (.ireturn, 1) := by decide +kernel
theorem dX11_stairs_49 : decode cX11_stairs 49 = .ok (.aload_n 0, 1) := by decide +kernel
theorem dX11_stairs_50 : decode cX11_stairs 50 = .ok (.getfield 24, 3) := by decide +kernel
theorem dX11_stairs_53 : decode cX11_stairs 53 = .ok (.iload_n 2, 1) := by decide +kernel
theorem dX11_stairs_54 : decode cX11_stairs 54 = .ok (.iaload, 1) := by decide +kernel
theorem dX11_stairs_55 : decode cX11_stairs 55 = .ok (.aload_n 0, 1) := by decide +kernel
theorem dX11_stairs_56 : decode cX11_stairs 56 = .ok (.getfield 7, 3) := by decide +kernel
theorem dX11_stairs_59 : decode cX11_stairs 59 = .ok (.iconst 1, 1) := by decide +kernel
theorem dX11_stairs_60 : decode cX11_stairs 60 = .ok (.iaload, 1) := by decide +kernel
theorem dX11_stairs_61 : decode cX11_stairs 61 = .ok (.if_icmp .ge 9, 3) := by decide +kernel
theorem dX11_stairs_64 : decode cX11_stairs 64 = .ok (.aload_n 0, 1) := by decide +kernel
theorem dX11_stairs_65 : decode cX11_stairs 65 = .ok (.iconst 3, 1) := by decide +kernel
theorem dX11_stairs_66 : decode cX11_stairs 66 = .ok (.invokevirtual 75, 3) := by decide +kernel
theorem dX11_stairs_69 : decode cX11_stairs 69 = .ok (.ireturn, 1) := by decide +kernel
theorem dX11_stairs_70 : decode cX11_stairs 70 = .ok (.iconst 0, 1) := by decide +kernel
theorem dX11_stairs_71 : decode cX11_stairs 71 = .ok (.istore 4, 2) := by decide +kernel
theorem dX11_stairs_73 : decode cX11_stairs 73 = .ok (.iload 4, 2) := by decide +kernel
theorem dX11_stairs_75 : decode cX11_stairs 75 = .ok (.aload_n 0, 1) := by decide +kernel
theorem dX11_stairs_76 : decode cX11_stairs 76 = .ok (.getfield 7, 3) := by decide +kernel
theorem dX11_stairs_79 : decode cX11_stairs 79 = .ok (.iconst 1, 1) := by decide +kernel
theorem dX11_stairs_80 : decode cX11_stairs 80 = .ok (.iaload, 1) := by decide +kernel
theorem dX11_stairs_81 : decode cX11_stairs 81 = .ok (.if_icmp .ge 37, 3) := by decide +kernel
theorem dX11_stairs_84 : decode cX11_stairs 84 = .ok (.aload_n 0, 1) := by decide +kernel
theorem dX11_stairs_85 : decode cX11_stairs 85 = .ok (.getfield 27, 3) := by decide +kernel
theorem dX11_stairs_88 : decode cX11_stairs 88 = .ok (.bipush 60, 2) := by decide +kernel
theorem dX11_stairs_90 : decode cX11_stairs 90 = .ok (.iload_n 2, 1) := by decide +kernel
theorem dX11_stairs_91 : decode cX11_stairs 91 = .ok (.imul, 1) := by decide +kernel
theorem dX11_stairs_92 : decode cX11_stairs 92 = .ok (.iload 4, 2) := by decide +kernel
theorem dX11_stairs_94 : decode cX11_stairs 94 = .ok (.iadd, 1) := by decide +kernel
theorem dX11_stairs_95 : decode cX11_stairs 95 = .ok (.laload, 1) := by decide +kernel
theorem dX11_stairs_96 : decode cX11_stairs 96 = .ok (.lconst 0, 1) := by decide +kernel
theorem dX11_stairs_97 : decode cX11_stairs 97 = .ok (.ldc2_w 390, 3) := by decide +kernel
theorem dX11_stairs_100 : decode cX11_stairs 100 = .ok (.invokestatic 282, 3) := by decide +kernel
theorem dX11_stairs_103 : decode cX11_stairs 103 = .ok (.ifCond .ne 9, 3) := by decide +kernel
theorem dX11_stairs_106 : decode cX11_stairs 106 = .ok (.aload_n 0, 1) := by decide +kernel
theorem dX11_stairs_107 : decode cX11_stairs 107 = .ok (.iconst 5, 1) := by decide +kernel
theorem dX11_stairs_108 : decode cX11_stairs 108 = .ok (.invokevirtual 75, 3) := by decide +kernel
theorem dX11_stairs_111 : decode cX11_stairs 111 = .ok (.ireturn, 1) := by decide +kernel
theorem dX11_stairs_112 : decode cX11_stairs 112 = .ok (.iinc 4 1, 3) := by decide +kernel
theorem dX11_stairs_115 : decode cX11_stairs 115 = .ok (.goto (-42), 3) := by decide +kernel
theorem dX11_stairs_118 : decode cX11_stairs 118 = .ok (.iconst 0, 1) := by decide +kernel
theorem dX11_stairs_119 : decode cX11_stairs 119 = .ok (.istore 4, 2) := by decide +kernel
theorem dX11_stairs_121 : decode cX11_stairs 121 = .ok (.iconst 0, 1) := by decide +kernel
theorem dX11_stairs_122 : decode cX11_stairs 122 = .ok (.istore 5, 2) := by decide +kernel
theorem dX11_stairs_124 : decode cX11_stairs 124 = .ok (.iload 5, 2) := by decide +kernel
theorem dX11_stairs_126 : decode cX11_stairs 126 = .ok (.aload_n 0, 1) := by decide +kernel
theorem dX11_stairs_127 : decode cX11_stairs 127 = .ok (.getfield 7, 3) := by decide +kernel
theorem dX11_stairs_130 : decode cX11_stairs 130 = .ok (.iconst 1, 1) := by decide +kernel
theorem dX11_stairs_131 : decode cX11_stairs 131 = .ok (.iaload, 1) := by decide +kernel
theorem dX11_stairs_132 : decode cX11_stairs 132 = .ok (.if_icmp .ge 57, 3) := by decide +kernel
theorem dX11_stairs_135 : decode cX11_stairs 135 = .ok (.iload 4, 2) := by decide +kernel
theorem dX11_stairs_137 : decode cX11_stairs 137 = .ok (.aload_n 0, 1) := by decide +kernel
theorem dX11_stairs_138 : decode cX11_stairs 138 = .ok (.iload_n 1, 1) := by decide +kernel
theorem dX11_stairs_139 : decode cX11_stairs 139 = .ok (.iload 5, 2) := by decide +kernel
theorem dX11_stairs_141 : decode cX11_stairs 141 = .ok (.invokevirtual 313, 3) := by decide +kernel
theorem dX11_stairs_144 : decode cX11_stairs 144 = .ok (.ifCond .eq 35, 3) := by decide +kernel
theorem dX11_stairs_147 : decode cX11_stairs 147 = .ok (.aload_n 0, 1) := by decide +kernel
theorem dX11_stairs_148 : decode cX11_stairs 148 = .ok (.iload_n 1, 1) := by decide +kernel
theorem dX11_stairs_149 : decode cX11_stairs 149 = .ok (.iload 5, 2) := by decide +kernel
theorem dX11_stairs_151 : decode cX11_stairs 151 = .ok (.invokevirtual 228, 3) := by decide +kernel
theorem dX11_stairs_154 : decode cX11_stairs 154 = .ok (.ifCond .ne 25, 3) := by decide +kernel
theorem dX11_stairs_157 : decode cX11_stairs 157 = .ok (.aload_n 0, 1) := by decide +kernel
theorem dX11_stairs_158 : decode cX11_stairs 158 = .ok (.getfield 27, 3) := by decide +kernel
theorem dX11_stairs_161 : decode cX11_stairs 161 = .ok (.bipush 60, 2) := by decide +kernel
theorem dX11_stairs_163 : decode cX11_stairs 163 = .ok (.iload_n 2, 1) := by decide +kernel
theorem dX11_stairs_164 : decode cX11_stairs 164 = .ok (.imul, 1) := by decide +kernel
theorem dX11_stairs_165 : decode cX11_stairs 165 = .ok (.iload 5, 2) := by decide +kernel
theorem dX11_stairs_167 : decode cX11_stairs 167 = .ok (.iadd, 1) := by decide +kernel
theorem dX11_stairs_168 : decode cX11_stairs 168 = .ok (.laload, 1) := by decide +kernel
theorem dX11_stairs_169 : decode cX11_stairs 169 = .ok (.iload_n 3, 1) := by decide +kernel
theorem dX11_stairs_170 : decode cX11_stairs 170 = .ok (.i2l, 1) := by decide +kernel
theorem dX11_stairs_171 : decode cX11_stairs 171 = .ok (.lcmp, 1) := by decide +kernel
theorem dX11_stairs_172 : decode cX11_stairs 172 = .ok (.ifCond .lt 7, 3) := by decide +kernel
theorem dX11_stairs_175 : decode cX11_stairs 175 = .ok (.iconst 1, 1) := by decide +kernel
theorem dX11_stairs_176 : decode cX11_stairs 176 = .ok (.goto 4, 3) := by decide +kernel
theorem dX11_stairs_179 : decode cX11_stairs 179 = .ok (.iconst 0, 1) := by decide +kernel
theorem dX11_stairs_180 : decode cX11_stairs 180 = .ok (.iadd, 1) := by decide +kernel
theorem dX11_stairs_181 : decode cX11_stairs 181 = .ok (.istore 4, 2) := by decide +kernel
theorem dX11_stairs_183 : decode cX11_stairs 183 = .ok (.iinc 5 1, 3) := by decide +kernel
theorem dX11_stairs_186 : decode cX11_stairs 186 = .ok (.goto (-62), 3) := by decide +kernel
theorem dX11_stairs_189 : decode cX11_stairs 189 = .ok (.aload_n 0, 1) := by decide +kernel
theorem dX11_stairs_190 : decode cX11_stairs 190 = .ok (.iload 4, 2) := by decide +kernel
theorem dX11_stairs_192 : decode cX11_stairs 192 = .ok (.invokevirtual 79, 3) := by decide +kernel
theorem dX11_stairs_195 : decode cX11_stairs 195 = .ok (.ireturn, 1) := by decide +kernel
noncomputable def fX11_stairs_L73 (p2 : Int32) (s0 : Rc) (q73 : Int32) : Option (Int32 ⊕ ((Unit) ⊕ (Unit))) :=
if (ga s0 0 (1 : Int32).toNatClampNeg) ≤ q73 then (
some (.inr (.inr ()))) else (
gd (inb (((60 : Int32) * p2) + q73) 240) (
if (fX11_isFrom (gb s0 7 (((60 : Int32) * p2) + q73).toNatClampNeg) (0 : Int64) (999 : Int64)) = (0 : Int32) then (
some (.inr (.inl ()))) else (
some (.inl (q73 + (1 : Int32))))))
noncomputable def fX11_stairs_L124 (p1 : Int32) (p2 : Int32) (p3 : Int32) (s0 : Rc) (q124 : Int32 × Int32) : Option ((Int32 × Int32) ⊕ Int32) :=
if (ga s0 0 (1 : Int32).toNatClampNeg) ≤ q124.2 then (
some (.inr q124.1)) else (
(fX11_felt p1 q124.2 s0).bind (fun r18 =>
if r18 = (0 : Int32) then (
lt_ (q124.1 + (0 : Int32)) (fun x21 =>
some (.inl (x21, (q124.2 + (1 : Int32)))))) else (
(fX11_shouldFeel p1 q124.2 s0).bind (fun r22 =>
if r22 = (0 : Int32) then (
gd (inb (((60 : Int32) * p2) + q124.2) 240) (
if (gb s0 7 (((60 : Int32) * p2) + q124.2).toNatClampNeg) < p3.toInt64 then (
lt_ (q124.1 + (0 : Int32)) (fun x28 =>
some (.inl (x28, (q124.2 + (1 : Int32)))))) else (
lt_ (q124.1 + (1 : Int32)) (fun x29 =>
some (.inl (x29, (q124.2 + (1 : Int32)))))))) else (
lt_ (q124.1 + (0 : Int32)) (fun x25 =>
some (.inl (x25, (q124.2 + (1 : Int32))))))))))
noncomputable def fX11_stairs (p1 : Int32) (p2 : Int32) (p3 : Int32) (s0 : Rc) : Option (Int32 × Rc) :=
if (fX11_isFarmer p1 s0) = (0 : Int32) then (
lt_ (fX11_refuse (1 : Int32) s0) (fun r3 =>
some (r3.1, r3.2))) else (
if (fX11_isTray p2) = (0 : Int32) then (
lt_ (fX11_refuse (1 : Int32) s0) (fun r6 =>
some (r6.1, r6.2))) else (
if (fX11_isFrom p3.toInt64 (1 : Int64) (999 : Int64)) = (0 : Int32) then (
lt_ (fX11_refuse (1 : Int32) s0) (fun r33 =>
some (r33.1, r33.2))) else (
gd (inb p2 4) (
if (ga s0 6 p2.toNatClampNeg) = (-1 : Int32) then (
lt_ (fX11_refuse (2 : Int32) s0) (fun r32 =>
some (r32.1, r32.2))) else (
if (ga s0 0 (1 : Int32).toNatClampNeg) ≤ (ga s0 6 p2.toNatClampNeg) then (
(loopF (fX11_stairs_L73 p2 s0) (0 : Int32)).bind (fun o73 =>
Sum.elim (fun o73a =>
lt_ (fX11_refuse (5 : Int32) s0) (fun r16 =>
some (r16.1, r16.2))) (fun o73b =>
(loopF (fX11_stairs_L124 p1 p2 p3 s0) ((0 : Int32), (0 : Int32))).bind (fun o124 =>
lt_ (fX11_gives o124 s0) (fun r30 =>
some (r30.1, r30.2)))) o73)) else (
lt_ (fX11_refuse (3 : Int32) s0) (fun r31 =>
some (r31.1, r31.2))))))))
abbrev rmX11_stairs : Room := { frames := 3, cells := 0, slots := 0, locals := 65 }
set_option maxHeartbeats 4000000 in
set_option maxRecDepth 100000 in
theorem kX11_stairs (l : Launch) (D : va_G) (cy : Nat → ClassId) (h0 : Nat) (a0 : Nat → Nat) (s0 : Rc) (p1 : Int32) (p2 : Int32) (p3 : Int32) (res : Int32 × Rc) (h : fX11_stairs p1 p2 p3 s0 = some res) : CI l D cy yX11_stairs wsX11_stairs rmX11_stairs [.ref h0, .int p1, .int p2, .int p3] (WX11 cy h0 a0 s0) (WX11 cy h0 a0 res.2) res.1 := by
  refine CI.of (cc := cX11_stairs) (maxL := 6) (by decide) rfl (Nat.le_of_ble_eq_true rfl) ?_
  intro p e s m args below meth c A QQ ls E hr
  obtain ⟨hx, hb, hml, hown, hts, hK, hN, hP, hD, hA, hl⟩ := E
  have hret : ∀ (pc : Nat) (H : Heap) (locs : List Loc) (ls : Array Slot) (u : Int32 × Rc), u = res → va_P D vwCl (WX11 cy h0 a0 u.2) H → va_D A (WX11 cy h0 a0 u.2) → va_S A s.heap H locs → decode cX11_stairs pc = .ok (.ireturn, 1) → W p l e rmX11_stairs s m args below meth c H locs 0 0 QQ (F0 m pc ls [.int u.1]) := by
    intro pc H locs ls u hu hP hD hS hd; subst hu; exact hr pc H locs ls _ rfl hP hD hS hd
  clear hr
  have hl : lv_has ls 6 [(0, .ref h0), (1, .int p1), (2, .int p2), (3, .int p3)] := hl
  have hinX11 : ∀ w ∈ wsX110, w ∈ wsX11_stairs := fun _ h => List.mem_cons_of_mem _ (List.mem_append_right _ h)
  unfold fX11_stairs at h
  suffices key : ∀ (H : Heap) (locs : List Loc), va_P D vwCl (WX11 cy h0 a0 s0) H → va_S A s.heap H locs → W p l e rmX11_stairs s m args below meth c H locs 0 0 QQ (F0 m 0 ls []) from key _ _ hP va_S.rf
  clear hP
  intro H locs hP hS
  refine lv_aload_n hx hb dX11_stairs_0 rfl (lv_at hl 0 rfl) ?_
  refine lv_iload_n hx hb dX11_stairs_1 rfl (lv_at hl 1 rfl) ?_
  refine ca_z (w' := WX11 cy h0 a0 s0) (rn_V (As := [.int p1]) (rest := []) ⟨hx, hb, hml, hown, hts⟩ (kX11_isFarmer l D cy h0 a0 s0 p1 _ rfl H.size) (cwV 1 hts gX11_stairs_X11_isFarmer rfl rfl rfl (by decide +kernel) ⟨Nat.le_of_ble_eq_true rfl, Nat.le_of_ble_eq_true rfl⟩) hK hN hP hD [0, 1, 2, 3, 4, 5, 6, 7, 8, 9, 10, 11, 12, 13] rfl rfl (ci := 11) (q0 := 0) rfl rfl rfl rfl hl.1 rfl (Nat.le_of_ble_eq_true rfl) dX11_stairs_2 ⟨Nat.le_refl 0, Nat.le_refl 0⟩) hP hD hS hA [0, 1, 2, 3, 4, 5, 6, 7, 8, 9, 10, 11, 12, 13] ⟨rfl, rfl, rfl, rfl⟩ (fun b1 H locs hP hD hS => ?_)
  refine lv_if_eq (tgt := 27) hx hb dX11_stairs_5 (by decide) (fun c2 => ?_) (fun c2 => ?_)
  · replace h := (if_pos c2).symm.trans h
    refine lv_aload_n hx hb dX11_stairs_27 rfl (lv_at hl 0 rfl) ?_
    refine lv_iconst (v := 1) hx hb dX11_stairs_28 (by decide) ?_
    obtain ⟨r3, hr3, h⟩ := lt_elim h
    refine ca_i (w' := WX11 cy h0 a0 r3.2) (rn_V (As := [.int (1 : Int32)]) (rest := []) ⟨hx, hb, hml, hown, hts⟩ (kX11_refuse l D cy h0 a0 s0 (1 : Int32) r3 hr3.symm H.size) (cwV 1 hts gX11_stairs_X11_refuse rfl rfl rfl (by decide +kernel) ⟨Nat.le_of_ble_eq_true rfl, Nat.le_of_ble_eq_true rfl⟩) hK hN hP hD [0, 1, 2, 3, 4, 5, 6, 7, 8, 9, 10, 11, 12, 13] rfl rfl (ci := 11) (q0 := 0) rfl rfl rfl rfl hl.1 rfl (Nat.le_of_ble_eq_true rfl) dX11_stairs_29 ⟨Nat.le_refl 0, Nat.le_refl 0⟩) hP hD hS hA [0, 1, 2, 3, 4, 5, 6, 7, 8, 9, 10, 11, 12, 13] ⟨rfl, rfl, rfl, rfl⟩ (fun H locs hP hD hS => ?_)
    exact hret 32 H locs ls (r3.1, r3.2) (Option.some.inj h) hP hD hS dX11_stairs_32
  · replace h := (if_neg c2).symm.trans h
    refine lv_iload_n hx hb dX11_stairs_8 rfl (lv_at hl 2 rfl) ?_
    refine ca_z (w' := WX11 cy h0 a0 s0) (rn_S (As := [.int p2]) (rest := []) ⟨hx, hb, hml, hown, hts⟩ (kX11_isTray l D cy p2 _ rfl H.size) (va_cwS 1 hts gX11_stairs_X11_isTray rfl rfl rfl (by decide +kernel) ⟨Nat.le_of_ble_eq_true rfl, Nat.le_of_ble_eq_true rfl⟩) hK hN hP hD [] rfl rfl rfl hl.1 rfl (Nat.le_of_ble_eq_true rfl) dX11_stairs_9 ⟨Nat.le_refl 0, Nat.le_refl 0⟩) hP hD hS hA [] ⟨rfl, rfl, rfl, rfl⟩ (fun b4 H locs hP hD hS => ?_)
    refine lv_if_eq (tgt := 27) hx hb dX11_stairs_12 (by decide) (fun c5 => ?_) (fun c5 => ?_)
    · replace h := (if_pos c5).symm.trans h
      refine lv_aload_n hx hb dX11_stairs_27 rfl (lv_at hl 0 rfl) ?_
      refine lv_iconst (v := 1) hx hb dX11_stairs_28 (by decide) ?_
      obtain ⟨r6, hr6, h⟩ := lt_elim h
      refine ca_i (w' := WX11 cy h0 a0 r6.2) (rn_V (As := [.int (1 : Int32)]) (rest := []) ⟨hx, hb, hml, hown, hts⟩ (kX11_refuse l D cy h0 a0 s0 (1 : Int32) r6 hr6.symm H.size) (cwV 1 hts gX11_stairs_X11_refuse rfl rfl rfl (by decide +kernel) ⟨Nat.le_of_ble_eq_true rfl, Nat.le_of_ble_eq_true rfl⟩) hK hN hP hD [0, 1, 2, 3, 4, 5, 6, 7, 8, 9, 10, 11, 12, 13] rfl rfl (ci := 11) (q0 := 0) rfl rfl rfl rfl hl.1 rfl (Nat.le_of_ble_eq_true rfl) dX11_stairs_29 ⟨Nat.le_refl 0, Nat.le_refl 0⟩) hP hD hS hA [0, 1, 2, 3, 4, 5, 6, 7, 8, 9, 10, 11, 12, 13] ⟨rfl, rfl, rfl, rfl⟩ (fun H locs hP hD hS => ?_)
      exact hret 32 H locs ls (r6.1, r6.2) (Option.some.inj h) hP hD hS dX11_stairs_32
    · replace h := (if_neg c5).symm.trans h
      refine lv_iload_n hx hb dX11_stairs_15 rfl (lv_at hl 3 rfl) ?_
      refine lv_i2l hx hb dX11_stairs_16 rfl ?_
      refine lv_lconst (v := 1) hx hb dX11_stairs_17 (by decide) ?_
      refine lv_ldc2 (v := 999) hx hb hown (hts (.constantLong RX11 390 (999)) (List.mem_of_getElem? (i := 1) rfl)) dX11_stairs_18 ?_
      refine ca_z (w' := WX11 cy h0 a0 s0) (rn_S (As := [.long p3.toInt64, .long (1 : Int64), .long (999 : Int64)]) (rest := []) ⟨hx, hb, hml, hown, hts⟩ (kX11_isFrom l D cy p3.toInt64 (1 : Int64) (999 : Int64) _ rfl H.size) (va_cwS 3 hts gX11_stairs_X11_isFrom rfl rfl rfl (by decide +kernel) ⟨Nat.le_of_ble_eq_true rfl, Nat.le_of_ble_eq_true rfl⟩) hK hN hP hD [] rfl rfl rfl hl.1 rfl (Nat.le_of_ble_eq_true rfl) dX11_stairs_21 ⟨Nat.le_refl 0, Nat.le_refl 0⟩) hP hD hS hA [] ⟨rfl, rfl, rfl, rfl⟩ (fun b7 H locs hP hD hS => ?_)
      refine lv_if_ne (tgt := 33) hx hb dX11_stairs_24 (by decide) (fun c8 => ?_) (fun c8 => ?_)
      · replace h := (if_neg c8).symm.trans h
        refine lv_aload_n hx hb dX11_stairs_33 rfl (lv_at hl 0 rfl) ?_
        refine va_get (D := D) (ci := 11) (v := .ref (a0 6)) (C := RX11) (T := TX11) (N := 38) hx hb hts hinX11 hown hK hP 0 rfl rfl 6 (by decide) (hts (.fieldLink RX11 24 "KneeBenchModel" "trayMany" "[I") (List.mem_of_getElem? (i := 2) rfl)) (fun _ h9 => h9) rfl dX11_stairs_34 ?_
        refine lv_iload_n hx hb dX11_stairs_37 rfl (lv_at hl 2 rfl) ?_
        obtain ⟨g9, h⟩ := gd_elim h
        refine va_iald hx hb hK hP 4 1 rfl rfl (inb_in g9) dX11_stairs_38 ?_
        refine lv_iconst (v := -1) hx hb dX11_stairs_39 (by decide) ?_
        refine lv_icmp_ne (tgt := 49) hx hb dX11_stairs_40 (by decide) (fun c10 => ?_) (fun c10 => ?_)
        · replace h := (if_neg c10).symm.trans h
          refine lv_aload_n hx hb dX11_stairs_49 rfl (lv_at hl 0 rfl) ?_
          refine va_get (D := D) (ci := 11) (v := .ref (a0 6)) (C := RX11) (T := TX11) (N := 38) hx hb hts hinX11 hown hK hP 0 rfl rfl 6 (by decide) (hts (.fieldLink RX11 24 "KneeBenchModel" "trayMany" "[I") (List.mem_of_getElem? (i := 2) rfl)) (fun _ h9 => h9) rfl dX11_stairs_50 ?_
          refine lv_iload_n hx hb dX11_stairs_53 rfl (lv_at hl 2 rfl) ?_
          refine va_iald hx hb hK hP 4 1 rfl rfl (inb_in g9) dX11_stairs_54 ?_
          refine lv_aload_n hx hb dX11_stairs_55 rfl (lv_at hl 0 rfl) ?_
          refine va_get (D := D) (ci := 11) (v := .ref (a0 0)) (C := RX11) (T := TX11) (N := 38) hx hb hts hinX11 hown hK hP 0 rfl rfl 0 (by decide) (hts (.fieldLink RX11 7 "KneeBenchModel" "at" "[I") (List.mem_of_getElem? (i := 3) rfl)) (fun _ h9 => h9) rfl dX11_stairs_56 ?_
          refine lv_iconst (v := 1) hx hb dX11_stairs_59 (by decide) ?_
          refine va_iald hx hb hK hP 1 1 rfl rfl (inb_in (by decide)) dX11_stairs_60 ?_
          refine lv_icmp_ge (tgt := 70) hx hb dX11_stairs_61 (by decide) (fun c11 => ?_) (fun c11 => ?_)
          · replace h := (if_pos c11).symm.trans h
            refine lv_iconst (v := 0) hx hb dX11_stairs_70 (by decide) ?_
            refine lv_istore (lv' := [(4, .int (0 : Int32)), (0, .ref h0), (1, .int p1), (2, .int p2), (3, .int p3)]) hx hb dX11_stairs_71 hl (by decide) rfl (fun ls hl => ?_)
            have L73 : ∀ (n : Nat) (q73 : Int32) (o : (Unit) ⊕ (Unit)), loopO (fX11_stairs_L73 p2 s0) n q73 = some o → ∀ (H : Heap) (locs : List Loc) (ls : Array Slot), lv_has ls 6 [(0, .ref h0), (1, .int p1), (2, .int p2), (3, .int p3), (4, .int q73)] → va_P D vwCl (WX11 cy h0 a0 s0) H → va_D A (WX11 cy h0 a0 s0) → va_S A s.heap H locs → ∀ (kk106 : ∀ v : Unit, o = (.inl v) → ∀ (H : Heap) (locs : List Loc) (ls : Array Slot), lv_has ls 6 [(0, .ref h0)] → va_P D vwCl (WX11 cy h0 a0 s0) H → va_D A (WX11 cy h0 a0 s0) → va_S A s.heap H locs → W p l e rmX11_stairs s m args below meth c H locs 0 0 QQ (F0 m 106 ls [])) (kk118 : ∀ v : Unit, o = (.inr v) → ∀ (H : Heap) (locs : List Loc) (ls : Array Slot), lv_has ls 6 [(0, .ref h0), (1, .int p1), (2, .int p2), (3, .int p3)] → va_P D vwCl (WX11 cy h0 a0 s0) H → va_D A (WX11 cy h0 a0 s0) → va_S A s.heap H locs → W p l e rmX11_stairs s m args below meth c H locs 0 0 QQ (F0 m 118 ls [])), W p l e rmX11_stairs s m args below meth c H locs 0 0 QQ (F0 m 73 ls []) := by
              intro n
              induction n with
              | zero => intro q73 o h; exact absurd h (by rw [loopO_zero]; intro z; cases z)
              | succ n ih =>
                intro q73 o h H locs ls hl hP hD hS kk106 kk118
                obtain ⟨w, h, hgo, hst⟩ := loopO_elim h
                unfold fX11_stairs_L73 at h
                refine lv_iload hx hb dX11_stairs_73 (lv_at hl 4 rfl) ?_
                refine lv_aload_n hx hb dX11_stairs_75 rfl (lv_at hl 0 rfl) ?_
                refine va_get (D := D) (ci := 11) (v := .ref (a0 0)) (C := RX11) (T := TX11) (N := 38) hx hb hts hinX11 hown hK hP 0 rfl rfl 0 (by decide) (hts (.fieldLink RX11 7 "KneeBenchModel" "at" "[I") (List.mem_of_getElem? (i := 3) rfl)) (fun _ h9 => h9) rfl dX11_stairs_76 ?_
                refine lv_iconst (v := 1) hx hb dX11_stairs_79 (by decide) ?_
                refine va_iald hx hb hK hP 1 1 rfl rfl (inb_in (by decide)) dX11_stairs_80 ?_
                refine lv_icmp_ge (tgt := 118) hx hb dX11_stairs_81 (by decide) (fun c12 => ?_) (fun c12 => ?_)
                · replace h := (if_pos c12).symm.trans h
                  have eo := hst _ (Option.some.inj h).symm
                  exact kk118 _ eo.symm H locs ls (lv_sub hl [0, 1, 2, 3] rfl) hP hD hS
                · replace h := (if_neg c12).symm.trans h
                  refine lv_aload_n hx hb dX11_stairs_84 rfl (lv_at hl 0 rfl) ?_
                  refine va_get (D := D) (ci := 11) (v := .ref (a0 7)) (C := RX11) (T := TX11) (N := 38) hx hb hts hinX11 hown hK hP 0 rfl rfl 7 (by decide) (hts (.fieldLink RX11 27 "KneeBenchModel" "trays" "[J") (List.mem_of_getElem? (i := 4) rfl)) (fun _ h9 => h9) rfl dX11_stairs_85 ?_
                  refine lv_bipush (v := 60) hx hb dX11_stairs_88 (by decide) ?_
                  refine lv_iload_n hx hb dX11_stairs_90 rfl (lv_at hl 2 rfl) ?_
                  refine lv_imul hx hb dX11_stairs_91 ?_
                  refine lv_iload hx hb dX11_stairs_92 (lv_at hl 4 rfl) ?_
                  refine lv_iadd hx hb dX11_stairs_94 ?_
                  obtain ⟨g13, h⟩ := gd_elim h
                  refine va_lald hx hb hK hP 5 2 rfl rfl (inb_in g13) dX11_stairs_95 ?_
                  refine lv_lconst (v := 0) hx hb dX11_stairs_96 (by decide) ?_
                  refine lv_ldc2 (v := 999) hx hb hown (hts (.constantLong RX11 390 (999)) (List.mem_of_getElem? (i := 1) rfl)) dX11_stairs_97 ?_
                  refine ca_z (w' := WX11 cy h0 a0 s0) (rn_S (As := [.long (gb s0 7 (((60 : Int32) * p2) + q73).toNatClampNeg), .long (0 : Int64), .long (999 : Int64)]) (rest := []) ⟨hx, hb, hml, hown, hts⟩ (kX11_isFrom l D cy (gb s0 7 (((60 : Int32) * p2) + q73).toNatClampNeg) (0 : Int64) (999 : Int64) _ rfl H.size) (va_cwS 3 hts gX11_stairs_X11_isFrom rfl rfl rfl (by decide +kernel) ⟨Nat.le_of_ble_eq_true rfl, Nat.le_of_ble_eq_true rfl⟩) hK hN hP hD [] rfl rfl rfl hl.1 rfl (Nat.le_of_ble_eq_true rfl) dX11_stairs_100 ⟨Nat.le_refl 0, Nat.le_refl 0⟩) hP hD hS hA [] ⟨rfl, rfl, rfl, rfl⟩ (fun b14 H locs hP hD hS => ?_)
                  refine lv_if_ne (tgt := 112) hx hb dX11_stairs_103 (by decide) (fun c15 => ?_) (fun c15 => ?_)
                  · replace h := (if_neg c15).symm.trans h
                    refine lv_iinc (v := (q73 + (1 : Int32))) (lv' := [(4, .int (q73 + (1 : Int32))), (0, .ref h0), (1, .int p1), (2, .int p2), (3, .int p3)]) hx hb dX11_stairs_112 hl (k := 4) rfl rfl (by decide) rfl (fun ls hl => ?_)
                    refine lv_goto (tgt := 73) hx hb dX11_stairs_115 (by decide) ?_
                    exact ih _ o (hgo _ (Option.some.inj h).symm) H locs ls (lv_sub hl [1, 2, 3, 4, 0] rfl) hP hD hS kk106 kk118
                  · replace h := (if_pos c15).symm.trans h
                    have eo := hst _ (Option.some.inj h).symm
                    exact kk106 _ eo.symm H locs ls (lv_sub hl [0] rfl) hP hD hS
            obtain ⟨o73, ho73, h⟩ := bd_elim h
            obtain ⟨n73, hn73⟩ := loopF_some ho73
            refine L73 n73 _ o73 hn73 H locs ls (lv_sub hl [1, 2, 3, 4, 0] rfl) hP hD hS (fun o73a eo H locs ls hl hP hD hS => ?_) (fun o73b eo H locs ls hl hP hD hS => ?_)
            · subst eo
              rw [Sum.elim_inl] at h
              refine lv_aload_n hx hb dX11_stairs_106 rfl (lv_at hl 0 rfl) ?_
              refine lv_iconst (v := 5) hx hb dX11_stairs_107 (by decide) ?_
              obtain ⟨r16, hr16, h⟩ := lt_elim h
              refine ca_i (w' := WX11 cy h0 a0 r16.2) (rn_V (As := [.int (5 : Int32)]) (rest := []) ⟨hx, hb, hml, hown, hts⟩ (kX11_refuse l D cy h0 a0 s0 (5 : Int32) r16 hr16.symm H.size) (cwV 1 hts gX11_stairs_X11_refuse rfl rfl rfl (by decide +kernel) ⟨Nat.le_of_ble_eq_true rfl, Nat.le_of_ble_eq_true rfl⟩) hK hN hP hD [0, 1, 2, 3, 4, 5, 6, 7, 8, 9, 10, 11, 12, 13] rfl rfl (ci := 11) (q0 := 0) rfl rfl rfl rfl hl.1 rfl (Nat.le_of_ble_eq_true rfl) dX11_stairs_108 ⟨Nat.le_refl 0, Nat.le_refl 0⟩) hP hD hS hA [0, 1, 2, 3, 4, 5, 6, 7, 8, 9, 10, 11, 12, 13] ⟨rfl, rfl, rfl, rfl⟩ (fun H locs hP hD hS => ?_)
              exact hret 111 H locs ls (r16.1, r16.2) (Option.some.inj h) hP hD hS dX11_stairs_111
            · subst eo
              rw [Sum.elim_inr] at h
              refine lv_iconst (v := 0) hx hb dX11_stairs_118 (by decide) ?_
              refine lv_istore (lv' := [(4, .int (0 : Int32)), (0, .ref h0), (1, .int p1), (2, .int p2), (3, .int p3)]) hx hb dX11_stairs_119 hl (by decide) rfl (fun ls hl => ?_)
              refine lv_iconst (v := 0) hx hb dX11_stairs_121 (by decide) ?_
              refine lv_istore (lv' := [(5, .int (0 : Int32)), (4, .int (0 : Int32)), (0, .ref h0), (1, .int p1), (2, .int p2), (3, .int p3)]) hx hb dX11_stairs_122 hl (by decide) rfl (fun ls hl => ?_)
              have L124 : ∀ (n : Nat) (q124 : Int32 × Int32) (o : Int32), loopO (fX11_stairs_L124 p1 p2 p3 s0) n q124 = some o → ∀ (H : Heap) (locs : List Loc) (ls : Array Slot), lv_has ls 6 [(0, .ref h0), (1, .int p1), (2, .int p2), (3, .int p3), (4, .int q124.1), (5, .int q124.2)] → va_P D vwCl (WX11 cy h0 a0 s0) H → va_D A (WX11 cy h0 a0 s0) → va_S A s.heap H locs → ∀ (kk189 : ∀ (H : Heap) (locs : List Loc) (ls : Array Slot), lv_has ls 6 [(0, .ref h0), (4, .int o)] → va_P D vwCl (WX11 cy h0 a0 s0) H → va_D A (WX11 cy h0 a0 s0) → va_S A s.heap H locs → W p l e rmX11_stairs s m args below meth c H locs 0 0 QQ (F0 m 189 ls [])), W p l e rmX11_stairs s m args below meth c H locs 0 0 QQ (F0 m 124 ls []) := by
                intro n
                induction n with
                | zero => intro q124 o h; exact absurd h (by rw [loopO_zero]; intro z; cases z)
                | succ n ih =>
                  intro q124 o h H locs ls hl hP hD hS kk189
                  obtain ⟨w, h, hgo, hst⟩ := loopO_elim h
                  unfold fX11_stairs_L124 at h
                  refine lv_iload hx hb dX11_stairs_124 (lv_at hl 5 rfl) ?_
                  refine lv_aload_n hx hb dX11_stairs_126 rfl (lv_at hl 0 rfl) ?_
                  refine va_get (D := D) (ci := 11) (v := .ref (a0 0)) (C := RX11) (T := TX11) (N := 38) hx hb hts hinX11 hown hK hP 0 rfl rfl 0 (by decide) (hts (.fieldLink RX11 7 "KneeBenchModel" "at" "[I") (List.mem_of_getElem? (i := 3) rfl)) (fun _ h9 => h9) rfl dX11_stairs_127 ?_
                  refine lv_iconst (v := 1) hx hb dX11_stairs_130 (by decide) ?_
                  refine va_iald hx hb hK hP 1 1 rfl rfl (inb_in (by decide)) dX11_stairs_131 ?_
                  refine lv_icmp_ge (tgt := 189) hx hb dX11_stairs_132 (by decide) (fun c17 => ?_) (fun c17 => ?_)
                  · replace h := (if_pos c17).symm.trans h
                    have eo := hst _ (Option.some.inj h).symm
                    subst eo
                    exact kk189 H locs ls (lv_sub hl [0, 4] rfl) hP hD hS
                  · replace h := (if_neg c17).symm.trans h
                    refine lv_iload hx hb dX11_stairs_135 (lv_at hl 4 rfl) ?_
                    refine lv_aload_n hx hb dX11_stairs_137 rfl (lv_at hl 0 rfl) ?_
                    refine lv_iload_n hx hb dX11_stairs_138 rfl (lv_at hl 1 rfl) ?_
                    refine lv_iload hx hb dX11_stairs_139 (lv_at hl 5 rfl) ?_
                    obtain ⟨r18, hr18, h⟩ := bd_elim h
                    refine ca_z (w' := WX11 cy h0 a0 s0) (rn_V (As := [.int p1, .int q124.2]) (rest := [.int q124.1]) ⟨hx, hb, hml, hown, hts⟩ (kX11_felt l D cy h0 a0 s0 p1 q124.2 r18 hr18 H.size) (cwV 2 hts gX11_stairs_X11_felt rfl rfl rfl (by decide +kernel) ⟨Nat.le_of_ble_eq_true rfl, Nat.le_of_ble_eq_true rfl⟩) hK hN hP hD [0, 1, 2, 3, 4, 5, 6, 7, 8, 9, 10, 11, 12, 13] rfl rfl (ci := 11) (q0 := 0) rfl rfl rfl rfl hl.1 rfl (Nat.le_of_ble_eq_true rfl) dX11_stairs_141 ⟨Nat.le_refl 0, Nat.le_refl 0⟩) hP hD hS hA [0, 1, 2, 3, 4, 5, 6, 7, 8, 9, 10, 11, 12, 13] ⟨rfl, rfl, rfl, rfl⟩ (fun b19 H locs hP hD hS => ?_)
                    refine lv_if_eq (tgt := 179) hx hb dX11_stairs_144 (by decide) (fun c20 => ?_) (fun c20 => ?_)
                    · replace h := (if_pos c20).symm.trans h
                      refine lv_iconst (v := 0) hx hb dX11_stairs_179 (by decide) ?_
                      refine lv_iadd hx hb dX11_stairs_180 ?_
                      refine lv_topi (fun x21 ex21 => ?_)
                      replace h := lt_use h x21 ex21
                      refine lv_istore (lv' := [(4, .int x21), (0, .ref h0), (1, .int p1), (2, .int p2), (3, .int p3), (5, .int q124.2)]) hx hb dX11_stairs_181 hl (by decide) rfl (fun ls hl => ?_)
                      refine lv_iinc (v := (q124.2 + (1 : Int32))) (lv' := [(5, .int (q124.2 + (1 : Int32))), (4, .int x21), (0, .ref h0), (1, .int p1), (2, .int p2), (3, .int p3)]) hx hb dX11_stairs_183 hl (k := 5) rfl rfl (by decide) rfl (fun ls hl => ?_)
                      refine lv_goto (tgt := 124) hx hb dX11_stairs_186 (by decide) ?_
                      exact ih _ o (hgo _ (Option.some.inj h).symm) H locs ls (lv_sub hl [2, 3, 4, 5, 1, 0] rfl) hP hD hS kk189
                    · replace h := (if_neg c20).symm.trans h
                      refine lv_aload_n hx hb dX11_stairs_147 rfl (lv_at hl 0 rfl) ?_
                      refine lv_iload_n hx hb dX11_stairs_148 rfl (lv_at hl 1 rfl) ?_
                      refine lv_iload hx hb dX11_stairs_149 (lv_at hl 5 rfl) ?_
                      obtain ⟨r22, hr22, h⟩ := bd_elim h
                      refine ca_z (w' := WX11 cy h0 a0 s0) (rn_V (As := [.int p1, .int q124.2]) (rest := [.int q124.1]) ⟨hx, hb, hml, hown, hts⟩ (kX11_shouldFeel l D cy h0 a0 s0 p1 q124.2 r22 hr22 H.size) (cwV 2 hts gX11_stairs_X11_shouldFeel rfl rfl rfl (by decide +kernel) ⟨Nat.le_of_ble_eq_true rfl, Nat.le_of_ble_eq_true rfl⟩) hK hN hP hD [0, 1, 2, 3, 4, 5, 6, 7, 8, 9, 10, 11, 12, 13] rfl rfl (ci := 11) (q0 := 0) rfl rfl rfl rfl hl.1 rfl (Nat.le_of_ble_eq_true rfl) dX11_stairs_151 ⟨Nat.le_refl 0, Nat.le_refl 0⟩) hP hD hS hA [0, 1, 2, 3, 4, 5, 6, 7, 8, 9, 10, 11, 12, 13] ⟨rfl, rfl, rfl, rfl⟩ (fun b23 H locs hP hD hS => ?_)
                      refine lv_if_ne (tgt := 179) hx hb dX11_stairs_154 (by decide) (fun c24 => ?_) (fun c24 => ?_)
                      · replace h := (if_neg c24).symm.trans h
                        refine lv_iconst (v := 0) hx hb dX11_stairs_179 (by decide) ?_
                        refine lv_iadd hx hb dX11_stairs_180 ?_
                        refine lv_topi (fun x25 ex25 => ?_)
                        replace h := lt_use h x25 ex25
                        refine lv_istore (lv' := [(4, .int x25), (0, .ref h0), (1, .int p1), (2, .int p2), (3, .int p3), (5, .int q124.2)]) hx hb dX11_stairs_181 hl (by decide) rfl (fun ls hl => ?_)
                        refine lv_iinc (v := (q124.2 + (1 : Int32))) (lv' := [(5, .int (q124.2 + (1 : Int32))), (4, .int x25), (0, .ref h0), (1, .int p1), (2, .int p2), (3, .int p3)]) hx hb dX11_stairs_183 hl (k := 5) rfl rfl (by decide) rfl (fun ls hl => ?_)
                        refine lv_goto (tgt := 124) hx hb dX11_stairs_186 (by decide) ?_
                        exact ih _ o (hgo _ (Option.some.inj h).symm) H locs ls (lv_sub hl [2, 3, 4, 5, 1, 0] rfl) hP hD hS kk189
                      · replace h := (if_pos c24).symm.trans h
                        refine lv_aload_n hx hb dX11_stairs_157 rfl (lv_at hl 0 rfl) ?_
                        refine va_get (D := D) (ci := 11) (v := .ref (a0 7)) (C := RX11) (T := TX11) (N := 38) hx hb hts hinX11 hown hK hP 0 rfl rfl 7 (by decide) (hts (.fieldLink RX11 27 "KneeBenchModel" "trays" "[J") (List.mem_of_getElem? (i := 4) rfl)) (fun _ h9 => h9) rfl dX11_stairs_158 ?_
                        refine lv_bipush (v := 60) hx hb dX11_stairs_161 (by decide) ?_
                        refine lv_iload_n hx hb dX11_stairs_163 rfl (lv_at hl 2 rfl) ?_
                        refine lv_imul hx hb dX11_stairs_164 ?_
                        refine lv_iload hx hb dX11_stairs_165 (lv_at hl 5 rfl) ?_
                        refine lv_iadd hx hb dX11_stairs_167 ?_
                        obtain ⟨g26, h⟩ := gd_elim h
                        refine va_lald hx hb hK hP 5 2 rfl rfl (inb_in g26) dX11_stairs_168 ?_
                        refine lv_iload_n hx hb dX11_stairs_169 rfl (lv_at hl 3 rfl) ?_
                        refine lv_i2l hx hb dX11_stairs_170 rfl ?_
                        refine W.lcmp hx hb dX11_stairs_171 ?_
                        refine lv_if_lt (tgt := 179) hx hb dX11_stairs_172 (by decide) (fun c27 => ?_) (fun c27 => ?_)
                        · replace h := (if_pos (lg_clt.mp c27)).symm.trans h
                          refine lv_iconst (v := 0) hx hb dX11_stairs_179 (by decide) ?_
                          refine lv_iadd hx hb dX11_stairs_180 ?_
                          refine lv_topi (fun x28 ex28 => ?_)
                          replace h := lt_use h x28 ex28
                          refine lv_istore (lv' := [(4, .int x28), (0, .ref h0), (1, .int p1), (2, .int p2), (3, .int p3), (5, .int q124.2)]) hx hb dX11_stairs_181 hl (by decide) rfl (fun ls hl => ?_)
                          refine lv_iinc (v := (q124.2 + (1 : Int32))) (lv' := [(5, .int (q124.2 + (1 : Int32))), (4, .int x28), (0, .ref h0), (1, .int p1), (2, .int p2), (3, .int p3)]) hx hb dX11_stairs_183 hl (k := 5) rfl rfl (by decide) rfl (fun ls hl => ?_)
                          refine lv_goto (tgt := 124) hx hb dX11_stairs_186 (by decide) ?_
                          exact ih _ o (hgo _ (Option.some.inj h).symm) H locs ls (lv_sub hl [2, 3, 4, 5, 1, 0] rfl) hP hD hS kk189
                        · replace h := (if_neg (fun z => c27 (lg_clt.mpr z))).symm.trans h
                          refine lv_iconst (v := 1) hx hb dX11_stairs_175 (by decide) ?_
                          refine lv_goto (tgt := 180) hx hb dX11_stairs_176 (by decide) ?_
                          refine lv_iadd hx hb dX11_stairs_180 ?_
                          refine lv_topi (fun x29 ex29 => ?_)
                          replace h := lt_use h x29 ex29
                          refine lv_istore (lv' := [(4, .int x29), (0, .ref h0), (1, .int p1), (2, .int p2), (3, .int p3), (5, .int q124.2)]) hx hb dX11_stairs_181 hl (by decide) rfl (fun ls hl => ?_)
                          refine lv_iinc (v := (q124.2 + (1 : Int32))) (lv' := [(5, .int (q124.2 + (1 : Int32))), (4, .int x29), (0, .ref h0), (1, .int p1), (2, .int p2), (3, .int p3)]) hx hb dX11_stairs_183 hl (k := 5) rfl rfl (by decide) rfl (fun ls hl => ?_)
                          refine lv_goto (tgt := 124) hx hb dX11_stairs_186 (by decide) ?_
                          exact ih _ o (hgo _ (Option.some.inj h).symm) H locs ls (lv_sub hl [2, 3, 4, 5, 1, 0] rfl) hP hD hS kk189
              obtain ⟨o124, ho124, h⟩ := bd_elim h
              obtain ⟨n124, hn124⟩ := loopF_some ho124
              refine L124 n124 _ o124 hn124 H locs ls (lv_sub hl [2, 3, 4, 5, 1, 0] rfl) hP hD hS (fun H locs ls hl hP hD hS => ?_)
              refine lv_aload_n hx hb dX11_stairs_189 rfl (lv_at hl 0 rfl) ?_
              refine lv_iload hx hb dX11_stairs_190 (lv_at hl 1 rfl) ?_
              obtain ⟨r30, hr30, h⟩ := lt_elim h
              refine ca_i (w' := WX11 cy h0 a0 r30.2) (rn_V (As := [.int o124]) (rest := []) ⟨hx, hb, hml, hown, hts⟩ (kX11_gives l D cy h0 a0 s0 o124 r30 hr30.symm H.size) (cwV 1 hts gX11_stairs_X11_gives rfl rfl rfl (by decide +kernel) ⟨Nat.le_of_ble_eq_true rfl, Nat.le_of_ble_eq_true rfl⟩) hK hN hP hD [0, 1, 2, 3, 4, 5, 6, 7, 8, 9, 10, 11, 12, 13] rfl rfl (ci := 11) (q0 := 0) rfl rfl rfl rfl hl.1 rfl (Nat.le_of_ble_eq_true rfl) dX11_stairs_192 ⟨Nat.le_refl 0, Nat.le_refl 0⟩) hP hD hS hA [0, 1, 2, 3, 4, 5, 6, 7, 8, 9, 10, 11, 12, 13] ⟨rfl, rfl, rfl, rfl⟩ (fun H locs hP hD hS => ?_)
              exact hret 195 H locs ls (r30.1, r30.2) (Option.some.inj h) hP hD hS dX11_stairs_195
          · replace h := (if_neg c11).symm.trans h
            refine lv_aload_n hx hb dX11_stairs_64 rfl (lv_at hl 0 rfl) ?_
            refine lv_iconst (v := 3) hx hb dX11_stairs_65 (by decide) ?_
            obtain ⟨r31, hr31, h⟩ := lt_elim h
            refine ca_i (w' := WX11 cy h0 a0 r31.2) (rn_V (As := [.int (3 : Int32)]) (rest := []) ⟨hx, hb, hml, hown, hts⟩ (kX11_refuse l D cy h0 a0 s0 (3 : Int32) r31 hr31.symm H.size) (cwV 1 hts gX11_stairs_X11_refuse rfl rfl rfl (by decide +kernel) ⟨Nat.le_of_ble_eq_true rfl, Nat.le_of_ble_eq_true rfl⟩) hK hN hP hD [0, 1, 2, 3, 4, 5, 6, 7, 8, 9, 10, 11, 12, 13] rfl rfl (ci := 11) (q0 := 0) rfl rfl rfl rfl hl.1 rfl (Nat.le_of_ble_eq_true rfl) dX11_stairs_66 ⟨Nat.le_refl 0, Nat.le_refl 0⟩) hP hD hS hA [0, 1, 2, 3, 4, 5, 6, 7, 8, 9, 10, 11, 12, 13] ⟨rfl, rfl, rfl, rfl⟩ (fun H locs hP hD hS => ?_)
            exact hret 69 H locs ls (r31.1, r31.2) (Option.some.inj h) hP hD hS dX11_stairs_69
        · replace h := (if_pos c10).symm.trans h
          refine lv_aload_n hx hb dX11_stairs_43 rfl (lv_at hl 0 rfl) ?_
          refine lv_iconst (v := 2) hx hb dX11_stairs_44 (by decide) ?_
          obtain ⟨r32, hr32, h⟩ := lt_elim h
          refine ca_i (w' := WX11 cy h0 a0 r32.2) (rn_V (As := [.int (2 : Int32)]) (rest := []) ⟨hx, hb, hml, hown, hts⟩ (kX11_refuse l D cy h0 a0 s0 (2 : Int32) r32 hr32.symm H.size) (cwV 1 hts gX11_stairs_X11_refuse rfl rfl rfl (by decide +kernel) ⟨Nat.le_of_ble_eq_true rfl, Nat.le_of_ble_eq_true rfl⟩) hK hN hP hD [0, 1, 2, 3, 4, 5, 6, 7, 8, 9, 10, 11, 12, 13] rfl rfl (ci := 11) (q0 := 0) rfl rfl rfl rfl hl.1 rfl (Nat.le_of_ble_eq_true rfl) dX11_stairs_45 ⟨Nat.le_refl 0, Nat.le_refl 0⟩) hP hD hS hA [0, 1, 2, 3, 4, 5, 6, 7, 8, 9, 10, 11, 12, 13] ⟨rfl, rfl, rfl, rfl⟩ (fun H locs hP hD hS => ?_)
          exact hret 48 H locs ls (r32.1, r32.2) (Option.some.inj h) hP hD hS dX11_stairs_48
      · replace h := (if_pos c8).symm.trans h
        refine lv_aload_n hx hb dX11_stairs_27 rfl (lv_at hl 0 rfl) ?_
        refine lv_iconst (v := 1) hx hb dX11_stairs_28 (by decide) ?_
        obtain ⟨r33, hr33, h⟩ := lt_elim h
        refine ca_i (w' := WX11 cy h0 a0 r33.2) (rn_V (As := [.int (1 : Int32)]) (rest := []) ⟨hx, hb, hml, hown, hts⟩ (kX11_refuse l D cy h0 a0 s0 (1 : Int32) r33 hr33.symm H.size) (cwV 1 hts gX11_stairs_X11_refuse rfl rfl rfl (by decide +kernel) ⟨Nat.le_of_ble_eq_true rfl, Nat.le_of_ble_eq_true rfl⟩) hK hN hP hD [0, 1, 2, 3, 4, 5, 6, 7, 8, 9, 10, 11, 12, 13] rfl rfl (ci := 11) (q0 := 0) rfl rfl rfl rfl hl.1 rfl (Nat.le_of_ble_eq_true rfl) dX11_stairs_29 ⟨Nat.le_refl 0, Nat.le_refl 0⟩) hP hD hS hA [0, 1, 2, 3, 4, 5, 6, 7, 8, 9, 10, 11, 12, 13] ⟨rfl, rfl, rfl, rfl⟩ (fun H locs hP hD hS => ?_)
        exact hret 32 H locs ls (r33.1, r33.2) (Option.some.inj h) hP hD hS dX11_stairs_32
theorem dX11_status_0 : decode cX11_status 0 = .ok (.aload_n 0, 1) := by decide +kernel
theorem dX11_status_1 : decode cX11_status 1 = .ok (.getfield 69, 3) := by decide +kernel
theorem dX11_status_4 : decode cX11_status 4 = .ok (.ireturn, 1) := by decide +kernel
noncomputable def fX11_status (s0 : Rc) : Int32 :=
(gi s0 2)
abbrev rmX11_status : Room := { frames := 0, cells := 0, slots := 0, locals := 0 }
set_option maxHeartbeats 4000000 in
set_option maxRecDepth 100000 in
theorem kX11_status (l : Launch) (D : va_G) (cy : Nat → ClassId) (h0 : Nat) (a0 : Nat → Nat) (s0 : Rc) (res : Int32) (h : fX11_status s0 = res) : CI l D cy yX11_status wsX11_status rmX11_status [.ref h0] (WX11 cy h0 a0 s0) (WX11 cy h0 a0 s0) res := by
  refine CI.of (cc := cX11_status) (maxL := 1) (by decide) rfl (Nat.le_of_ble_eq_true rfl) ?_
  intro p e s m args below meth c A QQ ls E hr
  obtain ⟨hx, hb, hml, hown, hts, hK, hN, hP, hD, hA, hl⟩ := E
  have hret : ∀ (pc : Nat) (H : Heap) (locs : List Loc) (ls : Array Slot) (u : Int32), u = res → va_P D vwCl (WX11 cy h0 a0 s0) H → va_D A (WX11 cy h0 a0 s0) → va_S A s.heap H locs → decode cX11_status pc = .ok (.ireturn, 1) → W p l e rmX11_status s m args below meth c H locs 0 0 QQ (F0 m pc ls [.int u]) := by
    intro pc H locs ls u hu hP hD hS hd; subst hu; exact hr pc H locs ls _ rfl hP hD hS hd
  clear hr
  have hl : lv_has ls 1 [(0, .ref h0)] := hl
  have hinX11 : ∀ w ∈ wsX110, w ∈ wsX11_status := fun _ h => List.mem_cons_of_mem _ (List.mem_append_right _ h)
  unfold fX11_status at h
  suffices key : ∀ (H : Heap) (locs : List Loc), va_P D vwCl (WX11 cy h0 a0 s0) H → va_S A s.heap H locs → W p l e rmX11_status s m args below meth c H locs 0 0 QQ (F0 m 0 ls []) from key _ _ hP va_S.rf
  clear hP
  intro H locs hP hS
  refine lv_aload_n hx hb dX11_status_0 rfl (lv_at hl 0 rfl) ?_
  refine va_get (D := D) (ci := 11) (v := .int (gi s0 2)) (C := RX11) (T := TX11) (N := 38) hx hb hts hinX11 hown hK hP 0 rfl rfl 2 (by decide) (hts (.fieldLink RX11 69 "KneeBenchModel" "status" "I") (List.mem_of_getElem? (i := 1) rfl)) (fun _ h9 => h9) rfl dX11_status_1 ?_
  exact hret 4 H locs ls (gi s0 2) h hP hD hS dX11_status_4
set_option maxRecDepth 20000 in
theorem ggX11_streak_X11_isFarmer : GoodIn wsX11_streak wsX11_isFarmer := goodIn_r _ [10, 1, 52, 53, 54, 55, 56, 57, 58, 59, 60, 61, 62, 63, 64, 65, 66, 67, 68, 69, 70, 71, 72, 73, 74, 75, 76, 77, 78, 79, 80, 81, 82, 83, 84, 85, 86, 87, 88, 89] (by decide +kernel) (by decide +kernel)
set_option maxRecDepth 20000 in
theorem gX11_streak_X11_isFarmer : GoodIn wsX11_streak (wsV RX11 267 RX11 yX11_isFarmer wsX11_isFarmer) := goodIn_app (goodIn_of _ (by decide +kernel)) ggX11_streak_X11_isFarmer
set_option maxRecDepth 20000 in
theorem ggX11_streak_X11_refuse : GoodIn wsX11_streak wsX11_refuse := goodIn_r _ [14, 15, 52, 53, 54, 55, 56, 57, 58, 59, 60, 61, 62, 63, 64, 65, 66, 67, 68, 69, 70, 71, 72, 73, 74, 75, 76, 77, 78, 79, 80, 81, 82, 83, 84, 85, 86, 87, 88, 89] (by decide +kernel) (by decide +kernel)
set_option maxRecDepth 20000 in
theorem gX11_streak_X11_refuse : GoodIn wsX11_streak (wsV RX11 75 RX11 yX11_refuse wsX11_refuse) := goodIn_app (goodIn_of _ (by decide +kernel)) ggX11_streak_X11_refuse
set_option maxRecDepth 20000 in
theorem ggX11_streak_X11_isRight : GoodIn wsX11_streak wsX11_isRight := goodIn_r _ [19, 20, 21, 22, 9, 23, 24, 1, 25, 26, 27, 28, 29, 30, 31, 32, 33, 34, 35, 36, 37, 38, 39, 40, 41, 42, 43, 44, 45, 46, 47, 52, 53, 54, 55, 56, 57, 58, 59, 60, 61, 62, 63, 64, 65, 66, 67, 68, 69, 70, 71, 72, 73, 74, 75, 76, 77, 78, 79, 80, 81, 82, 83, 84, 85, 86, 87, 88, 89] (by decide +kernel) (by decide +kernel)
set_option maxRecDepth 20000 in
theorem gX11_streak_X11_isRight : GoodIn wsX11_streak (wsV RX11 325 RX11 yX11_isRight wsX11_isRight) := goodIn_app (goodIn_of _ (by decide +kernel)) ggX11_streak_X11_isRight
set_option maxRecDepth 20000 in
theorem ggX11_streak_X11_gives : GoodIn wsX11_streak wsX11_gives := goodIn_r _ [51, 15, 52, 53, 54, 55, 56, 57, 58, 59, 60, 61, 62, 63, 64, 65, 66, 67, 68, 69, 70, 71, 72, 73, 74, 75, 76, 77, 78, 79, 80, 81, 82, 83, 84, 85, 86, 87, 88, 89] (by decide +kernel) (by decide +kernel)
set_option maxRecDepth 20000 in
theorem gX11_streak_X11_gives : GoodIn wsX11_streak (wsV RX11 79 RX11 yX11_gives wsX11_gives) := goodIn_app (goodIn_of _ (by decide +kernel)) ggX11_streak_X11_gives
theorem dX11_streak_0 : decode cX11_streak 0 = .ok (.aload_n 0, 1) := by decide +kernel
theorem dX11_streak_1 : decode cX11_streak 1 = .ok (.iload_n 1, 1) := by decide +kernel
theorem dX11_streak_2 : decode cX11_streak 2 = .ok (.invokevirtual 267, 3) := by decide +kernel
theorem dX11_streak_5 : decode cX11_streak 5 = .ok (.ifCond .ne 9, 3) := by decide +kernel
theorem dX11_streak_8 : decode cX11_streak 8 = .ok (.aload_n 0, 1) := by decide +kernel
theorem dX11_streak_9 : decode cX11_streak 9 = .ok (.iconst 1, 1) := by decide +kernel
theorem dX11_streak_10 : decode cX11_streak 10 = .ok (.invokevirtual 75, 3) := by decide +kernel
theorem dX11_streak_13 : decode cX11_streak 13 = .ok (.ireturn, 1) := by decide +kernel
theorem dX11_streak_14 : decode cX11_streak 14 = .ok (.iconst 0, 1) := by decide +kernel
theorem dX11_streak_15 : decode cX11_streak 15 = .ok (.istore_n 2, 1) := by decide +kernel
theorem dX11_streak_16 : decode cX11_streak 16 = .ok (.iconst 0, 1) := by decide +kernel
theorem dX11_streak_17 : decode cX11_streak 17 = .ok (.istore_n 3, 1) := by decide +kernel
theorem dX11_streak_18 : decode cX11_streak 18 = .ok (.iconst 0, 1) := by decide +kernel
theorem dX11_streak_19 : decode cX11_streak 19 = .ok (.istore 4, 2) := by decide +kernel
theorem dX11_streak_21 : decode cX11_streak 21 = .ok (.iload 4, 2) := by decide +kernel
theorem dX11_streak_23 : decode cX11_streak 23 = .ok (.aload_n 0, 1) := by decide +kernel
theorem dX11_streak_24 : decode cX11_streak 24 = .ok (.getfield 7, 3) := by decide +kernel
theorem dX11_streak_27 : decode cX11_streak 27 = .ok (.iconst 1, 1) := by decide +kernel
theorem dX11_streak_28 : decode cX11_streak 28 = .ok (.iaload, 1) := by decide +kernel
theorem dX11_streak_29 : decode cX11_streak 29 = .ok (.if_icmp .ge 33, 3) := by decide +kernel
theorem dX11_streak_32 : decode cX11_streak 32 = .ok (.aload_n 0, 1) := by decide +kernel
theorem dX11_streak_33 : decode cX11_streak 33 = .ok (.iload_n 1, 1) := by decide +kernel
theorem dX11_streak_34 : decode cX11_streak 34 = .ok (.iload 4, 2) := by decide +kernel
theorem dX11_streak_36 : decode cX11_streak 36 = .ok (.invokevirtual 325, 3) := by decide +kernel
theorem dX11_streak_39 : decode cX11_streak 39 = .ok (.ifCond .eq 9, 3) := by decide +kernel
theorem dX11_streak_42 : decode cX11_streak 42 = .ok (.iload_n 3, 1) := by decide +kernel
theorem dX11_streak_43 : decode cX11_streak 43 = .ok (.iconst 1, 1) := by decide +kernel
theorem dX11_streak_44 : decode cX11_streak 44 = .ok (.iadd, 1) := by decide +kernel
theorem dX11_streak_45 : decode cX11_streak 45 = .ok (.goto 4, 3) := by decide +kernel
theorem dX11_streak_48 : decode cX11_streak 48 = .ok (.iconst 0, 1) := by decide +kernel
theorem dX11_streak_49 : decode cX11_streak 49 = .ok (.istore_n 3, 1) := by decide +kernel
theorem dX11_streak_50 : decode cX11_streak 50 = .ok (.iload_n 2, 1) := by decide +kernel
theorem dX11_streak_51 : decode cX11_streak 51 = .ok (.iload_n 3, 1) := by decide +kernel
theorem dX11_streak_52 : decode cX11_streak 52 = .ok (.invokestatic 341, 3) := by decide +kernel
theorem dX11_streak_55 : decode cX11_streak 55 = .ok (.istore_n 2, 1) := by decide +kernel
theorem dX11_streak_56 : decode cX11_streak 56 = .ok (.iinc 4 1, 3) := by decide +kernel
theorem dX11_streak_59 : decode cX11_streak 59 = .ok (.goto (-38), 3) := by decide +kernel
theorem dX11_streak_62 : decode cX11_streak 62 = .ok (.aload_n 0, 1) := by decide +kernel
theorem dX11_streak_63 : decode cX11_streak 63 = .ok (.iload_n 2, 1) := by decide +kernel
theorem dX11_streak_64 : decode cX11_streak 64 = .ok (.invokevirtual 79, 3) := by decide +kernel
theorem dX11_streak_67 : decode cX11_streak 67 = .ok (.ireturn, 1) := by decide +kernel
noncomputable def fX11_streak_J49 (q21 : Int32 × Int32 × Int32) (z49_0 : Int32) : Option ((Int32 × Int32 × Int32) ⊕ Int32) :=
lt_ (if q21.1 < z49_0 then z49_0 else q21.1) (fun x3 =>
some (.inl (x3, z49_0, (q21.2.2 + (1 : Int32)))))
noncomputable def fX11_streak_L21 (p1 : Int32) (s0 : Rc) (q21 : Int32 × Int32 × Int32) : Option ((Int32 × Int32 × Int32) ⊕ Int32) :=
if (ga s0 0 (1 : Int32).toNatClampNeg) ≤ q21.2.2 then (
some (.inr q21.1)) else (
(fX11_isRight p1 q21.2.2 s0).bind (fun r5 =>
if r5 = (0 : Int32) then (
fX11_streak_J49 q21 (0 : Int32)) else (
fX11_streak_J49 q21 (q21.2.1 + (1 : Int32)))))
noncomputable def fX11_streak (p1 : Int32) (s0 : Rc) : Option (Int32 × Rc) :=
if (fX11_isFarmer p1 s0) = (0 : Int32) then (
lt_ (fX11_refuse (1 : Int32) s0) (fun r9 =>
some (r9.1, r9.2))) else (
(loopF (fX11_streak_L21 p1 s0) ((0 : Int32), (0 : Int32), (0 : Int32))).bind (fun o21 =>
lt_ (fX11_gives o21 s0) (fun r8 =>
some (r8.1, r8.2))))
abbrev rmX11_streak : Room := { frames := 4, cells := 0, slots := 0, locals := 88 }
set_option maxHeartbeats 4000000 in
set_option maxRecDepth 100000 in
theorem kX11_streak (l : Launch) (D : va_G) (cy : Nat → ClassId) (h0 : Nat) (a0 : Nat → Nat) (s0 : Rc) (p1 : Int32) (res : Int32 × Rc) (h : fX11_streak p1 s0 = some res) : CI l D cy yX11_streak wsX11_streak rmX11_streak [.ref h0, .int p1] (WX11 cy h0 a0 s0) (WX11 cy h0 a0 res.2) res.1 := by
  refine CI.of (cc := cX11_streak) (maxL := 5) (by decide) rfl (Nat.le_of_ble_eq_true rfl) ?_
  intro p e s m args below meth c A QQ ls E hr
  obtain ⟨hx, hb, hml, hown, hts, hK, hN, hP, hD, hA, hl⟩ := E
  have hret : ∀ (pc : Nat) (H : Heap) (locs : List Loc) (ls : Array Slot) (u : Int32 × Rc), u = res → va_P D vwCl (WX11 cy h0 a0 u.2) H → va_D A (WX11 cy h0 a0 u.2) → va_S A s.heap H locs → decode cX11_streak pc = .ok (.ireturn, 1) → W p l e rmX11_streak s m args below meth c H locs 0 0 QQ (F0 m pc ls [.int u.1]) := by
    intro pc H locs ls u hu hP hD hS hd; subst hu; exact hr pc H locs ls _ rfl hP hD hS hd
  clear hr
  have hl : lv_has ls 5 [(0, .ref h0), (1, .int p1)] := hl
  have hinX11 : ∀ w ∈ wsX110, w ∈ wsX11_streak := fun _ h => List.mem_cons_of_mem _ (List.mem_append_right _ h)
  unfold fX11_streak at h
  suffices key : ∀ (H : Heap) (locs : List Loc), va_P D vwCl (WX11 cy h0 a0 s0) H → va_S A s.heap H locs → W p l e rmX11_streak s m args below meth c H locs 0 0 QQ (F0 m 0 ls []) from key _ _ hP va_S.rf
  clear hP
  intro H locs hP hS
  refine lv_aload_n hx hb dX11_streak_0 rfl (lv_at hl 0 rfl) ?_
  refine lv_iload_n hx hb dX11_streak_1 rfl (lv_at hl 1 rfl) ?_
  refine ca_z (w' := WX11 cy h0 a0 s0) (rn_V (As := [.int p1]) (rest := []) ⟨hx, hb, hml, hown, hts⟩ (kX11_isFarmer l D cy h0 a0 s0 p1 _ rfl H.size) (cwV 1 hts gX11_streak_X11_isFarmer rfl rfl rfl (by decide +kernel) ⟨Nat.le_of_ble_eq_true rfl, Nat.le_of_ble_eq_true rfl⟩) hK hN hP hD [0, 1, 2, 3, 4, 5, 6, 7, 8, 9, 10, 11, 12, 13] rfl rfl (ci := 11) (q0 := 0) rfl rfl rfl rfl hl.1 rfl (Nat.le_of_ble_eq_true rfl) dX11_streak_2 ⟨Nat.le_refl 0, Nat.le_refl 0⟩) hP hD hS hA [0, 1, 2, 3, 4, 5, 6, 7, 8, 9, 10, 11, 12, 13] ⟨rfl, rfl, rfl, rfl⟩ (fun b1 H locs hP hD hS => ?_)
  refine lv_if_ne (tgt := 14) hx hb dX11_streak_5 (by decide) (fun c2 => ?_) (fun c2 => ?_)
  · replace h := (if_neg c2).symm.trans h
    refine lv_iconst (v := 0) hx hb dX11_streak_14 (by decide) ?_
    refine lv_istore_n (lv' := [(2, .int (0 : Int32)), (0, .ref h0), (1, .int p1)]) hx hb dX11_streak_15 rfl hl (by decide) rfl (fun ls hl => ?_)
    refine lv_iconst (v := 0) hx hb dX11_streak_16 (by decide) ?_
    refine lv_istore_n (lv' := [(3, .int (0 : Int32)), (2, .int (0 : Int32)), (0, .ref h0), (1, .int p1)]) hx hb dX11_streak_17 rfl hl (by decide) rfl (fun ls hl => ?_)
    refine lv_iconst (v := 0) hx hb dX11_streak_18 (by decide) ?_
    refine lv_istore (lv' := [(4, .int (0 : Int32)), (3, .int (0 : Int32)), (2, .int (0 : Int32)), (0, .ref h0), (1, .int p1)]) hx hb dX11_streak_19 hl (by decide) rfl (fun ls hl => ?_)
    have L21 : ∀ (n : Nat) (q21 : Int32 × Int32 × Int32) (o : Int32), loopO (fX11_streak_L21 p1 s0) n q21 = some o → ∀ (H : Heap) (locs : List Loc) (ls : Array Slot), lv_has ls 5 [(0, .ref h0), (1, .int p1), (2, .int q21.1), (3, .int q21.2.1), (4, .int q21.2.2)] → va_P D vwCl (WX11 cy h0 a0 s0) H → va_D A (WX11 cy h0 a0 s0) → va_S A s.heap H locs → ∀ (kk62 : ∀ (H : Heap) (locs : List Loc) (ls : Array Slot), lv_has ls 5 [(0, .ref h0), (2, .int o)] → va_P D vwCl (WX11 cy h0 a0 s0) H → va_D A (WX11 cy h0 a0 s0) → va_S A s.heap H locs → W p l e rmX11_streak s m args below meth c H locs 0 0 QQ (F0 m 62 ls [])), W p l e rmX11_streak s m args below meth c H locs 0 0 QQ (F0 m 21 ls []) := by
      intro n
      induction n with
      | zero => intro q21 o h; exact absurd h (by rw [loopO_zero]; intro z; cases z)
      | succ n ih =>
        intro q21 o h H locs ls hl hP hD hS kk62
        obtain ⟨w, h, hgo, hst⟩ := loopO_elim h
        unfold fX11_streak_L21 at h
        have J49 : ∀ (z49_0 : Int32) (H : Heap) (locs : List Loc) (ls : Array Slot), lv_has ls 5 [(0, .ref h0), (1, .int p1), (2, .int q21.1), (4, .int q21.2.2)] → va_P D vwCl (WX11 cy h0 a0 s0) H → va_D A (WX11 cy h0 a0 s0) → va_S A s.heap H locs → fX11_streak_J49 q21 z49_0 = some w → W p l e rmX11_streak s m args below meth c H locs 0 0 QQ (F0 m 49 ls [.int z49_0]) := by
          intro z49_0 H locs ls hl hP hD hS h
          unfold fX11_streak_J49 at h
          refine lv_istore_n (lv' := [(3, .int z49_0), (0, .ref h0), (1, .int p1), (2, .int q21.1), (4, .int q21.2.2)]) hx hb dX11_streak_49 rfl hl (by decide) rfl (fun ls hl => ?_)
          refine lv_iload_n hx hb dX11_streak_50 rfl (lv_at hl 3 rfl) ?_
          refine lv_iload_n hx hb dX11_streak_51 rfl (lv_at hl 0 rfl) ?_
          refine va_mmax hx hb (hml.trans hl.1.symm) hown (hts (.methodLink RX11 341 Lib.Math.max.name) (List.mem_of_getElem? (i := 2) rfl)) (hts (.static Lib.Math.max.name) (List.mem_of_getElem? (i := 3) rfl)) (hts (.initialized "java/lang/Math") (List.mem_of_getElem? (i := 4) rfl)) (hts (.code Lib.Math.max.name Lib.Math.max.code 2 (some .int)) (List.mem_of_getElem? (i := 5) rfl)) (Nat.le_of_ble_eq_true rfl) (Nat.le_of_ble_eq_true rfl) (Nat.le_refl 0) (Nat.le_refl 0) dX11_streak_52 ?_
          refine lv_topi (fun x3 ex3 => ?_)
          replace h := lt_use h x3 ex3
          refine lv_istore_n (lv' := [(2, .int x3), (3, .int z49_0), (0, .ref h0), (1, .int p1), (4, .int q21.2.2)]) hx hb dX11_streak_55 rfl hl (by decide) rfl (fun ls hl => ?_)
          refine lv_iinc (v := (q21.2.2 + (1 : Int32))) (lv' := [(4, .int (q21.2.2 + (1 : Int32))), (2, .int x3), (3, .int z49_0), (0, .ref h0), (1, .int p1)]) hx hb dX11_streak_56 hl (k := 4) rfl rfl (by decide) rfl (fun ls hl => ?_)
          refine lv_goto (tgt := 21) hx hb dX11_streak_59 (by decide) ?_
          exact ih _ o (hgo _ (Option.some.inj h).symm) H locs ls (lv_sub hl [3, 4, 1, 2, 0] rfl) hP hD hS kk62
        refine lv_iload hx hb dX11_streak_21 (lv_at hl 4 rfl) ?_
        refine lv_aload_n hx hb dX11_streak_23 rfl (lv_at hl 0 rfl) ?_
        refine va_get (D := D) (ci := 11) (v := .ref (a0 0)) (C := RX11) (T := TX11) (N := 38) hx hb hts hinX11 hown hK hP 0 rfl rfl 0 (by decide) (hts (.fieldLink RX11 7 "KneeBenchModel" "at" "[I") (List.mem_of_getElem? (i := 1) rfl)) (fun _ h9 => h9) rfl dX11_streak_24 ?_
        refine lv_iconst (v := 1) hx hb dX11_streak_27 (by decide) ?_
        refine va_iald hx hb hK hP 1 1 rfl rfl (inb_in (by decide)) dX11_streak_28 ?_
        refine lv_icmp_ge (tgt := 62) hx hb dX11_streak_29 (by decide) (fun c4 => ?_) (fun c4 => ?_)
        · replace h := (if_pos c4).symm.trans h
          have eo := hst _ (Option.some.inj h).symm
          subst eo
          exact kk62 H locs ls (lv_sub hl [0, 2] rfl) hP hD hS
        · replace h := (if_neg c4).symm.trans h
          refine lv_aload_n hx hb dX11_streak_32 rfl (lv_at hl 0 rfl) ?_
          refine lv_iload_n hx hb dX11_streak_33 rfl (lv_at hl 1 rfl) ?_
          refine lv_iload hx hb dX11_streak_34 (lv_at hl 4 rfl) ?_
          obtain ⟨r5, hr5, h⟩ := bd_elim h
          refine ca_z (w' := WX11 cy h0 a0 s0) (rn_V (As := [.int p1, .int q21.2.2]) (rest := []) ⟨hx, hb, hml, hown, hts⟩ (kX11_isRight l D cy h0 a0 s0 p1 q21.2.2 r5 hr5 H.size) (cwV 2 hts gX11_streak_X11_isRight rfl rfl rfl (by decide +kernel) ⟨Nat.le_of_ble_eq_true rfl, Nat.le_of_ble_eq_true rfl⟩) hK hN hP hD [0, 1, 2, 3, 4, 5, 6, 7, 8, 9, 10, 11, 12, 13] rfl rfl (ci := 11) (q0 := 0) rfl rfl rfl rfl hl.1 rfl (Nat.le_of_ble_eq_true rfl) dX11_streak_36 ⟨Nat.le_refl 0, Nat.le_refl 0⟩) hP hD hS hA [0, 1, 2, 3, 4, 5, 6, 7, 8, 9, 10, 11, 12, 13] ⟨rfl, rfl, rfl, rfl⟩ (fun b6 H locs hP hD hS => ?_)
          refine lv_if_eq (tgt := 48) hx hb dX11_streak_39 (by decide) (fun c7 => ?_) (fun c7 => ?_)
          · replace h := (if_pos c7).symm.trans h
            refine lv_iconst (v := 0) hx hb dX11_streak_48 (by decide) ?_
            exact J49 (0 : Int32) H locs ls (lv_sub hl [0, 1, 2, 4] rfl) hP hD hS h
          · replace h := (if_neg c7).symm.trans h
            refine lv_iload_n hx hb dX11_streak_42 rfl (lv_at hl 3 rfl) ?_
            refine lv_iconst (v := 1) hx hb dX11_streak_43 (by decide) ?_
            refine lv_iadd hx hb dX11_streak_44 ?_
            refine lv_goto (tgt := 49) hx hb dX11_streak_45 (by decide) ?_
            exact J49 (q21.2.1 + (1 : Int32)) H locs ls (lv_sub hl [0, 1, 2, 4] rfl) hP hD hS h
    obtain ⟨o21, ho21, h⟩ := bd_elim h
    obtain ⟨n21, hn21⟩ := loopF_some ho21
    refine L21 n21 _ o21 hn21 H locs ls (lv_sub hl [3, 4, 2, 1, 0] rfl) hP hD hS (fun H locs ls hl hP hD hS => ?_)
    refine lv_aload_n hx hb dX11_streak_62 rfl (lv_at hl 0 rfl) ?_
    refine lv_iload_n hx hb dX11_streak_63 rfl (lv_at hl 1 rfl) ?_
    obtain ⟨r8, hr8, h⟩ := lt_elim h
    refine ca_i (w' := WX11 cy h0 a0 r8.2) (rn_V (As := [.int o21]) (rest := []) ⟨hx, hb, hml, hown, hts⟩ (kX11_gives l D cy h0 a0 s0 o21 r8 hr8.symm H.size) (cwV 1 hts gX11_streak_X11_gives rfl rfl rfl (by decide +kernel) ⟨Nat.le_of_ble_eq_true rfl, Nat.le_of_ble_eq_true rfl⟩) hK hN hP hD [0, 1, 2, 3, 4, 5, 6, 7, 8, 9, 10, 11, 12, 13] rfl rfl (ci := 11) (q0 := 0) rfl rfl rfl rfl hl.1 rfl (Nat.le_of_ble_eq_true rfl) dX11_streak_64 ⟨Nat.le_refl 0, Nat.le_refl 0⟩) hP hD hS hA [0, 1, 2, 3, 4, 5, 6, 7, 8, 9, 10, 11, 12, 13] ⟨rfl, rfl, rfl, rfl⟩ (fun H locs hP hD hS => ?_)
    exact hret 67 H locs ls (r8.1, r8.2) (Option.some.inj h) hP hD hS dX11_streak_67
  · replace h := (if_pos c2).symm.trans h
    refine lv_aload_n hx hb dX11_streak_8 rfl (lv_at hl 0 rfl) ?_
    refine lv_iconst (v := 1) hx hb dX11_streak_9 (by decide) ?_
    obtain ⟨r9, hr9, h⟩ := lt_elim h
    refine ca_i (w' := WX11 cy h0 a0 r9.2) (rn_V (As := [.int (1 : Int32)]) (rest := []) ⟨hx, hb, hml, hown, hts⟩ (kX11_refuse l D cy h0 a0 s0 (1 : Int32) r9 hr9.symm H.size) (cwV 1 hts gX11_streak_X11_refuse rfl rfl rfl (by decide +kernel) ⟨Nat.le_of_ble_eq_true rfl, Nat.le_of_ble_eq_true rfl⟩) hK hN hP hD [0, 1, 2, 3, 4, 5, 6, 7, 8, 9, 10, 11, 12, 13] rfl rfl (ci := 11) (q0 := 0) rfl rfl rfl rfl hl.1 rfl (Nat.le_of_ble_eq_true rfl) dX11_streak_10 ⟨Nat.le_refl 0, Nat.le_refl 0⟩) hP hD hS hA [0, 1, 2, 3, 4, 5, 6, 7, 8, 9, 10, 11, 12, 13] ⟨rfl, rfl, rfl, rfl⟩ (fun H locs hP hD hS => ?_)
    exact hret 13 H locs ls (r9.1, r9.2) (Option.some.inj h) hP hD hS dX11_streak_13
set_option maxRecDepth 20000 in
theorem ggX11_sure_X11_isAsked : GoodIn wsX11_sure wsX11_isAsked := goodIn_r _ [5] (by decide +kernel) (by decide +kernel)
set_option maxRecDepth 20000 in
theorem gX11_sure_X11_isAsked : GoodIn wsX11_sure (va_wsS RX11 304 yX11_isAsked wsX11_isAsked) := goodIn_app (goodIn_of _ (by decide +kernel)) ggX11_sure_X11_isAsked
set_option maxRecDepth 20000 in
theorem ggX11_sure_X11_refuse : GoodIn wsX11_sure wsX11_refuse := goodIn_r _ [9, 10, 43, 44, 45, 46, 47, 48, 49, 50, 51, 52, 53, 54, 55, 56, 57, 58, 59, 60, 61, 62, 63, 64, 65, 66, 67, 68, 69, 70, 71, 72, 73, 74, 75, 76, 77, 78, 79, 80] (by decide +kernel) (by decide +kernel)
set_option maxRecDepth 20000 in
theorem gX11_sure_X11_refuse : GoodIn wsX11_sure (wsV RX11 75 RX11 yX11_refuse wsX11_refuse) := goodIn_app (goodIn_of _ (by decide +kernel)) ggX11_sure_X11_refuse
set_option maxRecDepth 20000 in
theorem ggX11_sure_X11_sayOf : GoodIn wsX11_sure wsX11_sayOf := goodIn_r _ [14, 1, 15, 16, 17, 4, 18, 19, 20, 21, 22, 23, 24, 25, 26, 27, 28, 29, 30, 31, 32, 33, 34, 35, 36, 37, 38, 43, 44, 45, 46, 47, 48, 49, 50, 51, 52, 53, 54, 55, 56, 57, 58, 59, 60, 61, 62, 63, 64, 65, 66, 67, 68, 69, 70, 71, 72, 73, 74, 75, 76, 77, 78, 79, 80] (by decide +kernel) (by decide +kernel)
set_option maxRecDepth 20000 in
theorem gX11_sure_X11_sayOf : GoodIn wsX11_sure (wsV RX11 316 RX11 yX11_sayOf wsX11_sayOf) := goodIn_app (goodIn_of _ (by decide +kernel)) ggX11_sure_X11_sayOf
set_option maxRecDepth 20000 in
theorem ggX11_sure_X11_tellOf : GoodIn wsX11_sure wsX11_tellOf := goodIn_r _ [18, 19, 1, 20, 21, 22, 23, 4, 24, 25, 26, 27, 28, 29, 30, 31, 32, 33, 34, 35, 36, 37, 38, 43, 44, 45, 46, 47, 48, 49, 50, 51, 52, 53, 54, 55, 56, 57, 58, 59, 60, 61, 62, 63, 64, 65, 66, 67, 68, 69, 70, 71, 72, 73, 74, 75, 76, 77, 78, 79, 80] (by decide +kernel) (by decide +kernel)
set_option maxRecDepth 20000 in
theorem gX11_sure_X11_tellOf : GoodIn wsX11_sure (wsV RX11 307 RX11 yX11_tellOf wsX11_tellOf) := goodIn_app (goodIn_of _ (by decide +kernel)) ggX11_sure_X11_tellOf
set_option maxRecDepth 20000 in
theorem ggX11_sure_X11_farmerRow : GoodIn wsX11_sure wsX11_farmerRow := goodIn_r _ [27] (by decide +kernel) (by decide +kernel)
set_option maxRecDepth 20000 in
theorem gX11_sure_X11_farmerRow : GoodIn wsX11_sure (va_wsS RX11 177 yX11_farmerRow wsX11_farmerRow) := goodIn_app (goodIn_of _ (by decide +kernel)) ggX11_sure_X11_farmerRow
set_option maxRecDepth 20000 in
theorem ggX11_sure_X11_gives : GoodIn wsX11_sure wsX11_gives := goodIn_r _ [42, 10, 43, 44, 45, 46, 47, 48, 49, 50, 51, 52, 53, 54, 55, 56, 57, 58, 59, 60, 61, 62, 63, 64, 65, 66, 67, 68, 69, 70, 71, 72, 73, 74, 75, 76, 77, 78, 79, 80] (by decide +kernel) (by decide +kernel)
set_option maxRecDepth 20000 in
theorem gX11_sure_X11_gives : GoodIn wsX11_sure (wsV RX11 79 RX11 yX11_gives wsX11_gives) := goodIn_app (goodIn_of _ (by decide +kernel)) ggX11_sure_X11_gives
theorem dX11_sure_0 : decode cX11_sure 0 = .ok (.iload_n 1, 1) := by decide +kernel
theorem dX11_sure_1 : decode cX11_sure 1 = .ok (.invokestatic 304, 3) := by decide +kernel
theorem dX11_sure_4 : decode cX11_sure 4 = .ok (.ifCond .ne 9, 3) := by decide +kernel
theorem dX11_sure_7 : decode cX11_sure 7 = .ok (.aload_n 0, 1) := by decide +kernel
theorem dX11_sure_8 : decode cX11_sure 8 = .ok (.iconst 1, 1) := by decide +kernel
theorem dX11_sure_9 : decode cX11_sure 9 = .ok (.invokevirtual 75, 3) := by decide +kernel
theorem dX11_sure_12 : decode cX11_sure 12 = .ok (.ireturn, 1) := by decide +kernel
theorem dX11_sure_13 : decode cX11_sure 13 = .ok (.aload_n 0, 1) := by decide +kernel
theorem dX11_sure_14 : decode cX11_sure 14 = .ok (.iload_n 1, 1) := by decide +kernel
theorem dX11_sure_15 : decode cX11_sure 15 = .ok (.invokevirtual 316, 3) := by decide +kernel
theorem dX11_sure_18 : decode cX11_sure 18 = .ok (.iconst (-1), 1) := by decide +kernel
theorem dX11_sure_19 : decode cX11_sure 19 = .ok (.if_icmp .ne 10, 3) := by decide +kernel
theorem dX11_sure_22 : decode cX11_sure 22 = .ok (.aload_n 0, 1) := by decide +kernel
theorem dX11_sure_23 : decode cX11_sure 23 = .ok (.bipush 6, 2) := by decide +kernel
theorem dX11_sure_25 : decode cX11_sure 25 = .ok (.invokevirtual 75, 3) := by decide +kernel
theorem dX11_sure_28 : decode cX11_sure 28 = .ok (.ireturn, 1) := by decide +kernel
theorem dX11_sure_29 : decode cX11_sure 29 = .ok (.iconst 0, 1) := by decide +kernel
theorem dX11_sure_30 : decode cX11_sure 30 = .ok (.istore_n 2, 1) := by decide +kernel
theorem dX11_sure_31 : decode cX11_sure 31 = .ok (.iconst 0, 1) := by decide +kernel
theorem dX11_sure_32 : decode cX11_sure 32 = .ok (.istore_n 3, 1) := by decide +kernel
theorem dX11_sure_33 : decode cX11_sure 33 = .ok (.iload_n 3, 1) := by decide +kernel
theorem dX11_sure_34 : decode cX11_sure 34 = .ok (.aload_n 0, 1) := by decide +kernel
theorem dX11_sure_35 : decode cX11_sure 35 = .ok (.getfield 7, 3) := by decide +kernel
theorem dX11_sure_38 : decode cX11_sure 38 = .ok (.iconst 0, 1) := by decide +kernel
theorem dX11_sure_39 : decode cX11_sure 39 = .ok (.iaload, 1) := by decide +kernel
theorem dX11_sure_40 : decode cX11_sure 40 = .ok (.if_icmp .ge 64, 3) := by decide +kernel
theorem dX11_sure_43 : decode cX11_sure 43 = .ok (.iload_n 2, 1) := by decide +kernel
theorem dX11_sure_44 : decode cX11_sure 44 = .ok (.aload_n 0, 1) := by decide +kernel
theorem dX11_sure_45 : decode cX11_sure 45 = .ok (.iload_n 3, 1) := by decide +kernel
theorem dX11_sure_46 : decode cX11_sure 46 = .ok (.iload_n 1, 1) := by decide +kernel
theorem dX11_sure_47 : decode cX11_sure 47 = .ok (.invokevirtual 307, 3) := by decide +kernel
theorem dX11_sure_50 : decode cX11_sure 50 = .ok (.iconst (-1), 1) := by decide +kernel
theorem dX11_sure_51 : decode cX11_sure 51 = .ok (.if_icmp .ne 7, 3) := by decide +kernel
theorem dX11_sure_54 : decode cX11_sure 54 = .ok (.iconst 0, 1) := by decide +kernel
theorem dX11_sure_55 : decode cX11_sure 55 = .ok (.goto 41, 3) := by decide +kernel
theorem dX11_sure_58 : decode cX11_sure 58 = .ok (.aload_n 0, 1) := by decide +kernel
theorem dX11_sure_59 : decode cX11_sure 59 = .ok (.iload_n 3, 1) := by decide +kernel
theorem dX11_sure_60 : decode cX11_sure 60 = .ok (.iload_n 1, 1) := by decide +kernel
theorem dX11_sure_61 : decode cX11_sure 61 = .ok (.invokevirtual 307, 3) := by decide +kernel
theorem dX11_sure_64 : decode cX11_sure 64 = .ok (.iconst 1, 1) := by decide +kernel
theorem dX11_sure_65 : decode cX11_sure 65 = .ok (.if_icmp .ne 18, 3) := by decide +kernel
theorem dX11_sure_68 : decode cX11_sure 68 = .ok (.aload_n 0, 1) := by decide +kernel
theorem dX11_sure_69 : decode cX11_sure 69 = .ok (.getfield 7, 3) := by decide +kernel
theorem dX11_sure_72 : decode cX11_sure 72 = .ok (.iconst 0, 1) := by decide +kernel
theorem dX11_sure_73 : decode cX11_sure 73 = .ok (.iload_n 3, 1) := by decide +kernel
theorem dX11_sure_74 : decode cX11_sure 74 = .ok (.invokestatic 177, 3) := by decide +kernel
theorem dX11_sure_77 : decode cX11_sure 77 = .ok (.iconst 5, 1) := by decide +kernel
theorem dX11_sure_78 : decode cX11_sure 78 = .ok (.iadd, 1) := by decide +kernel
theorem dX11_sure_79 : decode cX11_sure 79 = .ok (.iaload, 1) := by decide +kernel
theorem dX11_sure_80 : decode cX11_sure 80 = .ok (.goto 16, 3) := by decide +kernel
theorem dX11_sure_83 : decode cX11_sure 83 = .ok (.aload_n 0, 1) := by decide +kernel
theorem dX11_sure_84 : decode cX11_sure 84 = .ok (.getfield 7, 3) := by decide +kernel
theorem dX11_sure_87 : decode cX11_sure 87 = .ok (.iconst 0, 1) := by decide +kernel
theorem dX11_sure_88 : decode cX11_sure 88 = .ok (.iload_n 3, 1) := by decide +kernel
theorem dX11_sure_89 : decode cX11_sure 89 = .ok (.invokestatic 177, 3) := by decide +kernel
theorem dX11_sure_92 : decode cX11_sure 92 = .ok (.iconst 5, 1) := by decide +kernel
theorem dX11_sure_93 : decode cX11_sure 93 = .ok (.iadd, 1) := by decide +kernel
theorem dX11_sure_94 : decode cX11_sure 94 = .ok (.iaload, 1) := by decide +kernel
theorem dX11_sure_95 : decode cX11_sure 95 = .ok (.ineg, 1) := by decide +kernel
theorem dX11_sure_96 : decode cX11_sure 96 = .ok (.iadd, 1) := by decide +kernel
theorem dX11_sure_97 : decode cX11_sure 97 = .ok (.istore_n 2, 1) := by decide +kernel
theorem dX11_sure_98 : decode cX11_sure 98 = .ok (.iinc 3 1, 3) := by decide +kernel
theorem dX11_sure_101 : decode cX11_sure 101 = .ok (.goto (-68), 3) := by decide +kernel
theorem dX11_sure_104 : decode cX11_sure 104 = .ok (.aload_n 0, 1) := by decide +kernel
theorem dX11_sure_105 : decode cX11_sure 105 = .ok (.iload_n 2, 1) := by decide +kernel
theorem dX11_sure_106 : decode cX11_sure 106 = .ok (.invokevirtual 79, 3) := by decide +kernel
theorem dX11_sure_109 : decode cX11_sure 109 = .ok (.ireturn, 1) := by decide +kernel
noncomputable def fX11_sure_L33 (p1 : Int32) (s0 : Rc) (q33 : Int32 × Int32) : Option ((Int32 × Int32) ⊕ Int32) :=
if (ga s0 0 (0 : Int32).toNatClampNeg) ≤ q33.2 then (
some (.inr q33.1)) else (
(fX11_tellOf q33.2 p1 s0).bind (fun r6 =>
if r6 = (-1 : Int32) then (
lt_ (q33.1 + (0 : Int32)) (fun x14 =>
some (.inl (x14, (q33.2 + (1 : Int32)))))) else (
(fX11_tellOf q33.2 p1 s0).bind (fun r8 =>
if r8 = (1 : Int32) then (
gd (inb ((fX11_farmerRow (0 : Int32) q33.2) + (5 : Int32)) 6240) (
lt_ (q33.1 + (ga s0 0 ((fX11_farmerRow (0 : Int32) q33.2) + (5 : Int32)).toNatClampNeg)) (fun x13 =>
some (.inl (x13, (q33.2 + (1 : Int32))))))) else (
gd (inb ((fX11_farmerRow (0 : Int32) q33.2) + (5 : Int32)) 6240) (
lt_ (q33.1 + (-(ga s0 0 ((fX11_farmerRow (0 : Int32) q33.2) + (5 : Int32)).toNatClampNeg))) (fun x11 =>
some (.inl (x11, (q33.2 + (1 : Int32)))))))))))
noncomputable def fX11_sure (p1 : Int32) (s0 : Rc) : Option (Int32 × Rc) :=
if (fX11_isAsked p1) = (0 : Int32) then (
lt_ (fX11_refuse (1 : Int32) s0) (fun r17 =>
some (r17.1, r17.2))) else (
(fX11_sayOf p1 s0).bind (fun r3 =>
if r3 = (-1 : Int32) then (
lt_ (fX11_refuse (6 : Int32) s0) (fun r16 =>
some (r16.1, r16.2))) else (
(loopF (fX11_sure_L33 p1 s0) ((0 : Int32), (0 : Int32))).bind (fun o33 =>
lt_ (fX11_gives o33 s0) (fun r15 =>
some (r15.1, r15.2))))))
abbrev rmX11_sure : Room := { frames := 4, cells := 0, slots := 0, locals := 92 }
set_option maxHeartbeats 4000000 in
set_option maxRecDepth 100000 in
theorem kX11_sure (l : Launch) (D : va_G) (cy : Nat → ClassId) (h0 : Nat) (a0 : Nat → Nat) (s0 : Rc) (p1 : Int32) (res : Int32 × Rc) (h : fX11_sure p1 s0 = some res) : CI l D cy yX11_sure wsX11_sure rmX11_sure [.ref h0, .int p1] (WX11 cy h0 a0 s0) (WX11 cy h0 a0 res.2) res.1 := by
  refine CI.of (cc := cX11_sure) (maxL := 4) (by decide) rfl (Nat.le_of_ble_eq_true rfl) ?_
  intro p e s m args below meth c A QQ ls E hr
  obtain ⟨hx, hb, hml, hown, hts, hK, hN, hP, hD, hA, hl⟩ := E
  have hret : ∀ (pc : Nat) (H : Heap) (locs : List Loc) (ls : Array Slot) (u : Int32 × Rc), u = res → va_P D vwCl (WX11 cy h0 a0 u.2) H → va_D A (WX11 cy h0 a0 u.2) → va_S A s.heap H locs → decode cX11_sure pc = .ok (.ireturn, 1) → W p l e rmX11_sure s m args below meth c H locs 0 0 QQ (F0 m pc ls [.int u.1]) := by
    intro pc H locs ls u hu hP hD hS hd; subst hu; exact hr pc H locs ls _ rfl hP hD hS hd
  clear hr
  have hl : lv_has ls 4 [(0, .ref h0), (1, .int p1)] := hl
  have hinX11 : ∀ w ∈ wsX110, w ∈ wsX11_sure := fun _ h => List.mem_cons_of_mem _ (List.mem_append_right _ h)
  unfold fX11_sure at h
  suffices key : ∀ (H : Heap) (locs : List Loc), va_P D vwCl (WX11 cy h0 a0 s0) H → va_S A s.heap H locs → W p l e rmX11_sure s m args below meth c H locs 0 0 QQ (F0 m 0 ls []) from key _ _ hP va_S.rf
  clear hP
  intro H locs hP hS
  refine lv_iload_n hx hb dX11_sure_0 rfl (lv_at hl 1 rfl) ?_
  refine ca_z (w' := WX11 cy h0 a0 s0) (rn_S (As := [.int p1]) (rest := []) ⟨hx, hb, hml, hown, hts⟩ (kX11_isAsked l D cy p1 _ rfl H.size) (va_cwS 1 hts gX11_sure_X11_isAsked rfl rfl rfl (by decide +kernel) ⟨Nat.le_of_ble_eq_true rfl, Nat.le_of_ble_eq_true rfl⟩) hK hN hP hD [] rfl rfl rfl hl.1 rfl (Nat.le_of_ble_eq_true rfl) dX11_sure_1 ⟨Nat.le_refl 0, Nat.le_refl 0⟩) hP hD hS hA [] ⟨rfl, rfl, rfl, rfl⟩ (fun b1 H locs hP hD hS => ?_)
  refine lv_if_ne (tgt := 13) hx hb dX11_sure_4 (by decide) (fun c2 => ?_) (fun c2 => ?_)
  · replace h := (if_neg c2).symm.trans h
    refine lv_aload_n hx hb dX11_sure_13 rfl (lv_at hl 0 rfl) ?_
    refine lv_iload_n hx hb dX11_sure_14 rfl (lv_at hl 1 rfl) ?_
    obtain ⟨r3, hr3, h⟩ := bd_elim h
    refine ca_i (w' := WX11 cy h0 a0 s0) (rn_V (As := [.int p1]) (rest := []) ⟨hx, hb, hml, hown, hts⟩ (kX11_sayOf l D cy h0 a0 s0 p1 r3 hr3 H.size) (cwV 1 hts gX11_sure_X11_sayOf rfl rfl rfl (by decide +kernel) ⟨Nat.le_of_ble_eq_true rfl, Nat.le_of_ble_eq_true rfl⟩) hK hN hP hD [0, 1, 2, 3, 4, 5, 6, 7, 8, 9, 10, 11, 12, 13] rfl rfl (ci := 11) (q0 := 0) rfl rfl rfl rfl hl.1 rfl (Nat.le_of_ble_eq_true rfl) dX11_sure_15 ⟨Nat.le_refl 0, Nat.le_refl 0⟩) hP hD hS hA [0, 1, 2, 3, 4, 5, 6, 7, 8, 9, 10, 11, 12, 13] ⟨rfl, rfl, rfl, rfl⟩ (fun H locs hP hD hS => ?_)
    refine lv_iconst (v := -1) hx hb dX11_sure_18 (by decide) ?_
    refine lv_icmp_ne (tgt := 29) hx hb dX11_sure_19 (by decide) (fun c4 => ?_) (fun c4 => ?_)
    · replace h := (if_neg c4).symm.trans h
      refine lv_iconst (v := 0) hx hb dX11_sure_29 (by decide) ?_
      refine lv_istore_n (lv' := [(2, .int (0 : Int32)), (0, .ref h0), (1, .int p1)]) hx hb dX11_sure_30 rfl hl (by decide) rfl (fun ls hl => ?_)
      refine lv_iconst (v := 0) hx hb dX11_sure_31 (by decide) ?_
      refine lv_istore_n (lv' := [(3, .int (0 : Int32)), (2, .int (0 : Int32)), (0, .ref h0), (1, .int p1)]) hx hb dX11_sure_32 rfl hl (by decide) rfl (fun ls hl => ?_)
      have L33 : ∀ (n : Nat) (q33 : Int32 × Int32) (o : Int32), loopO (fX11_sure_L33 p1 s0) n q33 = some o → ∀ (H : Heap) (locs : List Loc) (ls : Array Slot), lv_has ls 4 [(0, .ref h0), (1, .int p1), (2, .int q33.1), (3, .int q33.2)] → va_P D vwCl (WX11 cy h0 a0 s0) H → va_D A (WX11 cy h0 a0 s0) → va_S A s.heap H locs → ∀ (kk104 : ∀ (H : Heap) (locs : List Loc) (ls : Array Slot), lv_has ls 4 [(0, .ref h0), (2, .int o)] → va_P D vwCl (WX11 cy h0 a0 s0) H → va_D A (WX11 cy h0 a0 s0) → va_S A s.heap H locs → W p l e rmX11_sure s m args below meth c H locs 0 0 QQ (F0 m 104 ls [])), W p l e rmX11_sure s m args below meth c H locs 0 0 QQ (F0 m 33 ls []) := by
        intro n
        induction n with
        | zero => intro q33 o h; exact absurd h (by rw [loopO_zero]; intro z; cases z)
        | succ n ih =>
          intro q33 o h H locs ls hl hP hD hS kk104
          obtain ⟨w, h, hgo, hst⟩ := loopO_elim h
          unfold fX11_sure_L33 at h
          refine lv_iload_n hx hb dX11_sure_33 rfl (lv_at hl 3 rfl) ?_
          refine lv_aload_n hx hb dX11_sure_34 rfl (lv_at hl 0 rfl) ?_
          refine va_get (D := D) (ci := 11) (v := .ref (a0 0)) (C := RX11) (T := TX11) (N := 38) hx hb hts hinX11 hown hK hP 0 rfl rfl 0 (by decide) (hts (.fieldLink RX11 7 "KneeBenchModel" "at" "[I") (List.mem_of_getElem? (i := 1) rfl)) (fun _ h9 => h9) rfl dX11_sure_35 ?_
          refine lv_iconst (v := 0) hx hb dX11_sure_38 (by decide) ?_
          refine va_iald hx hb hK hP 1 1 rfl rfl (inb_in (by decide)) dX11_sure_39 ?_
          refine lv_icmp_ge (tgt := 104) hx hb dX11_sure_40 (by decide) (fun c5 => ?_) (fun c5 => ?_)
          · replace h := (if_pos c5).symm.trans h
            have eo := hst _ (Option.some.inj h).symm
            subst eo
            exact kk104 H locs ls (lv_sub hl [0, 2] rfl) hP hD hS
          · replace h := (if_neg c5).symm.trans h
            refine lv_iload_n hx hb dX11_sure_43 rfl (lv_at hl 2 rfl) ?_
            refine lv_aload_n hx hb dX11_sure_44 rfl (lv_at hl 0 rfl) ?_
            refine lv_iload_n hx hb dX11_sure_45 rfl (lv_at hl 3 rfl) ?_
            refine lv_iload_n hx hb dX11_sure_46 rfl (lv_at hl 1 rfl) ?_
            obtain ⟨r6, hr6, h⟩ := bd_elim h
            refine ca_i (w' := WX11 cy h0 a0 s0) (rn_V (As := [.int q33.2, .int p1]) (rest := [.int q33.1]) ⟨hx, hb, hml, hown, hts⟩ (kX11_tellOf l D cy h0 a0 s0 q33.2 p1 r6 hr6 H.size) (cwV 2 hts gX11_sure_X11_tellOf rfl rfl rfl (by decide +kernel) ⟨Nat.le_of_ble_eq_true rfl, Nat.le_of_ble_eq_true rfl⟩) hK hN hP hD [0, 1, 2, 3, 4, 5, 6, 7, 8, 9, 10, 11, 12, 13] rfl rfl (ci := 11) (q0 := 0) rfl rfl rfl rfl hl.1 rfl (Nat.le_of_ble_eq_true rfl) dX11_sure_47 ⟨Nat.le_refl 0, Nat.le_refl 0⟩) hP hD hS hA [0, 1, 2, 3, 4, 5, 6, 7, 8, 9, 10, 11, 12, 13] ⟨rfl, rfl, rfl, rfl⟩ (fun H locs hP hD hS => ?_)
            refine lv_iconst (v := -1) hx hb dX11_sure_50 (by decide) ?_
            refine lv_icmp_ne (tgt := 58) hx hb dX11_sure_51 (by decide) (fun c7 => ?_) (fun c7 => ?_)
            · replace h := (if_neg c7).symm.trans h
              refine lv_aload_n hx hb dX11_sure_58 rfl (lv_at hl 0 rfl) ?_
              refine lv_iload_n hx hb dX11_sure_59 rfl (lv_at hl 3 rfl) ?_
              refine lv_iload_n hx hb dX11_sure_60 rfl (lv_at hl 1 rfl) ?_
              obtain ⟨r8, hr8, h⟩ := bd_elim h
              refine ca_i (w' := WX11 cy h0 a0 s0) (rn_V (As := [.int q33.2, .int p1]) (rest := [.int q33.1]) ⟨hx, hb, hml, hown, hts⟩ (kX11_tellOf l D cy h0 a0 s0 q33.2 p1 r8 hr8 H.size) (cwV 2 hts gX11_sure_X11_tellOf rfl rfl rfl (by decide +kernel) ⟨Nat.le_of_ble_eq_true rfl, Nat.le_of_ble_eq_true rfl⟩) hK hN hP hD [0, 1, 2, 3, 4, 5, 6, 7, 8, 9, 10, 11, 12, 13] rfl rfl (ci := 11) (q0 := 0) rfl rfl rfl rfl hl.1 rfl (Nat.le_of_ble_eq_true rfl) dX11_sure_61 ⟨Nat.le_refl 0, Nat.le_refl 0⟩) hP hD hS hA [0, 1, 2, 3, 4, 5, 6, 7, 8, 9, 10, 11, 12, 13] ⟨rfl, rfl, rfl, rfl⟩ (fun H locs hP hD hS => ?_)
              refine lv_iconst (v := 1) hx hb dX11_sure_64 (by decide) ?_
              refine lv_icmp_ne (tgt := 83) hx hb dX11_sure_65 (by decide) (fun c9 => ?_) (fun c9 => ?_)
              · replace h := (if_neg c9).symm.trans h
                refine lv_aload_n hx hb dX11_sure_83 rfl (lv_at hl 0 rfl) ?_
                refine va_get (D := D) (ci := 11) (v := .ref (a0 0)) (C := RX11) (T := TX11) (N := 38) hx hb hts hinX11 hown hK hP 0 rfl rfl 0 (by decide) (hts (.fieldLink RX11 7 "KneeBenchModel" "at" "[I") (List.mem_of_getElem? (i := 1) rfl)) (fun _ h9 => h9) rfl dX11_sure_84 ?_
                refine lv_iconst (v := 0) hx hb dX11_sure_87 (by decide) ?_
                refine lv_iload_n hx hb dX11_sure_88 rfl (lv_at hl 3 rfl) ?_
                refine ca_i (w' := WX11 cy h0 a0 s0) (rn_S (As := [.int (0 : Int32), .int q33.2]) (rest := [.ref (a0 0), .int q33.1]) ⟨hx, hb, hml, hown, hts⟩ (kX11_farmerRow l D cy (0 : Int32) q33.2 _ rfl H.size) (va_cwS 2 hts gX11_sure_X11_farmerRow rfl rfl rfl (by decide +kernel) ⟨Nat.le_of_ble_eq_true rfl, Nat.le_of_ble_eq_true rfl⟩) hK hN hP hD [] rfl rfl rfl hl.1 rfl (Nat.le_of_ble_eq_true rfl) dX11_sure_89 ⟨Nat.le_refl 0, Nat.le_refl 0⟩) hP hD hS hA [] ⟨rfl, rfl, rfl, rfl⟩ (fun H locs hP hD hS => ?_)
                refine lv_iconst (v := 5) hx hb dX11_sure_92 (by decide) ?_
                refine lv_iadd hx hb dX11_sure_93 ?_
                obtain ⟨g10, h⟩ := gd_elim h
                refine va_iald hx hb hK hP 1 1 rfl rfl (inb_in g10) dX11_sure_94 ?_
                refine lv_ineg hx hb dX11_sure_95 ?_
                refine lv_iadd hx hb dX11_sure_96 ?_
                refine lv_topi (fun x11 ex11 => ?_)
                replace h := lt_use h x11 ex11
                refine lv_istore_n (lv' := [(2, .int x11), (0, .ref h0), (1, .int p1), (3, .int q33.2)]) hx hb dX11_sure_97 rfl hl (by decide) rfl (fun ls hl => ?_)
                refine lv_iinc (v := (q33.2 + (1 : Int32))) (lv' := [(3, .int (q33.2 + (1 : Int32))), (2, .int x11), (0, .ref h0), (1, .int p1)]) hx hb dX11_sure_98 hl (k := 3) rfl rfl (by decide) rfl (fun ls hl => ?_)
                refine lv_goto (tgt := 33) hx hb dX11_sure_101 (by decide) ?_
                exact ih _ o (hgo _ (Option.some.inj h).symm) H locs ls (lv_sub hl [2, 3, 1, 0] rfl) hP hD hS kk104
              · replace h := (if_pos c9).symm.trans h
                refine lv_aload_n hx hb dX11_sure_68 rfl (lv_at hl 0 rfl) ?_
                refine va_get (D := D) (ci := 11) (v := .ref (a0 0)) (C := RX11) (T := TX11) (N := 38) hx hb hts hinX11 hown hK hP 0 rfl rfl 0 (by decide) (hts (.fieldLink RX11 7 "KneeBenchModel" "at" "[I") (List.mem_of_getElem? (i := 1) rfl)) (fun _ h9 => h9) rfl dX11_sure_69 ?_
                refine lv_iconst (v := 0) hx hb dX11_sure_72 (by decide) ?_
                refine lv_iload_n hx hb dX11_sure_73 rfl (lv_at hl 3 rfl) ?_
                refine ca_i (w' := WX11 cy h0 a0 s0) (rn_S (As := [.int (0 : Int32), .int q33.2]) (rest := [.ref (a0 0), .int q33.1]) ⟨hx, hb, hml, hown, hts⟩ (kX11_farmerRow l D cy (0 : Int32) q33.2 _ rfl H.size) (va_cwS 2 hts gX11_sure_X11_farmerRow rfl rfl rfl (by decide +kernel) ⟨Nat.le_of_ble_eq_true rfl, Nat.le_of_ble_eq_true rfl⟩) hK hN hP hD [] rfl rfl rfl hl.1 rfl (Nat.le_of_ble_eq_true rfl) dX11_sure_74 ⟨Nat.le_refl 0, Nat.le_refl 0⟩) hP hD hS hA [] ⟨rfl, rfl, rfl, rfl⟩ (fun H locs hP hD hS => ?_)
                refine lv_iconst (v := 5) hx hb dX11_sure_77 (by decide) ?_
                refine lv_iadd hx hb dX11_sure_78 ?_
                obtain ⟨g12, h⟩ := gd_elim h
                refine va_iald hx hb hK hP 1 1 rfl rfl (inb_in g12) dX11_sure_79 ?_
                refine lv_goto (tgt := 96) hx hb dX11_sure_80 (by decide) ?_
                refine lv_iadd hx hb dX11_sure_96 ?_
                refine lv_topi (fun x13 ex13 => ?_)
                replace h := lt_use h x13 ex13
                refine lv_istore_n (lv' := [(2, .int x13), (0, .ref h0), (1, .int p1), (3, .int q33.2)]) hx hb dX11_sure_97 rfl hl (by decide) rfl (fun ls hl => ?_)
                refine lv_iinc (v := (q33.2 + (1 : Int32))) (lv' := [(3, .int (q33.2 + (1 : Int32))), (2, .int x13), (0, .ref h0), (1, .int p1)]) hx hb dX11_sure_98 hl (k := 3) rfl rfl (by decide) rfl (fun ls hl => ?_)
                refine lv_goto (tgt := 33) hx hb dX11_sure_101 (by decide) ?_
                exact ih _ o (hgo _ (Option.some.inj h).symm) H locs ls (lv_sub hl [2, 3, 1, 0] rfl) hP hD hS kk104
            · replace h := (if_pos c7).symm.trans h
              refine lv_iconst (v := 0) hx hb dX11_sure_54 (by decide) ?_
              refine lv_goto (tgt := 96) hx hb dX11_sure_55 (by decide) ?_
              refine lv_iadd hx hb dX11_sure_96 ?_
              refine lv_topi (fun x14 ex14 => ?_)
              replace h := lt_use h x14 ex14
              refine lv_istore_n (lv' := [(2, .int x14), (0, .ref h0), (1, .int p1), (3, .int q33.2)]) hx hb dX11_sure_97 rfl hl (by decide) rfl (fun ls hl => ?_)
              refine lv_iinc (v := (q33.2 + (1 : Int32))) (lv' := [(3, .int (q33.2 + (1 : Int32))), (2, .int x14), (0, .ref h0), (1, .int p1)]) hx hb dX11_sure_98 hl (k := 3) rfl rfl (by decide) rfl (fun ls hl => ?_)
              refine lv_goto (tgt := 33) hx hb dX11_sure_101 (by decide) ?_
              exact ih _ o (hgo _ (Option.some.inj h).symm) H locs ls (lv_sub hl [2, 3, 1, 0] rfl) hP hD hS kk104
      obtain ⟨o33, ho33, h⟩ := bd_elim h
      obtain ⟨n33, hn33⟩ := loopF_some ho33
      refine L33 n33 _ o33 hn33 H locs ls (lv_sub hl [2, 3, 1, 0] rfl) hP hD hS (fun H locs ls hl hP hD hS => ?_)
      refine lv_aload_n hx hb dX11_sure_104 rfl (lv_at hl 0 rfl) ?_
      refine lv_iload_n hx hb dX11_sure_105 rfl (lv_at hl 1 rfl) ?_
      obtain ⟨r15, hr15, h⟩ := lt_elim h
      refine ca_i (w' := WX11 cy h0 a0 r15.2) (rn_V (As := [.int o33]) (rest := []) ⟨hx, hb, hml, hown, hts⟩ (kX11_gives l D cy h0 a0 s0 o33 r15 hr15.symm H.size) (cwV 1 hts gX11_sure_X11_gives rfl rfl rfl (by decide +kernel) ⟨Nat.le_of_ble_eq_true rfl, Nat.le_of_ble_eq_true rfl⟩) hK hN hP hD [0, 1, 2, 3, 4, 5, 6, 7, 8, 9, 10, 11, 12, 13] rfl rfl (ci := 11) (q0 := 0) rfl rfl rfl rfl hl.1 rfl (Nat.le_of_ble_eq_true rfl) dX11_sure_106 ⟨Nat.le_refl 0, Nat.le_refl 0⟩) hP hD hS hA [0, 1, 2, 3, 4, 5, 6, 7, 8, 9, 10, 11, 12, 13] ⟨rfl, rfl, rfl, rfl⟩ (fun H locs hP hD hS => ?_)
      exact hret 109 H locs ls (r15.1, r15.2) (Option.some.inj h) hP hD hS dX11_sure_109
    · replace h := (if_pos c4).symm.trans h
      refine lv_aload_n hx hb dX11_sure_22 rfl (lv_at hl 0 rfl) ?_
      refine lv_bipush (v := 6) hx hb dX11_sure_23 (by decide) ?_
      obtain ⟨r16, hr16, h⟩ := lt_elim h
      refine ca_i (w' := WX11 cy h0 a0 r16.2) (rn_V (As := [.int (6 : Int32)]) (rest := []) ⟨hx, hb, hml, hown, hts⟩ (kX11_refuse l D cy h0 a0 s0 (6 : Int32) r16 hr16.symm H.size) (cwV 1 hts gX11_sure_X11_refuse rfl rfl rfl (by decide +kernel) ⟨Nat.le_of_ble_eq_true rfl, Nat.le_of_ble_eq_true rfl⟩) hK hN hP hD [0, 1, 2, 3, 4, 5, 6, 7, 8, 9, 10, 11, 12, 13] rfl rfl (ci := 11) (q0 := 0) rfl rfl rfl rfl hl.1 rfl (Nat.le_of_ble_eq_true rfl) dX11_sure_25 ⟨Nat.le_refl 0, Nat.le_refl 0⟩) hP hD hS hA [0, 1, 2, 3, 4, 5, 6, 7, 8, 9, 10, 11, 12, 13] ⟨rfl, rfl, rfl, rfl⟩ (fun H locs hP hD hS => ?_)
      exact hret 28 H locs ls (r16.1, r16.2) (Option.some.inj h) hP hD hS dX11_sure_28
  · replace h := (if_pos c2).symm.trans h
    refine lv_aload_n hx hb dX11_sure_7 rfl (lv_at hl 0 rfl) ?_
    refine lv_iconst (v := 1) hx hb dX11_sure_8 (by decide) ?_
    obtain ⟨r17, hr17, h⟩ := lt_elim h
    refine ca_i (w' := WX11 cy h0 a0 r17.2) (rn_V (As := [.int (1 : Int32)]) (rest := []) ⟨hx, hb, hml, hown, hts⟩ (kX11_refuse l D cy h0 a0 s0 (1 : Int32) r17 hr17.symm H.size) (cwV 1 hts gX11_sure_X11_refuse rfl rfl rfl (by decide +kernel) ⟨Nat.le_of_ble_eq_true rfl, Nat.le_of_ble_eq_true rfl⟩) hK hN hP hD [0, 1, 2, 3, 4, 5, 6, 7, 8, 9, 10, 11, 12, 13] rfl rfl (ci := 11) (q0 := 0) rfl rfl rfl rfl hl.1 rfl (Nat.le_of_ble_eq_true rfl) dX11_sure_9 ⟨Nat.le_refl 0, Nat.le_refl 0⟩) hP hD hS hA [0, 1, 2, 3, 4, 5, 6, 7, 8, 9, 10, 11, 12, 13] ⟨rfl, rfl, rfl, rfl⟩ (fun H locs hP hD hS => ?_)
    exact hret 12 H locs ls (r17.1, r17.2) (Option.some.inj h) hP hD hS dX11_sure_12
set_option maxRecDepth 20000 in
theorem ggX11_tells_X11_isFarmer : GoodIn wsX11_tells wsX11_isFarmer := goodIn_r _ [5, 6, 47, 48, 49, 50, 51, 52, 53, 54, 55, 56, 57, 58, 59, 60, 61, 62, 63, 64, 65, 66, 67, 68, 69, 70, 71, 72, 73, 74, 75, 76, 77, 78, 79, 80, 81, 82, 83, 84] (by decide +kernel) (by decide +kernel)
set_option maxRecDepth 20000 in
theorem gX11_tells_X11_isFarmer : GoodIn wsX11_tells (wsV RX11 267 RX11 yX11_isFarmer wsX11_isFarmer) := goodIn_app (goodIn_of _ (by decide +kernel)) ggX11_tells_X11_isFarmer
set_option maxRecDepth 20000 in
theorem ggX11_tells_X11_isAsked : GoodIn wsX11_tells wsX11_isAsked := goodIn_r _ [9] (by decide +kernel) (by decide +kernel)
set_option maxRecDepth 20000 in
theorem gX11_tells_X11_isAsked : GoodIn wsX11_tells (va_wsS RX11 304 yX11_isAsked wsX11_isAsked) := goodIn_app (goodIn_of _ (by decide +kernel)) ggX11_tells_X11_isAsked
set_option maxRecDepth 20000 in
theorem ggX11_tells_X11_tellOf : GoodIn wsX11_tells wsX11_tellOf := goodIn_r _ [13, 14, 6, 15, 16, 17, 18, 4, 19, 20, 21, 22, 23, 24, 25, 26, 27, 28, 29, 30, 31, 32, 33, 47, 48, 49, 50, 51, 52, 53, 54, 55, 56, 57, 58, 59, 60, 61, 62, 63, 64, 65, 66, 67, 68, 69, 70, 71, 72, 73, 74, 75, 76, 77, 78, 79, 80, 81, 82, 83, 84] (by decide +kernel) (by decide +kernel)
set_option maxRecDepth 20000 in
theorem gX11_tells_X11_tellOf : GoodIn wsX11_tells (wsV RX11 307 RX11 yX11_tellOf wsX11_tellOf) := goodIn_app (goodIn_of _ (by decide +kernel)) ggX11_tells_X11_tellOf
set_option maxRecDepth 20000 in
theorem ggX11_tells_X11_orNone : GoodIn wsX11_tells wsX11_orNone := goodIn_r _ [37, 38, 39, 40, 4, 41, 42, 43, 44, 45, 46, 47, 48, 49, 50, 51, 52, 53, 54, 55, 56, 57, 58, 59, 60, 61, 62, 63, 64, 65, 66, 67, 68, 69, 70, 71, 72, 73, 74, 75, 76, 77, 78, 79, 80, 81, 82, 83, 84] (by decide +kernel) (by decide +kernel)
set_option maxRecDepth 20000 in
theorem gX11_tells_X11_orNone : GoodIn wsX11_tells (wsV RX11 310 RX11 yX11_orNone wsX11_orNone) := goodIn_app (goodIn_of _ (by decide +kernel)) ggX11_tells_X11_orNone
set_option maxRecDepth 20000 in
theorem ggX11_tells_X11_refuse : GoodIn wsX11_tells wsX11_refuse := goodIn_r _ [41, 42, 47, 48, 49, 50, 51, 52, 53, 54, 55, 56, 57, 58, 59, 60, 61, 62, 63, 64, 65, 66, 67, 68, 69, 70, 71, 72, 73, 74, 75, 76, 77, 78, 79, 80, 81, 82, 83, 84] (by decide +kernel) (by decide +kernel)
set_option maxRecDepth 20000 in
theorem gX11_tells_X11_refuse : GoodIn wsX11_tells (wsV RX11 75 RX11 yX11_refuse wsX11_refuse) := goodIn_app (goodIn_of _ (by decide +kernel)) ggX11_tells_X11_refuse
theorem dX11_tells_0 : decode cX11_tells 0 = .ok (.aload_n 0, 1) := by decide +kernel
theorem dX11_tells_1 : decode cX11_tells 1 = .ok (.iload_n 1, 1) := by decide +kernel
theorem dX11_tells_2 : decode cX11_tells 2 = .ok (.invokevirtual 267, 3) := by decide +kernel
theorem dX11_tells_5 : decode cX11_tells 5 = .ok (.ifCond .eq 23, 3) := by decide +kernel
theorem dX11_tells_8 : decode cX11_tells 8 = .ok (.iload_n 2, 1) := by decide +kernel
theorem dX11_tells_9 : decode cX11_tells 9 = .ok (.invokestatic 304, 3) := by decide +kernel
theorem dX11_tells_12 : decode cX11_tells 12 = .ok (.ifCond .eq 16, 3) := by decide +kernel
theorem dX11_tells_15 : decode cX11_tells 15 = .ok (.aload_n 0, 1) := by decide +kernel
theorem dX11_tells_16 : decode cX11_tells 16 = .ok (.aload_n 0, 1) := by decide +kernel
theorem dX11_tells_17 : decode cX11_tells 17 = .ok (.iload_n 1, 1) := by decide +kernel
theorem dX11_tells_18 : decode cX11_tells 18 = .ok (.iload_n 2, 1) := by decide +kernel
theorem dX11_tells_19 : decode cX11_tells 19 = .ok (.invokevirtual 307, 3) := by decide +kernel
theorem dX11_tells_22 : decode cX11_tells 22 = .ok (.invokevirtual 310, 3) := by decide +kernel
theorem dX11_tells_25 : decode cX11_tells 25 = .ok (.goto 8, 3) := by decide +kernel
theorem dX11_tells_28 : decode cX11_tells 28 = .ok (.aload_n 0, 1) := by decide +kernel
theorem dX11_tells_29 : decode cX11_tells 29 = .ok (.iconst 1, 1) := by decide +kernel
theorem dX11_tells_30 : decode cX11_tells 30 = .ok (.invokevirtual 75, 3) := by decide +kernel
theorem dX11_tells_33 : decode cX11_tells 33 = .ok (.ireturn, 1) := by decide +kernel
noncomputable def fX11_tells (p1 : Int32) (p2 : Int32) (s0 : Rc) : Option (Int32 × Rc) :=
if (fX11_isFarmer p1 s0) = (0 : Int32) then (
lt_ (fX11_refuse (1 : Int32) s0) (fun r3 =>
some (r3.1, r3.2))) else (
if (fX11_isAsked p2) = (0 : Int32) then (
lt_ (fX11_refuse (1 : Int32) s0) (fun r6 =>
some (r6.1, r6.2))) else (
(fX11_tellOf p1 p2 s0).bind (fun r7 =>
lt_ (fX11_orNone r7 s0) (fun r8 =>
some (r8.1, r8.2)))))
abbrev rmX11_tells : Room := { frames := 3, cells := 0, slots := 0, locals := 66 }
set_option maxHeartbeats 4000000 in
set_option maxRecDepth 100000 in
theorem kX11_tells (l : Launch) (D : va_G) (cy : Nat → ClassId) (h0 : Nat) (a0 : Nat → Nat) (s0 : Rc) (p1 : Int32) (p2 : Int32) (res : Int32 × Rc) (h : fX11_tells p1 p2 s0 = some res) : CI l D cy yX11_tells wsX11_tells rmX11_tells [.ref h0, .int p1, .int p2] (WX11 cy h0 a0 s0) (WX11 cy h0 a0 res.2) res.1 := by
  refine CI.of (cc := cX11_tells) (maxL := 3) (by decide) rfl (Nat.le_of_ble_eq_true rfl) ?_
  intro p e s m args below meth c A QQ ls E hr
  obtain ⟨hx, hb, hml, hown, hts, hK, hN, hP, hD, hA, hl⟩ := E
  have hret : ∀ (pc : Nat) (H : Heap) (locs : List Loc) (ls : Array Slot) (u : Int32 × Rc), u = res → va_P D vwCl (WX11 cy h0 a0 u.2) H → va_D A (WX11 cy h0 a0 u.2) → va_S A s.heap H locs → decode cX11_tells pc = .ok (.ireturn, 1) → W p l e rmX11_tells s m args below meth c H locs 0 0 QQ (F0 m pc ls [.int u.1]) := by
    intro pc H locs ls u hu hP hD hS hd; subst hu; exact hr pc H locs ls _ rfl hP hD hS hd
  clear hr
  have hl : lv_has ls 3 [(0, .ref h0), (1, .int p1), (2, .int p2)] := hl
  unfold fX11_tells at h
  suffices key : ∀ (H : Heap) (locs : List Loc), va_P D vwCl (WX11 cy h0 a0 s0) H → va_S A s.heap H locs → W p l e rmX11_tells s m args below meth c H locs 0 0 QQ (F0 m 0 ls []) from key _ _ hP va_S.rf
  clear hP
  intro H locs hP hS
  refine lv_aload_n hx hb dX11_tells_0 rfl (lv_at hl 0 rfl) ?_
  refine lv_iload_n hx hb dX11_tells_1 rfl (lv_at hl 1 rfl) ?_
  refine ca_z (w' := WX11 cy h0 a0 s0) (rn_V (As := [.int p1]) (rest := []) ⟨hx, hb, hml, hown, hts⟩ (kX11_isFarmer l D cy h0 a0 s0 p1 _ rfl H.size) (cwV 1 hts gX11_tells_X11_isFarmer rfl rfl rfl (by decide +kernel) ⟨Nat.le_of_ble_eq_true rfl, Nat.le_of_ble_eq_true rfl⟩) hK hN hP hD [0, 1, 2, 3, 4, 5, 6, 7, 8, 9, 10, 11, 12, 13] rfl rfl (ci := 11) (q0 := 0) rfl rfl rfl rfl hl.1 rfl (Nat.le_of_ble_eq_true rfl) dX11_tells_2 ⟨Nat.le_refl 0, Nat.le_refl 0⟩) hP hD hS hA [0, 1, 2, 3, 4, 5, 6, 7, 8, 9, 10, 11, 12, 13] ⟨rfl, rfl, rfl, rfl⟩ (fun b1 H locs hP hD hS => ?_)
  refine lv_if_eq (tgt := 28) hx hb dX11_tells_5 (by decide) (fun c2 => ?_) (fun c2 => ?_)
  · replace h := (if_pos c2).symm.trans h
    refine lv_aload_n hx hb dX11_tells_28 rfl (lv_at hl 0 rfl) ?_
    refine lv_iconst (v := 1) hx hb dX11_tells_29 (by decide) ?_
    obtain ⟨r3, hr3, h⟩ := lt_elim h
    refine ca_i (w' := WX11 cy h0 a0 r3.2) (rn_V (As := [.int (1 : Int32)]) (rest := []) ⟨hx, hb, hml, hown, hts⟩ (kX11_refuse l D cy h0 a0 s0 (1 : Int32) r3 hr3.symm H.size) (cwV 1 hts gX11_tells_X11_refuse rfl rfl rfl (by decide +kernel) ⟨Nat.le_of_ble_eq_true rfl, Nat.le_of_ble_eq_true rfl⟩) hK hN hP hD [0, 1, 2, 3, 4, 5, 6, 7, 8, 9, 10, 11, 12, 13] rfl rfl (ci := 11) (q0 := 0) rfl rfl rfl rfl hl.1 rfl (Nat.le_of_ble_eq_true rfl) dX11_tells_30 ⟨Nat.le_refl 0, Nat.le_refl 0⟩) hP hD hS hA [0, 1, 2, 3, 4, 5, 6, 7, 8, 9, 10, 11, 12, 13] ⟨rfl, rfl, rfl, rfl⟩ (fun H locs hP hD hS => ?_)
    exact hret 33 H locs ls (r3.1, r3.2) (Option.some.inj h) hP hD hS dX11_tells_33
  · replace h := (if_neg c2).symm.trans h
    refine lv_iload_n hx hb dX11_tells_8 rfl (lv_at hl 2 rfl) ?_
    refine ca_z (w' := WX11 cy h0 a0 s0) (rn_S (As := [.int p2]) (rest := []) ⟨hx, hb, hml, hown, hts⟩ (kX11_isAsked l D cy p2 _ rfl H.size) (va_cwS 1 hts gX11_tells_X11_isAsked rfl rfl rfl (by decide +kernel) ⟨Nat.le_of_ble_eq_true rfl, Nat.le_of_ble_eq_true rfl⟩) hK hN hP hD [] rfl rfl rfl hl.1 rfl (Nat.le_of_ble_eq_true rfl) dX11_tells_9 ⟨Nat.le_refl 0, Nat.le_refl 0⟩) hP hD hS hA [] ⟨rfl, rfl, rfl, rfl⟩ (fun b4 H locs hP hD hS => ?_)
    refine lv_if_eq (tgt := 28) hx hb dX11_tells_12 (by decide) (fun c5 => ?_) (fun c5 => ?_)
    · replace h := (if_pos c5).symm.trans h
      refine lv_aload_n hx hb dX11_tells_28 rfl (lv_at hl 0 rfl) ?_
      refine lv_iconst (v := 1) hx hb dX11_tells_29 (by decide) ?_
      obtain ⟨r6, hr6, h⟩ := lt_elim h
      refine ca_i (w' := WX11 cy h0 a0 r6.2) (rn_V (As := [.int (1 : Int32)]) (rest := []) ⟨hx, hb, hml, hown, hts⟩ (kX11_refuse l D cy h0 a0 s0 (1 : Int32) r6 hr6.symm H.size) (cwV 1 hts gX11_tells_X11_refuse rfl rfl rfl (by decide +kernel) ⟨Nat.le_of_ble_eq_true rfl, Nat.le_of_ble_eq_true rfl⟩) hK hN hP hD [0, 1, 2, 3, 4, 5, 6, 7, 8, 9, 10, 11, 12, 13] rfl rfl (ci := 11) (q0 := 0) rfl rfl rfl rfl hl.1 rfl (Nat.le_of_ble_eq_true rfl) dX11_tells_30 ⟨Nat.le_refl 0, Nat.le_refl 0⟩) hP hD hS hA [0, 1, 2, 3, 4, 5, 6, 7, 8, 9, 10, 11, 12, 13] ⟨rfl, rfl, rfl, rfl⟩ (fun H locs hP hD hS => ?_)
      exact hret 33 H locs ls (r6.1, r6.2) (Option.some.inj h) hP hD hS dX11_tells_33
    · replace h := (if_neg c5).symm.trans h
      refine lv_aload_n hx hb dX11_tells_15 rfl (lv_at hl 0 rfl) ?_
      refine lv_aload_n hx hb dX11_tells_16 rfl (lv_at hl 0 rfl) ?_
      refine lv_iload_n hx hb dX11_tells_17 rfl (lv_at hl 1 rfl) ?_
      refine lv_iload_n hx hb dX11_tells_18 rfl (lv_at hl 2 rfl) ?_
      obtain ⟨r7, hr7, h⟩ := bd_elim h
      refine ca_i (w' := WX11 cy h0 a0 s0) (rn_V (As := [.int p1, .int p2]) (rest := [.ref h0]) ⟨hx, hb, hml, hown, hts⟩ (kX11_tellOf l D cy h0 a0 s0 p1 p2 r7 hr7 H.size) (cwV 2 hts gX11_tells_X11_tellOf rfl rfl rfl (by decide +kernel) ⟨Nat.le_of_ble_eq_true rfl, Nat.le_of_ble_eq_true rfl⟩) hK hN hP hD [0, 1, 2, 3, 4, 5, 6, 7, 8, 9, 10, 11, 12, 13] rfl rfl (ci := 11) (q0 := 0) rfl rfl rfl rfl hl.1 rfl (Nat.le_of_ble_eq_true rfl) dX11_tells_19 ⟨Nat.le_refl 0, Nat.le_refl 0⟩) hP hD hS hA [0, 1, 2, 3, 4, 5, 6, 7, 8, 9, 10, 11, 12, 13] ⟨rfl, rfl, rfl, rfl⟩ (fun H locs hP hD hS => ?_)
      obtain ⟨r8, hr8, h⟩ := lt_elim h
      refine ca_i (w' := WX11 cy h0 a0 r8.2) (rn_V (As := [.int r7]) (rest := []) ⟨hx, hb, hml, hown, hts⟩ (kX11_orNone l D cy h0 a0 s0 r7 r8 hr8.symm H.size) (cwV 1 hts gX11_tells_X11_orNone rfl rfl rfl (by decide +kernel) ⟨Nat.le_of_ble_eq_true rfl, Nat.le_of_ble_eq_true rfl⟩) hK hN hP hD [0, 1, 2, 3, 4, 5, 6, 7, 8, 9, 10, 11, 12, 13] rfl rfl (ci := 11) (q0 := 0) rfl rfl rfl rfl hl.1 rfl (Nat.le_of_ble_eq_true rfl) dX11_tells_22 ⟨Nat.le_refl 0, Nat.le_refl 0⟩) hP hD hS hA [0, 1, 2, 3, 4, 5, 6, 7, 8, 9, 10, 11, 12, 13] ⟨rfl, rfl, rfl, rfl⟩ (fun H locs hP hD hS => ?_)
      refine lv_goto (tgt := 33) hx hb dX11_tells_25 (by decide) ?_
      exact hret 33 H locs ls (r8.1, r8.2) (Option.some.inj h) hP hD hS dX11_tells_33
set_option maxRecDepth 20000 in
theorem ggX11_tips_X11_isAsked : GoodIn wsX11_tips wsX11_isAsked := goodIn_r _ [5] (by decide +kernel) (by decide +kernel)
set_option maxRecDepth 20000 in
theorem gX11_tips_X11_isAsked : GoodIn wsX11_tips (va_wsS RX11 304 yX11_isAsked wsX11_isAsked) := goodIn_app (goodIn_of _ (by decide +kernel)) ggX11_tips_X11_isAsked
set_option maxRecDepth 20000 in
theorem ggX11_tips_X11_refuse : GoodIn wsX11_tips wsX11_refuse := goodIn_r _ [9, 10, 47, 48, 49, 50, 51, 52, 53, 54, 55, 56, 57, 58, 59, 60, 61, 62, 63, 64, 65, 66, 67, 68, 69, 70, 71, 72, 73, 74, 75, 76, 77, 78, 79, 80, 81, 82, 83, 84] (by decide +kernel) (by decide +kernel)
set_option maxRecDepth 20000 in
theorem gX11_tips_X11_refuse : GoodIn wsX11_tips (wsV RX11 75 RX11 yX11_refuse wsX11_refuse) := goodIn_app (goodIn_of _ (by decide +kernel)) ggX11_tips_X11_refuse
set_option maxRecDepth 20000 in
theorem ggX11_tips_X11_sayOf : GoodIn wsX11_tips wsX11_sayOf := goodIn_r _ [14, 1, 15, 16, 17, 4, 18, 19, 20, 21, 22, 23, 24, 25, 26, 27, 28, 29, 30, 31, 32, 33, 34, 35, 36, 37, 38, 47, 48, 49, 50, 51, 52, 53, 54, 55, 56, 57, 58, 59, 60, 61, 62, 63, 64, 65, 66, 67, 68, 69, 70, 71, 72, 73, 74, 75, 76, 77, 78, 79, 80, 81, 82, 83, 84] (by decide +kernel) (by decide +kernel)
set_option maxRecDepth 20000 in
theorem gX11_tips_X11_sayOf : GoodIn wsX11_tips (wsV RX11 316 RX11 yX11_sayOf wsX11_sayOf) := goodIn_app (goodIn_of _ (by decide +kernel)) ggX11_tips_X11_sayOf
set_option maxRecDepth 20000 in
theorem ggX11_tips_X11_tellOf : GoodIn wsX11_tips wsX11_tellOf := goodIn_r _ [18, 19, 1, 20, 21, 22, 23, 4, 24, 25, 26, 27, 28, 29, 30, 31, 32, 33, 34, 35, 36, 37, 38, 47, 48, 49, 50, 51, 52, 53, 54, 55, 56, 57, 58, 59, 60, 61, 62, 63, 64, 65, 66, 67, 68, 69, 70, 71, 72, 73, 74, 75, 76, 77, 78, 79, 80, 81, 82, 83, 84] (by decide +kernel) (by decide +kernel)
set_option maxRecDepth 20000 in
theorem gX11_tips_X11_tellOf : GoodIn wsX11_tips (wsV RX11 307 RX11 yX11_tellOf wsX11_tellOf) := goodIn_app (goodIn_of _ (by decide +kernel)) ggX11_tips_X11_tellOf
set_option maxRecDepth 20000 in
theorem ggX11_tips_X11_isTurned : GoodIn wsX11_tips wsX11_isTurned := goodIn_r _ [42, 20, 11, 12, 13, 4, 14, 1, 15, 16, 17, 18, 19, 21, 22, 23, 24, 25, 26, 27, 28, 29, 30, 31, 32, 33, 34, 35, 36, 37, 38, 47, 48, 49, 50, 51, 52, 53, 54, 55, 56, 57, 58, 59, 60, 61, 62, 63, 64, 65, 66, 67, 68, 69, 70, 71, 72, 73, 74, 75, 76, 77, 78, 79, 80, 81, 82, 83, 84] (by decide +kernel) (by decide +kernel)
set_option maxRecDepth 20000 in
theorem gX11_tips_X11_isTurned : GoodIn wsX11_tips (wsV RX11 319 RX11 yX11_isTurned wsX11_isTurned) := goodIn_app (goodIn_of _ (by decide +kernel)) ggX11_tips_X11_isTurned
set_option maxRecDepth 20000 in
theorem ggX11_tips_X11_gives : GoodIn wsX11_tips wsX11_gives := goodIn_r _ [46, 10, 47, 48, 49, 50, 51, 52, 53, 54, 55, 56, 57, 58, 59, 60, 61, 62, 63, 64, 65, 66, 67, 68, 69, 70, 71, 72, 73, 74, 75, 76, 77, 78, 79, 80, 81, 82, 83, 84] (by decide +kernel) (by decide +kernel)
set_option maxRecDepth 20000 in
theorem gX11_tips_X11_gives : GoodIn wsX11_tips (wsV RX11 79 RX11 yX11_gives wsX11_gives) := goodIn_app (goodIn_of _ (by decide +kernel)) ggX11_tips_X11_gives
theorem dX11_tips_0 : decode cX11_tips 0 = .ok (.iload_n 1, 1) := by decide +kernel
theorem dX11_tips_1 : decode cX11_tips 1 = .ok (.invokestatic 304, 3) := by decide +kernel
theorem dX11_tips_4 : decode cX11_tips 4 = .ok (.ifCond .ne 9, 3) := by decide +kernel
theorem dX11_tips_7 : decode cX11_tips 7 = .ok (.aload_n 0, 1) := by decide +kernel
theorem dX11_tips_8 : decode cX11_tips 8 = .ok (.iconst 1, 1) := by decide +kernel
theorem dX11_tips_9 : decode cX11_tips 9 = .ok (.invokevirtual 75, 3) := by decide +kernel
theorem dX11_tips_12 : decode cX11_tips 12 = .ok (.ireturn, 1) := by decide +kernel
theorem dX11_tips_13 : decode cX11_tips 13 = .ok (.aload_n 0, 1) := by decide +kernel
theorem dX11_tips_14 : decode cX11_tips 14 = .ok (.iload_n 1, 1) := by decide +kernel
theorem dX11_tips_15 : decode cX11_tips 15 = .ok (.invokevirtual 316, 3) := by decide +kernel
theorem dX11_tips_18 : decode cX11_tips 18 = .ok (.iconst (-1), 1) := by decide +kernel
theorem dX11_tips_19 : decode cX11_tips 19 = .ok (.if_icmp .ne 10, 3) := by decide +kernel
theorem dX11_tips_22 : decode cX11_tips 22 = .ok (.aload_n 0, 1) := by decide +kernel
theorem dX11_tips_23 : decode cX11_tips 23 = .ok (.bipush 6, 2) := by decide +kernel
theorem dX11_tips_25 : decode cX11_tips 25 = .ok (.invokevirtual 75, 3) := by decide +kernel
theorem dX11_tips_28 : decode cX11_tips 28 = .ok (.ireturn, 1) := by decide +kernel
theorem dX11_tips_29 : decode cX11_tips 29 = .ok (.iconst 0, 1) := by decide +kernel
theorem dX11_tips_30 : decode cX11_tips 30 = .ok (.istore_n 2, 1) := by decide +kernel
theorem dX11_tips_31 : decode cX11_tips 31 = .ok (.iconst 0, 1) := by decide +kernel
theorem dX11_tips_32 : decode cX11_tips 32 = .ok (.istore_n 3, 1) := by decide +kernel
theorem dX11_tips_33 : decode cX11_tips 33 = .ok (.iload_n 3, 1) := by decide +kernel
theorem dX11_tips_34 : decode cX11_tips 34 = .ok (.aload_n 0, 1) := by decide +kernel
theorem dX11_tips_35 : decode cX11_tips 35 = .ok (.getfield 7, 3) := by decide +kernel
theorem dX11_tips_38 : decode cX11_tips 38 = .ok (.iconst 0, 1) := by decide +kernel
theorem dX11_tips_39 : decode cX11_tips 39 = .ok (.iaload, 1) := by decide +kernel
theorem dX11_tips_40 : decode cX11_tips 40 = .ok (.if_icmp .ge 40, 3) := by decide +kernel
theorem dX11_tips_43 : decode cX11_tips 43 = .ok (.iload_n 2, 1) := by decide +kernel
theorem dX11_tips_44 : decode cX11_tips 44 = .ok (.aload_n 0, 1) := by decide +kernel
theorem dX11_tips_45 : decode cX11_tips 45 = .ok (.iload_n 3, 1) := by decide +kernel
theorem dX11_tips_46 : decode cX11_tips 46 = .ok (.iload_n 1, 1) := by decide +kernel
theorem dX11_tips_47 : decode cX11_tips 47 = .ok (.invokevirtual 307, 3) := by decide +kernel
theorem dX11_tips_50 : decode cX11_tips 50 = .ok (.iconst (-1), 1) := by decide +kernel
theorem dX11_tips_51 : decode cX11_tips 51 = .ok (.if_icmp .eq 20, 3) := by decide +kernel
theorem dX11_tips_54 : decode cX11_tips 54 = .ok (.aload_n 0, 1) := by decide +kernel
theorem dX11_tips_55 : decode cX11_tips 55 = .ok (.iconst 1, 1) := by decide +kernel
theorem dX11_tips_56 : decode cX11_tips 56 = .ok (.iload_n 3, 1) := by decide +kernel
theorem dX11_tips_57 : decode cX11_tips 57 = .ok (.ishl, 1) := by decide +kernel
theorem dX11_tips_58 : decode cX11_tips 58 = .ok (.iload_n 1, 1) := by decide +kernel
theorem dX11_tips_59 : decode cX11_tips 59 = .ok (.invokevirtual 319, 3) := by decide +kernel
theorem dX11_tips_62 : decode cX11_tips 62 = .ok (.ifCond .eq 9, 3) := by decide +kernel
theorem dX11_tips_65 : decode cX11_tips 65 = .ok (.iconst 1, 1) := by decide +kernel
theorem dX11_tips_66 : decode cX11_tips 66 = .ok (.iload_n 3, 1) := by decide +kernel
theorem dX11_tips_67 : decode cX11_tips 67 = .ok (.ishl, 1) := by decide +kernel
theorem dX11_tips_68 : decode cX11_tips 68 = .ok (.goto 4, 3) := by decide +kernel
theorem dX11_tips_71 : decode cX11_tips 71 = .ok (.iconst 0, 1) := by decide +kernel
theorem dX11_tips_72 : decode cX11_tips 72 = .ok (.ior, 1) := by decide +kernel
theorem dX11_tips_73 : decode cX11_tips 73 = .ok (.istore_n 2, 1) := by decide +kernel
theorem dX11_tips_74 : decode cX11_tips 74 = .ok (.iinc 3 1, 3) := by decide +kernel
theorem dX11_tips_77 : decode cX11_tips 77 = .ok (.goto (-44), 3) := by decide +kernel
theorem dX11_tips_80 : decode cX11_tips 80 = .ok (.aload_n 0, 1) := by decide +kernel
theorem dX11_tips_81 : decode cX11_tips 81 = .ok (.iload_n 2, 1) := by decide +kernel
theorem dX11_tips_82 : decode cX11_tips 82 = .ok (.invokevirtual 79, 3) := by decide +kernel
theorem dX11_tips_85 : decode cX11_tips 85 = .ok (.ireturn, 1) := by decide +kernel
noncomputable def fX11_tips_L33 (p1 : Int32) (q33 : Int32 × Int32 × Rc) : Option ((Int32 × Int32 × Rc) ⊕ (Int32 × Rc)) :=
if (ga q33.2.2 0 (0 : Int32).toNatClampNeg) ≤ q33.2.1 then (
some (.inr (q33.1, q33.2.2))) else (
(fX11_tellOf q33.2.1 p1 q33.2.2).bind (fun r6 =>
if r6 = (-1 : Int32) then (
lt_ (q33.1 ||| (0 : Int32)) (fun x8 =>
some (.inl (x8, (q33.2.1 + (1 : Int32)), q33.2.2)))) else (
(fX11_isTurned ((1 : Int32) <<< (q33.2.1 &&& 31)) p1 q33.2.2).bind (fun r9 =>
if r9.1 = (0 : Int32) then (
lt_ (q33.1 ||| (0 : Int32)) (fun x12 =>
some (.inl (x12, (q33.2.1 + (1 : Int32)), r9.2)))) else (
lt_ (q33.1 ||| ((1 : Int32) <<< (q33.2.1 &&& 31))) (fun x13 =>
some (.inl (x13, (q33.2.1 + (1 : Int32)), r9.2))))))))
noncomputable def fX11_tips (p1 : Int32) (s0 : Rc) : Option (Int32 × Rc) :=
if (fX11_isAsked p1) = (0 : Int32) then (
lt_ (fX11_refuse (1 : Int32) s0) (fun r16 =>
some (r16.1, r16.2))) else (
(fX11_sayOf p1 s0).bind (fun r3 =>
if r3 = (-1 : Int32) then (
lt_ (fX11_refuse (6 : Int32) s0) (fun r15 =>
some (r15.1, r15.2))) else (
(loopF (fX11_tips_L33 p1) ((0 : Int32), (0 : Int32), s0)).bind (fun o33 =>
lt_ (fX11_gives o33.1 o33.2) (fun r14 =>
some (r14.1, r14.2))))))
abbrev rmX11_tips : Room := { frames := 5, cells := 0, slots := 0, locals := 116 }
set_option maxHeartbeats 4000000 in
set_option maxRecDepth 100000 in
theorem kX11_tips (l : Launch) (D : va_G) (cy : Nat → ClassId) (h0 : Nat) (a0 : Nat → Nat) (s0 : Rc) (p1 : Int32) (res : Int32 × Rc) (h : fX11_tips p1 s0 = some res) : CI l D cy yX11_tips wsX11_tips rmX11_tips [.ref h0, .int p1] (WX11 cy h0 a0 s0) (WX11 cy h0 a0 res.2) res.1 := by
  refine CI.of (cc := cX11_tips) (maxL := 4) (by decide) rfl (Nat.le_of_ble_eq_true rfl) ?_
  intro p e s m args below meth c A QQ ls E hr
  obtain ⟨hx, hb, hml, hown, hts, hK, hN, hP, hD, hA, hl⟩ := E
  have hret : ∀ (pc : Nat) (H : Heap) (locs : List Loc) (ls : Array Slot) (u : Int32 × Rc), u = res → va_P D vwCl (WX11 cy h0 a0 u.2) H → va_D A (WX11 cy h0 a0 u.2) → va_S A s.heap H locs → decode cX11_tips pc = .ok (.ireturn, 1) → W p l e rmX11_tips s m args below meth c H locs 0 0 QQ (F0 m pc ls [.int u.1]) := by
    intro pc H locs ls u hu hP hD hS hd; subst hu; exact hr pc H locs ls _ rfl hP hD hS hd
  clear hr
  have hl : lv_has ls 4 [(0, .ref h0), (1, .int p1)] := hl
  have hinX11 : ∀ w ∈ wsX110, w ∈ wsX11_tips := fun _ h => List.mem_cons_of_mem _ (List.mem_append_right _ h)
  unfold fX11_tips at h
  suffices key : ∀ (H : Heap) (locs : List Loc), va_P D vwCl (WX11 cy h0 a0 s0) H → va_S A s.heap H locs → W p l e rmX11_tips s m args below meth c H locs 0 0 QQ (F0 m 0 ls []) from key _ _ hP va_S.rf
  clear hP
  intro H locs hP hS
  refine lv_iload_n hx hb dX11_tips_0 rfl (lv_at hl 1 rfl) ?_
  refine ca_z (w' := WX11 cy h0 a0 s0) (rn_S (As := [.int p1]) (rest := []) ⟨hx, hb, hml, hown, hts⟩ (kX11_isAsked l D cy p1 _ rfl H.size) (va_cwS 1 hts gX11_tips_X11_isAsked rfl rfl rfl (by decide +kernel) ⟨Nat.le_of_ble_eq_true rfl, Nat.le_of_ble_eq_true rfl⟩) hK hN hP hD [] rfl rfl rfl hl.1 rfl (Nat.le_of_ble_eq_true rfl) dX11_tips_1 ⟨Nat.le_refl 0, Nat.le_refl 0⟩) hP hD hS hA [] ⟨rfl, rfl, rfl, rfl⟩ (fun b1 H locs hP hD hS => ?_)
  refine lv_if_ne (tgt := 13) hx hb dX11_tips_4 (by decide) (fun c2 => ?_) (fun c2 => ?_)
  · replace h := (if_neg c2).symm.trans h
    refine lv_aload_n hx hb dX11_tips_13 rfl (lv_at hl 0 rfl) ?_
    refine lv_iload_n hx hb dX11_tips_14 rfl (lv_at hl 1 rfl) ?_
    obtain ⟨r3, hr3, h⟩ := bd_elim h
    refine ca_i (w' := WX11 cy h0 a0 s0) (rn_V (As := [.int p1]) (rest := []) ⟨hx, hb, hml, hown, hts⟩ (kX11_sayOf l D cy h0 a0 s0 p1 r3 hr3 H.size) (cwV 1 hts gX11_tips_X11_sayOf rfl rfl rfl (by decide +kernel) ⟨Nat.le_of_ble_eq_true rfl, Nat.le_of_ble_eq_true rfl⟩) hK hN hP hD [0, 1, 2, 3, 4, 5, 6, 7, 8, 9, 10, 11, 12, 13] rfl rfl (ci := 11) (q0 := 0) rfl rfl rfl rfl hl.1 rfl (Nat.le_of_ble_eq_true rfl) dX11_tips_15 ⟨Nat.le_refl 0, Nat.le_refl 0⟩) hP hD hS hA [0, 1, 2, 3, 4, 5, 6, 7, 8, 9, 10, 11, 12, 13] ⟨rfl, rfl, rfl, rfl⟩ (fun H locs hP hD hS => ?_)
    refine lv_iconst (v := -1) hx hb dX11_tips_18 (by decide) ?_
    refine lv_icmp_ne (tgt := 29) hx hb dX11_tips_19 (by decide) (fun c4 => ?_) (fun c4 => ?_)
    · replace h := (if_neg c4).symm.trans h
      refine lv_iconst (v := 0) hx hb dX11_tips_29 (by decide) ?_
      refine lv_istore_n (lv' := [(2, .int (0 : Int32)), (0, .ref h0), (1, .int p1)]) hx hb dX11_tips_30 rfl hl (by decide) rfl (fun ls hl => ?_)
      refine lv_iconst (v := 0) hx hb dX11_tips_31 (by decide) ?_
      refine lv_istore_n (lv' := [(3, .int (0 : Int32)), (2, .int (0 : Int32)), (0, .ref h0), (1, .int p1)]) hx hb dX11_tips_32 rfl hl (by decide) rfl (fun ls hl => ?_)
      have L33 : ∀ (n : Nat) (q33 : Int32 × Int32 × Rc) (o : Int32 × Rc), loopO (fX11_tips_L33 p1) n q33 = some o → ∀ (H : Heap) (locs : List Loc) (ls : Array Slot), lv_has ls 4 [(0, .ref h0), (1, .int p1), (2, .int q33.1), (3, .int q33.2.1)] → va_P D vwCl (WX11 cy h0 a0 q33.2.2) H → va_D A (WX11 cy h0 a0 q33.2.2) → va_S A s.heap H locs → ∀ (kk80 : ∀ (H : Heap) (locs : List Loc) (ls : Array Slot), lv_has ls 4 [(0, .ref h0), (2, .int o.1)] → va_P D vwCl (WX11 cy h0 a0 o.2) H → va_D A (WX11 cy h0 a0 o.2) → va_S A s.heap H locs → W p l e rmX11_tips s m args below meth c H locs 0 0 QQ (F0 m 80 ls [])), W p l e rmX11_tips s m args below meth c H locs 0 0 QQ (F0 m 33 ls []) := by
        intro n
        induction n with
        | zero => intro q33 o h; exact absurd h (by rw [loopO_zero]; intro z; cases z)
        | succ n ih =>
          intro q33 o h H locs ls hl hP hD hS kk80
          obtain ⟨w, h, hgo, hst⟩ := loopO_elim h
          unfold fX11_tips_L33 at h
          refine lv_iload_n hx hb dX11_tips_33 rfl (lv_at hl 3 rfl) ?_
          refine lv_aload_n hx hb dX11_tips_34 rfl (lv_at hl 0 rfl) ?_
          refine va_get (D := D) (ci := 11) (v := .ref (a0 0)) (C := RX11) (T := TX11) (N := 38) hx hb hts hinX11 hown hK hP 0 rfl rfl 0 (by decide) (hts (.fieldLink RX11 7 "KneeBenchModel" "at" "[I") (List.mem_of_getElem? (i := 1) rfl)) (fun _ h9 => h9) rfl dX11_tips_35 ?_
          refine lv_iconst (v := 0) hx hb dX11_tips_38 (by decide) ?_
          refine va_iald hx hb hK hP 1 1 rfl rfl (inb_in (by decide)) dX11_tips_39 ?_
          refine lv_icmp_ge (tgt := 80) hx hb dX11_tips_40 (by decide) (fun c5 => ?_) (fun c5 => ?_)
          · replace h := (if_pos c5).symm.trans h
            have eo := hst _ (Option.some.inj h).symm
            subst eo
            exact kk80 H locs ls (lv_sub hl [0, 2] rfl) hP hD hS
          · replace h := (if_neg c5).symm.trans h
            refine lv_iload_n hx hb dX11_tips_43 rfl (lv_at hl 2 rfl) ?_
            refine lv_aload_n hx hb dX11_tips_44 rfl (lv_at hl 0 rfl) ?_
            refine lv_iload_n hx hb dX11_tips_45 rfl (lv_at hl 3 rfl) ?_
            refine lv_iload_n hx hb dX11_tips_46 rfl (lv_at hl 1 rfl) ?_
            obtain ⟨r6, hr6, h⟩ := bd_elim h
            refine ca_i (w' := WX11 cy h0 a0 q33.2.2) (rn_V (As := [.int q33.2.1, .int p1]) (rest := [.int q33.1]) ⟨hx, hb, hml, hown, hts⟩ (kX11_tellOf l D cy h0 a0 q33.2.2 q33.2.1 p1 r6 hr6 H.size) (cwV 2 hts gX11_tips_X11_tellOf rfl rfl rfl (by decide +kernel) ⟨Nat.le_of_ble_eq_true rfl, Nat.le_of_ble_eq_true rfl⟩) hK hN hP hD [0, 1, 2, 3, 4, 5, 6, 7, 8, 9, 10, 11, 12, 13] rfl rfl (ci := 11) (q0 := 0) rfl rfl rfl rfl hl.1 rfl (Nat.le_of_ble_eq_true rfl) dX11_tips_47 ⟨Nat.le_refl 0, Nat.le_refl 0⟩) hP hD hS hA [0, 1, 2, 3, 4, 5, 6, 7, 8, 9, 10, 11, 12, 13] ⟨rfl, rfl, rfl, rfl⟩ (fun H locs hP hD hS => ?_)
            refine lv_iconst (v := -1) hx hb dX11_tips_50 (by decide) ?_
            refine lv_icmp_eq (tgt := 71) hx hb dX11_tips_51 (by decide) (fun c7 => ?_) (fun c7 => ?_)
            · replace h := (if_pos c7).symm.trans h
              refine lv_iconst (v := 0) hx hb dX11_tips_71 (by decide) ?_
              refine lv_ior hx hb dX11_tips_72 ?_
              refine lv_topi (fun x8 ex8 => ?_)
              replace h := lt_use h x8 ex8
              refine lv_istore_n (lv' := [(2, .int x8), (0, .ref h0), (1, .int p1), (3, .int q33.2.1)]) hx hb dX11_tips_73 rfl hl (by decide) rfl (fun ls hl => ?_)
              refine lv_iinc (v := (q33.2.1 + (1 : Int32))) (lv' := [(3, .int (q33.2.1 + (1 : Int32))), (2, .int x8), (0, .ref h0), (1, .int p1)]) hx hb dX11_tips_74 hl (k := 3) rfl rfl (by decide) rfl (fun ls hl => ?_)
              refine lv_goto (tgt := 33) hx hb dX11_tips_77 (by decide) ?_
              exact ih _ o (hgo _ (Option.some.inj h).symm) H locs ls (lv_sub hl [2, 3, 1, 0] rfl) hP hD hS kk80
            · replace h := (if_neg c7).symm.trans h
              refine lv_aload_n hx hb dX11_tips_54 rfl (lv_at hl 0 rfl) ?_
              refine lv_iconst (v := 1) hx hb dX11_tips_55 (by decide) ?_
              refine lv_iload_n hx hb dX11_tips_56 rfl (lv_at hl 3 rfl) ?_
              refine lv_ishl hx hb dX11_tips_57 ?_
              refine lv_iload_n hx hb dX11_tips_58 rfl (lv_at hl 1 rfl) ?_
              obtain ⟨r9, hr9, h⟩ := bd_elim h
              refine ca_z (w' := WX11 cy h0 a0 r9.2) (rn_V (As := [.int ((1 : Int32) <<< (q33.2.1 &&& 31)), .int p1]) (rest := [.int q33.1]) ⟨hx, hb, hml, hown, hts⟩ (kX11_isTurned l D cy h0 a0 q33.2.2 ((1 : Int32) <<< (q33.2.1 &&& 31)) p1 r9 hr9 H.size) (cwV 2 hts gX11_tips_X11_isTurned rfl rfl rfl (by decide +kernel) ⟨Nat.le_of_ble_eq_true rfl, Nat.le_of_ble_eq_true rfl⟩) hK hN hP hD [0, 1, 2, 3, 4, 5, 6, 7, 8, 9, 10, 11, 12, 13] rfl rfl (ci := 11) (q0 := 0) rfl rfl rfl rfl hl.1 rfl (Nat.le_of_ble_eq_true rfl) dX11_tips_59 ⟨Nat.le_refl 0, Nat.le_refl 0⟩) hP hD hS hA [0, 1, 2, 3, 4, 5, 6, 7, 8, 9, 10, 11, 12, 13] ⟨rfl, rfl, rfl, rfl⟩ (fun b10 H locs hP hD hS => ?_)
              refine lv_if_eq (tgt := 71) hx hb dX11_tips_62 (by decide) (fun c11 => ?_) (fun c11 => ?_)
              · replace h := (if_pos c11).symm.trans h
                refine lv_iconst (v := 0) hx hb dX11_tips_71 (by decide) ?_
                refine lv_ior hx hb dX11_tips_72 ?_
                refine lv_topi (fun x12 ex12 => ?_)
                replace h := lt_use h x12 ex12
                refine lv_istore_n (lv' := [(2, .int x12), (0, .ref h0), (1, .int p1), (3, .int q33.2.1)]) hx hb dX11_tips_73 rfl hl (by decide) rfl (fun ls hl => ?_)
                refine lv_iinc (v := (q33.2.1 + (1 : Int32))) (lv' := [(3, .int (q33.2.1 + (1 : Int32))), (2, .int x12), (0, .ref h0), (1, .int p1)]) hx hb dX11_tips_74 hl (k := 3) rfl rfl (by decide) rfl (fun ls hl => ?_)
                refine lv_goto (tgt := 33) hx hb dX11_tips_77 (by decide) ?_
                exact ih _ o (hgo _ (Option.some.inj h).symm) H locs ls (lv_sub hl [2, 3, 1, 0] rfl) hP hD hS kk80
              · replace h := (if_neg c11).symm.trans h
                refine lv_iconst (v := 1) hx hb dX11_tips_65 (by decide) ?_
                refine lv_iload_n hx hb dX11_tips_66 rfl (lv_at hl 3 rfl) ?_
                refine lv_ishl hx hb dX11_tips_67 ?_
                refine lv_goto (tgt := 72) hx hb dX11_tips_68 (by decide) ?_
                refine lv_ior hx hb dX11_tips_72 ?_
                refine lv_topi (fun x13 ex13 => ?_)
                replace h := lt_use h x13 ex13
                refine lv_istore_n (lv' := [(2, .int x13), (0, .ref h0), (1, .int p1), (3, .int q33.2.1)]) hx hb dX11_tips_73 rfl hl (by decide) rfl (fun ls hl => ?_)
                refine lv_iinc (v := (q33.2.1 + (1 : Int32))) (lv' := [(3, .int (q33.2.1 + (1 : Int32))), (2, .int x13), (0, .ref h0), (1, .int p1)]) hx hb dX11_tips_74 hl (k := 3) rfl rfl (by decide) rfl (fun ls hl => ?_)
                refine lv_goto (tgt := 33) hx hb dX11_tips_77 (by decide) ?_
                exact ih _ o (hgo _ (Option.some.inj h).symm) H locs ls (lv_sub hl [2, 3, 1, 0] rfl) hP hD hS kk80
      obtain ⟨o33, ho33, h⟩ := bd_elim h
      obtain ⟨n33, hn33⟩ := loopF_some ho33
      refine L33 n33 _ o33 hn33 H locs ls (lv_sub hl [2, 3, 1, 0] rfl) hP hD hS (fun H locs ls hl hP hD hS => ?_)
      refine lv_aload_n hx hb dX11_tips_80 rfl (lv_at hl 0 rfl) ?_
      refine lv_iload_n hx hb dX11_tips_81 rfl (lv_at hl 1 rfl) ?_
      obtain ⟨r14, hr14, h⟩ := lt_elim h
      refine ca_i (w' := WX11 cy h0 a0 r14.2) (rn_V (As := [.int o33.1]) (rest := []) ⟨hx, hb, hml, hown, hts⟩ (kX11_gives l D cy h0 a0 o33.2 o33.1 r14 hr14.symm H.size) (cwV 1 hts gX11_tips_X11_gives rfl rfl rfl (by decide +kernel) ⟨Nat.le_of_ble_eq_true rfl, Nat.le_of_ble_eq_true rfl⟩) hK hN hP hD [0, 1, 2, 3, 4, 5, 6, 7, 8, 9, 10, 11, 12, 13] rfl rfl (ci := 11) (q0 := 0) rfl rfl rfl rfl hl.1 rfl (Nat.le_of_ble_eq_true rfl) dX11_tips_82 ⟨Nat.le_refl 0, Nat.le_refl 0⟩) hP hD hS hA [0, 1, 2, 3, 4, 5, 6, 7, 8, 9, 10, 11, 12, 13] ⟨rfl, rfl, rfl, rfl⟩ (fun H locs hP hD hS => ?_)
      exact hret 85 H locs ls (r14.1, r14.2) (Option.some.inj h) hP hD hS dX11_tips_85
    · replace h := (if_pos c4).symm.trans h
      refine lv_aload_n hx hb dX11_tips_22 rfl (lv_at hl 0 rfl) ?_
      refine lv_bipush (v := 6) hx hb dX11_tips_23 (by decide) ?_
      obtain ⟨r15, hr15, h⟩ := lt_elim h
      refine ca_i (w' := WX11 cy h0 a0 r15.2) (rn_V (As := [.int (6 : Int32)]) (rest := []) ⟨hx, hb, hml, hown, hts⟩ (kX11_refuse l D cy h0 a0 s0 (6 : Int32) r15 hr15.symm H.size) (cwV 1 hts gX11_tips_X11_refuse rfl rfl rfl (by decide +kernel) ⟨Nat.le_of_ble_eq_true rfl, Nat.le_of_ble_eq_true rfl⟩) hK hN hP hD [0, 1, 2, 3, 4, 5, 6, 7, 8, 9, 10, 11, 12, 13] rfl rfl (ci := 11) (q0 := 0) rfl rfl rfl rfl hl.1 rfl (Nat.le_of_ble_eq_true rfl) dX11_tips_25 ⟨Nat.le_refl 0, Nat.le_refl 0⟩) hP hD hS hA [0, 1, 2, 3, 4, 5, 6, 7, 8, 9, 10, 11, 12, 13] ⟨rfl, rfl, rfl, rfl⟩ (fun H locs hP hD hS => ?_)
      exact hret 28 H locs ls (r15.1, r15.2) (Option.some.inj h) hP hD hS dX11_tips_28
  · replace h := (if_pos c2).symm.trans h
    refine lv_aload_n hx hb dX11_tips_7 rfl (lv_at hl 0 rfl) ?_
    refine lv_iconst (v := 1) hx hb dX11_tips_8 (by decide) ?_
    obtain ⟨r16, hr16, h⟩ := lt_elim h
    refine ca_i (w' := WX11 cy h0 a0 r16.2) (rn_V (As := [.int (1 : Int32)]) (rest := []) ⟨hx, hb, hml, hown, hts⟩ (kX11_refuse l D cy h0 a0 s0 (1 : Int32) r16 hr16.symm H.size) (cwV 1 hts gX11_tips_X11_refuse rfl rfl rfl (by decide +kernel) ⟨Nat.le_of_ble_eq_true rfl, Nat.le_of_ble_eq_true rfl⟩) hK hN hP hD [0, 1, 2, 3, 4, 5, 6, 7, 8, 9, 10, 11, 12, 13] rfl rfl (ci := 11) (q0 := 0) rfl rfl rfl rfl hl.1 rfl (Nat.le_of_ble_eq_true rfl) dX11_tips_9 ⟨Nat.le_refl 0, Nat.le_refl 0⟩) hP hD hS hA [0, 1, 2, 3, 4, 5, 6, 7, 8, 9, 10, 11, 12, 13] ⟨rfl, rfl, rfl, rfl⟩ (fun H locs hP hD hS => ?_)
    exact hret 12 H locs ls (r16.1, r16.2) (Option.some.inj h) hP hD hS dX11_tips_12
set_option maxRecDepth 20000 in
theorem ggX11_told_X11_refuse : GoodIn wsX11_told wsX11_refuse := goodIn_r _ [6, 7, 16, 17, 18, 19, 20, 21, 22, 23, 24, 25, 26, 27, 28, 29, 30, 31, 32, 33, 34, 35, 36, 37, 38, 39, 40, 41, 42, 43, 44, 45, 46, 47, 48, 49, 50, 51, 52, 53] (by decide +kernel) (by decide +kernel)
set_option maxRecDepth 20000 in
theorem gX11_told_X11_refuse : GoodIn wsX11_told (wsV RX11 75 RX11 yX11_refuse wsX11_refuse) := goodIn_app (goodIn_of _ (by decide +kernel)) ggX11_told_X11_refuse
set_option maxRecDepth 20000 in
theorem ggX11_told_X11_isWet : GoodIn wsX11_told wsX11_isWet := goodIn_r _ [11, 1, 16, 17, 18, 19, 20, 21, 22, 23, 24, 25, 26, 27, 28, 29, 30, 31, 32, 33, 34, 35, 36, 37, 38, 39, 40, 41, 42, 43, 44, 45, 46, 47, 48, 49, 50, 51, 52, 53] (by decide +kernel) (by decide +kernel)
set_option maxRecDepth 20000 in
theorem gX11_told_X11_isWet : GoodIn wsX11_told (wsV RX11 264 RX11 yX11_isWet wsX11_isWet) := goodIn_app (goodIn_of _ (by decide +kernel)) ggX11_told_X11_isWet
set_option maxRecDepth 20000 in
theorem ggX11_told_X11_gives : GoodIn wsX11_told wsX11_gives := goodIn_r _ [15, 7, 16, 17, 18, 19, 20, 21, 22, 23, 24, 25, 26, 27, 28, 29, 30, 31, 32, 33, 34, 35, 36, 37, 38, 39, 40, 41, 42, 43, 44, 45, 46, 47, 48, 49, 50, 51, 52, 53] (by decide +kernel) (by decide +kernel)
set_option maxRecDepth 20000 in
theorem gX11_told_X11_gives : GoodIn wsX11_told (wsV RX11 79 RX11 yX11_gives wsX11_gives) := goodIn_app (goodIn_of _ (by decide +kernel)) ggX11_told_X11_gives
theorem dX11_told_0 : decode cX11_told 0 = .ok (.iload_n 1, 1) := by decide +kernel
theorem dX11_told_1 : decode cX11_told 1 = .ok (.ifCond .lt 8, 3) := by decide +kernel
theorem dX11_told_4 : decode cX11_told 4 = .ok (.iload_n 1, 1) := by decide +kernel
theorem dX11_told_5 : decode cX11_told 5 = .ok (.iconst 4, 1) := by decide +kernel
theorem dX11_told_6 : decode cX11_told 6 = .ok (.if_icmp .le 9, 3) := by decide +kernel
theorem dX11_told_9 : decode cX11_told 9 = .ok (.aload_n 0, 1) := by decide +kernel
theorem dX11_told_10 : decode cX11_told 10 = .ok (.iconst 1, 1) := by decide +kernel
theorem dX11_told_11 : decode cX11_told 11 = .ok (.invokevirtual 75, 3) := by decide +kernel
theorem dX11_told_14 : decode cX11_told 14 = .ok (.ireturn, 1) := by decide +kernel
theorem dX11_told_15 : decode cX11_told 15 = .ok (.iconst 0, 1) := by decide +kernel
theorem dX11_told_16 : decode cX11_told 16 = .ok (.istore_n 2, 1) := by decide +kernel
theorem dX11_told_17 : decode cX11_told 17 = .ok (.iconst 0, 1) := by decide +kernel
theorem dX11_told_18 : decode cX11_told 18 = .ok (.istore_n 3, 1) := by decide +kernel
theorem dX11_told_19 : decode cX11_told 19 = .ok (.iload_n 3, 1) := by decide +kernel
theorem dX11_told_20 : decode cX11_told 20 = .ok (.aload_n 0, 1) := by decide +kernel
theorem dX11_told_21 : decode cX11_told 21 = .ok (.getfield 7, 3) := by decide +kernel
theorem dX11_told_24 : decode cX11_told 24 = .ok (.iconst 1, 1) := by decide +kernel
theorem dX11_told_25 : decode cX11_told 25 = .ok (.iaload, 1) := by decide +kernel
theorem dX11_told_26 : decode cX11_told 26 = .ok (.if_icmp .ge 48, 3) := by decide +kernel
theorem dX11_told_29 : decode cX11_told 29 = .ok (.iload_n 2, 1) := by decide +kernel
theorem dX11_told_30 : decode cX11_told 30 = .ok (.iload_n 1, 1) := by decide +kernel
theorem dX11_told_31 : decode cX11_told 31 = .ok (.iconst 2, 1) := by decide +kernel
theorem dX11_told_32 : decode cX11_told 32 = .ok (.if_icmp .ne 11, 3) := by decide +kernel
theorem dX11_told_35 : decode cX11_told 35 = .ok (.aload_n 0, 1) := by decide +kernel
theorem dX11_told_36 : decode cX11_told 36 = .ok (.iload_n 3, 1) := by decide +kernel
theorem dX11_told_37 : decode cX11_told 37 = .ok (.invokevirtual 264, 3) := by decide +kernel
theorem dX11_told_40 : decode cX11_told 40 = .ok (.ifCond .ne 21, 3) := by decide +kernel
theorem dX11_told_43 : decode cX11_told 43 = .ok (.iload_n 1, 1) := by decide +kernel
theorem dX11_told_44 : decode cX11_told 44 = .ok (.iconst 3, 1) := by decide +kernel
theorem dX11_told_45 : decode cX11_told 45 = .ok (.if_icmp .ne 20, 3) := by decide +kernel
theorem dX11_told_48 : decode cX11_told 48 = .ok (.aload_n 0, 1) := by decide +kernel
theorem dX11_told_49 : decode cX11_told 49 = .ok (.getfield 7, 3) := by decide +kernel
theorem dX11_told_52 : decode cX11_told 52 = .ok (.bipush 122, 2) := by decide +kernel
theorem dX11_told_54 : decode cX11_told 54 = .ok (.iload_n 3, 1) := by decide +kernel
theorem dX11_told_55 : decode cX11_told 55 = .ok (.iadd, 1) := by decide +kernel
theorem dX11_told_56 : decode cX11_told 56 = .ok (.iaload, 1) := by decide +kernel
theorem dX11_told_57 : decode cX11_told 57 = .ok (.iconst 2, 1) := by decide +kernel
theorem dX11_told_58 : decode cX11_told 58 = .ok (.if_icmp .ne 7, 3) := by decide +kernel
theorem dX11_told_61 : decode cX11_told 61 = .ok (.iconst 1, 1) := by decide +kernel
theorem dX11_told_62 : decode cX11_told 62 = .ok (.goto 4, 3) := by decide +kernel
theorem dX11_told_65 : decode cX11_told 65 = .ok (.iconst 0, 1) := by decide +kernel
theorem dX11_told_66 : decode cX11_told 66 = .ok (.iadd, 1) := by decide +kernel
theorem dX11_told_67 : decode cX11_told 67 = .ok (.istore_n 2, 1) := by decide +kernel
theorem dX11_told_68 : decode cX11_told 68 = .ok (.iinc 3 1, 3) := by decide +kernel
theorem dX11_told_71 : decode cX11_told 71 = .ok (.goto (-52), 3) := by decide +kernel
theorem dX11_told_74 : decode cX11_told 74 = .ok (.aload_n 0, 1) := by decide +kernel
theorem dX11_told_75 : decode cX11_told 75 = .ok (.iload_n 1, 1) := by decide +kernel
theorem dX11_told_76 : decode cX11_told 76 = .ok (.ifCond .ne 12, 3) := by decide +kernel
theorem dX11_told_79 : decode cX11_told 79 = .ok (.aload_n 0, 1) := by decide +kernel
theorem dX11_told_80 : decode cX11_told 80 = .ok (.getfield 7, 3) := by decide +kernel
theorem dX11_told_83 : decode cX11_told 83 = .ok (.iconst 0, 1) := by decide +kernel
theorem dX11_told_84 : decode cX11_told 84 = .ok (.iaload, 1) := by decide +kernel
theorem dX11_told_85 : decode cX11_told 85 = .ok (.goto 32, 3) := by decide +kernel
theorem dX11_told_88 : decode cX11_told 88 = .ok (.iload_n 1, 1) := by decide +kernel
theorem dX11_told_89 : decode cX11_told 89 = .ok (.iconst 1, 1) := by decide +kernel
theorem dX11_told_90 : decode cX11_told 90 = .ok (.if_icmp .ne 12, 3) := by decide +kernel
theorem dX11_told_93 : decode cX11_told 93 = .ok (.aload_n 0, 1) := by decide +kernel
theorem dX11_told_94 : decode cX11_told 94 = .ok (.getfield 7, 3) := by decide +kernel
theorem dX11_told_97 : decode cX11_told 97 = .ok (.iconst 1, 1) := by decide +kernel
theorem dX11_told_98 : decode cX11_told 98 = .ok (.iaload, 1) := by decide +kernel
theorem dX11_told_99 : decode cX11_told 99 = .ok (.goto 18, 3) := by decide +kernel
theorem dX11_told_102 : decode cX11_told 102 = .ok (.iload_n 1, 1) := by decide +kernel
theorem dX11_told_103 : decode cX11_told 103 = .ok (.iconst 4, 1) := by decide +kernel
theorem dX11_told_104 : decode cX11_told 104 = .ok (.if_icmp .ne 12, 3) := by decide +kernel
theorem dX11_told_107 : decode cX11_told 107 = .ok (.aload_n 0, 1) := by decide +kernel
theorem dX11_told_108 : decode cX11_told 108 = .ok (.getfield 7, 3) := by decide +kernel
theorem dX11_told_111 : decode cX11_told 111 = .ok (.iconst 2, 1) := by decide +kernel
theorem dX11_told_112 : decode cX11_told 112 = .ok (.iaload, 1) := by decide +kernel
theorem dX11_told_113 : decode cX11_told 113 = .ok (.goto 4, 3) := by decide +kernel
theorem dX11_told_116 : decode cX11_told 116 = .ok (.iload_n 2, 1) := by decide +kernel
theorem dX11_told_117 : decode cX11_told 117 = .ok (.invokevirtual 79, 3) := by decide +kernel
theorem dX11_told_120 : decode cX11_told 120 = .ok (.ireturn, 1) := by decide +kernel
noncomputable def fX11_told_J43 (p1 : Int32) (s0 : Rc) (y43_3 : Int32) (z43_0 : Int32) : Option ((Int32 × Int32) ⊕ Int32) :=
if p1 = (3 : Int32) then (
gd (inb ((122 : Int32) + y43_3) 6240) (
if (ga s0 0 ((122 : Int32) + y43_3).toNatClampNeg) = (2 : Int32) then (
lt_ (z43_0 + (1 : Int32)) (fun x9 =>
some (.inl (x9, (y43_3 + (1 : Int32)))))) else (
lt_ (z43_0 + (0 : Int32)) (fun x8 =>
some (.inl (x8, (y43_3 + (1 : Int32)))))))) else (
lt_ (z43_0 + (0 : Int32)) (fun x5 =>
some (.inl (x5, (y43_3 + (1 : Int32))))))
noncomputable def fX11_told_L19 (p1 : Int32) (s0 : Rc) (q19 : Int32 × Int32) : Option ((Int32 × Int32) ⊕ Int32) :=
if (ga s0 0 (1 : Int32).toNatClampNeg) ≤ q19.2 then (
some (.inr q19.1)) else (
if p1 = (2 : Int32) then (
(fX11_isWet q19.2 s0).bind (fun r12 =>
if r12 = (0 : Int32) then (
fX11_told_J43 p1 s0 q19.2 q19.1) else (
lt_ (q19.1 + (1 : Int32)) (fun x15 =>
some (.inl (x15, (q19.2 + (1 : Int32)))))))) else (
fX11_told_J43 p1 s0 q19.2 q19.1))
noncomputable def fX11_told (p1 : Int32) (s0 : Rc) : Option (Int32 × Rc) :=
if p1 < (0 : Int32) then (
lt_ (fX11_refuse (1 : Int32) s0) (fun r2 =>
some (r2.1, r2.2))) else (
if p1 ≤ (4 : Int32) then (
(loopF (fX11_told_L19 p1 s0) ((0 : Int32), (0 : Int32))).bind (fun o19 =>
if p1 = (0 : Int32) then (
lt_ (fX11_gives (ga s0 0 (0 : Int32).toNatClampNeg) s0) (fun r22 =>
some (r22.1, r22.2))) else (
if p1 = (1 : Int32) then (
lt_ (fX11_gives (ga s0 0 (1 : Int32).toNatClampNeg) s0) (fun r21 =>
some (r21.1, r21.2))) else (
if p1 = (4 : Int32) then (
lt_ (fX11_gives (ga s0 0 (2 : Int32).toNatClampNeg) s0) (fun r20 =>
some (r20.1, r20.2))) else (
lt_ (fX11_gives o19 s0) (fun r19 =>
some (r19.1, r19.2))))))) else (
lt_ (fX11_refuse (1 : Int32) s0) (fun r23 =>
some (r23.1, r23.2))))
abbrev rmX11_told : Room := { frames := 1, cells := 0, slots := 0, locals := 21 }
set_option maxHeartbeats 4000000 in
set_option maxRecDepth 100000 in
theorem kX11_told (l : Launch) (D : va_G) (cy : Nat → ClassId) (h0 : Nat) (a0 : Nat → Nat) (s0 : Rc) (p1 : Int32) (res : Int32 × Rc) (h : fX11_told p1 s0 = some res) : CI l D cy yX11_told wsX11_told rmX11_told [.ref h0, .int p1] (WX11 cy h0 a0 s0) (WX11 cy h0 a0 res.2) res.1 := by
  refine CI.of (cc := cX11_told) (maxL := 4) (by decide) rfl (Nat.le_of_ble_eq_true rfl) ?_
  intro p e s m args below meth c A QQ ls E hr
  obtain ⟨hx, hb, hml, hown, hts, hK, hN, hP, hD, hA, hl⟩ := E
  have hret : ∀ (pc : Nat) (H : Heap) (locs : List Loc) (ls : Array Slot) (u : Int32 × Rc), u = res → va_P D vwCl (WX11 cy h0 a0 u.2) H → va_D A (WX11 cy h0 a0 u.2) → va_S A s.heap H locs → decode cX11_told pc = .ok (.ireturn, 1) → W p l e rmX11_told s m args below meth c H locs 0 0 QQ (F0 m pc ls [.int u.1]) := by
    intro pc H locs ls u hu hP hD hS hd; subst hu; exact hr pc H locs ls _ rfl hP hD hS hd
  clear hr
  have hl : lv_has ls 4 [(0, .ref h0), (1, .int p1)] := hl
  have hinX11 : ∀ w ∈ wsX110, w ∈ wsX11_told := fun _ h => List.mem_cons_of_mem _ (List.mem_append_right _ h)
  unfold fX11_told at h
  suffices key : ∀ (H : Heap) (locs : List Loc), va_P D vwCl (WX11 cy h0 a0 s0) H → va_S A s.heap H locs → W p l e rmX11_told s m args below meth c H locs 0 0 QQ (F0 m 0 ls []) from key _ _ hP va_S.rf
  clear hP
  intro H locs hP hS
  refine lv_iload_n hx hb dX11_told_0 rfl (lv_at hl 1 rfl) ?_
  refine lv_if_lt (tgt := 9) hx hb dX11_told_1 (by decide) (fun c1 => ?_) (fun c1 => ?_)
  · replace h := (if_pos c1).symm.trans h
    refine lv_aload_n hx hb dX11_told_9 rfl (lv_at hl 0 rfl) ?_
    refine lv_iconst (v := 1) hx hb dX11_told_10 (by decide) ?_
    obtain ⟨r2, hr2, h⟩ := lt_elim h
    refine ca_i (w' := WX11 cy h0 a0 r2.2) (rn_V (As := [.int (1 : Int32)]) (rest := []) ⟨hx, hb, hml, hown, hts⟩ (kX11_refuse l D cy h0 a0 s0 (1 : Int32) r2 hr2.symm H.size) (cwV 1 hts gX11_told_X11_refuse rfl rfl rfl (by decide +kernel) ⟨Nat.le_of_ble_eq_true rfl, Nat.le_of_ble_eq_true rfl⟩) hK hN hP hD [0, 1, 2, 3, 4, 5, 6, 7, 8, 9, 10, 11, 12, 13] rfl rfl (ci := 11) (q0 := 0) rfl rfl rfl rfl hl.1 rfl (Nat.le_of_ble_eq_true rfl) dX11_told_11 ⟨Nat.le_refl 0, Nat.le_refl 0⟩) hP hD hS hA [0, 1, 2, 3, 4, 5, 6, 7, 8, 9, 10, 11, 12, 13] ⟨rfl, rfl, rfl, rfl⟩ (fun H locs hP hD hS => ?_)
    exact hret 14 H locs ls (r2.1, r2.2) (Option.some.inj h) hP hD hS dX11_told_14
  · replace h := (if_neg c1).symm.trans h
    refine lv_iload_n hx hb dX11_told_4 rfl (lv_at hl 1 rfl) ?_
    refine lv_iconst (v := 4) hx hb dX11_told_5 (by decide) ?_
    refine lv_icmp_le (tgt := 15) hx hb dX11_told_6 (by decide) (fun c3 => ?_) (fun c3 => ?_)
    · replace h := (if_pos c3).symm.trans h
      refine lv_iconst (v := 0) hx hb dX11_told_15 (by decide) ?_
      refine lv_istore_n (lv' := [(2, .int (0 : Int32)), (0, .ref h0), (1, .int p1)]) hx hb dX11_told_16 rfl hl (by decide) rfl (fun ls hl => ?_)
      refine lv_iconst (v := 0) hx hb dX11_told_17 (by decide) ?_
      refine lv_istore_n (lv' := [(3, .int (0 : Int32)), (2, .int (0 : Int32)), (0, .ref h0), (1, .int p1)]) hx hb dX11_told_18 rfl hl (by decide) rfl (fun ls hl => ?_)
      have L19 : ∀ (n : Nat) (q19 : Int32 × Int32) (o : Int32), loopO (fX11_told_L19 p1 s0) n q19 = some o → ∀ (H : Heap) (locs : List Loc) (ls : Array Slot), lv_has ls 4 [(0, .ref h0), (1, .int p1), (2, .int q19.1), (3, .int q19.2)] → va_P D vwCl (WX11 cy h0 a0 s0) H → va_D A (WX11 cy h0 a0 s0) → va_S A s.heap H locs → ∀ (kk74 : ∀ (H : Heap) (locs : List Loc) (ls : Array Slot), lv_has ls 4 [(0, .ref h0), (1, .int p1), (2, .int o)] → va_P D vwCl (WX11 cy h0 a0 s0) H → va_D A (WX11 cy h0 a0 s0) → va_S A s.heap H locs → W p l e rmX11_told s m args below meth c H locs 0 0 QQ (F0 m 74 ls [])), W p l e rmX11_told s m args below meth c H locs 0 0 QQ (F0 m 19 ls []) := by
        intro n
        induction n with
        | zero => intro q19 o h; exact absurd h (by rw [loopO_zero]; intro z; cases z)
        | succ n ih =>
          intro q19 o h H locs ls hl hP hD hS kk74
          obtain ⟨w, h, hgo, hst⟩ := loopO_elim h
          unfold fX11_told_L19 at h
          have J43 : ∀ (y43_3 : Int32) (z43_0 : Int32) (H : Heap) (locs : List Loc) (ls : Array Slot), lv_has ls 4 [(0, .ref h0), (1, .int p1), (3, .int y43_3)] → va_P D vwCl (WX11 cy h0 a0 s0) H → va_D A (WX11 cy h0 a0 s0) → va_S A s.heap H locs → fX11_told_J43 p1 s0 y43_3 z43_0 = some w → W p l e rmX11_told s m args below meth c H locs 0 0 QQ (F0 m 43 ls [.int z43_0]) := by
            intro y43_3 z43_0 H locs ls hl hP hD hS h
            unfold fX11_told_J43 at h
            refine lv_iload_n hx hb dX11_told_43 rfl (lv_at hl 1 rfl) ?_
            refine lv_iconst (v := 3) hx hb dX11_told_44 (by decide) ?_
            refine lv_icmp_ne (tgt := 65) hx hb dX11_told_45 (by decide) (fun c4 => ?_) (fun c4 => ?_)
            · replace h := (if_neg c4).symm.trans h
              refine lv_iconst (v := 0) hx hb dX11_told_65 (by decide) ?_
              refine lv_iadd hx hb dX11_told_66 ?_
              refine lv_topi (fun x5 ex5 => ?_)
              replace h := lt_use h x5 ex5
              refine lv_istore_n (lv' := [(2, .int x5), (0, .ref h0), (1, .int p1), (3, .int y43_3)]) hx hb dX11_told_67 rfl hl (by decide) rfl (fun ls hl => ?_)
              refine lv_iinc (v := (y43_3 + (1 : Int32))) (lv' := [(3, .int (y43_3 + (1 : Int32))), (2, .int x5), (0, .ref h0), (1, .int p1)]) hx hb dX11_told_68 hl (k := 3) rfl rfl (by decide) rfl (fun ls hl => ?_)
              refine lv_goto (tgt := 19) hx hb dX11_told_71 (by decide) ?_
              exact ih _ o (hgo _ (Option.some.inj h).symm) H locs ls (lv_sub hl [2, 3, 1, 0] rfl) hP hD hS kk74
            · replace h := (if_pos c4).symm.trans h
              refine lv_aload_n hx hb dX11_told_48 rfl (lv_at hl 0 rfl) ?_
              refine va_get (D := D) (ci := 11) (v := .ref (a0 0)) (C := RX11) (T := TX11) (N := 38) hx hb hts hinX11 hown hK hP 0 rfl rfl 0 (by decide) (hts (.fieldLink RX11 7 "KneeBenchModel" "at" "[I") (List.mem_of_getElem? (i := 1) rfl)) (fun _ h9 => h9) rfl dX11_told_49 ?_
              refine lv_bipush (v := 122) hx hb dX11_told_52 (by decide) ?_
              refine lv_iload_n hx hb dX11_told_54 rfl (lv_at hl 2 rfl) ?_
              refine lv_iadd hx hb dX11_told_55 ?_
              obtain ⟨g6, h⟩ := gd_elim h
              refine va_iald hx hb hK hP 1 1 rfl rfl (inb_in g6) dX11_told_56 ?_
              refine lv_iconst (v := 2) hx hb dX11_told_57 (by decide) ?_
              refine lv_icmp_ne (tgt := 65) hx hb dX11_told_58 (by decide) (fun c7 => ?_) (fun c7 => ?_)
              · replace h := (if_neg c7).symm.trans h
                refine lv_iconst (v := 0) hx hb dX11_told_65 (by decide) ?_
                refine lv_iadd hx hb dX11_told_66 ?_
                refine lv_topi (fun x8 ex8 => ?_)
                replace h := lt_use h x8 ex8
                refine lv_istore_n (lv' := [(2, .int x8), (0, .ref h0), (1, .int p1), (3, .int y43_3)]) hx hb dX11_told_67 rfl hl (by decide) rfl (fun ls hl => ?_)
                refine lv_iinc (v := (y43_3 + (1 : Int32))) (lv' := [(3, .int (y43_3 + (1 : Int32))), (2, .int x8), (0, .ref h0), (1, .int p1)]) hx hb dX11_told_68 hl (k := 3) rfl rfl (by decide) rfl (fun ls hl => ?_)
                refine lv_goto (tgt := 19) hx hb dX11_told_71 (by decide) ?_
                exact ih _ o (hgo _ (Option.some.inj h).symm) H locs ls (lv_sub hl [2, 3, 1, 0] rfl) hP hD hS kk74
              · replace h := (if_pos c7).symm.trans h
                refine lv_iconst (v := 1) hx hb dX11_told_61 (by decide) ?_
                refine lv_goto (tgt := 66) hx hb dX11_told_62 (by decide) ?_
                refine lv_iadd hx hb dX11_told_66 ?_
                refine lv_topi (fun x9 ex9 => ?_)
                replace h := lt_use h x9 ex9
                refine lv_istore_n (lv' := [(2, .int x9), (0, .ref h0), (1, .int p1), (3, .int y43_3)]) hx hb dX11_told_67 rfl hl (by decide) rfl (fun ls hl => ?_)
                refine lv_iinc (v := (y43_3 + (1 : Int32))) (lv' := [(3, .int (y43_3 + (1 : Int32))), (2, .int x9), (0, .ref h0), (1, .int p1)]) hx hb dX11_told_68 hl (k := 3) rfl rfl (by decide) rfl (fun ls hl => ?_)
                refine lv_goto (tgt := 19) hx hb dX11_told_71 (by decide) ?_
                exact ih _ o (hgo _ (Option.some.inj h).symm) H locs ls (lv_sub hl [2, 3, 1, 0] rfl) hP hD hS kk74
          refine lv_iload_n hx hb dX11_told_19 rfl (lv_at hl 3 rfl) ?_
          refine lv_aload_n hx hb dX11_told_20 rfl (lv_at hl 0 rfl) ?_
          refine va_get (D := D) (ci := 11) (v := .ref (a0 0)) (C := RX11) (T := TX11) (N := 38) hx hb hts hinX11 hown hK hP 0 rfl rfl 0 (by decide) (hts (.fieldLink RX11 7 "KneeBenchModel" "at" "[I") (List.mem_of_getElem? (i := 1) rfl)) (fun _ h9 => h9) rfl dX11_told_21 ?_
          refine lv_iconst (v := 1) hx hb dX11_told_24 (by decide) ?_
          refine va_iald hx hb hK hP 1 1 rfl rfl (inb_in (by decide)) dX11_told_25 ?_
          refine lv_icmp_ge (tgt := 74) hx hb dX11_told_26 (by decide) (fun c10 => ?_) (fun c10 => ?_)
          · replace h := (if_pos c10).symm.trans h
            have eo := hst _ (Option.some.inj h).symm
            subst eo
            exact kk74 H locs ls (lv_sub hl [0, 1, 2] rfl) hP hD hS
          · replace h := (if_neg c10).symm.trans h
            refine lv_iload_n hx hb dX11_told_29 rfl (lv_at hl 2 rfl) ?_
            refine lv_iload_n hx hb dX11_told_30 rfl (lv_at hl 1 rfl) ?_
            refine lv_iconst (v := 2) hx hb dX11_told_31 (by decide) ?_
            refine lv_icmp_ne (tgt := 43) hx hb dX11_told_32 (by decide) (fun c11 => ?_) (fun c11 => ?_)
            · replace h := (if_neg c11).symm.trans h
              exact J43 q19.2 q19.1 H locs ls (lv_sub hl [0, 1, 3] rfl) hP hD hS h
            · replace h := (if_pos c11).symm.trans h
              refine lv_aload_n hx hb dX11_told_35 rfl (lv_at hl 0 rfl) ?_
              refine lv_iload_n hx hb dX11_told_36 rfl (lv_at hl 3 rfl) ?_
              obtain ⟨r12, hr12, h⟩ := bd_elim h
              refine ca_z (w' := WX11 cy h0 a0 s0) (rn_V (As := [.int q19.2]) (rest := [.int q19.1]) ⟨hx, hb, hml, hown, hts⟩ (kX11_isWet l D cy h0 a0 s0 q19.2 r12 hr12 H.size) (cwV 1 hts gX11_told_X11_isWet rfl rfl rfl (by decide +kernel) ⟨Nat.le_of_ble_eq_true rfl, Nat.le_of_ble_eq_true rfl⟩) hK hN hP hD [0, 1, 2, 3, 4, 5, 6, 7, 8, 9, 10, 11, 12, 13] rfl rfl (ci := 11) (q0 := 0) rfl rfl rfl rfl hl.1 rfl (Nat.le_of_ble_eq_true rfl) dX11_told_37 ⟨Nat.le_refl 0, Nat.le_refl 0⟩) hP hD hS hA [0, 1, 2, 3, 4, 5, 6, 7, 8, 9, 10, 11, 12, 13] ⟨rfl, rfl, rfl, rfl⟩ (fun b13 H locs hP hD hS => ?_)
              refine lv_if_ne (tgt := 61) hx hb dX11_told_40 (by decide) (fun c14 => ?_) (fun c14 => ?_)
              · replace h := (if_neg c14).symm.trans h
                refine lv_iconst (v := 1) hx hb dX11_told_61 (by decide) ?_
                refine lv_goto (tgt := 66) hx hb dX11_told_62 (by decide) ?_
                refine lv_iadd hx hb dX11_told_66 ?_
                refine lv_topi (fun x15 ex15 => ?_)
                replace h := lt_use h x15 ex15
                refine lv_istore_n (lv' := [(2, .int x15), (0, .ref h0), (1, .int p1), (3, .int q19.2)]) hx hb dX11_told_67 rfl hl (by decide) rfl (fun ls hl => ?_)
                refine lv_iinc (v := (q19.2 + (1 : Int32))) (lv' := [(3, .int (q19.2 + (1 : Int32))), (2, .int x15), (0, .ref h0), (1, .int p1)]) hx hb dX11_told_68 hl (k := 3) rfl rfl (by decide) rfl (fun ls hl => ?_)
                refine lv_goto (tgt := 19) hx hb dX11_told_71 (by decide) ?_
                exact ih _ o (hgo _ (Option.some.inj h).symm) H locs ls (lv_sub hl [2, 3, 1, 0] rfl) hP hD hS kk74
              · replace h := (if_pos c14).symm.trans h
                exact J43 q19.2 q19.1 H locs ls (lv_sub hl [0, 1, 3] rfl) hP hD hS h
      obtain ⟨o19, ho19, h⟩ := bd_elim h
      obtain ⟨n19, hn19⟩ := loopF_some ho19
      refine L19 n19 _ o19 hn19 H locs ls (lv_sub hl [2, 3, 1, 0] rfl) hP hD hS (fun H locs ls hl hP hD hS => ?_)
      refine lv_aload_n hx hb dX11_told_74 rfl (lv_at hl 0 rfl) ?_
      refine lv_iload_n hx hb dX11_told_75 rfl (lv_at hl 1 rfl) ?_
      refine lv_if_ne (tgt := 88) hx hb dX11_told_76 (by decide) (fun c16 => ?_) (fun c16 => ?_)
      · replace h := (if_neg c16).symm.trans h
        refine lv_iload_n hx hb dX11_told_88 rfl (lv_at hl 1 rfl) ?_
        refine lv_iconst (v := 1) hx hb dX11_told_89 (by decide) ?_
        refine lv_icmp_ne (tgt := 102) hx hb dX11_told_90 (by decide) (fun c17 => ?_) (fun c17 => ?_)
        · replace h := (if_neg c17).symm.trans h
          refine lv_iload_n hx hb dX11_told_102 rfl (lv_at hl 1 rfl) ?_
          refine lv_iconst (v := 4) hx hb dX11_told_103 (by decide) ?_
          refine lv_icmp_ne (tgt := 116) hx hb dX11_told_104 (by decide) (fun c18 => ?_) (fun c18 => ?_)
          · replace h := (if_neg c18).symm.trans h
            refine lv_iload_n hx hb dX11_told_116 rfl (lv_at hl 2 rfl) ?_
            obtain ⟨r19, hr19, h⟩ := lt_elim h
            refine ca_i (w' := WX11 cy h0 a0 r19.2) (rn_V (As := [.int o19]) (rest := []) ⟨hx, hb, hml, hown, hts⟩ (kX11_gives l D cy h0 a0 s0 o19 r19 hr19.symm H.size) (cwV 1 hts gX11_told_X11_gives rfl rfl rfl (by decide +kernel) ⟨Nat.le_of_ble_eq_true rfl, Nat.le_of_ble_eq_true rfl⟩) hK hN hP hD [0, 1, 2, 3, 4, 5, 6, 7, 8, 9, 10, 11, 12, 13] rfl rfl (ci := 11) (q0 := 0) rfl rfl rfl rfl hl.1 rfl (Nat.le_of_ble_eq_true rfl) dX11_told_117 ⟨Nat.le_refl 0, Nat.le_refl 0⟩) hP hD hS hA [0, 1, 2, 3, 4, 5, 6, 7, 8, 9, 10, 11, 12, 13] ⟨rfl, rfl, rfl, rfl⟩ (fun H locs hP hD hS => ?_)
            exact hret 120 H locs ls (r19.1, r19.2) (Option.some.inj h) hP hD hS dX11_told_120
          · replace h := (if_pos c18).symm.trans h
            refine lv_aload_n hx hb dX11_told_107 rfl (lv_at hl 0 rfl) ?_
            refine va_get (D := D) (ci := 11) (v := .ref (a0 0)) (C := RX11) (T := TX11) (N := 38) hx hb hts hinX11 hown hK hP 0 rfl rfl 0 (by decide) (hts (.fieldLink RX11 7 "KneeBenchModel" "at" "[I") (List.mem_of_getElem? (i := 1) rfl)) (fun _ h9 => h9) rfl dX11_told_108 ?_
            refine lv_iconst (v := 2) hx hb dX11_told_111 (by decide) ?_
            refine va_iald hx hb hK hP 1 1 rfl rfl (inb_in (by decide)) dX11_told_112 ?_
            refine lv_goto (tgt := 117) hx hb dX11_told_113 (by decide) ?_
            obtain ⟨r20, hr20, h⟩ := lt_elim h
            refine ca_i (w' := WX11 cy h0 a0 r20.2) (rn_V (As := [.int (ga s0 0 (2 : Int32).toNatClampNeg)]) (rest := []) ⟨hx, hb, hml, hown, hts⟩ (kX11_gives l D cy h0 a0 s0 (ga s0 0 (2 : Int32).toNatClampNeg) r20 hr20.symm H.size) (cwV 1 hts gX11_told_X11_gives rfl rfl rfl (by decide +kernel) ⟨Nat.le_of_ble_eq_true rfl, Nat.le_of_ble_eq_true rfl⟩) hK hN hP hD [0, 1, 2, 3, 4, 5, 6, 7, 8, 9, 10, 11, 12, 13] rfl rfl (ci := 11) (q0 := 0) rfl rfl rfl rfl hl.1 rfl (Nat.le_of_ble_eq_true rfl) dX11_told_117 ⟨Nat.le_refl 0, Nat.le_refl 0⟩) hP hD hS hA [0, 1, 2, 3, 4, 5, 6, 7, 8, 9, 10, 11, 12, 13] ⟨rfl, rfl, rfl, rfl⟩ (fun H locs hP hD hS => ?_)
            exact hret 120 H locs ls (r20.1, r20.2) (Option.some.inj h) hP hD hS dX11_told_120
        · replace h := (if_pos c17).symm.trans h
          refine lv_aload_n hx hb dX11_told_93 rfl (lv_at hl 0 rfl) ?_
          refine va_get (D := D) (ci := 11) (v := .ref (a0 0)) (C := RX11) (T := TX11) (N := 38) hx hb hts hinX11 hown hK hP 0 rfl rfl 0 (by decide) (hts (.fieldLink RX11 7 "KneeBenchModel" "at" "[I") (List.mem_of_getElem? (i := 1) rfl)) (fun _ h9 => h9) rfl dX11_told_94 ?_
          refine lv_iconst (v := 1) hx hb dX11_told_97 (by decide) ?_
          refine va_iald hx hb hK hP 1 1 rfl rfl (inb_in (by decide)) dX11_told_98 ?_
          refine lv_goto (tgt := 117) hx hb dX11_told_99 (by decide) ?_
          obtain ⟨r21, hr21, h⟩ := lt_elim h
          refine ca_i (w' := WX11 cy h0 a0 r21.2) (rn_V (As := [.int (ga s0 0 (1 : Int32).toNatClampNeg)]) (rest := []) ⟨hx, hb, hml, hown, hts⟩ (kX11_gives l D cy h0 a0 s0 (ga s0 0 (1 : Int32).toNatClampNeg) r21 hr21.symm H.size) (cwV 1 hts gX11_told_X11_gives rfl rfl rfl (by decide +kernel) ⟨Nat.le_of_ble_eq_true rfl, Nat.le_of_ble_eq_true rfl⟩) hK hN hP hD [0, 1, 2, 3, 4, 5, 6, 7, 8, 9, 10, 11, 12, 13] rfl rfl (ci := 11) (q0 := 0) rfl rfl rfl rfl hl.1 rfl (Nat.le_of_ble_eq_true rfl) dX11_told_117 ⟨Nat.le_refl 0, Nat.le_refl 0⟩) hP hD hS hA [0, 1, 2, 3, 4, 5, 6, 7, 8, 9, 10, 11, 12, 13] ⟨rfl, rfl, rfl, rfl⟩ (fun H locs hP hD hS => ?_)
          exact hret 120 H locs ls (r21.1, r21.2) (Option.some.inj h) hP hD hS dX11_told_120
      · replace h := (if_pos c16).symm.trans h
        refine lv_aload_n hx hb dX11_told_79 rfl (lv_at hl 0 rfl) ?_
        refine va_get (D := D) (ci := 11) (v := .ref (a0 0)) (C := RX11) (T := TX11) (N := 38) hx hb hts hinX11 hown hK hP 0 rfl rfl 0 (by decide) (hts (.fieldLink RX11 7 "KneeBenchModel" "at" "[I") (List.mem_of_getElem? (i := 1) rfl)) (fun _ h9 => h9) rfl dX11_told_80 ?_
        refine lv_iconst (v := 0) hx hb dX11_told_83 (by decide) ?_
        refine va_iald hx hb hK hP 1 1 rfl rfl (inb_in (by decide)) dX11_told_84 ?_
        refine lv_goto (tgt := 117) hx hb dX11_told_85 (by decide) ?_
        obtain ⟨r22, hr22, h⟩ := lt_elim h
        refine ca_i (w' := WX11 cy h0 a0 r22.2) (rn_V (As := [.int (ga s0 0 (0 : Int32).toNatClampNeg)]) (rest := []) ⟨hx, hb, hml, hown, hts⟩ (kX11_gives l D cy h0 a0 s0 (ga s0 0 (0 : Int32).toNatClampNeg) r22 hr22.symm H.size) (cwV 1 hts gX11_told_X11_gives rfl rfl rfl (by decide +kernel) ⟨Nat.le_of_ble_eq_true rfl, Nat.le_of_ble_eq_true rfl⟩) hK hN hP hD [0, 1, 2, 3, 4, 5, 6, 7, 8, 9, 10, 11, 12, 13] rfl rfl (ci := 11) (q0 := 0) rfl rfl rfl rfl hl.1 rfl (Nat.le_of_ble_eq_true rfl) dX11_told_117 ⟨Nat.le_refl 0, Nat.le_refl 0⟩) hP hD hS hA [0, 1, 2, 3, 4, 5, 6, 7, 8, 9, 10, 11, 12, 13] ⟨rfl, rfl, rfl, rfl⟩ (fun H locs hP hD hS => ?_)
        exact hret 120 H locs ls (r22.1, r22.2) (Option.some.inj h) hP hD hS dX11_told_120
    · replace h := (if_neg c3).symm.trans h
      refine lv_aload_n hx hb dX11_told_9 rfl (lv_at hl 0 rfl) ?_
      refine lv_iconst (v := 1) hx hb dX11_told_10 (by decide) ?_
      obtain ⟨r23, hr23, h⟩ := lt_elim h
      refine ca_i (w' := WX11 cy h0 a0 r23.2) (rn_V (As := [.int (1 : Int32)]) (rest := []) ⟨hx, hb, hml, hown, hts⟩ (kX11_refuse l D cy h0 a0 s0 (1 : Int32) r23 hr23.symm H.size) (cwV 1 hts gX11_told_X11_refuse rfl rfl rfl (by decide +kernel) ⟨Nat.le_of_ble_eq_true rfl, Nat.le_of_ble_eq_true rfl⟩) hK hN hP hD [0, 1, 2, 3, 4, 5, 6, 7, 8, 9, 10, 11, 12, 13] rfl rfl (ci := 11) (q0 := 0) rfl rfl rfl rfl hl.1 rfl (Nat.le_of_ble_eq_true rfl) dX11_told_11 ⟨Nat.le_refl 0, Nat.le_refl 0⟩) hP hD hS hA [0, 1, 2, 3, 4, 5, 6, 7, 8, 9, 10, 11, 12, 13] ⟨rfl, rfl, rfl, rfl⟩ (fun H locs hP hD hS => ?_)
      exact hret 14 H locs ls (r23.1, r23.2) (Option.some.inj h) hP hD hS dX11_told_14
