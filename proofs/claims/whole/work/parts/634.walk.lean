set_option maxRecDepth 20000 in
theorem ggX10_stairs_X10_noFarmer : GoodIn wsX10_stairs wsX10_noFarmer := goodIn_r _ [9, 2, 78, 79, 80, 81, 82, 83, 84, 85, 86, 87, 88, 89, 90, 91, 92, 93, 94, 95, 96, 97, 98, 99, 100, 101, 102, 103, 104, 105, 106, 107, 108, 109, 110] (by decide +kernel) (by decide +kernel)
set_option maxRecDepth 20000 in
theorem gX10_stairs_X10_noFarmer : GoodIn wsX10_stairs (wsV RX10 215 RX10 yX10_noFarmer wsX10_noFarmer) := goodIn_app (goodIn_of _ (by decide +kernel)) ggX10_stairs_X10_noFarmer
set_option maxRecDepth 20000 in
theorem ggX10_stairs_X10_noTray : GoodIn wsX10_stairs wsX10_noTray := goodIn_r _ [12, 13, 14, 8, 15] (by decide +kernel) (by decide +kernel)
set_option maxRecDepth 20000 in
theorem gX10_stairs_X10_noTray : GoodIn wsX10_stairs (va_wsS RX10 112 yX10_noTray wsX10_noTray) := goodIn_app (goodIn_of _ (by decide +kernel)) ggX10_stairs_X10_noTray
set_option maxRecDepth 20000 in
theorem ggX10_stairs_X10_outside : GoodIn wsX10_stairs wsX10_outside := goodIn_r _ [15] (by decide +kernel) (by decide +kernel)
set_option maxRecDepth 20000 in
theorem gX10_stairs_X10_outside : GoodIn wsX10_stairs (va_wsS RX10 116 yX10_outside wsX10_outside) := goodIn_app (goodIn_of _ (by decide +kernel)) ggX10_stairs_X10_outside
set_option maxRecDepth 20000 in
theorem ggX10_stairs_X10_refuse : GoodIn wsX10_stairs wsX10_refuse := goodIn_r _ [19, 20, 78, 79, 80, 81, 82, 83, 84, 85, 86, 87, 88, 89, 90, 91, 92, 93, 94, 95, 96] (by decide +kernel) (by decide +kernel)
set_option maxRecDepth 20000 in
theorem gX10_stairs_X10_refuse : GoodIn wsX10_stairs (wsV RX10 139 RX10 yX10_refuse wsX10_refuse) := goodIn_app (goodIn_of _ (by decide +kernel)) ggX10_stairs_X10_refuse
set_option maxRecDepth 20000 in
theorem ggX10_stairs_X9_isMissing : GoodIn wsX10_stairs wsX9_isMissing := goodIn_r _ [25, 26, 111, 112, 113] (by decide +kernel) (by decide +kernel)
set_option maxRecDepth 20000 in
theorem gX10_stairs_X9_isMissing : GoodIn wsX10_stairs (wsV RX10 147 RX9 yX9_isMissing wsX9_isMissing) := goodIn_app (goodIn_of _ (by decide +kernel)) ggX10_stairs_X9_isMissing
set_option maxRecDepth 20000 in
theorem ggX10_stairs_X9_hasPlaces : GoodIn wsX10_stairs wsX9_hasPlaces := goodIn_r _ [30, 26, 111, 112, 113] (by decide +kernel) (by decide +kernel)
set_option maxRecDepth 20000 in
theorem gX10_stairs_X9_hasPlaces : GoodIn wsX10_stairs (wsV RX10 154 RX9 yX9_hasPlaces wsX9_hasPlaces) := goodIn_app (goodIn_of _ (by decide +kernel)) ggX10_stairs_X9_hasPlaces
set_option maxRecDepth 20000 in
theorem ggX10_stairs_X9_at : GoodIn wsX10_stairs wsX9_at := goodIn_r _ [34, 35, 111, 112, 113] (by decide +kernel) (by decide +kernel)
set_option maxRecDepth 20000 in
theorem gX10_stairs_X9_at : GoodIn wsX10_stairs (wsV RX10 143 RX9 yX9_at wsX9_at) := goodIn_app (goodIn_of _ (by decide +kernel)) ggX10_stairs_X9_at
set_option maxRecDepth 20000 in
theorem ggX10_stairs_X0_dueDays : GoodIn wsX10_stairs wsX0_dueDays := goodIn_r _ [40, 41, 42, 43, 44, 39, 45, 46, 47, 48, 49, 50, 51, 52, 53, 8, 54, 55, 56, 57, 58, 59, 60, 61, 62, 63, 64, 65, 66, 97, 98, 99, 100, 101, 102, 103, 104, 105, 106, 107, 108, 109, 110] (by decide +kernel) (by decide +kernel)
set_option maxRecDepth 20000 in
theorem gX10_stairs_X0_dueDays : GoodIn wsX10_stairs (wsV RX10 253 RX0 yX0_dueDays wsX0_dueDays) := goodIn_app (goodIn_of _ (by decide +kernel)) ggX10_stairs_X0_dueDays
set_option maxRecDepth 20000 in
theorem ggX10_stairs_J13_bitCount_95d88 : GoodIn wsX10_stairs wsJ13_bitCount_95d88 := goodIn_r _ [70, 71, 72, 73] (by decide +kernel) (by decide +kernel)
set_option maxRecDepth 20000 in
theorem gX10_stairs_J13_bitCount_95d88 : GoodIn wsX10_stairs (va_wsS RX10 203 yJ13_bitCount_95d88 wsJ13_bitCount_95d88) := goodIn_app (goodIn_of _ (by decide +kernel)) ggX10_stairs_J13_bitCount_95d88
set_option maxRecDepth 20000 in
theorem ggX10_stairs_X10_answer : GoodIn wsX10_stairs wsX10_answer := goodIn_r _ [77, 20, 78, 79, 80, 81, 82, 83, 84, 85, 86, 87, 88, 89, 90, 91, 92, 93, 94, 95, 96] (by decide +kernel) (by decide +kernel)
set_option maxRecDepth 20000 in
theorem gX10_stairs_X10_answer : GoodIn wsX10_stairs (wsV RX10 181 RX10 yX10_answer wsX10_answer) := goodIn_app (goodIn_of _ (by decide +kernel)) ggX10_stairs_X10_answer
theorem dX10_stairs_0 : decode cX10_stairs 0 = .ok (.aload_n 0, 1) := by decide +kernel
theorem dX10_stairs_1 : decode cX10_stairs 1 = .ok (.iload_n 1, 1) := by decide +kernel
theorem dX10_stairs_2 : decode cX10_stairs 2 = .ok (.invokevirtual 215, 3) := by decide +kernel
theorem dX10_stairs_5 : decode cX10_stairs 5 = .ok (.ifCond .ne 21, 3) := by decide +kernel
theorem dX10_stairs_8 : decode cX10_stairs 8 = .ok (.iload_n 2, 1) := by decide +kernel
theorem dX10_stairs_9 : decode cX10_stairs 9 = .ok (.invokestatic 112, 3) := by decide +kernel
theorem dX10_stairs_12 : decode cX10_stairs 12 = .ok (.ifCond .ne 14, 3) := by decide +kernel
theorem dX10_stairs_15 : decode cX10_stairs 15 = .ok (.iload_n 3, 1) := by decide +kernel
theorem dX10_stairs_16 : decode cX10_stairs 16 = .ok (.iconst 1, 1) := by decide +kernel
theorem dX10_stairs_17 : decode cX10_stairs 17 = .ok (.sipush 999, 3) := by decide +kernel
theorem dX10_stairs_20 : decode cX10_stairs 20 = .ok (.invokestatic 116, 3) := by decide +kernel
theorem dX10_stairs_23 : decode cX10_stairs 23 = .ok (.ifCond .eq 9, 3) := by decide +kernel
theorem dX10_stairs_26 : decode cX10_stairs 26 = .ok (.aload_n 0, 1) := by decide +kernel
theorem dX10_stairs_27 : decode cX10_stairs 27 = .ok (.iconst 1, 1) := by decide +kernel
theorem dX10_stairs_28 : decode cX10_stairs 28 = .ok (.invokevirtual 139, 3) := by decide +kernel
theorem dX10_stairs_31 : decode cX10_stairs 31 = .ok (.ireturn, 1) := by decide +kernel
theorem dX10_stairs_32 : decode cX10_stairs 32 = .ok (.aload_n 0, 1) := by decide +kernel
theorem dX10_stairs_33 : decode cX10_stairs 33 = .ok (.getfield 45, 3) := by decide +kernel
theorem dX10_stairs_36 : decode cX10_stairs 36 = .ok (.iload_n 2, 1) := by decide +kernel
theorem dX10_stairs_37 : decode cX10_stairs 37 = .ok (.invokevirtual 147, 3) := by decide +kernel
theorem dX10_stairs_40 : decode cX10_stairs 40 = .ok (.ifCond .eq 9, 3) := by decide +kernel
theorem dX10_stairs_43 : decode cX10_stairs 43 = .ok (.aload_n 0, 1) := by decide +kernel
theorem dX10_stairs_44 : decode cX10_stairs 44 = .ok (.iconst 2, 1) := by decide +kernel
theorem dX10_stairs_45 : decode cX10_stairs 45 = .ok (.invokevirtual 139, 3) := by decide +kernel
theorem dX10_stairs_48 : decode cX10_stairs 48 = .ok (.ireturn, 1) := by decide +kernel
theorem dX10_stairs_49 : decode cX10_stairs 49 = .ok (.aload_n 0, 1) := by decide +kernel
theorem dX10_stairs_50 : decode cX10_stairs 50 = .ok (.getfield 45, 3) := by decide +kernel
theorem dX10_stairs_53 : decode cX10_stairs 53 = .ok (.iload_n 2, 1) := by decide +kernel
theorem dX10_stairs_54 : decode cX10_stairs 54 = .ok (.iconst 0, 1) := by decide +kernel
theorem dX10_stairs_55 : decode cX10_stairs 55 = .ok (.aload_n 0, 1) := by decide +kernel
theorem dX10_stairs_56 : decode cX10_stairs 56 = .ok (.getfield 10, 3) := by decide +kernel
theorem dX10_stairs_59 : decode cX10_stairs 59 = .ok (.getfield 197, 3) := by decide +kernel
theorem dX10_stairs_62 : decode cX10_stairs 62 = .ok (.invokevirtual 154, 3) := by decide +kernel
theorem dX10_stairs_65 : decode cX10_stairs 65 = .ok (.ifCond .ne 9, 3) := by decide +kernel
theorem dX10_stairs_68 : decode cX10_stairs 68 = .ok (.aload_n 0, 1) := by decide +kernel
theorem dX10_stairs_69 : decode cX10_stairs 69 = .ok (.iconst 3, 1) := by decide +kernel
theorem dX10_stairs_70 : decode cX10_stairs 70 = .ok (.invokevirtual 139, 3) := by decide +kernel
theorem dX10_stairs_73 : decode cX10_stairs 73 = .ok (.ireturn, 1) := by decide +kernel
theorem dX10_stairs_74 : decode cX10_stairs 74 = .ok (.lconst 0, 1) := by decide +kernel
theorem dX10_stairs_75 : decode cX10_stairs 75 = .ok (.lstore 4, 2) := by decide +kernel
theorem dX10_stairs_77 : decode cX10_stairs 77 = .ok (.iconst 0, 1) := by decide +kernel
theorem dX10_stairs_78 : decode cX10_stairs 78 = .ok (.istore 6, 2) := by decide +kernel
theorem dX10_stairs_80 : decode cX10_stairs 80 = .ok (.iload 6, 2) := by decide +kernel
theorem dX10_stairs_82 : decode cX10_stairs 82 = .ok (.aload_n 0, 1) := by decide +kernel
theorem dX10_stairs_83 : decode cX10_stairs 83 = .ok (.getfield 10, 3) := by decide +kernel
theorem dX10_stairs_86 : decode cX10_stairs 86 = .ok (.getfield 197, 3) := by decide +kernel
theorem dX10_stairs_89 : decode cX10_stairs 89 = .ok (.if_icmp .ge 60, 3) := by decide +kernel
theorem dX10_stairs_92 : decode cX10_stairs 92 = .ok (.aload_n 0, 1) := by decide +kernel
theorem dX10_stairs_93 : decode cX10_stairs 93 = .ok (.getfield 45, 3) := by decide +kernel
theorem dX10_stairs_96 : decode cX10_stairs 96 = .ok (.iload_n 2, 1) := by decide +kernel
theorem dX10_stairs_97 : decode cX10_stairs 97 = .ok (.iload 6, 2) := by decide +kernel
theorem dX10_stairs_99 : decode cX10_stairs 99 = .ok (.invokevirtual 143, 3) := by decide +kernel
theorem dX10_stairs_102 : decode cX10_stairs 102 = .ok (.lstore 7, 2) := by decide +kernel
theorem dX10_stairs_104 : decode cX10_stairs 104 = .ok (.lload 7, 2) := by decide +kernel
theorem dX10_stairs_106 : decode cX10_stairs 106 = .ok (.lconst 0, 1) := by decide +kernel
theorem dX10_stairs_107 : decode cX10_stairs 107 = .ok (.lcmp, 1) := by decide +kernel
theorem dX10_stairs_108 : decode cX10_stairs 108 = .ok (.ifCond .lt 12, 3) := by decide +kernel
theorem dX10_stairs_111 : decode cX10_stairs 111 = .ok (.lload 7, 2) := by decide +kernel
theorem dX10_stairs_113 : decode cX10_stairs 113 = .ok (.ldc2_w 357, 3) := by decide +kernel
theorem dX10_stairs_116 : decode cX10_stairs 116 = .ok (.lcmp, 1) := by decide +kernel
theorem dX10_stairs_117 : decode cX10_stairs 117 = .ok (.ifCond .le 9, 3) := by decide +kernel
theorem dX10_stairs_120 : decode cX10_stairs 120 = .ok (.aload_n 0, 1) := by decide +kernel
theorem dX10_stairs_121 : decode cX10_stairs 121 = .ok (.iconst 5, 1) := by decide +kernel
theorem dX10_stairs_122 : decode cX10_stairs 122 = .ok (.invokevirtual 139, 3) := by decide +kernel
theorem dX10_stairs_125 : decode cX10_stairs 125 = .ok (.ireturn, 1) := by decide +kernel
theorem dX10_stairs_126 : decode cX10_stairs 126 = .ok (.lload 7, 2) := by decide +kernel
theorem dX10_stairs_128 : decode cX10_stairs 128 = .ok (.iload_n 3, 1) := by decide +kernel
theorem dX10_stairs_129 : decode cX10_stairs 129 = .ok (.i2l, 1) := by decide +kernel
theorem dX10_stairs_130 : decode cX10_stairs 130 = .ok (.lcmp, 1) := by decide +kernel
theorem dX10_stairs_131 : decode cX10_stairs 131 = .ok (.ifCond .lt 12, 3) := by decide +kernel
theorem dX10_stairs_134 : decode cX10_stairs 134 = .ok (.lload 4, 2) := by decide +kernel
theorem dX10_stairs_136 : decode cX10_stairs 136 = .ok (.lconst 1, 1) := by decide +kernel
theorem dX10_stairs_137 : decode cX10_stairs 137 = .ok (.iload 6, 2) := by decide +kernel
theorem dX10_stairs_139 : decode cX10_stairs 139 = .ok (.lshl, 1) := by decide +kernel
theorem dX10_stairs_140 : decode cX10_stairs 140 = .ok (.lor, 1) := by decide +kernel
theorem dX10_stairs_141 : decode cX10_stairs 141 = .ok (.lstore 4, 2) := by decide +kernel
theorem dX10_stairs_143 : decode cX10_stairs 143 = .ok (.iinc 6 1, 3) := by decide +kernel
theorem dX10_stairs_146 : decode cX10_stairs 146 = .ok (.goto (-66), 3) := by decide +kernel
theorem dX10_stairs_149 : decode cX10_stairs 149 = .ok (.aload_n 0, 1) := by decide +kernel
theorem dX10_stairs_150 : decode cX10_stairs 150 = .ok (.aload_n 0, 1) := by decide +kernel
theorem dX10_stairs_151 : decode cX10_stairs 151 = .ok (.getfield 10, 3) := by decide +kernel
theorem dX10_stairs_154 : decode cX10_stairs 154 = .ok (.getfield 240, 3) := by decide +kernel
theorem dX10_stairs_157 : decode cX10_stairs 157 = .ok (.iload_n 1, 1) := by decide +kernel
theorem dX10_stairs_158 : decode cX10_stairs 158 = .ok (.laload, 1) := by decide +kernel
theorem dX10_stairs_159 : decode cX10_stairs 159 = .ok (.aload_n 0, 1) := by decide +kernel
theorem dX10_stairs_160 : decode cX10_stairs 160 = .ok (.getfield 10, 3) := by decide +kernel
theorem dX10_stairs_163 : decode cX10_stairs 163 = .ok (.iload_n 1, 1) := by decide +kernel
theorem dX10_stairs_164 : decode cX10_stairs 164 = .ok (.invokevirtual 253, 3) := by decide +kernel
theorem dX10_stairs_167 : decode cX10_stairs 167 = .ok (.ldc2_w 291, 3) := by decide +kernel
theorem dX10_stairs_170 : decode cX10_stairs 170 = .ok (.lxor, 1) := by decide +kernel
theorem dX10_stairs_171 : decode cX10_stairs 171 = .ok (.land, 1) := by decide +kernel
theorem dX10_stairs_172 : decode cX10_stairs 172 = .ok (.lload 4, 2) := by decide +kernel
theorem dX10_stairs_174 : decode cX10_stairs 174 = .ok (.land, 1) := by decide +kernel
theorem dX10_stairs_175 : decode cX10_stairs 175 = .ok (.invokestatic 203, 3) := by decide +kernel
theorem dX10_stairs_178 : decode cX10_stairs 178 = .ok (.invokevirtual 181, 3) := by decide +kernel
theorem dX10_stairs_181 : decode cX10_stairs 181 = .ok (.ireturn, 1) := by decide +kernel
abbrev rmX10_stairs : Room := { frames := 3, cells := 0, slots := 0, locals := 63 }
set_option maxHeartbeats 4000000 in
set_option maxRecDepth 100000 in
theorem kX10_stairs (l : Launch) (D : va_G) (cy : Nat → ClassId) (h0 : Nat) (a0 : Nat → Nat) (a1 : Nat → Nat) (a2 : Nat → Nat) (s0 : Rc) (s1 : Rc) (s2 : Rc) (p1 : Int32) (p2 : Int32) (p3 : Int32) (res : Int32 × Rc) (h : fX10_stairs p1 p2 p3 s0 s1 s2 = some res) : CI l D cy yX10_stairs wsX10_stairs rmX10_stairs [.ref h0, .int p1, .int p2, .int p3] (flat [WX10 cy h0 a0 s0, WX0 cy (a0 0) a1 s1, WX9 cy (a0 7) a2 s2]) (flat [WX10 cy h0 a0 res.2, WX0 cy (a0 0) a1 s1, WX9 cy (a0 7) a2 s2]) res.1 := by
  refine CI.of (cc := cX10_stairs) (maxL := 9) (by decide) rfl (Nat.le_of_ble_eq_true rfl) ?_
  intro p e s m args below meth c A QQ ls E hr
  obtain ⟨hx, hb, hml, hown, hts, hK, hN, hP, hD, hA, hl⟩ := E
  have hret : ∀ (pc : Nat) (H : Heap) (locs : List Loc) (ls : Array Slot) (u : Int32 × Rc), u = res → va_P D vwCl (flat [WX10 cy h0 a0 u.2, WX0 cy (a0 0) a1 s1, WX9 cy (a0 7) a2 s2]) H → va_D A (flat [WX10 cy h0 a0 u.2, WX0 cy (a0 0) a1 s1, WX9 cy (a0 7) a2 s2]) → va_S A s.heap H locs → decode cX10_stairs pc = .ok (.ireturn, 1) → W p l e rmX10_stairs s m args below meth c H locs 0 0 QQ (F0 m pc ls [.int u.1]) := by
    intro pc H locs ls u hu hP hD hS hd; subst hu; exact hr pc H locs ls _ rfl hP hD hS hd
  clear hr
  have hl : lv_has ls 9 [(0, .ref h0), (1, .int p1), (2, .int p2), (3, .int p3)] := hl
  have hinX0 : ∀ w ∈ wsX00, w ∈ wsX10_stairs := fun _ h => List.mem_cons_of_mem _ (List.mem_append_left _ (List.mem_append_right _ h))
  have hinX10 : ∀ w ∈ wsX100, w ∈ wsX10_stairs := fun _ h => List.mem_cons_of_mem _ (List.mem_append_left _ (List.mem_append_left _ (List.mem_append_right _ h)))
  unfold fX10_stairs at h
  suffices key : ∀ (H : Heap) (locs : List Loc), va_P D vwCl (flat [WX10 cy h0 a0 s0, WX0 cy (a0 0) a1 s1, WX9 cy (a0 7) a2 s2]) H → va_S A s.heap H locs → W p l e rmX10_stairs s m args below meth c H locs 0 0 QQ (F0 m 0 ls []) from key _ _ hP va_S.rf
  clear hP
  intro H locs hP hS
  refine lv_aload_n hx hb dX10_stairs_0 rfl (lv_at hl 0 rfl) ?_
  refine lv_iload_n hx hb dX10_stairs_1 rfl (lv_at hl 1 rfl) ?_
  refine ca_z (w' := [WX10 cy h0 a0 s0, WX0 cy (a0 0) a1 s1, WX9 cy (a0 7) a2 s2]) (rn_V (As := [.int p1]) (rest := []) ⟨hx, hb, hml, hown, hts⟩ (kX10_noFarmer l D cy h0 a0 a1 s0 s1 p1 _ rfl H.size) (cwV 1 hts gX10_stairs_X10_noFarmer rfl rfl rfl (by decide +kernel) ⟨Nat.le_of_ble_eq_true rfl, Nat.le_of_ble_eq_true rfl⟩) hK hN hP hD [0, 1] rfl rfl (ci := 10) (q0 := 0) rfl rfl rfl rfl hl.1 rfl (Nat.le_of_ble_eq_true rfl) dX10_stairs_2 ⟨Nat.le_refl 0, Nat.le_refl 0⟩) hP hD hS hA [0, 1] ⟨rfl, rfl, rfl, rfl⟩ (fun b1 H locs hP hD hS => ?_)
  refine lv_if_ne (tgt := 26) hx hb dX10_stairs_5 (by decide) (fun c2 => ?_) (fun c2 => ?_)
  · replace h := (if_neg c2).symm.trans h
    refine lv_aload_n hx hb dX10_stairs_26 rfl (lv_at hl 0 rfl) ?_
    refine lv_iconst (v := 1) hx hb dX10_stairs_27 (by decide) ?_
    obtain ⟨r3, hr3, h⟩ := lt_elim h
    refine ca_i (w' := [WX10 cy h0 a0 r3.2, WX0 cy (a0 0) a1 s1, WX9 cy (a0 7) a2 s2]) (rn_V (As := [.int (1 : Int32)]) (rest := []) ⟨hx, hb, hml, hown, hts⟩ (kX10_refuse l D cy h0 a0 s0 (1 : Int32) r3 hr3.symm H.size) (cwV 1 hts gX10_stairs_X10_refuse rfl rfl rfl (by decide +kernel) ⟨Nat.le_of_ble_eq_true rfl, Nat.le_of_ble_eq_true rfl⟩) hK hN hP hD [0] rfl rfl (ci := 10) (q0 := 0) rfl rfl rfl rfl hl.1 rfl (Nat.le_of_ble_eq_true rfl) dX10_stairs_28 ⟨Nat.le_refl 0, Nat.le_refl 0⟩) hP hD hS hA [0] ⟨rfl, rfl, rfl, rfl⟩ (fun H locs hP hD hS => ?_)
    exact hret 31 H locs ls (r3.1, r3.2) (Option.some.inj h) hP hD hS dX10_stairs_31
  · replace h := (if_pos c2).symm.trans h
    refine lv_iload_n hx hb dX10_stairs_8 rfl (lv_at hl 2 rfl) ?_
    refine ca_z (w' := [WX10 cy h0 a0 s0, WX0 cy (a0 0) a1 s1, WX9 cy (a0 7) a2 s2]) (rn_S (As := [.int p2]) (rest := []) ⟨hx, hb, hml, hown, hts⟩ (kX10_noTray l D cy p2 _ rfl H.size) (va_cwS 1 hts gX10_stairs_X10_noTray rfl rfl rfl (by decide +kernel) ⟨Nat.le_of_ble_eq_true rfl, Nat.le_of_ble_eq_true rfl⟩) hK hN hP hD [] rfl rfl rfl hl.1 rfl (Nat.le_of_ble_eq_true rfl) dX10_stairs_9 ⟨Nat.le_refl 0, Nat.le_refl 0⟩) hP hD hS hA [] ⟨rfl, rfl, rfl, rfl⟩ (fun b4 H locs hP hD hS => ?_)
    refine lv_if_ne (tgt := 26) hx hb dX10_stairs_12 (by decide) (fun c5 => ?_) (fun c5 => ?_)
    · replace h := (if_neg c5).symm.trans h
      refine lv_aload_n hx hb dX10_stairs_26 rfl (lv_at hl 0 rfl) ?_
      refine lv_iconst (v := 1) hx hb dX10_stairs_27 (by decide) ?_
      obtain ⟨r6, hr6, h⟩ := lt_elim h
      refine ca_i (w' := [WX10 cy h0 a0 r6.2, WX0 cy (a0 0) a1 s1, WX9 cy (a0 7) a2 s2]) (rn_V (As := [.int (1 : Int32)]) (rest := []) ⟨hx, hb, hml, hown, hts⟩ (kX10_refuse l D cy h0 a0 s0 (1 : Int32) r6 hr6.symm H.size) (cwV 1 hts gX10_stairs_X10_refuse rfl rfl rfl (by decide +kernel) ⟨Nat.le_of_ble_eq_true rfl, Nat.le_of_ble_eq_true rfl⟩) hK hN hP hD [0] rfl rfl (ci := 10) (q0 := 0) rfl rfl rfl rfl hl.1 rfl (Nat.le_of_ble_eq_true rfl) dX10_stairs_28 ⟨Nat.le_refl 0, Nat.le_refl 0⟩) hP hD hS hA [0] ⟨rfl, rfl, rfl, rfl⟩ (fun H locs hP hD hS => ?_)
      exact hret 31 H locs ls (r6.1, r6.2) (Option.some.inj h) hP hD hS dX10_stairs_31
    · replace h := (if_pos c5).symm.trans h
      refine lv_iload_n hx hb dX10_stairs_15 rfl (lv_at hl 3 rfl) ?_
      refine lv_iconst (v := 1) hx hb dX10_stairs_16 (by decide) ?_
      refine lv_sipush (v := 999) hx hb dX10_stairs_17 (by decide) ?_
      refine ca_z (w' := [WX10 cy h0 a0 s0, WX0 cy (a0 0) a1 s1, WX9 cy (a0 7) a2 s2]) (rn_S (As := [.int p3, .int (1 : Int32), .int (999 : Int32)]) (rest := []) ⟨hx, hb, hml, hown, hts⟩ (kX10_outside l D cy p3 (1 : Int32) (999 : Int32) _ rfl H.size) (va_cwS 3 hts gX10_stairs_X10_outside rfl rfl rfl (by decide +kernel) ⟨Nat.le_of_ble_eq_true rfl, Nat.le_of_ble_eq_true rfl⟩) hK hN hP hD [] rfl rfl rfl hl.1 rfl (Nat.le_of_ble_eq_true rfl) dX10_stairs_20 ⟨Nat.le_refl 0, Nat.le_refl 0⟩) hP hD hS hA [] ⟨rfl, rfl, rfl, rfl⟩ (fun b7 H locs hP hD hS => ?_)
      refine lv_if_eq (tgt := 32) hx hb dX10_stairs_23 (by decide) (fun c8 => ?_) (fun c8 => ?_)
      · replace h := (if_pos c8).symm.trans h
        refine lv_aload_n hx hb dX10_stairs_32 rfl (lv_at hl 0 rfl) ?_
        refine va_get (D := D) (ci := 10) (v := .ref (a0 7)) (C := RX10) (T := TX10) (N := 19) hx hb hts hinX10 hown hK hP 0 rfl rfl 7 (by decide) (hts (.fieldLink RX10 45 "KneeBench" "trays" "LKneeBench$Trays;") (List.mem_of_getElem? (i := 1) rfl)) (fun _ h9 => h9) rfl dX10_stairs_33 ?_
        refine lv_iload_n hx hb dX10_stairs_36 rfl (lv_at hl 2 rfl) ?_
        obtain ⟨r9, hr9, h⟩ := bd_elim h
        refine ca_z (w' := [WX10 cy h0 a0 s0, WX0 cy (a0 0) a1 s1, WX9 cy (a0 7) a2 s2]) (rn_V (As := [.int p2]) (rest := []) ⟨hx, hb, hml, hown, hts⟩ (kX9_isMissing l D cy (a0 7) a2 s2 p2 r9 hr9 H.size) (cwV 1 hts gX10_stairs_X9_isMissing rfl rfl rfl (by decide +kernel) ⟨Nat.le_of_ble_eq_true rfl, Nat.le_of_ble_eq_true rfl⟩) hK hN hP hD [2] rfl rfl (ci := 9) (q0 := 10) rfl rfl rfl rfl hl.1 rfl (Nat.le_of_ble_eq_true rfl) dX10_stairs_37 ⟨Nat.le_refl 0, Nat.le_refl 0⟩) hP hD hS hA [2] ⟨rfl, rfl, rfl, rfl⟩ (fun b10 H locs hP hD hS => ?_)
        refine lv_if_eq (tgt := 49) hx hb dX10_stairs_40 (by decide) (fun c11 => ?_) (fun c11 => ?_)
        · replace h := (if_pos c11).symm.trans h
          refine lv_aload_n hx hb dX10_stairs_49 rfl (lv_at hl 0 rfl) ?_
          refine va_get (D := D) (ci := 10) (v := .ref (a0 7)) (C := RX10) (T := TX10) (N := 19) hx hb hts hinX10 hown hK hP 0 rfl rfl 7 (by decide) (hts (.fieldLink RX10 45 "KneeBench" "trays" "LKneeBench$Trays;") (List.mem_of_getElem? (i := 1) rfl)) (fun _ h9 => h9) rfl dX10_stairs_50 ?_
          refine lv_iload_n hx hb dX10_stairs_53 rfl (lv_at hl 2 rfl) ?_
          refine lv_iconst (v := 0) hx hb dX10_stairs_54 (by decide) ?_
          refine lv_aload_n hx hb dX10_stairs_55 rfl (lv_at hl 0 rfl) ?_
          refine va_get (D := D) (ci := 10) (v := .ref (a0 0)) (C := RX10) (T := TX10) (N := 19) hx hb hts hinX10 hown hK hP 0 rfl rfl 0 (by decide) (hts (.fieldLink RX10 10 "KneeBench" "bench" "LKneeBench$Bench;") (List.mem_of_getElem? (i := 2) rfl)) (fun _ h9 => h9) rfl dX10_stairs_56 ?_
          refine va_getN (D := D) (ci := 0) (v := .int (gi s1 9)) (C := RX0) (T := TX0) (N := 14) hx hb hts hinX0 hown hK hP 1 rfl rfl 9 (by decide) (NW.fld hN 19 rfl _) (fun _ h9 => h9) rfl dX10_stairs_59 ?_
          obtain ⟨r12, hr12, h⟩ := bd_elim h
          refine ca_z (w' := [WX10 cy h0 a0 s0, WX0 cy (a0 0) a1 s1, WX9 cy (a0 7) a2 s2]) (rn_V (As := [.int p2, .int (0 : Int32), .int (gi s1 9)]) (rest := []) ⟨hx, hb, hml, hown, hts⟩ (kX9_hasPlaces l D cy (a0 7) a2 s2 p2 (0 : Int32) (gi s1 9) r12 hr12 H.size) (cwV 3 hts gX10_stairs_X9_hasPlaces rfl rfl rfl (by decide +kernel) ⟨Nat.le_of_ble_eq_true rfl, Nat.le_of_ble_eq_true rfl⟩) hK hN hP hD [2] rfl rfl (ci := 9) (q0 := 10) rfl rfl rfl rfl hl.1 rfl (Nat.le_of_ble_eq_true rfl) dX10_stairs_62 ⟨Nat.le_refl 0, Nat.le_refl 0⟩) hP hD hS hA [2] ⟨rfl, rfl, rfl, rfl⟩ (fun b13 H locs hP hD hS => ?_)
          refine lv_if_ne (tgt := 74) hx hb dX10_stairs_65 (by decide) (fun c14 => ?_) (fun c14 => ?_)
          · replace h := (if_neg c14).symm.trans h
            refine lv_lconst (v := 0) hx hb dX10_stairs_74 (by decide) ?_
            refine lv_lstore (lv' := [(4, .long (0 : Int64)), (0, .ref h0), (1, .int p1), (2, .int p2), (3, .int p3)]) hx hb dX10_stairs_75 hl (by decide) rfl (fun ls hl => ?_)
            refine lv_iconst (v := 0) hx hb dX10_stairs_77 (by decide) ?_
            refine lv_istore (lv' := [(6, .int (0 : Int32)), (4, .long (0 : Int64)), (0, .ref h0), (1, .int p1), (2, .int p2), (3, .int p3)]) hx hb dX10_stairs_78 hl (by decide) rfl (fun ls hl => ?_)
            have L80 : ∀ (n : Nat) (q80 : Int64 × Int32) (o : (Unit) ⊕ (Int64)), loopO (fX10_stairs_L80 p2 p3 s1 s2) n q80 = some o → ∀ (H : Heap) (locs : List Loc) (ls : Array Slot), lv_has ls 9 [(0, .ref h0), (1, .int p1), (2, .int p2), (3, .int p3), (4, .long q80.1), (6, .int q80.2)] → va_P D vwCl (flat [WX10 cy h0 a0 s0, WX0 cy (a0 0) a1 s1, WX9 cy (a0 7) a2 s2]) H → va_D A (flat [WX10 cy h0 a0 s0, WX0 cy (a0 0) a1 s1, WX9 cy (a0 7) a2 s2]) → va_S A s.heap H locs → ∀ (kk120 : ∀ v : Unit, o = (.inl v) → ∀ (H : Heap) (locs : List Loc) (ls : Array Slot), lv_has ls 9 [(0, .ref h0)] → va_P D vwCl (flat [WX10 cy h0 a0 s0, WX0 cy (a0 0) a1 s1, WX9 cy (a0 7) a2 s2]) H → va_D A (flat [WX10 cy h0 a0 s0, WX0 cy (a0 0) a1 s1, WX9 cy (a0 7) a2 s2]) → va_S A s.heap H locs → W p l e rmX10_stairs s m args below meth c H locs 0 0 QQ (F0 m 120 ls [])) (kk149 : ∀ v : Int64, o = (.inr v) → ∀ (H : Heap) (locs : List Loc) (ls : Array Slot), lv_has ls 9 [(0, .ref h0), (1, .int p1), (4, .long v)] → va_P D vwCl (flat [WX10 cy h0 a0 s0, WX0 cy (a0 0) a1 s1, WX9 cy (a0 7) a2 s2]) H → va_D A (flat [WX10 cy h0 a0 s0, WX0 cy (a0 0) a1 s1, WX9 cy (a0 7) a2 s2]) → va_S A s.heap H locs → W p l e rmX10_stairs s m args below meth c H locs 0 0 QQ (F0 m 149 ls [])), W p l e rmX10_stairs s m args below meth c H locs 0 0 QQ (F0 m 80 ls []) := by
              intro n
              induction n with
              | zero => intro q80 o h; exact absurd h (by rw [loopO_zero]; intro z; cases z)
              | succ n ih =>
                intro q80 o h H locs ls hl hP hD hS kk120 kk149
                obtain ⟨w, h, hgo, hst⟩ := loopO_elim h
                unfold fX10_stairs_L80 at h
                refine lv_iload hx hb dX10_stairs_80 (lv_at hl 5 rfl) ?_
                refine lv_aload_n hx hb dX10_stairs_82 rfl (lv_at hl 0 rfl) ?_
                refine va_get (D := D) (ci := 10) (v := .ref (a0 0)) (C := RX10) (T := TX10) (N := 19) hx hb hts hinX10 hown hK hP 0 rfl rfl 0 (by decide) (hts (.fieldLink RX10 10 "KneeBench" "bench" "LKneeBench$Bench;") (List.mem_of_getElem? (i := 2) rfl)) (fun _ h9 => h9) rfl dX10_stairs_83 ?_
                refine va_getN (D := D) (ci := 0) (v := .int (gi s1 9)) (C := RX0) (T := TX0) (N := 14) hx hb hts hinX0 hown hK hP 1 rfl rfl 9 (by decide) (NW.fld hN 19 rfl _) (fun _ h9 => h9) rfl dX10_stairs_86 ?_
                refine lv_icmp_ge (tgt := 149) hx hb dX10_stairs_89 (by decide) (fun c15 => ?_) (fun c15 => ?_)
                · replace h := (if_pos c15).symm.trans h
                  have eo := hst _ (Option.some.inj h).symm
                  exact kk149 _ eo.symm H locs ls (lv_sub hl [0, 1, 4] rfl) hP hD hS
                · replace h := (if_neg c15).symm.trans h
                  refine lv_aload_n hx hb dX10_stairs_92 rfl (lv_at hl 0 rfl) ?_
                  refine va_get (D := D) (ci := 10) (v := .ref (a0 7)) (C := RX10) (T := TX10) (N := 19) hx hb hts hinX10 hown hK hP 0 rfl rfl 7 (by decide) (hts (.fieldLink RX10 45 "KneeBench" "trays" "LKneeBench$Trays;") (List.mem_of_getElem? (i := 1) rfl)) (fun _ h9 => h9) rfl dX10_stairs_93 ?_
                  refine lv_iload_n hx hb dX10_stairs_96 rfl (lv_at hl 2 rfl) ?_
                  refine lv_iload hx hb dX10_stairs_97 (lv_at hl 5 rfl) ?_
                  obtain ⟨r16, hr16, h⟩ := bd_elim h
                  refine ca_l (w' := [WX10 cy h0 a0 s0, WX0 cy (a0 0) a1 s1, WX9 cy (a0 7) a2 s2]) (rn_V (As := [.int p2, .int q80.2]) (rest := []) ⟨hx, hb, hml, hown, hts⟩ (kX9_at l D cy (a0 7) a2 s2 p2 q80.2 r16 hr16 H.size) (cwV 2 hts gX10_stairs_X9_at rfl rfl rfl (by decide +kernel) ⟨Nat.le_of_ble_eq_true rfl, Nat.le_of_ble_eq_true rfl⟩) hK hN hP hD [2] rfl rfl (ci := 9) (q0 := 10) rfl rfl rfl rfl hl.1 rfl (Nat.le_of_ble_eq_true rfl) dX10_stairs_99 ⟨Nat.le_refl 0, Nat.le_refl 0⟩) hP hD hS hA [2] ⟨rfl, rfl, rfl, rfl⟩ (fun H locs hP hD hS => ?_)
                  refine lv_lstore (lv' := [(7, .long r16), (0, .ref h0), (1, .int p1), (2, .int p2), (3, .int p3), (4, .long q80.1), (6, .int q80.2)]) hx hb dX10_stairs_102 hl (by decide) rfl (fun ls hl => ?_)
                  refine lv_lload hx hb dX10_stairs_104 (lv_at hl 0 rfl) ?_
                  refine lv_lconst (v := 0) hx hb dX10_stairs_106 (by decide) ?_
                  refine W.lcmp hx hb dX10_stairs_107 ?_
                  refine lv_if_lt (tgt := 120) hx hb dX10_stairs_108 (by decide) (fun c17 => ?_) (fun c17 => ?_)
                  · replace h := (if_pos (lg_clt.mp c17)).symm.trans h
                    have eo := hst _ (Option.some.inj h).symm
                    exact kk120 _ eo.symm H locs ls (lv_sub hl [1] rfl) hP hD hS
                  · replace h := (if_neg (fun z => c17 (lg_clt.mpr z))).symm.trans h
                    refine lv_lload hx hb dX10_stairs_111 (lv_at hl 0 rfl) ?_
                    refine lv_ldc2 (v := 999) hx hb hown (hts (.constantLong RX10 357 (999)) (List.mem_of_getElem? (i := 3) rfl)) dX10_stairs_113 ?_
                    refine W.lcmp hx hb dX10_stairs_116 ?_
                    refine lv_if_le (tgt := 126) hx hb dX10_stairs_117 (by decide) (fun c18 => ?_) (fun c18 => ?_)
                    · replace h := (if_pos (lg_cle.mp c18)).symm.trans h
                      refine lv_lload hx hb dX10_stairs_126 (lv_at hl 0 rfl) ?_
                      refine lv_iload_n hx hb dX10_stairs_128 rfl (lv_at hl 4 rfl) ?_
                      refine lv_i2l hx hb dX10_stairs_129 rfl ?_
                      refine W.lcmp hx hb dX10_stairs_130 ?_
                      refine lv_if_lt (tgt := 143) hx hb dX10_stairs_131 (by decide) (fun c19 => ?_) (fun c19 => ?_)
                      · replace h := (if_pos (lg_clt.mp c19)).symm.trans h
                        refine lv_iinc (v := (q80.2 + (1 : Int32))) (lv' := [(6, .int (q80.2 + (1 : Int32))), (7, .long r16), (0, .ref h0), (1, .int p1), (2, .int p2), (3, .int p3), (4, .long q80.1)]) hx hb dX10_stairs_143 hl (k := 6) rfl rfl (by decide) rfl (fun ls hl => ?_)
                        refine lv_goto (tgt := 80) hx hb dX10_stairs_146 (by decide) ?_
                        exact ih _ o (hgo _ (Option.some.inj h).symm) H locs ls (lv_sub hl [2, 3, 4, 5, 6, 0] rfl) hP hD hS kk120 kk149
                      · replace h := (if_neg (fun z => c19 (lg_clt.mpr z))).symm.trans h
                        refine lv_lload hx hb dX10_stairs_134 (lv_at hl 5 rfl) ?_
                        refine lv_lconst (v := 1) hx hb dX10_stairs_136 (by decide) ?_
                        refine lv_iload hx hb dX10_stairs_137 (lv_at hl 6 rfl) ?_
                        refine lv_lshl hx hb dX10_stairs_139 rfl ?_
                        refine lv_lor hx hb dX10_stairs_140 ?_
                        refine lv_topl (fun x20 ex20 => ?_)
                        replace h := lt_use h x20 ex20
                        refine lv_lstore (lv' := [(4, .long x20), (7, .long r16), (0, .ref h0), (1, .int p1), (2, .int p2), (3, .int p3), (6, .int q80.2)]) hx hb dX10_stairs_141 hl (by decide) rfl (fun ls hl => ?_)
                        refine lv_iinc (v := (q80.2 + (1 : Int32))) (lv' := [(6, .int (q80.2 + (1 : Int32))), (4, .long x20), (7, .long r16), (0, .ref h0), (1, .int p1), (2, .int p2), (3, .int p3)]) hx hb dX10_stairs_143 hl (k := 6) rfl rfl (by decide) rfl (fun ls hl => ?_)
                        refine lv_goto (tgt := 80) hx hb dX10_stairs_146 (by decide) ?_
                        exact ih _ o (hgo _ (Option.some.inj h).symm) H locs ls (lv_sub hl [3, 4, 5, 6, 1, 0] rfl) hP hD hS kk120 kk149
                    · replace h := (if_neg (fun z => c18 (lg_cle.mpr z))).symm.trans h
                      have eo := hst _ (Option.some.inj h).symm
                      exact kk120 _ eo.symm H locs ls (lv_sub hl [1] rfl) hP hD hS
            obtain ⟨o80, ho80, h⟩ := bd_elim h
            obtain ⟨n80, hn80⟩ := loopF_some ho80
            refine L80 n80 _ o80 hn80 H locs ls (lv_sub hl [2, 3, 4, 5, 1, 0] rfl) hP hD hS (fun o80a eo H locs ls hl hP hD hS => ?_) (fun o80b eo H locs ls hl hP hD hS => ?_)
            · subst eo
              rw [Sum.elim_inl] at h
              refine lv_aload_n hx hb dX10_stairs_120 rfl (lv_at hl 0 rfl) ?_
              refine lv_iconst (v := 5) hx hb dX10_stairs_121 (by decide) ?_
              obtain ⟨r21, hr21, h⟩ := lt_elim h
              refine ca_i (w' := [WX10 cy h0 a0 r21.2, WX0 cy (a0 0) a1 s1, WX9 cy (a0 7) a2 s2]) (rn_V (As := [.int (5 : Int32)]) (rest := []) ⟨hx, hb, hml, hown, hts⟩ (kX10_refuse l D cy h0 a0 s0 (5 : Int32) r21 hr21.symm H.size) (cwV 1 hts gX10_stairs_X10_refuse rfl rfl rfl (by decide +kernel) ⟨Nat.le_of_ble_eq_true rfl, Nat.le_of_ble_eq_true rfl⟩) hK hN hP hD [0] rfl rfl (ci := 10) (q0 := 0) rfl rfl rfl rfl hl.1 rfl (Nat.le_of_ble_eq_true rfl) dX10_stairs_122 ⟨Nat.le_refl 0, Nat.le_refl 0⟩) hP hD hS hA [0] ⟨rfl, rfl, rfl, rfl⟩ (fun H locs hP hD hS => ?_)
              exact hret 125 H locs ls (r21.1, r21.2) (Option.some.inj h) hP hD hS dX10_stairs_125
            · subst eo
              rw [Sum.elim_inr] at h
              refine lv_aload_n hx hb dX10_stairs_149 rfl (lv_at hl 0 rfl) ?_
              refine lv_aload_n hx hb dX10_stairs_150 rfl (lv_at hl 0 rfl) ?_
              refine va_get (D := D) (ci := 10) (v := .ref (a0 0)) (C := RX10) (T := TX10) (N := 19) hx hb hts hinX10 hown hK hP 0 rfl rfl 0 (by decide) (hts (.fieldLink RX10 10 "KneeBench" "bench" "LKneeBench$Bench;") (List.mem_of_getElem? (i := 2) rfl)) (fun _ h9 => h9) rfl dX10_stairs_151 ?_
              refine va_getN (D := D) (ci := 0) (v := .ref (a1 6)) (C := RX0) (T := TX0) (N := 14) hx hb hts hinX0 hown hK hP 1 rfl rfl 6 (by decide) (NW.fld hN 13 rfl _) (fun _ h9 => h9) rfl dX10_stairs_154 ?_
              refine lv_iload_n hx hb dX10_stairs_157 rfl (lv_at hl 1 rfl) ?_
              obtain ⟨g22, h⟩ := gd_elim h
              refine va_lald hx hb hK hP 8 2 rfl rfl (inb_in g22) dX10_stairs_158 ?_
              refine lv_aload_n hx hb dX10_stairs_159 rfl (lv_at hl 0 rfl) ?_
              refine va_get (D := D) (ci := 10) (v := .ref (a0 0)) (C := RX10) (T := TX10) (N := 19) hx hb hts hinX10 hown hK hP 0 rfl rfl 0 (by decide) (hts (.fieldLink RX10 10 "KneeBench" "bench" "LKneeBench$Bench;") (List.mem_of_getElem? (i := 2) rfl)) (fun _ h9 => h9) rfl dX10_stairs_160 ?_
              refine lv_iload_n hx hb dX10_stairs_163 rfl (lv_at hl 1 rfl) ?_
              obtain ⟨r23, hr23, h⟩ := bd_elim h
              refine ca_l (w' := [WX10 cy h0 a0 s0, WX0 cy (a0 0) a1 s1, WX9 cy (a0 7) a2 s2]) (rn_V (As := [.int p1]) (rest := [.long (gb s1 6 p1.toNatClampNeg), .ref h0]) ⟨hx, hb, hml, hown, hts⟩ (kX0_dueDays l D cy (a0 0) a1 s1 p1 r23 hr23 H.size) (cwV 1 hts gX10_stairs_X0_dueDays rfl rfl rfl (by decide +kernel) ⟨Nat.le_of_ble_eq_true rfl, Nat.le_of_ble_eq_true rfl⟩) hK hN hP hD [1] rfl rfl (ci := 0) (q0 := 1) rfl rfl rfl rfl hl.1 rfl (Nat.le_of_ble_eq_true rfl) dX10_stairs_164 ⟨Nat.le_refl 0, Nat.le_refl 0⟩) hP hD hS hA [1] ⟨rfl, rfl, rfl, rfl⟩ (fun H locs hP hD hS => ?_)
              refine lv_ldc2 (v := -1) hx hb hown (hts (.constantLong RX10 291 (-1)) (List.mem_of_getElem? (i := 4) rfl)) dX10_stairs_167 ?_
              refine lv_lxor hx hb dX10_stairs_170 ?_
              refine lv_land hx hb dX10_stairs_171 ?_
              refine lv_lload hx hb dX10_stairs_172 (lv_at hl 2 rfl) ?_
              refine lv_land hx hb dX10_stairs_174 ?_
              refine ca_i (w' := [WX10 cy h0 a0 s0, WX0 cy (a0 0) a1 s1, WX9 cy (a0 7) a2 s2]) (rn_S (As := [.long (((gb s1 6 p1.toNatClampNeg) &&& (r23 ^^^ (-1 : Int64))) &&& o80b)]) (rest := [.ref h0]) ⟨hx, hb, hml, hown, hts⟩ (kJ13_bitCount_95d88 l D cy (((gb s1 6 p1.toNatClampNeg) &&& (r23 ^^^ (-1 : Int64))) &&& o80b) _ rfl H.size) (va_cwS 1 hts gX10_stairs_J13_bitCount_95d88 rfl rfl rfl (by decide +kernel) ⟨Nat.le_of_ble_eq_true rfl, Nat.le_of_ble_eq_true rfl⟩) hK hN hP hD [] rfl rfl rfl hl.1 rfl (Nat.le_of_ble_eq_true rfl) dX10_stairs_175 ⟨Nat.le_refl 0, Nat.le_refl 0⟩) hP hD hS hA [] ⟨rfl, rfl, rfl, rfl⟩ (fun H locs hP hD hS => ?_)
              obtain ⟨r24, hr24, h⟩ := lt_elim h
              refine ca_i (w' := [WX10 cy h0 a0 r24.2, WX0 cy (a0 0) a1 s1, WX9 cy (a0 7) a2 s2]) (rn_V (As := [.int (fJ13_bitCount_95d88 (((gb s1 6 p1.toNatClampNeg) &&& (r23 ^^^ (-1 : Int64))) &&& o80b))]) (rest := []) ⟨hx, hb, hml, hown, hts⟩ (kX10_answer l D cy h0 a0 s0 (fJ13_bitCount_95d88 (((gb s1 6 p1.toNatClampNeg) &&& (r23 ^^^ (-1 : Int64))) &&& o80b)) r24 hr24.symm H.size) (cwV 1 hts gX10_stairs_X10_answer rfl rfl rfl (by decide +kernel) ⟨Nat.le_of_ble_eq_true rfl, Nat.le_of_ble_eq_true rfl⟩) hK hN hP hD [0] rfl rfl (ci := 10) (q0 := 0) rfl rfl rfl rfl hl.1 rfl (Nat.le_of_ble_eq_true rfl) dX10_stairs_178 ⟨Nat.le_refl 0, Nat.le_refl 0⟩) hP hD hS hA [0] ⟨rfl, rfl, rfl, rfl⟩ (fun H locs hP hD hS => ?_)
              exact hret 181 H locs ls (r24.1, r24.2) (Option.some.inj h) hP hD hS dX10_stairs_181
          · replace h := (if_pos c14).symm.trans h
            refine lv_aload_n hx hb dX10_stairs_68 rfl (lv_at hl 0 rfl) ?_
            refine lv_iconst (v := 3) hx hb dX10_stairs_69 (by decide) ?_
            obtain ⟨r25, hr25, h⟩ := lt_elim h
            refine ca_i (w' := [WX10 cy h0 a0 r25.2, WX0 cy (a0 0) a1 s1, WX9 cy (a0 7) a2 s2]) (rn_V (As := [.int (3 : Int32)]) (rest := []) ⟨hx, hb, hml, hown, hts⟩ (kX10_refuse l D cy h0 a0 s0 (3 : Int32) r25 hr25.symm H.size) (cwV 1 hts gX10_stairs_X10_refuse rfl rfl rfl (by decide +kernel) ⟨Nat.le_of_ble_eq_true rfl, Nat.le_of_ble_eq_true rfl⟩) hK hN hP hD [0] rfl rfl (ci := 10) (q0 := 0) rfl rfl rfl rfl hl.1 rfl (Nat.le_of_ble_eq_true rfl) dX10_stairs_70 ⟨Nat.le_refl 0, Nat.le_refl 0⟩) hP hD hS hA [0] ⟨rfl, rfl, rfl, rfl⟩ (fun H locs hP hD hS => ?_)
            exact hret 73 H locs ls (r25.1, r25.2) (Option.some.inj h) hP hD hS dX10_stairs_73
        · replace h := (if_neg c11).symm.trans h
          refine lv_aload_n hx hb dX10_stairs_43 rfl (lv_at hl 0 rfl) ?_
          refine lv_iconst (v := 2) hx hb dX10_stairs_44 (by decide) ?_
          obtain ⟨r26, hr26, h⟩ := lt_elim h
          refine ca_i (w' := [WX10 cy h0 a0 r26.2, WX0 cy (a0 0) a1 s1, WX9 cy (a0 7) a2 s2]) (rn_V (As := [.int (2 : Int32)]) (rest := []) ⟨hx, hb, hml, hown, hts⟩ (kX10_refuse l D cy h0 a0 s0 (2 : Int32) r26 hr26.symm H.size) (cwV 1 hts gX10_stairs_X10_refuse rfl rfl rfl (by decide +kernel) ⟨Nat.le_of_ble_eq_true rfl, Nat.le_of_ble_eq_true rfl⟩) hK hN hP hD [0] rfl rfl (ci := 10) (q0 := 0) rfl rfl rfl rfl hl.1 rfl (Nat.le_of_ble_eq_true rfl) dX10_stairs_45 ⟨Nat.le_refl 0, Nat.le_refl 0⟩) hP hD hS hA [0] ⟨rfl, rfl, rfl, rfl⟩ (fun H locs hP hD hS => ?_)
          exact hret 48 H locs ls (r26.1, r26.2) (Option.some.inj h) hP hD hS dX10_stairs_48
      · replace h := (if_neg c8).symm.trans h
        refine lv_aload_n hx hb dX10_stairs_26 rfl (lv_at hl 0 rfl) ?_
        refine lv_iconst (v := 1) hx hb dX10_stairs_27 (by decide) ?_
        obtain ⟨r27, hr27, h⟩ := lt_elim h
        refine ca_i (w' := [WX10 cy h0 a0 r27.2, WX0 cy (a0 0) a1 s1, WX9 cy (a0 7) a2 s2]) (rn_V (As := [.int (1 : Int32)]) (rest := []) ⟨hx, hb, hml, hown, hts⟩ (kX10_refuse l D cy h0 a0 s0 (1 : Int32) r27 hr27.symm H.size) (cwV 1 hts gX10_stairs_X10_refuse rfl rfl rfl (by decide +kernel) ⟨Nat.le_of_ble_eq_true rfl, Nat.le_of_ble_eq_true rfl⟩) hK hN hP hD [0] rfl rfl (ci := 10) (q0 := 0) rfl rfl rfl rfl hl.1 rfl (Nat.le_of_ble_eq_true rfl) dX10_stairs_28 ⟨Nat.le_refl 0, Nat.le_refl 0⟩) hP hD hS hA [0] ⟨rfl, rfl, rfl, rfl⟩ (fun H locs hP hD hS => ?_)
        exact hret 31 H locs ls (r27.1, r27.2) (Option.some.inj h) hP hD hS dX10_stairs_31
theorem dX10_status_0 : decode cX10_status 0 = .ok (.aload_n 0, 1) := by decide +kernel
theorem dX10_status_1 : decode cX10_status 1 = .ok (.getfield 102, 3) := by decide +kernel
theorem dX10_status_4 : decode cX10_status 4 = .ok (.ireturn, 1) := by decide +kernel
abbrev rmX10_status : Room := { frames := 0, cells := 0, slots := 0, locals := 0 }
set_option maxHeartbeats 4000000 in
set_option maxRecDepth 100000 in
theorem kX10_status (l : Launch) (D : va_G) (cy : Nat → ClassId) (h0 : Nat) (a0 : Nat → Nat) (s0 : Rc) (res : Int32) (h : fX10_status s0 = res) : CI l D cy yX10_status wsX10_status rmX10_status [.ref h0] (flat [WX10 cy h0 a0 s0]) (flat [WX10 cy h0 a0 s0]) res := by
  refine CI.of (cc := cX10_status) (maxL := 1) (by decide) rfl (Nat.le_of_ble_eq_true rfl) ?_
  intro p e s m args below meth c A QQ ls E hr
  obtain ⟨hx, hb, hml, hown, hts, hK, hN, hP, hD, hA, hl⟩ := E
  have hret : ∀ (pc : Nat) (H : Heap) (locs : List Loc) (ls : Array Slot) (u : Int32), u = res → va_P D vwCl (flat [WX10 cy h0 a0 s0]) H → va_D A (flat [WX10 cy h0 a0 s0]) → va_S A s.heap H locs → decode cX10_status pc = .ok (.ireturn, 1) → W p l e rmX10_status s m args below meth c H locs 0 0 QQ (F0 m pc ls [.int u]) := by
    intro pc H locs ls u hu hP hD hS hd; subst hu; exact hr pc H locs ls _ rfl hP hD hS hd
  clear hr
  have hl : lv_has ls 1 [(0, .ref h0)] := hl
  have hinX10 : ∀ w ∈ wsX100, w ∈ wsX10_status := fun _ h => List.mem_cons_of_mem _ (List.mem_append_right _ h)
  unfold fX10_status at h
  suffices key : ∀ (H : Heap) (locs : List Loc), va_P D vwCl (flat [WX10 cy h0 a0 s0]) H → va_S A s.heap H locs → W p l e rmX10_status s m args below meth c H locs 0 0 QQ (F0 m 0 ls []) from key _ _ hP va_S.rf
  clear hP
  intro H locs hP hS
  refine lv_aload_n hx hb dX10_status_0 rfl (lv_at hl 0 rfl) ?_
  refine va_get (D := D) (ci := 10) (v := .int (gi s0 16)) (C := RX10) (T := TX10) (N := 19) hx hb hts hinX10 hown hK hP 0 rfl rfl 16 (by decide) (hts (.fieldLink RX10 102 "KneeBench" "latestStatus" "I") (List.mem_of_getElem? (i := 1) rfl)) (fun _ h9 => h9) rfl dX10_status_1 ?_
  exact hret 4 H locs ls (gi s0 16) h hP hD hS dX10_status_4
set_option maxRecDepth 20000 in
theorem ggX10_streak_X10_noFarmer : GoodIn wsX10_streak wsX10_noFarmer := goodIn_r _ [6, 1, 64, 65, 66, 67, 68, 69, 70, 71, 72, 73, 74, 75, 76, 77, 78, 79, 80, 81, 82, 83, 84, 85, 86, 87, 88, 89, 90, 91, 92, 93, 94, 95, 96] (by decide +kernel) (by decide +kernel)
set_option maxRecDepth 20000 in
theorem gX10_streak_X10_noFarmer : GoodIn wsX10_streak (wsV RX10 215 RX10 yX10_noFarmer wsX10_noFarmer) := goodIn_app (goodIn_of _ (by decide +kernel)) ggX10_streak_X10_noFarmer
set_option maxRecDepth 20000 in
theorem ggX10_streak_X10_refuse : GoodIn wsX10_streak wsX10_refuse := goodIn_r _ [10, 11, 64, 65, 66, 67, 68, 69, 70, 71, 72, 73, 74, 75, 76, 77, 78, 79, 80, 81, 82] (by decide +kernel) (by decide +kernel)
set_option maxRecDepth 20000 in
theorem gX10_streak_X10_refuse : GoodIn wsX10_streak (wsV RX10 139 RX10 yX10_refuse wsX10_refuse) := goodIn_app (goodIn_of _ (by decide +kernel)) ggX10_streak_X10_refuse
set_option maxRecDepth 20000 in
theorem ggX10_streak_X0_rightDays : GoodIn wsX10_streak wsX0_rightDays := goodIn_r _ [16, 17, 18, 19, 20, 15, 21, 22, 23, 24, 25, 26, 27, 28, 29, 30, 31, 32, 33, 5, 34, 35, 36, 37, 38, 39, 40, 41, 42, 43, 44, 45, 46, 47, 48, 49, 50, 51, 52, 53, 54, 55, 56, 83, 84, 85, 86, 87, 88, 89, 90, 91, 92, 93, 94, 95, 96] (by decide +kernel) (by decide +kernel)
set_option maxRecDepth 20000 in
theorem gX10_streak_X0_rightDays : GoodIn wsX10_streak (wsV RX10 305 RX0 yX0_rightDays wsX0_rightDays) := goodIn_app (goodIn_of _ (by decide +kernel)) ggX10_streak_X0_rightDays
set_option maxRecDepth 20000 in
theorem ggX10_streak_X10_longestRow : GoodIn wsX10_streak wsX10_longestRow := goodIn_r _ [59] (by decide +kernel) (by decide +kernel)
set_option maxRecDepth 20000 in
theorem gX10_streak_X10_longestRow : GoodIn wsX10_streak (va_wsS RX10 363 yX10_longestRow wsX10_longestRow) := goodIn_app (goodIn_of _ (by decide +kernel)) ggX10_streak_X10_longestRow
set_option maxRecDepth 20000 in
theorem ggX10_streak_X10_answer : GoodIn wsX10_streak wsX10_answer := goodIn_r _ [63, 11, 64, 65, 66, 67, 68, 69, 70, 71, 72, 73, 74, 75, 76, 77, 78, 79, 80, 81, 82] (by decide +kernel) (by decide +kernel)
set_option maxRecDepth 20000 in
theorem gX10_streak_X10_answer : GoodIn wsX10_streak (wsV RX10 181 RX10 yX10_answer wsX10_answer) := goodIn_app (goodIn_of _ (by decide +kernel)) ggX10_streak_X10_answer
theorem dX10_streak_0 : decode cX10_streak 0 = .ok (.aload_n 0, 1) := by decide +kernel
theorem dX10_streak_1 : decode cX10_streak 1 = .ok (.iload_n 1, 1) := by decide +kernel
theorem dX10_streak_2 : decode cX10_streak 2 = .ok (.invokevirtual 215, 3) := by decide +kernel
theorem dX10_streak_5 : decode cX10_streak 5 = .ok (.ifCond .eq 9, 3) := by decide +kernel
theorem dX10_streak_8 : decode cX10_streak 8 = .ok (.aload_n 0, 1) := by decide +kernel
theorem dX10_streak_9 : decode cX10_streak 9 = .ok (.iconst 1, 1) := by decide +kernel
theorem dX10_streak_10 : decode cX10_streak 10 = .ok (.invokevirtual 139, 3) := by decide +kernel
theorem dX10_streak_13 : decode cX10_streak 13 = .ok (.ireturn, 1) := by decide +kernel
theorem dX10_streak_14 : decode cX10_streak 14 = .ok (.aload_n 0, 1) := by decide +kernel
theorem dX10_streak_15 : decode cX10_streak 15 = .ok (.aload_n 0, 1) := by decide +kernel
theorem dX10_streak_16 : decode cX10_streak 16 = .ok (.getfield 10, 3) := by decide +kernel
theorem dX10_streak_19 : decode cX10_streak 19 = .ok (.iload_n 1, 1) := by decide +kernel
theorem dX10_streak_20 : decode cX10_streak 20 = .ok (.invokevirtual 305, 3) := by decide +kernel
theorem dX10_streak_23 : decode cX10_streak 23 = .ok (.invokestatic 363, 3) := by decide +kernel
theorem dX10_streak_26 : decode cX10_streak 26 = .ok (.invokevirtual 181, 3) := by decide +kernel
theorem dX10_streak_29 : decode cX10_streak 29 = .ok (.ireturn, 1) := by decide +kernel
abbrev rmX10_streak : Room := { frames := 4, cells := 0, slots := 0, locals := 83 }
set_option maxHeartbeats 4000000 in
set_option maxRecDepth 100000 in
theorem kX10_streak (l : Launch) (D : va_G) (cy : Nat → ClassId) (h0 : Nat) (a0 : Nat → Nat) (a1 : Nat → Nat) (s0 : Rc) (s1 : Rc) (p1 : Int32) (res : Int32 × Rc) (h : fX10_streak p1 s0 s1 = some res) : CI l D cy yX10_streak wsX10_streak rmX10_streak [.ref h0, .int p1] (flat [WX10 cy h0 a0 s0, WX0 cy (a0 0) a1 s1]) (flat [WX10 cy h0 a0 res.2, WX0 cy (a0 0) a1 s1]) res.1 := by
  refine CI.of (cc := cX10_streak) (maxL := 2) (by decide) rfl (Nat.le_of_ble_eq_true rfl) ?_
  intro p e s m args below meth c A QQ ls E hr
  obtain ⟨hx, hb, hml, hown, hts, hK, hN, hP, hD, hA, hl⟩ := E
  have hret : ∀ (pc : Nat) (H : Heap) (locs : List Loc) (ls : Array Slot) (u : Int32 × Rc), u = res → va_P D vwCl (flat [WX10 cy h0 a0 u.2, WX0 cy (a0 0) a1 s1]) H → va_D A (flat [WX10 cy h0 a0 u.2, WX0 cy (a0 0) a1 s1]) → va_S A s.heap H locs → decode cX10_streak pc = .ok (.ireturn, 1) → W p l e rmX10_streak s m args below meth c H locs 0 0 QQ (F0 m pc ls [.int u.1]) := by
    intro pc H locs ls u hu hP hD hS hd; subst hu; exact hr pc H locs ls _ rfl hP hD hS hd
  clear hr
  have hl : lv_has ls 2 [(0, .ref h0), (1, .int p1)] := hl
  have hinX10 : ∀ w ∈ wsX100, w ∈ wsX10_streak := fun _ h => List.mem_cons_of_mem _ (List.mem_append_left _ (List.mem_append_right _ h))
  unfold fX10_streak at h
  suffices key : ∀ (H : Heap) (locs : List Loc), va_P D vwCl (flat [WX10 cy h0 a0 s0, WX0 cy (a0 0) a1 s1]) H → va_S A s.heap H locs → W p l e rmX10_streak s m args below meth c H locs 0 0 QQ (F0 m 0 ls []) from key _ _ hP va_S.rf
  clear hP
  intro H locs hP hS
  refine lv_aload_n hx hb dX10_streak_0 rfl (lv_at hl 0 rfl) ?_
  refine lv_iload_n hx hb dX10_streak_1 rfl (lv_at hl 1 rfl) ?_
  refine ca_z (w' := [WX10 cy h0 a0 s0, WX0 cy (a0 0) a1 s1]) (rn_V (As := [.int p1]) (rest := []) ⟨hx, hb, hml, hown, hts⟩ (kX10_noFarmer l D cy h0 a0 a1 s0 s1 p1 _ rfl H.size) (cwV 1 hts gX10_streak_X10_noFarmer rfl rfl rfl (by decide +kernel) ⟨Nat.le_of_ble_eq_true rfl, Nat.le_of_ble_eq_true rfl⟩) hK hN hP hD [0, 1] rfl rfl (ci := 10) (q0 := 0) rfl rfl rfl rfl hl.1 rfl (Nat.le_of_ble_eq_true rfl) dX10_streak_2 ⟨Nat.le_refl 0, Nat.le_refl 0⟩) hP hD hS hA [0, 1] ⟨rfl, rfl, rfl, rfl⟩ (fun b1 H locs hP hD hS => ?_)
  refine lv_if_eq (tgt := 14) hx hb dX10_streak_5 (by decide) (fun c2 => ?_) (fun c2 => ?_)
  · replace h := (if_pos c2).symm.trans h
    refine lv_aload_n hx hb dX10_streak_14 rfl (lv_at hl 0 rfl) ?_
    refine lv_aload_n hx hb dX10_streak_15 rfl (lv_at hl 0 rfl) ?_
    refine va_get (D := D) (ci := 10) (v := .ref (a0 0)) (C := RX10) (T := TX10) (N := 19) hx hb hts hinX10 hown hK hP 0 rfl rfl 0 (by decide) (hts (.fieldLink RX10 10 "KneeBench" "bench" "LKneeBench$Bench;") (List.mem_of_getElem? (i := 1) rfl)) (fun _ h9 => h9) rfl dX10_streak_16 ?_
    refine lv_iload_n hx hb dX10_streak_19 rfl (lv_at hl 1 rfl) ?_
    obtain ⟨r3, hr3, h⟩ := bd_elim h
    refine ca_l (w' := [WX10 cy h0 a0 s0, WX0 cy (a0 0) a1 s1]) (rn_V (As := [.int p1]) (rest := [.ref h0]) ⟨hx, hb, hml, hown, hts⟩ (kX0_rightDays l D cy (a0 0) a1 s1 p1 r3 hr3 H.size) (cwV 1 hts gX10_streak_X0_rightDays rfl rfl rfl (by decide +kernel) ⟨Nat.le_of_ble_eq_true rfl, Nat.le_of_ble_eq_true rfl⟩) hK hN hP hD [1] rfl rfl (ci := 0) (q0 := 1) rfl rfl rfl rfl hl.1 rfl (Nat.le_of_ble_eq_true rfl) dX10_streak_20 ⟨Nat.le_refl 0, Nat.le_refl 0⟩) hP hD hS hA [1] ⟨rfl, rfl, rfl, rfl⟩ (fun H locs hP hD hS => ?_)
    obtain ⟨r4, hr4, h⟩ := bd_elim h
    refine ca_i (w' := [WX10 cy h0 a0 s0, WX0 cy (a0 0) a1 s1]) (rn_S (As := [.long r3]) (rest := [.ref h0]) ⟨hx, hb, hml, hown, hts⟩ (kX10_longestRow l D cy r3 r4 hr4 H.size) (va_cwS 1 hts gX10_streak_X10_longestRow rfl rfl rfl (by decide +kernel) ⟨Nat.le_of_ble_eq_true rfl, Nat.le_of_ble_eq_true rfl⟩) hK hN hP hD [] rfl rfl rfl hl.1 rfl (Nat.le_of_ble_eq_true rfl) dX10_streak_23 ⟨Nat.le_refl 0, Nat.le_refl 0⟩) hP hD hS hA [] ⟨rfl, rfl, rfl, rfl⟩ (fun H locs hP hD hS => ?_)
    obtain ⟨r5, hr5, h⟩ := lt_elim h
    refine ca_i (w' := [WX10 cy h0 a0 r5.2, WX0 cy (a0 0) a1 s1]) (rn_V (As := [.int r4]) (rest := []) ⟨hx, hb, hml, hown, hts⟩ (kX10_answer l D cy h0 a0 s0 r4 r5 hr5.symm H.size) (cwV 1 hts gX10_streak_X10_answer rfl rfl rfl (by decide +kernel) ⟨Nat.le_of_ble_eq_true rfl, Nat.le_of_ble_eq_true rfl⟩) hK hN hP hD [0] rfl rfl (ci := 10) (q0 := 0) rfl rfl rfl rfl hl.1 rfl (Nat.le_of_ble_eq_true rfl) dX10_streak_26 ⟨Nat.le_refl 0, Nat.le_refl 0⟩) hP hD hS hA [0] ⟨rfl, rfl, rfl, rfl⟩ (fun H locs hP hD hS => ?_)
    exact hret 29 H locs ls (r5.1, r5.2) (Option.some.inj h) hP hD hS dX10_streak_29
  · replace h := (if_neg c2).symm.trans h
    refine lv_aload_n hx hb dX10_streak_8 rfl (lv_at hl 0 rfl) ?_
    refine lv_iconst (v := 1) hx hb dX10_streak_9 (by decide) ?_
    obtain ⟨r6, hr6, h⟩ := lt_elim h
    refine ca_i (w' := [WX10 cy h0 a0 r6.2, WX0 cy (a0 0) a1 s1]) (rn_V (As := [.int (1 : Int32)]) (rest := []) ⟨hx, hb, hml, hown, hts⟩ (kX10_refuse l D cy h0 a0 s0 (1 : Int32) r6 hr6.symm H.size) (cwV 1 hts gX10_streak_X10_refuse rfl rfl rfl (by decide +kernel) ⟨Nat.le_of_ble_eq_true rfl, Nat.le_of_ble_eq_true rfl⟩) hK hN hP hD [0] rfl rfl (ci := 10) (q0 := 0) rfl rfl rfl rfl hl.1 rfl (Nat.le_of_ble_eq_true rfl) dX10_streak_10 ⟨Nat.le_refl 0, Nat.le_refl 0⟩) hP hD hS hA [0] ⟨rfl, rfl, rfl, rfl⟩ (fun H locs hP hD hS => ?_)
    exact hret 13 H locs ls (r6.1, r6.2) (Option.some.inj h) hP hD hS dX10_streak_13
set_option maxRecDepth 20000 in
theorem ggX10_sure_X10_noToldDay : GoodIn wsX10_sure wsX10_noToldDay := goodIn_r _ [5, 6, 7, 4, 8] (by decide +kernel) (by decide +kernel)
set_option maxRecDepth 20000 in
theorem gX10_sure_X10_noToldDay : GoodIn wsX10_sure (va_wsS RX10 281 yX10_noToldDay wsX10_noToldDay) := goodIn_app (goodIn_of _ (by decide +kernel)) ggX10_sure_X10_noToldDay
set_option maxRecDepth 20000 in
theorem ggX10_sure_X10_refuse : GoodIn wsX10_sure wsX10_refuse := goodIn_r _ [12, 13, 54, 55, 56, 57, 58, 59, 60, 61, 62, 63, 64, 65, 66, 67, 68, 69, 70, 71, 72] (by decide +kernel) (by decide +kernel)
set_option maxRecDepth 20000 in
theorem gX10_sure_X10_refuse : GoodIn wsX10_sure (wsV RX10 139 RX10 yX10_refuse wsX10_refuse) := goodIn_app (goodIn_of _ (by decide +kernel)) ggX10_sure_X10_refuse
set_option maxRecDepth 20000 in
theorem ggX10_sure_X0_tellersOf : GoodIn wsX10_sure wsX0_tellersOf := goodIn_r _ [18, 19, 20, 21, 22, 17, 23, 24, 25, 26, 73, 74, 75, 76, 77, 78, 79, 80, 81, 82, 83, 84, 85, 86] (by decide +kernel) (by decide +kernel)
set_option maxRecDepth 20000 in
theorem gX10_sure_X0_tellersOf : GoodIn wsX10_sure (wsV RX10 299 RX0 yX0_tellersOf wsX0_tellersOf) := goodIn_app (goodIn_of _ (by decide +kernel)) ggX10_sure_X0_tellersOf
set_option maxRecDepth 20000 in
theorem ggX10_sure_X0_leaning : GoodIn wsX10_sure wsX0_leaning := goodIn_r _ [30, 31, 32, 33, 17, 34, 19, 35, 36, 37, 38, 24, 20, 21, 22, 23, 25, 26, 39, 40, 41, 42, 43, 44, 45, 46, 47, 48, 49, 15, 16, 18, 73, 74, 75, 76, 77, 78, 79, 80, 81, 82, 83, 84, 85, 86] (by decide +kernel) (by decide +kernel)
set_option maxRecDepth 20000 in
theorem gX10_sure_X0_leaning : GoodIn wsX10_sure (wsV RX10 338 RX0 yX0_leaning wsX0_leaning) := goodIn_app (goodIn_of _ (by decide +kernel)) ggX10_sure_X0_leaning
set_option maxRecDepth 20000 in
theorem ggX10_sure_X10_answer : GoodIn wsX10_sure wsX10_answer := goodIn_r _ [53, 13, 54, 55, 56, 57, 58, 59, 60, 61, 62, 63, 64, 65, 66, 67, 68, 69, 70, 71, 72] (by decide +kernel) (by decide +kernel)
set_option maxRecDepth 20000 in
theorem gX10_sure_X10_answer : GoodIn wsX10_sure (wsV RX10 181 RX10 yX10_answer wsX10_answer) := goodIn_app (goodIn_of _ (by decide +kernel)) ggX10_sure_X10_answer
theorem dX10_sure_0 : decode cX10_sure 0 = .ok (.iload_n 1, 1) := by decide +kernel
theorem dX10_sure_1 : decode cX10_sure 1 = .ok (.invokestatic 281, 3) := by decide +kernel
theorem dX10_sure_4 : decode cX10_sure 4 = .ok (.ifCond .eq 9, 3) := by decide +kernel
theorem dX10_sure_7 : decode cX10_sure 7 = .ok (.aload_n 0, 1) := by decide +kernel
theorem dX10_sure_8 : decode cX10_sure 8 = .ok (.iconst 1, 1) := by decide +kernel
theorem dX10_sure_9 : decode cX10_sure 9 = .ok (.invokevirtual 139, 3) := by decide +kernel
theorem dX10_sure_12 : decode cX10_sure 12 = .ok (.ireturn, 1) := by decide +kernel
theorem dX10_sure_13 : decode cX10_sure 13 = .ok (.aload_n 0, 1) := by decide +kernel
theorem dX10_sure_14 : decode cX10_sure 14 = .ok (.getfield 10, 3) := by decide +kernel
theorem dX10_sure_17 : decode cX10_sure 17 = .ok (.iload_n 1, 1) := by decide +kernel
theorem dX10_sure_18 : decode cX10_sure 18 = .ok (.invokevirtual 299, 3) := by decide +kernel
theorem dX10_sure_21 : decode cX10_sure 21 = .ok (.ifCond .ne 10, 3) := by decide +kernel
theorem dX10_sure_24 : decode cX10_sure 24 = .ok (.aload_n 0, 1) := by decide +kernel
theorem dX10_sure_25 : decode cX10_sure 25 = .ok (.bipush 6, 2) := by decide +kernel
theorem dX10_sure_27 : decode cX10_sure 27 = .ok (.invokevirtual 139, 3) := by decide +kernel
theorem dX10_sure_30 : decode cX10_sure 30 = .ok (.ireturn, 1) := by decide +kernel
theorem dX10_sure_31 : decode cX10_sure 31 = .ok (.aload_n 0, 1) := by decide +kernel
theorem dX10_sure_32 : decode cX10_sure 32 = .ok (.aload_n 0, 1) := by decide +kernel
theorem dX10_sure_33 : decode cX10_sure 33 = .ok (.getfield 10, 3) := by decide +kernel
theorem dX10_sure_36 : decode cX10_sure 36 = .ok (.iload_n 1, 1) := by decide +kernel
theorem dX10_sure_37 : decode cX10_sure 37 = .ok (.invokevirtual 338, 3) := by decide +kernel
theorem dX10_sure_40 : decode cX10_sure 40 = .ok (.invokevirtual 181, 3) := by decide +kernel
theorem dX10_sure_43 : decode cX10_sure 43 = .ok (.ireturn, 1) := by decide +kernel
abbrev rmX10_sure : Room := { frames := 4, cells := 0, slots := 0, locals := 90 }
set_option maxHeartbeats 4000000 in
set_option maxRecDepth 100000 in
theorem kX10_sure (l : Launch) (D : va_G) (cy : Nat → ClassId) (h0 : Nat) (a0 : Nat → Nat) (a1 : Nat → Nat) (s0 : Rc) (s1 : Rc) (p1 : Int32) (res : Int32 × Rc) (h : fX10_sure p1 s0 s1 = some res) : CI l D cy yX10_sure wsX10_sure rmX10_sure [.ref h0, .int p1] (flat [WX10 cy h0 a0 s0, WX0 cy (a0 0) a1 s1]) (flat [WX10 cy h0 a0 res.2, WX0 cy (a0 0) a1 s1]) res.1 := by
  refine CI.of (cc := cX10_sure) (maxL := 2) (by decide) rfl (Nat.le_of_ble_eq_true rfl) ?_
  intro p e s m args below meth c A QQ ls E hr
  obtain ⟨hx, hb, hml, hown, hts, hK, hN, hP, hD, hA, hl⟩ := E
  have hret : ∀ (pc : Nat) (H : Heap) (locs : List Loc) (ls : Array Slot) (u : Int32 × Rc), u = res → va_P D vwCl (flat [WX10 cy h0 a0 u.2, WX0 cy (a0 0) a1 s1]) H → va_D A (flat [WX10 cy h0 a0 u.2, WX0 cy (a0 0) a1 s1]) → va_S A s.heap H locs → decode cX10_sure pc = .ok (.ireturn, 1) → W p l e rmX10_sure s m args below meth c H locs 0 0 QQ (F0 m pc ls [.int u.1]) := by
    intro pc H locs ls u hu hP hD hS hd; subst hu; exact hr pc H locs ls _ rfl hP hD hS hd
  clear hr
  have hl : lv_has ls 2 [(0, .ref h0), (1, .int p1)] := hl
  have hinX10 : ∀ w ∈ wsX100, w ∈ wsX10_sure := fun _ h => List.mem_cons_of_mem _ (List.mem_append_left _ (List.mem_append_right _ h))
  unfold fX10_sure at h
  suffices key : ∀ (H : Heap) (locs : List Loc), va_P D vwCl (flat [WX10 cy h0 a0 s0, WX0 cy (a0 0) a1 s1]) H → va_S A s.heap H locs → W p l e rmX10_sure s m args below meth c H locs 0 0 QQ (F0 m 0 ls []) from key _ _ hP va_S.rf
  clear hP
  intro H locs hP hS
  refine lv_iload_n hx hb dX10_sure_0 rfl (lv_at hl 1 rfl) ?_
  refine ca_z (w' := [WX10 cy h0 a0 s0, WX0 cy (a0 0) a1 s1]) (rn_S (As := [.int p1]) (rest := []) ⟨hx, hb, hml, hown, hts⟩ (kX10_noToldDay l D cy p1 _ rfl H.size) (va_cwS 1 hts gX10_sure_X10_noToldDay rfl rfl rfl (by decide +kernel) ⟨Nat.le_of_ble_eq_true rfl, Nat.le_of_ble_eq_true rfl⟩) hK hN hP hD [] rfl rfl rfl hl.1 rfl (Nat.le_of_ble_eq_true rfl) dX10_sure_1 ⟨Nat.le_refl 0, Nat.le_refl 0⟩) hP hD hS hA [] ⟨rfl, rfl, rfl, rfl⟩ (fun b1 H locs hP hD hS => ?_)
  refine lv_if_eq (tgt := 13) hx hb dX10_sure_4 (by decide) (fun c2 => ?_) (fun c2 => ?_)
  · replace h := (if_pos c2).symm.trans h
    refine lv_aload_n hx hb dX10_sure_13 rfl (lv_at hl 0 rfl) ?_
    refine va_get (D := D) (ci := 10) (v := .ref (a0 0)) (C := RX10) (T := TX10) (N := 19) hx hb hts hinX10 hown hK hP 0 rfl rfl 0 (by decide) (hts (.fieldLink RX10 10 "KneeBench" "bench" "LKneeBench$Bench;") (List.mem_of_getElem? (i := 1) rfl)) (fun _ h9 => h9) rfl dX10_sure_14 ?_
    refine lv_iload_n hx hb dX10_sure_17 rfl (lv_at hl 1 rfl) ?_
    obtain ⟨r3, hr3, h⟩ := bd_elim h
    refine ca_i (w' := [WX10 cy h0 a0 s0, WX0 cy (a0 0) a1 s1]) (rn_V (As := [.int p1]) (rest := []) ⟨hx, hb, hml, hown, hts⟩ (kX0_tellersOf l D cy (a0 0) a1 s1 p1 r3 hr3 H.size) (cwV 1 hts gX10_sure_X0_tellersOf rfl rfl rfl (by decide +kernel) ⟨Nat.le_of_ble_eq_true rfl, Nat.le_of_ble_eq_true rfl⟩) hK hN hP hD [1] rfl rfl (ci := 0) (q0 := 1) rfl rfl rfl rfl hl.1 rfl (Nat.le_of_ble_eq_true rfl) dX10_sure_18 ⟨Nat.le_refl 0, Nat.le_refl 0⟩) hP hD hS hA [1] ⟨rfl, rfl, rfl, rfl⟩ (fun H locs hP hD hS => ?_)
    refine lv_if_ne (tgt := 31) hx hb dX10_sure_21 (by decide) (fun c4 => ?_) (fun c4 => ?_)
    · replace h := (if_neg c4).symm.trans h
      refine lv_aload_n hx hb dX10_sure_31 rfl (lv_at hl 0 rfl) ?_
      refine lv_aload_n hx hb dX10_sure_32 rfl (lv_at hl 0 rfl) ?_
      refine va_get (D := D) (ci := 10) (v := .ref (a0 0)) (C := RX10) (T := TX10) (N := 19) hx hb hts hinX10 hown hK hP 0 rfl rfl 0 (by decide) (hts (.fieldLink RX10 10 "KneeBench" "bench" "LKneeBench$Bench;") (List.mem_of_getElem? (i := 1) rfl)) (fun _ h9 => h9) rfl dX10_sure_33 ?_
      refine lv_iload_n hx hb dX10_sure_36 rfl (lv_at hl 1 rfl) ?_
      obtain ⟨r5, hr5, h⟩ := bd_elim h
      refine ca_i (w' := [WX10 cy h0 a0 s0, WX0 cy (a0 0) a1 s1]) (rn_V (As := [.int p1]) (rest := [.ref h0]) ⟨hx, hb, hml, hown, hts⟩ (kX0_leaning l D cy (a0 0) a1 s1 p1 r5 hr5 H.size) (cwV 1 hts gX10_sure_X0_leaning rfl rfl rfl (by decide +kernel) ⟨Nat.le_of_ble_eq_true rfl, Nat.le_of_ble_eq_true rfl⟩) hK hN hP hD [1] rfl rfl (ci := 0) (q0 := 1) rfl rfl rfl rfl hl.1 rfl (Nat.le_of_ble_eq_true rfl) dX10_sure_37 ⟨Nat.le_refl 0, Nat.le_refl 0⟩) hP hD hS hA [1] ⟨rfl, rfl, rfl, rfl⟩ (fun H locs hP hD hS => ?_)
      obtain ⟨r6, hr6, h⟩ := lt_elim h
      refine ca_i (w' := [WX10 cy h0 a0 r6.2, WX0 cy (a0 0) a1 s1]) (rn_V (As := [.int r5]) (rest := []) ⟨hx, hb, hml, hown, hts⟩ (kX10_answer l D cy h0 a0 s0 r5 r6 hr6.symm H.size) (cwV 1 hts gX10_sure_X10_answer rfl rfl rfl (by decide +kernel) ⟨Nat.le_of_ble_eq_true rfl, Nat.le_of_ble_eq_true rfl⟩) hK hN hP hD [0] rfl rfl (ci := 10) (q0 := 0) rfl rfl rfl rfl hl.1 rfl (Nat.le_of_ble_eq_true rfl) dX10_sure_40 ⟨Nat.le_refl 0, Nat.le_refl 0⟩) hP hD hS hA [0] ⟨rfl, rfl, rfl, rfl⟩ (fun H locs hP hD hS => ?_)
      exact hret 43 H locs ls (r6.1, r6.2) (Option.some.inj h) hP hD hS dX10_sure_43
    · replace h := (if_pos c4).symm.trans h
      refine lv_aload_n hx hb dX10_sure_24 rfl (lv_at hl 0 rfl) ?_
      refine lv_bipush (v := 6) hx hb dX10_sure_25 (by decide) ?_
      obtain ⟨r7, hr7, h⟩ := lt_elim h
      refine ca_i (w' := [WX10 cy h0 a0 r7.2, WX0 cy (a0 0) a1 s1]) (rn_V (As := [.int (6 : Int32)]) (rest := []) ⟨hx, hb, hml, hown, hts⟩ (kX10_refuse l D cy h0 a0 s0 (6 : Int32) r7 hr7.symm H.size) (cwV 1 hts gX10_sure_X10_refuse rfl rfl rfl (by decide +kernel) ⟨Nat.le_of_ble_eq_true rfl, Nat.le_of_ble_eq_true rfl⟩) hK hN hP hD [0] rfl rfl (ci := 10) (q0 := 0) rfl rfl rfl rfl hl.1 rfl (Nat.le_of_ble_eq_true rfl) dX10_sure_27 ⟨Nat.le_refl 0, Nat.le_refl 0⟩) hP hD hS hA [0] ⟨rfl, rfl, rfl, rfl⟩ (fun H locs hP hD hS => ?_)
      exact hret 30 H locs ls (r7.1, r7.2) (Option.some.inj h) hP hD hS dX10_sure_30
  · replace h := (if_neg c2).symm.trans h
    refine lv_aload_n hx hb dX10_sure_7 rfl (lv_at hl 0 rfl) ?_
    refine lv_iconst (v := 1) hx hb dX10_sure_8 (by decide) ?_
    obtain ⟨r8, hr8, h⟩ := lt_elim h
    refine ca_i (w' := [WX10 cy h0 a0 r8.2, WX0 cy (a0 0) a1 s1]) (rn_V (As := [.int (1 : Int32)]) (rest := []) ⟨hx, hb, hml, hown, hts⟩ (kX10_refuse l D cy h0 a0 s0 (1 : Int32) r8 hr8.symm H.size) (cwV 1 hts gX10_sure_X10_refuse rfl rfl rfl (by decide +kernel) ⟨Nat.le_of_ble_eq_true rfl, Nat.le_of_ble_eq_true rfl⟩) hK hN hP hD [0] rfl rfl (ci := 10) (q0 := 0) rfl rfl rfl rfl hl.1 rfl (Nat.le_of_ble_eq_true rfl) dX10_sure_9 ⟨Nat.le_refl 0, Nat.le_refl 0⟩) hP hD hS hA [0] ⟨rfl, rfl, rfl, rfl⟩ (fun H locs hP hD hS => ?_)
    exact hret 12 H locs ls (r8.1, r8.2) (Option.some.inj h) hP hD hS dX10_sure_12
set_option maxRecDepth 20000 in
theorem ggX10_tells_X10_noFarmer : GoodIn wsX10_tells wsX10_noFarmer := goodIn_r _ [6, 1, 43, 44, 45, 46, 47, 48, 49, 50, 51, 52, 53, 54, 55, 56, 57, 58, 59, 60, 61, 62, 63, 64, 65, 66, 67, 68, 69, 70, 71, 72, 73, 74, 75] (by decide +kernel) (by decide +kernel)
set_option maxRecDepth 20000 in
theorem gX10_tells_X10_noFarmer : GoodIn wsX10_tells (wsV RX10 215 RX10 yX10_noFarmer wsX10_noFarmer) := goodIn_app (goodIn_of _ (by decide +kernel)) ggX10_tells_X10_noFarmer
set_option maxRecDepth 20000 in
theorem ggX10_tells_X10_noToldDay : GoodIn wsX10_tells wsX10_noToldDay := goodIn_r _ [9, 10, 11, 5, 12] (by decide +kernel) (by decide +kernel)
set_option maxRecDepth 20000 in
theorem gX10_tells_X10_noToldDay : GoodIn wsX10_tells (va_wsS RX10 281 yX10_noToldDay wsX10_noToldDay) := goodIn_app (goodIn_of _ (by decide +kernel)) ggX10_tells_X10_noToldDay
set_option maxRecDepth 20000 in
theorem ggX10_tells_X10_refuse : GoodIn wsX10_tells wsX10_refuse := goodIn_r _ [16, 17, 43, 44, 45, 46, 47, 48, 49, 50, 51, 52, 53, 54, 55, 56, 57, 58, 59, 60, 61] (by decide +kernel) (by decide +kernel)
set_option maxRecDepth 20000 in
theorem gX10_tells_X10_refuse : GoodIn wsX10_tells (wsV RX10 139 RX10 yX10_refuse wsX10_refuse) := goodIn_app (goodIn_of _ (by decide +kernel)) ggX10_tells_X10_refuse
set_option maxRecDepth 20000 in
theorem ggX10_tells_X0_hasWord : GoodIn wsX10_tells wsX0_hasWord := goodIn_r _ [22, 23, 24, 25, 62, 63, 64, 65, 66, 67, 68, 69, 70, 71, 72, 73, 74, 75] (by decide +kernel) (by decide +kernel)
set_option maxRecDepth 20000 in
theorem gX10_tells_X0_hasWord : GoodIn wsX10_tells (wsV RX10 284 RX0 yX0_hasWord wsX0_hasWord) := goodIn_app (goodIn_of _ (by decide +kernel)) ggX10_tells_X0_hasWord
set_option maxRecDepth 20000 in
theorem ggX10_tells_X0_believes : GoodIn wsX10_tells wsX0_believes := goodIn_r _ [29, 23, 30, 19, 20, 21, 22, 24, 25, 31, 32, 33, 34, 35, 62, 63, 64, 65, 66, 67, 68, 69, 70, 71, 72, 73, 74, 75] (by decide +kernel) (by decide +kernel)
set_option maxRecDepth 20000 in
theorem gX10_tells_X0_believes : GoodIn wsX10_tells (wsV RX10 288 RX0 yX0_believes wsX0_believes) := goodIn_app (goodIn_of _ (by decide +kernel)) ggX10_tells_X0_believes
set_option maxRecDepth 20000 in
theorem ggX10_tells_X10_bit : GoodIn wsX10_tells wsX10_bit := goodIn_r _ [38] (by decide +kernel) (by decide +kernel)
set_option maxRecDepth 20000 in
theorem gX10_tells_X10_bit : GoodIn wsX10_tells (va_wsS RX10 230 yX10_bit wsX10_bit) := goodIn_app (goodIn_of _ (by decide +kernel)) ggX10_tells_X10_bit
set_option maxRecDepth 20000 in
theorem ggX10_tells_X10_answer : GoodIn wsX10_tells wsX10_answer := goodIn_r _ [42, 17, 43, 44, 45, 46, 47, 48, 49, 50, 51, 52, 53, 54, 55, 56, 57, 58, 59, 60, 61] (by decide +kernel) (by decide +kernel)
set_option maxRecDepth 20000 in
theorem gX10_tells_X10_answer : GoodIn wsX10_tells (wsV RX10 181 RX10 yX10_answer wsX10_answer) := goodIn_app (goodIn_of _ (by decide +kernel)) ggX10_tells_X10_answer
theorem dX10_tells_0 : decode cX10_tells 0 = .ok (.aload_n 0, 1) := by decide +kernel
theorem dX10_tells_1 : decode cX10_tells 1 = .ok (.iload_n 1, 1) := by decide +kernel
theorem dX10_tells_2 : decode cX10_tells 2 = .ok (.invokevirtual 215, 3) := by decide +kernel
theorem dX10_tells_5 : decode cX10_tells 5 = .ok (.ifCond .ne 10, 3) := by decide +kernel
theorem dX10_tells_8 : decode cX10_tells 8 = .ok (.iload_n 2, 1) := by decide +kernel
theorem dX10_tells_9 : decode cX10_tells 9 = .ok (.invokestatic 281, 3) := by decide +kernel
theorem dX10_tells_12 : decode cX10_tells 12 = .ok (.ifCond .eq 9, 3) := by decide +kernel
theorem dX10_tells_15 : decode cX10_tells 15 = .ok (.aload_n 0, 1) := by decide +kernel
theorem dX10_tells_16 : decode cX10_tells 16 = .ok (.iconst 1, 1) := by decide +kernel
theorem dX10_tells_17 : decode cX10_tells 17 = .ok (.invokevirtual 139, 3) := by decide +kernel
theorem dX10_tells_20 : decode cX10_tells 20 = .ok (.ireturn, 1) := by decide +kernel
theorem dX10_tells_21 : decode cX10_tells 21 = .ok (.aload_n 0, 1) := by decide +kernel
theorem dX10_tells_22 : decode cX10_tells 22 = .ok (.getfield 10, 3) := by decide +kernel
theorem dX10_tells_25 : decode cX10_tells 25 = .ok (.iload_n 1, 1) := by decide +kernel
theorem dX10_tells_26 : decode cX10_tells 26 = .ok (.iload_n 2, 1) := by decide +kernel
theorem dX10_tells_27 : decode cX10_tells 27 = .ok (.invokevirtual 284, 3) := by decide +kernel
theorem dX10_tells_30 : decode cX10_tells 30 = .ok (.ifCond .ne 10, 3) := by decide +kernel
theorem dX10_tells_33 : decode cX10_tells 33 = .ok (.aload_n 0, 1) := by decide +kernel
theorem dX10_tells_34 : decode cX10_tells 34 = .ok (.bipush 6, 2) := by decide +kernel
theorem dX10_tells_36 : decode cX10_tells 36 = .ok (.invokevirtual 139, 3) := by decide +kernel
theorem dX10_tells_39 : decode cX10_tells 39 = .ok (.ireturn, 1) := by decide +kernel
theorem dX10_tells_40 : decode cX10_tells 40 = .ok (.aload_n 0, 1) := by decide +kernel
theorem dX10_tells_41 : decode cX10_tells 41 = .ok (.aload_n 0, 1) := by decide +kernel
theorem dX10_tells_42 : decode cX10_tells 42 = .ok (.getfield 10, 3) := by decide +kernel
theorem dX10_tells_45 : decode cX10_tells 45 = .ok (.iload_n 1, 1) := by decide +kernel
theorem dX10_tells_46 : decode cX10_tells 46 = .ok (.iload_n 2, 1) := by decide +kernel
theorem dX10_tells_47 : decode cX10_tells 47 = .ok (.invokevirtual 288, 3) := by decide +kernel
theorem dX10_tells_50 : decode cX10_tells 50 = .ok (.invokestatic 230, 3) := by decide +kernel
theorem dX10_tells_53 : decode cX10_tells 53 = .ok (.invokevirtual 181, 3) := by decide +kernel
theorem dX10_tells_56 : decode cX10_tells 56 = .ok (.ireturn, 1) := by decide +kernel
abbrev rmX10_tells : Room := { frames := 2, cells := 0, slots := 0, locals := 45 }
set_option maxHeartbeats 4000000 in
set_option maxRecDepth 100000 in
theorem kX10_tells (l : Launch) (D : va_G) (cy : Nat → ClassId) (h0 : Nat) (a0 : Nat → Nat) (a1 : Nat → Nat) (s0 : Rc) (s1 : Rc) (p1 : Int32) (p2 : Int32) (res : Int32 × Rc) (h : fX10_tells p1 p2 s0 s1 = some res) : CI l D cy yX10_tells wsX10_tells rmX10_tells [.ref h0, .int p1, .int p2] (flat [WX10 cy h0 a0 s0, WX0 cy (a0 0) a1 s1]) (flat [WX10 cy h0 a0 res.2, WX0 cy (a0 0) a1 s1]) res.1 := by
  refine CI.of (cc := cX10_tells) (maxL := 3) (by decide) rfl (Nat.le_of_ble_eq_true rfl) ?_
  intro p e s m args below meth c A QQ ls E hr
  obtain ⟨hx, hb, hml, hown, hts, hK, hN, hP, hD, hA, hl⟩ := E
  have hret : ∀ (pc : Nat) (H : Heap) (locs : List Loc) (ls : Array Slot) (u : Int32 × Rc), u = res → va_P D vwCl (flat [WX10 cy h0 a0 u.2, WX0 cy (a0 0) a1 s1]) H → va_D A (flat [WX10 cy h0 a0 u.2, WX0 cy (a0 0) a1 s1]) → va_S A s.heap H locs → decode cX10_tells pc = .ok (.ireturn, 1) → W p l e rmX10_tells s m args below meth c H locs 0 0 QQ (F0 m pc ls [.int u.1]) := by
    intro pc H locs ls u hu hP hD hS hd; subst hu; exact hr pc H locs ls _ rfl hP hD hS hd
  clear hr
  have hl : lv_has ls 3 [(0, .ref h0), (1, .int p1), (2, .int p2)] := hl
  have hinX10 : ∀ w ∈ wsX100, w ∈ wsX10_tells := fun _ h => List.mem_cons_of_mem _ (List.mem_append_left _ (List.mem_append_right _ h))
  unfold fX10_tells at h
  suffices key : ∀ (H : Heap) (locs : List Loc), va_P D vwCl (flat [WX10 cy h0 a0 s0, WX0 cy (a0 0) a1 s1]) H → va_S A s.heap H locs → W p l e rmX10_tells s m args below meth c H locs 0 0 QQ (F0 m 0 ls []) from key _ _ hP va_S.rf
  clear hP
  intro H locs hP hS
  refine lv_aload_n hx hb dX10_tells_0 rfl (lv_at hl 0 rfl) ?_
  refine lv_iload_n hx hb dX10_tells_1 rfl (lv_at hl 1 rfl) ?_
  refine ca_z (w' := [WX10 cy h0 a0 s0, WX0 cy (a0 0) a1 s1]) (rn_V (As := [.int p1]) (rest := []) ⟨hx, hb, hml, hown, hts⟩ (kX10_noFarmer l D cy h0 a0 a1 s0 s1 p1 _ rfl H.size) (cwV 1 hts gX10_tells_X10_noFarmer rfl rfl rfl (by decide +kernel) ⟨Nat.le_of_ble_eq_true rfl, Nat.le_of_ble_eq_true rfl⟩) hK hN hP hD [0, 1] rfl rfl (ci := 10) (q0 := 0) rfl rfl rfl rfl hl.1 rfl (Nat.le_of_ble_eq_true rfl) dX10_tells_2 ⟨Nat.le_refl 0, Nat.le_refl 0⟩) hP hD hS hA [0, 1] ⟨rfl, rfl, rfl, rfl⟩ (fun b1 H locs hP hD hS => ?_)
  refine lv_if_ne (tgt := 15) hx hb dX10_tells_5 (by decide) (fun c2 => ?_) (fun c2 => ?_)
  · replace h := (if_neg c2).symm.trans h
    refine lv_aload_n hx hb dX10_tells_15 rfl (lv_at hl 0 rfl) ?_
    refine lv_iconst (v := 1) hx hb dX10_tells_16 (by decide) ?_
    obtain ⟨r3, hr3, h⟩ := lt_elim h
    refine ca_i (w' := [WX10 cy h0 a0 r3.2, WX0 cy (a0 0) a1 s1]) (rn_V (As := [.int (1 : Int32)]) (rest := []) ⟨hx, hb, hml, hown, hts⟩ (kX10_refuse l D cy h0 a0 s0 (1 : Int32) r3 hr3.symm H.size) (cwV 1 hts gX10_tells_X10_refuse rfl rfl rfl (by decide +kernel) ⟨Nat.le_of_ble_eq_true rfl, Nat.le_of_ble_eq_true rfl⟩) hK hN hP hD [0] rfl rfl (ci := 10) (q0 := 0) rfl rfl rfl rfl hl.1 rfl (Nat.le_of_ble_eq_true rfl) dX10_tells_17 ⟨Nat.le_refl 0, Nat.le_refl 0⟩) hP hD hS hA [0] ⟨rfl, rfl, rfl, rfl⟩ (fun H locs hP hD hS => ?_)
    exact hret 20 H locs ls (r3.1, r3.2) (Option.some.inj h) hP hD hS dX10_tells_20
  · replace h := (if_pos c2).symm.trans h
    refine lv_iload_n hx hb dX10_tells_8 rfl (lv_at hl 2 rfl) ?_
    refine ca_z (w' := [WX10 cy h0 a0 s0, WX0 cy (a0 0) a1 s1]) (rn_S (As := [.int p2]) (rest := []) ⟨hx, hb, hml, hown, hts⟩ (kX10_noToldDay l D cy p2 _ rfl H.size) (va_cwS 1 hts gX10_tells_X10_noToldDay rfl rfl rfl (by decide +kernel) ⟨Nat.le_of_ble_eq_true rfl, Nat.le_of_ble_eq_true rfl⟩) hK hN hP hD [] rfl rfl rfl hl.1 rfl (Nat.le_of_ble_eq_true rfl) dX10_tells_9 ⟨Nat.le_refl 0, Nat.le_refl 0⟩) hP hD hS hA [] ⟨rfl, rfl, rfl, rfl⟩ (fun b4 H locs hP hD hS => ?_)
    refine lv_if_eq (tgt := 21) hx hb dX10_tells_12 (by decide) (fun c5 => ?_) (fun c5 => ?_)
    · replace h := (if_pos c5).symm.trans h
      refine lv_aload_n hx hb dX10_tells_21 rfl (lv_at hl 0 rfl) ?_
      refine va_get (D := D) (ci := 10) (v := .ref (a0 0)) (C := RX10) (T := TX10) (N := 19) hx hb hts hinX10 hown hK hP 0 rfl rfl 0 (by decide) (hts (.fieldLink RX10 10 "KneeBench" "bench" "LKneeBench$Bench;") (List.mem_of_getElem? (i := 1) rfl)) (fun _ h9 => h9) rfl dX10_tells_22 ?_
      refine lv_iload_n hx hb dX10_tells_25 rfl (lv_at hl 1 rfl) ?_
      refine lv_iload_n hx hb dX10_tells_26 rfl (lv_at hl 2 rfl) ?_
      obtain ⟨r6, hr6, h⟩ := bd_elim h
      refine ca_z (w' := [WX10 cy h0 a0 s0, WX0 cy (a0 0) a1 s1]) (rn_V (As := [.int p1, .int p2]) (rest := []) ⟨hx, hb, hml, hown, hts⟩ (kX0_hasWord l D cy (a0 0) a1 s1 p1 p2 r6 hr6 H.size) (cwV 2 hts gX10_tells_X0_hasWord rfl rfl rfl (by decide +kernel) ⟨Nat.le_of_ble_eq_true rfl, Nat.le_of_ble_eq_true rfl⟩) hK hN hP hD [1] rfl rfl (ci := 0) (q0 := 1) rfl rfl rfl rfl hl.1 rfl (Nat.le_of_ble_eq_true rfl) dX10_tells_27 ⟨Nat.le_refl 0, Nat.le_refl 0⟩) hP hD hS hA [1] ⟨rfl, rfl, rfl, rfl⟩ (fun b7 H locs hP hD hS => ?_)
      refine lv_if_ne (tgt := 40) hx hb dX10_tells_30 (by decide) (fun c8 => ?_) (fun c8 => ?_)
      · replace h := (if_neg c8).symm.trans h
        refine lv_aload_n hx hb dX10_tells_40 rfl (lv_at hl 0 rfl) ?_
        refine lv_aload_n hx hb dX10_tells_41 rfl (lv_at hl 0 rfl) ?_
        refine va_get (D := D) (ci := 10) (v := .ref (a0 0)) (C := RX10) (T := TX10) (N := 19) hx hb hts hinX10 hown hK hP 0 rfl rfl 0 (by decide) (hts (.fieldLink RX10 10 "KneeBench" "bench" "LKneeBench$Bench;") (List.mem_of_getElem? (i := 1) rfl)) (fun _ h9 => h9) rfl dX10_tells_42 ?_
        refine lv_iload_n hx hb dX10_tells_45 rfl (lv_at hl 1 rfl) ?_
        refine lv_iload_n hx hb dX10_tells_46 rfl (lv_at hl 2 rfl) ?_
        obtain ⟨r9, hr9, h⟩ := bd_elim h
        refine ca_z (w' := [WX10 cy h0 a0 s0, WX0 cy (a0 0) a1 s1]) (rn_V (As := [.int p1, .int p2]) (rest := [.ref h0]) ⟨hx, hb, hml, hown, hts⟩ (kX0_believes l D cy (a0 0) a1 s1 p1 p2 r9 hr9 H.size) (cwV 2 hts gX10_tells_X0_believes rfl rfl rfl (by decide +kernel) ⟨Nat.le_of_ble_eq_true rfl, Nat.le_of_ble_eq_true rfl⟩) hK hN hP hD [1] rfl rfl (ci := 0) (q0 := 1) rfl rfl rfl rfl hl.1 rfl (Nat.le_of_ble_eq_true rfl) dX10_tells_47 ⟨Nat.le_refl 0, Nat.le_refl 0⟩) hP hD hS hA [1] ⟨rfl, rfl, rfl, rfl⟩ (fun b10 H locs hP hD hS => ?_)
        refine ca_i (w' := [WX10 cy h0 a0 s0, WX0 cy (a0 0) a1 s1]) (rn_S (As := [.int r9]) (rest := [.ref h0]) ⟨hx, hb, hml, hown, hts⟩ (kX10_bit l D cy r9 _ rfl H.size) (va_cwS 1 hts gX10_tells_X10_bit rfl rfl rfl (by decide +kernel) ⟨Nat.le_of_ble_eq_true rfl, Nat.le_of_ble_eq_true rfl⟩) hK hN hP hD [] rfl rfl rfl hl.1 rfl (Nat.le_of_ble_eq_true rfl) dX10_tells_50 ⟨Nat.le_refl 0, Nat.le_refl 0⟩) hP hD hS hA [] ⟨rfl, rfl, rfl, rfl⟩ (fun H locs hP hD hS => ?_)
        obtain ⟨r11, hr11, h⟩ := lt_elim h
        refine ca_i (w' := [WX10 cy h0 a0 r11.2, WX0 cy (a0 0) a1 s1]) (rn_V (As := [.int (fX10_bit r9)]) (rest := []) ⟨hx, hb, hml, hown, hts⟩ (kX10_answer l D cy h0 a0 s0 (fX10_bit r9) r11 hr11.symm H.size) (cwV 1 hts gX10_tells_X10_answer rfl rfl rfl (by decide +kernel) ⟨Nat.le_of_ble_eq_true rfl, Nat.le_of_ble_eq_true rfl⟩) hK hN hP hD [0] rfl rfl (ci := 10) (q0 := 0) rfl rfl rfl rfl hl.1 rfl (Nat.le_of_ble_eq_true rfl) dX10_tells_53 ⟨Nat.le_refl 0, Nat.le_refl 0⟩) hP hD hS hA [0] ⟨rfl, rfl, rfl, rfl⟩ (fun H locs hP hD hS => ?_)
        exact hret 56 H locs ls (r11.1, r11.2) (Option.some.inj h) hP hD hS dX10_tells_56
      · replace h := (if_pos c8).symm.trans h
        refine lv_aload_n hx hb dX10_tells_33 rfl (lv_at hl 0 rfl) ?_
        refine lv_bipush (v := 6) hx hb dX10_tells_34 (by decide) ?_
        obtain ⟨r12, hr12, h⟩ := lt_elim h
        refine ca_i (w' := [WX10 cy h0 a0 r12.2, WX0 cy (a0 0) a1 s1]) (rn_V (As := [.int (6 : Int32)]) (rest := []) ⟨hx, hb, hml, hown, hts⟩ (kX10_refuse l D cy h0 a0 s0 (6 : Int32) r12 hr12.symm H.size) (cwV 1 hts gX10_tells_X10_refuse rfl rfl rfl (by decide +kernel) ⟨Nat.le_of_ble_eq_true rfl, Nat.le_of_ble_eq_true rfl⟩) hK hN hP hD [0] rfl rfl (ci := 10) (q0 := 0) rfl rfl rfl rfl hl.1 rfl (Nat.le_of_ble_eq_true rfl) dX10_tells_36 ⟨Nat.le_refl 0, Nat.le_refl 0⟩) hP hD hS hA [0] ⟨rfl, rfl, rfl, rfl⟩ (fun H locs hP hD hS => ?_)
        exact hret 39 H locs ls (r12.1, r12.2) (Option.some.inj h) hP hD hS dX10_tells_39
    · replace h := (if_neg c5).symm.trans h
      refine lv_aload_n hx hb dX10_tells_15 rfl (lv_at hl 0 rfl) ?_
      refine lv_iconst (v := 1) hx hb dX10_tells_16 (by decide) ?_
      obtain ⟨r13, hr13, h⟩ := lt_elim h
      refine ca_i (w' := [WX10 cy h0 a0 r13.2, WX0 cy (a0 0) a1 s1]) (rn_V (As := [.int (1 : Int32)]) (rest := []) ⟨hx, hb, hml, hown, hts⟩ (kX10_refuse l D cy h0 a0 s0 (1 : Int32) r13 hr13.symm H.size) (cwV 1 hts gX10_tells_X10_refuse rfl rfl rfl (by decide +kernel) ⟨Nat.le_of_ble_eq_true rfl, Nat.le_of_ble_eq_true rfl⟩) hK hN hP hD [0] rfl rfl (ci := 10) (q0 := 0) rfl rfl rfl rfl hl.1 rfl (Nat.le_of_ble_eq_true rfl) dX10_tells_17 ⟨Nat.le_refl 0, Nat.le_refl 0⟩) hP hD hS hA [0] ⟨rfl, rfl, rfl, rfl⟩ (fun H locs hP hD hS => ?_)
      exact hret 20 H locs ls (r13.1, r13.2) (Option.some.inj h) hP hD hS dX10_tells_20
set_option maxRecDepth 20000 in
theorem ggX10_tips_X10_noToldDay : GoodIn wsX10_tips wsX10_noToldDay := goodIn_r _ [5, 6, 7, 4, 8] (by decide +kernel) (by decide +kernel)
set_option maxRecDepth 20000 in
theorem gX10_tips_X10_noToldDay : GoodIn wsX10_tips (va_wsS RX10 281 yX10_noToldDay wsX10_noToldDay) := goodIn_app (goodIn_of _ (by decide +kernel)) ggX10_tips_X10_noToldDay
set_option maxRecDepth 20000 in
theorem ggX10_tips_X10_refuse : GoodIn wsX10_tips wsX10_refuse := goodIn_r _ [12, 13, 68, 69, 70, 71, 72, 73, 74, 75, 76, 77, 78, 79, 80, 81, 82, 83, 84, 85, 86] (by decide +kernel) (by decide +kernel)
set_option maxRecDepth 20000 in
theorem gX10_tips_X10_refuse : GoodIn wsX10_tips (wsV RX10 139 RX10 yX10_refuse wsX10_refuse) := goodIn_app (goodIn_of _ (by decide +kernel)) ggX10_tips_X10_refuse
set_option maxRecDepth 20000 in
theorem ggX10_tips_X0_tellersOf : GoodIn wsX10_tips wsX0_tellersOf := goodIn_r _ [18, 19, 20, 21, 22, 17, 23, 24, 25, 26, 87, 88, 89, 90, 91, 92, 93, 94, 95, 96, 97, 98, 99, 100] (by decide +kernel) (by decide +kernel)
set_option maxRecDepth 20000 in
theorem gX10_tips_X0_tellersOf : GoodIn wsX10_tips (wsV RX10 299 RX0 yX0_tellersOf wsX0_tellersOf) := goodIn_app (goodIn_of _ (by decide +kernel)) ggX10_tips_X0_tellersOf
set_option maxRecDepth 20000 in
theorem ggX10_tips_X0_tippersOf : GoodIn wsX10_tips wsX0_tippersOf := goodIn_r _ [30, 31, 19, 32, 15, 16, 17, 18, 20, 21, 22, 23, 24, 25, 26, 33, 34, 35, 36, 37, 38, 39, 40, 41, 42, 43, 44, 45, 46, 47, 48, 49, 50, 51, 52, 53, 54, 55, 56, 57, 4, 58, 59, 60, 61, 62, 63, 87, 88, 89, 90, 91, 92, 93, 94, 95, 96, 97, 98, 99, 100] (by decide +kernel) (by decide +kernel)
set_option maxRecDepth 20000 in
theorem gX10_tips_X0_tippersOf : GoodIn wsX10_tips (wsV RX10 302 RX0 yX0_tippersOf wsX0_tippersOf) := goodIn_app (goodIn_of _ (by decide +kernel)) ggX10_tips_X0_tippersOf
set_option maxRecDepth 20000 in
theorem ggX10_tips_X10_answer : GoodIn wsX10_tips wsX10_answer := goodIn_r _ [67, 13, 68, 69, 70, 71, 72, 73, 74, 75, 76, 77, 78, 79, 80, 81, 82, 83, 84, 85, 86] (by decide +kernel) (by decide +kernel)
set_option maxRecDepth 20000 in
theorem gX10_tips_X10_answer : GoodIn wsX10_tips (wsV RX10 181 RX10 yX10_answer wsX10_answer) := goodIn_app (goodIn_of _ (by decide +kernel)) ggX10_tips_X10_answer
theorem dX10_tips_0 : decode cX10_tips 0 = .ok (.iload_n 1, 1) := by decide +kernel
theorem dX10_tips_1 : decode cX10_tips 1 = .ok (.invokestatic 281, 3) := by decide +kernel
theorem dX10_tips_4 : decode cX10_tips 4 = .ok (.ifCond .eq 9, 3) := by decide +kernel
theorem dX10_tips_7 : decode cX10_tips 7 = .ok (.aload_n 0, 1) := by decide +kernel
theorem dX10_tips_8 : decode cX10_tips 8 = .ok (.iconst 1, 1) := by decide +kernel
theorem dX10_tips_9 : decode cX10_tips 9 = .ok (.invokevirtual 139, 3) := by decide +kernel
theorem dX10_tips_12 : decode cX10_tips 12 = .ok (.ireturn, 1) := by decide +kernel
theorem dX10_tips_13 : decode cX10_tips 13 = .ok (.aload_n 0, 1) := by decide +kernel
theorem dX10_tips_14 : decode cX10_tips 14 = .ok (.getfield 10, 3) := by decide +kernel
theorem dX10_tips_17 : decode cX10_tips 17 = .ok (.iload_n 1, 1) := by decide +kernel
theorem dX10_tips_18 : decode cX10_tips 18 = .ok (.invokevirtual 299, 3) := by decide +kernel
theorem dX10_tips_21 : decode cX10_tips 21 = .ok (.ifCond .ne 10, 3) := by decide +kernel
theorem dX10_tips_24 : decode cX10_tips 24 = .ok (.aload_n 0, 1) := by decide +kernel
theorem dX10_tips_25 : decode cX10_tips 25 = .ok (.bipush 6, 2) := by decide +kernel
theorem dX10_tips_27 : decode cX10_tips 27 = .ok (.invokevirtual 139, 3) := by decide +kernel
theorem dX10_tips_30 : decode cX10_tips 30 = .ok (.ireturn, 1) := by decide +kernel
theorem dX10_tips_31 : decode cX10_tips 31 = .ok (.aload_n 0, 1) := by decide +kernel
theorem dX10_tips_32 : decode cX10_tips 32 = .ok (.aload_n 0, 1) := by decide +kernel
theorem dX10_tips_33 : decode cX10_tips 33 = .ok (.getfield 10, 3) := by decide +kernel
theorem dX10_tips_36 : decode cX10_tips 36 = .ok (.iload_n 1, 1) := by decide +kernel
theorem dX10_tips_37 : decode cX10_tips 37 = .ok (.invokevirtual 302, 3) := by decide +kernel
theorem dX10_tips_40 : decode cX10_tips 40 = .ok (.invokevirtual 181, 3) := by decide +kernel
theorem dX10_tips_43 : decode cX10_tips 43 = .ok (.ireturn, 1) := by decide +kernel
abbrev rmX10_tips : Room := { frames := 4, cells := 0, slots := 0, locals := 95 }
set_option maxHeartbeats 4000000 in
set_option maxRecDepth 100000 in
theorem kX10_tips (l : Launch) (D : va_G) (cy : Nat → ClassId) (h0 : Nat) (a0 : Nat → Nat) (a1 : Nat → Nat) (s0 : Rc) (s1 : Rc) (p1 : Int32) (res : Int32 × Rc) (h : fX10_tips p1 s0 s1 = some res) : CI l D cy yX10_tips wsX10_tips rmX10_tips [.ref h0, .int p1] (flat [WX10 cy h0 a0 s0, WX0 cy (a0 0) a1 s1]) (flat [WX10 cy h0 a0 res.2, WX0 cy (a0 0) a1 s1]) res.1 := by
  refine CI.of (cc := cX10_tips) (maxL := 2) (by decide) rfl (Nat.le_of_ble_eq_true rfl) ?_
  intro p e s m args below meth c A QQ ls E hr
  obtain ⟨hx, hb, hml, hown, hts, hK, hN, hP, hD, hA, hl⟩ := E
  have hret : ∀ (pc : Nat) (H : Heap) (locs : List Loc) (ls : Array Slot) (u : Int32 × Rc), u = res → va_P D vwCl (flat [WX10 cy h0 a0 u.2, WX0 cy (a0 0) a1 s1]) H → va_D A (flat [WX10 cy h0 a0 u.2, WX0 cy (a0 0) a1 s1]) → va_S A s.heap H locs → decode cX10_tips pc = .ok (.ireturn, 1) → W p l e rmX10_tips s m args below meth c H locs 0 0 QQ (F0 m pc ls [.int u.1]) := by
    intro pc H locs ls u hu hP hD hS hd; subst hu; exact hr pc H locs ls _ rfl hP hD hS hd
  clear hr
  have hl : lv_has ls 2 [(0, .ref h0), (1, .int p1)] := hl
  have hinX10 : ∀ w ∈ wsX100, w ∈ wsX10_tips := fun _ h => List.mem_cons_of_mem _ (List.mem_append_left _ (List.mem_append_right _ h))
  unfold fX10_tips at h
  suffices key : ∀ (H : Heap) (locs : List Loc), va_P D vwCl (flat [WX10 cy h0 a0 s0, WX0 cy (a0 0) a1 s1]) H → va_S A s.heap H locs → W p l e rmX10_tips s m args below meth c H locs 0 0 QQ (F0 m 0 ls []) from key _ _ hP va_S.rf
  clear hP
  intro H locs hP hS
  refine lv_iload_n hx hb dX10_tips_0 rfl (lv_at hl 1 rfl) ?_
  refine ca_z (w' := [WX10 cy h0 a0 s0, WX0 cy (a0 0) a1 s1]) (rn_S (As := [.int p1]) (rest := []) ⟨hx, hb, hml, hown, hts⟩ (kX10_noToldDay l D cy p1 _ rfl H.size) (va_cwS 1 hts gX10_tips_X10_noToldDay rfl rfl rfl (by decide +kernel) ⟨Nat.le_of_ble_eq_true rfl, Nat.le_of_ble_eq_true rfl⟩) hK hN hP hD [] rfl rfl rfl hl.1 rfl (Nat.le_of_ble_eq_true rfl) dX10_tips_1 ⟨Nat.le_refl 0, Nat.le_refl 0⟩) hP hD hS hA [] ⟨rfl, rfl, rfl, rfl⟩ (fun b1 H locs hP hD hS => ?_)
  refine lv_if_eq (tgt := 13) hx hb dX10_tips_4 (by decide) (fun c2 => ?_) (fun c2 => ?_)
  · replace h := (if_pos c2).symm.trans h
    refine lv_aload_n hx hb dX10_tips_13 rfl (lv_at hl 0 rfl) ?_
    refine va_get (D := D) (ci := 10) (v := .ref (a0 0)) (C := RX10) (T := TX10) (N := 19) hx hb hts hinX10 hown hK hP 0 rfl rfl 0 (by decide) (hts (.fieldLink RX10 10 "KneeBench" "bench" "LKneeBench$Bench;") (List.mem_of_getElem? (i := 1) rfl)) (fun _ h9 => h9) rfl dX10_tips_14 ?_
    refine lv_iload_n hx hb dX10_tips_17 rfl (lv_at hl 1 rfl) ?_
    obtain ⟨r3, hr3, h⟩ := bd_elim h
    refine ca_i (w' := [WX10 cy h0 a0 s0, WX0 cy (a0 0) a1 s1]) (rn_V (As := [.int p1]) (rest := []) ⟨hx, hb, hml, hown, hts⟩ (kX0_tellersOf l D cy (a0 0) a1 s1 p1 r3 hr3 H.size) (cwV 1 hts gX10_tips_X0_tellersOf rfl rfl rfl (by decide +kernel) ⟨Nat.le_of_ble_eq_true rfl, Nat.le_of_ble_eq_true rfl⟩) hK hN hP hD [1] rfl rfl (ci := 0) (q0 := 1) rfl rfl rfl rfl hl.1 rfl (Nat.le_of_ble_eq_true rfl) dX10_tips_18 ⟨Nat.le_refl 0, Nat.le_refl 0⟩) hP hD hS hA [1] ⟨rfl, rfl, rfl, rfl⟩ (fun H locs hP hD hS => ?_)
    refine lv_if_ne (tgt := 31) hx hb dX10_tips_21 (by decide) (fun c4 => ?_) (fun c4 => ?_)
    · replace h := (if_neg c4).symm.trans h
      refine lv_aload_n hx hb dX10_tips_31 rfl (lv_at hl 0 rfl) ?_
      refine lv_aload_n hx hb dX10_tips_32 rfl (lv_at hl 0 rfl) ?_
      refine va_get (D := D) (ci := 10) (v := .ref (a0 0)) (C := RX10) (T := TX10) (N := 19) hx hb hts hinX10 hown hK hP 0 rfl rfl 0 (by decide) (hts (.fieldLink RX10 10 "KneeBench" "bench" "LKneeBench$Bench;") (List.mem_of_getElem? (i := 1) rfl)) (fun _ h9 => h9) rfl dX10_tips_33 ?_
      refine lv_iload_n hx hb dX10_tips_36 rfl (lv_at hl 1 rfl) ?_
      obtain ⟨r5, hr5, h⟩ := bd_elim h
      refine ca_i (w' := [WX10 cy h0 a0 s0, WX0 cy (a0 0) a1 s1]) (rn_V (As := [.int p1]) (rest := [.ref h0]) ⟨hx, hb, hml, hown, hts⟩ (kX0_tippersOf l D cy (a0 0) a1 s1 p1 r5 hr5 H.size) (cwV 1 hts gX10_tips_X0_tippersOf rfl rfl rfl (by decide +kernel) ⟨Nat.le_of_ble_eq_true rfl, Nat.le_of_ble_eq_true rfl⟩) hK hN hP hD [1] rfl rfl (ci := 0) (q0 := 1) rfl rfl rfl rfl hl.1 rfl (Nat.le_of_ble_eq_true rfl) dX10_tips_37 ⟨Nat.le_refl 0, Nat.le_refl 0⟩) hP hD hS hA [1] ⟨rfl, rfl, rfl, rfl⟩ (fun H locs hP hD hS => ?_)
      obtain ⟨r6, hr6, h⟩ := lt_elim h
      refine ca_i (w' := [WX10 cy h0 a0 r6.2, WX0 cy (a0 0) a1 s1]) (rn_V (As := [.int r5]) (rest := []) ⟨hx, hb, hml, hown, hts⟩ (kX10_answer l D cy h0 a0 s0 r5 r6 hr6.symm H.size) (cwV 1 hts gX10_tips_X10_answer rfl rfl rfl (by decide +kernel) ⟨Nat.le_of_ble_eq_true rfl, Nat.le_of_ble_eq_true rfl⟩) hK hN hP hD [0] rfl rfl (ci := 10) (q0 := 0) rfl rfl rfl rfl hl.1 rfl (Nat.le_of_ble_eq_true rfl) dX10_tips_40 ⟨Nat.le_refl 0, Nat.le_refl 0⟩) hP hD hS hA [0] ⟨rfl, rfl, rfl, rfl⟩ (fun H locs hP hD hS => ?_)
      exact hret 43 H locs ls (r6.1, r6.2) (Option.some.inj h) hP hD hS dX10_tips_43
    · replace h := (if_pos c4).symm.trans h
      refine lv_aload_n hx hb dX10_tips_24 rfl (lv_at hl 0 rfl) ?_
      refine lv_bipush (v := 6) hx hb dX10_tips_25 (by decide) ?_
      obtain ⟨r7, hr7, h⟩ := lt_elim h
      refine ca_i (w' := [WX10 cy h0 a0 r7.2, WX0 cy (a0 0) a1 s1]) (rn_V (As := [.int (6 : Int32)]) (rest := []) ⟨hx, hb, hml, hown, hts⟩ (kX10_refuse l D cy h0 a0 s0 (6 : Int32) r7 hr7.symm H.size) (cwV 1 hts gX10_tips_X10_refuse rfl rfl rfl (by decide +kernel) ⟨Nat.le_of_ble_eq_true rfl, Nat.le_of_ble_eq_true rfl⟩) hK hN hP hD [0] rfl rfl (ci := 10) (q0 := 0) rfl rfl rfl rfl hl.1 rfl (Nat.le_of_ble_eq_true rfl) dX10_tips_27 ⟨Nat.le_refl 0, Nat.le_refl 0⟩) hP hD hS hA [0] ⟨rfl, rfl, rfl, rfl⟩ (fun H locs hP hD hS => ?_)
      exact hret 30 H locs ls (r7.1, r7.2) (Option.some.inj h) hP hD hS dX10_tips_30
  · replace h := (if_neg c2).symm.trans h
    refine lv_aload_n hx hb dX10_tips_7 rfl (lv_at hl 0 rfl) ?_
    refine lv_iconst (v := 1) hx hb dX10_tips_8 (by decide) ?_
    obtain ⟨r8, hr8, h⟩ := lt_elim h
    refine ca_i (w' := [WX10 cy h0 a0 r8.2, WX0 cy (a0 0) a1 s1]) (rn_V (As := [.int (1 : Int32)]) (rest := []) ⟨hx, hb, hml, hown, hts⟩ (kX10_refuse l D cy h0 a0 s0 (1 : Int32) r8 hr8.symm H.size) (cwV 1 hts gX10_tips_X10_refuse rfl rfl rfl (by decide +kernel) ⟨Nat.le_of_ble_eq_true rfl, Nat.le_of_ble_eq_true rfl⟩) hK hN hP hD [0] rfl rfl (ci := 10) (q0 := 0) rfl rfl rfl rfl hl.1 rfl (Nat.le_of_ble_eq_true rfl) dX10_tips_9 ⟨Nat.le_refl 0, Nat.le_refl 0⟩) hP hD hS hA [0] ⟨rfl, rfl, rfl, rfl⟩ (fun H locs hP hD hS => ?_)
    exact hret 12 H locs ls (r8.1, r8.2) (Option.some.inj h) hP hD hS dX10_tips_12
set_option maxRecDepth 20000 in
theorem ggX10_told_X10_answer : GoodIn wsX10_told wsX10_answer := goodIn_r _ [6, 7, 19, 20, 21, 22, 23, 24, 25, 26, 27, 28, 29, 30, 31, 32, 33, 34, 35, 36, 37] (by decide +kernel) (by decide +kernel)
set_option maxRecDepth 20000 in
theorem gX10_told_X10_answer : GoodIn wsX10_told (wsV RX10 181 RX10 yX10_answer wsX10_answer) := goodIn_app (goodIn_of _ (by decide +kernel)) ggX10_told_X10_answer
set_option maxRecDepth 20000 in
theorem ggX10_told_J13_bitCount_95d88 : GoodIn wsX10_told wsJ13_bitCount_95d88 := goodIn_r _ [11, 12, 13, 14] (by decide +kernel) (by decide +kernel)
set_option maxRecDepth 20000 in
theorem gX10_told_J13_bitCount_95d88 : GoodIn wsX10_told (va_wsS RX10 203 yJ13_bitCount_95d88 wsJ13_bitCount_95d88) := goodIn_app (goodIn_of _ (by decide +kernel)) ggX10_told_J13_bitCount_95d88
set_option maxRecDepth 20000 in
theorem ggX10_told_X10_refuse : GoodIn wsX10_told wsX10_refuse := goodIn_r _ [18, 7, 19, 20, 21, 22, 23, 24, 25, 26, 27, 28, 29, 30, 31, 32, 33, 34, 35, 36, 37] (by decide +kernel) (by decide +kernel)
set_option maxRecDepth 20000 in
theorem gX10_told_X10_refuse : GoodIn wsX10_told (wsV RX10 139 RX10 yX10_refuse wsX10_refuse) := goodIn_app (goodIn_of _ (by decide +kernel)) ggX10_told_X10_refuse
theorem dX10_told_0 : decode cX10_told 0 = .ok (.iload_n 1, 1) := by decide +kernel
theorem dX10_told_1 : decode cX10_told 1 = .ok (.tableswitch 101 0 4 #[35, 47, 59, 74, 89], 35) := by decide +kernel
theorem dX10_told_36 : decode cX10_told 36 = .ok (.aload_n 0, 1) := by decide +kernel
theorem dX10_told_37 : decode cX10_told 37 = .ok (.aload_n 0, 1) := by decide +kernel
theorem dX10_told_38 : decode cX10_told 38 = .ok (.getfield 10, 3) := by decide +kernel
theorem dX10_told_41 : decode cX10_told 41 = .ok (.getfield 178, 3) := by decide +kernel
theorem dX10_told_44 : decode cX10_told 44 = .ok (.invokevirtual 181, 3) := by decide +kernel
theorem dX10_told_47 : decode cX10_told 47 = .ok (.ireturn, 1) := by decide +kernel
theorem dX10_told_48 : decode cX10_told 48 = .ok (.aload_n 0, 1) := by decide +kernel
theorem dX10_told_49 : decode cX10_told 49 = .ok (.aload_n 0, 1) := by decide +kernel
theorem dX10_told_50 : decode cX10_told 50 = .ok (.getfield 10, 3) := by decide +kernel
theorem dX10_told_53 : decode cX10_told 53 = .ok (.getfield 197, 3) := by decide +kernel
theorem dX10_told_56 : decode cX10_told 56 = .ok (.invokevirtual 181, 3) := by decide +kernel
theorem dX10_told_59 : decode cX10_told 59 = .ok (.ireturn, 1) := by decide +kernel
theorem dX10_told_60 : decode cX10_told 60 = .ok (.aload_n 0, 1) := by decide +kernel
theorem dX10_told_61 : decode cX10_told 61 = .ok (.aload_n 0, 1) := by decide +kernel
theorem dX10_told_62 : decode cX10_told 62 = .ok (.getfield 10, 3) := by decide +kernel
theorem dX10_told_65 : decode cX10_told 65 = .ok (.getfield 200, 3) := by decide +kernel
theorem dX10_told_68 : decode cX10_told 68 = .ok (.invokestatic 203, 3) := by decide +kernel
theorem dX10_told_71 : decode cX10_told 71 = .ok (.invokevirtual 181, 3) := by decide +kernel
theorem dX10_told_74 : decode cX10_told 74 = .ok (.ireturn, 1) := by decide +kernel
theorem dX10_told_75 : decode cX10_told 75 = .ok (.aload_n 0, 1) := by decide +kernel
theorem dX10_told_76 : decode cX10_told 76 = .ok (.aload_n 0, 1) := by decide +kernel
theorem dX10_told_77 : decode cX10_told 77 = .ok (.getfield 10, 3) := by decide +kernel
theorem dX10_told_80 : decode cX10_told 80 = .ok (.getfield 209, 3) := by decide +kernel
theorem dX10_told_83 : decode cX10_told 83 = .ok (.invokestatic 203, 3) := by decide +kernel
theorem dX10_told_86 : decode cX10_told 86 = .ok (.invokevirtual 181, 3) := by decide +kernel
theorem dX10_told_89 : decode cX10_told 89 = .ok (.ireturn, 1) := by decide +kernel
theorem dX10_told_90 : decode cX10_told 90 = .ok (.aload_n 0, 1) := by decide +kernel
theorem dX10_told_91 : decode cX10_told 91 = .ok (.aload_n 0, 1) := by decide +kernel
theorem dX10_told_92 : decode cX10_told 92 = .ok (.getfield 10, 3) := by decide +kernel
theorem dX10_told_95 : decode cX10_told 95 = .ok (.getfield 212, 3) := by decide +kernel
theorem dX10_told_98 : decode cX10_told 98 = .ok (.invokevirtual 181, 3) := by decide +kernel
theorem dX10_told_101 : decode cX10_told 101 = .ok (.ireturn, 1) := by decide +kernel
theorem dX10_told_102 : decode cX10_told 102 = .ok (.aload_n 0, 1) := by decide +kernel
theorem dX10_told_103 : decode cX10_told 103 = .ok (.iconst 1, 1) := by decide +kernel
theorem dX10_told_104 : decode cX10_told 104 = .ok (.invokevirtual 139, 3) := by decide +kernel
theorem dX10_told_107 : decode cX10_told 107 = .ok (.ireturn, 1) := by decide +kernel
abbrev rmX10_told : Room := { frames := 1, cells := 0, slots := 0, locals := 21 }
set_option maxHeartbeats 4000000 in
set_option maxRecDepth 100000 in
theorem kX10_told (l : Launch) (D : va_G) (cy : Nat → ClassId) (h0 : Nat) (a0 : Nat → Nat) (a1 : Nat → Nat) (s0 : Rc) (s1 : Rc) (p1 : Int32) (res : Int32 × Rc) (h : fX10_told p1 s0 s1 = res) : CI l D cy yX10_told wsX10_told rmX10_told [.ref h0, .int p1] (flat [WX10 cy h0 a0 s0, WX0 cy (a0 0) a1 s1]) (flat [WX10 cy h0 a0 res.2, WX0 cy (a0 0) a1 s1]) res.1 := by
  refine CI.of (cc := cX10_told) (maxL := 2) (by decide) rfl (Nat.le_of_ble_eq_true rfl) ?_
  intro p e s m args below meth c A QQ ls E hr
  obtain ⟨hx, hb, hml, hown, hts, hK, hN, hP, hD, hA, hl⟩ := E
  have hret : ∀ (pc : Nat) (H : Heap) (locs : List Loc) (ls : Array Slot) (u : Int32 × Rc), u = res → va_P D vwCl (flat [WX10 cy h0 a0 u.2, WX0 cy (a0 0) a1 s1]) H → va_D A (flat [WX10 cy h0 a0 u.2, WX0 cy (a0 0) a1 s1]) → va_S A s.heap H locs → decode cX10_told pc = .ok (.ireturn, 1) → W p l e rmX10_told s m args below meth c H locs 0 0 QQ (F0 m pc ls [.int u.1]) := by
    intro pc H locs ls u hu hP hD hS hd; subst hu; exact hr pc H locs ls _ rfl hP hD hS hd
  clear hr
  have hl : lv_has ls 2 [(0, .ref h0), (1, .int p1)] := hl
  have hinX0 : ∀ w ∈ wsX00, w ∈ wsX10_told := fun _ h => List.mem_cons_of_mem _ (List.mem_append_right _ h)
  have hinX10 : ∀ w ∈ wsX100, w ∈ wsX10_told := fun _ h => List.mem_cons_of_mem _ (List.mem_append_left _ (List.mem_append_right _ h))
  unfold fX10_told at h
  suffices key : ∀ (H : Heap) (locs : List Loc), va_P D vwCl (flat [WX10 cy h0 a0 s0, WX0 cy (a0 0) a1 s1]) H → va_S A s.heap H locs → W p l e rmX10_told s m args below meth c H locs 0 0 QQ (F0 m 0 ls []) from key _ _ hP va_S.rf
  clear hP
  intro H locs hP hS
  refine lv_iload_n hx hb dX10_told_0 rfl (lv_at hl 1 rfl) ?_
  by_cases c1 : p1 = (0 : Int32)
  · replace h := (if_pos c1).symm.trans h
    refine lv_tableIn (tgt := 36) hx hb dX10_told_1 (by rw [c1]; decide) (by rw [c1]; decide) (by rw [c1]; rfl) (by decide) ?_
    refine lv_aload_n hx hb dX10_told_36 rfl (lv_at hl 0 rfl) ?_
    refine lv_aload_n hx hb dX10_told_37 rfl (lv_at hl 0 rfl) ?_
    refine va_get (D := D) (ci := 10) (v := .ref (a0 0)) (C := RX10) (T := TX10) (N := 19) hx hb hts hinX10 hown hK hP 0 rfl rfl 0 (by decide) (hts (.fieldLink RX10 10 "KneeBench" "bench" "LKneeBench$Bench;") (List.mem_of_getElem? (i := 1) rfl)) (fun _ h9 => h9) rfl dX10_told_38 ?_
    refine va_getN (D := D) (ci := 0) (v := .int (gi s1 8)) (C := RX0) (T := TX0) (N := 14) hx hb hts hinX0 hown hK hP 1 rfl rfl 8 (by decide) (NW.fld hN 16 rfl _) (fun _ h9 => h9) rfl dX10_told_41 ?_
    obtain ⟨r2, hr2, h⟩ := lt_elim h
    refine ca_i (w' := [WX10 cy h0 a0 r2.2, WX0 cy (a0 0) a1 s1]) (rn_V (As := [.int (gi s1 8)]) (rest := []) ⟨hx, hb, hml, hown, hts⟩ (kX10_answer l D cy h0 a0 s0 (gi s1 8) r2 hr2.symm H.size) (cwV 1 hts gX10_told_X10_answer rfl rfl rfl (by decide +kernel) ⟨Nat.le_of_ble_eq_true rfl, Nat.le_of_ble_eq_true rfl⟩) hK hN hP hD [0] rfl rfl (ci := 10) (q0 := 0) rfl rfl rfl rfl hl.1 rfl (Nat.le_of_ble_eq_true rfl) dX10_told_44 ⟨Nat.le_refl 0, Nat.le_refl 0⟩) hP hD hS hA [0] ⟨rfl, rfl, rfl, rfl⟩ (fun H locs hP hD hS => ?_)
    exact hret 47 H locs ls (r2.1, r2.2) h hP hD hS dX10_told_47
  replace h := (if_neg c1).symm.trans h
  by_cases c3 : p1 = (1 : Int32)
  · replace h := (if_pos c3).symm.trans h
    refine lv_tableIn (tgt := 48) hx hb dX10_told_1 (by rw [c3]; decide) (by rw [c3]; decide) (by rw [c3]; rfl) (by decide) ?_
    refine lv_aload_n hx hb dX10_told_48 rfl (lv_at hl 0 rfl) ?_
    refine lv_aload_n hx hb dX10_told_49 rfl (lv_at hl 0 rfl) ?_
    refine va_get (D := D) (ci := 10) (v := .ref (a0 0)) (C := RX10) (T := TX10) (N := 19) hx hb hts hinX10 hown hK hP 0 rfl rfl 0 (by decide) (hts (.fieldLink RX10 10 "KneeBench" "bench" "LKneeBench$Bench;") (List.mem_of_getElem? (i := 1) rfl)) (fun _ h9 => h9) rfl dX10_told_50 ?_
    refine va_getN (D := D) (ci := 0) (v := .int (gi s1 9)) (C := RX0) (T := TX0) (N := 14) hx hb hts hinX0 hown hK hP 1 rfl rfl 9 (by decide) (NW.fld hN 19 rfl _) (fun _ h9 => h9) rfl dX10_told_53 ?_
    obtain ⟨r4, hr4, h⟩ := lt_elim h
    refine ca_i (w' := [WX10 cy h0 a0 r4.2, WX0 cy (a0 0) a1 s1]) (rn_V (As := [.int (gi s1 9)]) (rest := []) ⟨hx, hb, hml, hown, hts⟩ (kX10_answer l D cy h0 a0 s0 (gi s1 9) r4 hr4.symm H.size) (cwV 1 hts gX10_told_X10_answer rfl rfl rfl (by decide +kernel) ⟨Nat.le_of_ble_eq_true rfl, Nat.le_of_ble_eq_true rfl⟩) hK hN hP hD [0] rfl rfl (ci := 10) (q0 := 0) rfl rfl rfl rfl hl.1 rfl (Nat.le_of_ble_eq_true rfl) dX10_told_56 ⟨Nat.le_refl 0, Nat.le_refl 0⟩) hP hD hS hA [0] ⟨rfl, rfl, rfl, rfl⟩ (fun H locs hP hD hS => ?_)
    exact hret 59 H locs ls (r4.1, r4.2) h hP hD hS dX10_told_59
  replace h := (if_neg c3).symm.trans h
  by_cases c5 : p1 = (2 : Int32)
  · replace h := (if_pos c5).symm.trans h
    refine lv_tableIn (tgt := 60) hx hb dX10_told_1 (by rw [c5]; decide) (by rw [c5]; decide) (by rw [c5]; rfl) (by decide) ?_
    refine lv_aload_n hx hb dX10_told_60 rfl (lv_at hl 0 rfl) ?_
    refine lv_aload_n hx hb dX10_told_61 rfl (lv_at hl 0 rfl) ?_
    refine va_get (D := D) (ci := 10) (v := .ref (a0 0)) (C := RX10) (T := TX10) (N := 19) hx hb hts hinX10 hown hK hP 0 rfl rfl 0 (by decide) (hts (.fieldLink RX10 10 "KneeBench" "bench" "LKneeBench$Bench;") (List.mem_of_getElem? (i := 1) rfl)) (fun _ h9 => h9) rfl dX10_told_62 ?_
    refine va_getN (D := D) (ci := 0) (v := .long (gl s1 10)) (C := RX0) (T := TX0) (N := 14) hx hb hts hinX0 hown hK hP 1 rfl rfl 10 (by decide) (NW.fld hN 20 rfl _) (fun _ h9 => h9) rfl dX10_told_65 ?_
    refine ca_i (w' := [WX10 cy h0 a0 s0, WX0 cy (a0 0) a1 s1]) (rn_S (As := [.long (gl s1 10)]) (rest := [.ref h0]) ⟨hx, hb, hml, hown, hts⟩ (kJ13_bitCount_95d88 l D cy (gl s1 10) _ rfl H.size) (va_cwS 1 hts gX10_told_J13_bitCount_95d88 rfl rfl rfl (by decide +kernel) ⟨Nat.le_of_ble_eq_true rfl, Nat.le_of_ble_eq_true rfl⟩) hK hN hP hD [] rfl rfl rfl hl.1 rfl (Nat.le_of_ble_eq_true rfl) dX10_told_68 ⟨Nat.le_refl 0, Nat.le_refl 0⟩) hP hD hS hA [] ⟨rfl, rfl, rfl, rfl⟩ (fun H locs hP hD hS => ?_)
    obtain ⟨r6, hr6, h⟩ := lt_elim h
    refine ca_i (w' := [WX10 cy h0 a0 r6.2, WX0 cy (a0 0) a1 s1]) (rn_V (As := [.int (fJ13_bitCount_95d88 (gl s1 10))]) (rest := []) ⟨hx, hb, hml, hown, hts⟩ (kX10_answer l D cy h0 a0 s0 (fJ13_bitCount_95d88 (gl s1 10)) r6 hr6.symm H.size) (cwV 1 hts gX10_told_X10_answer rfl rfl rfl (by decide +kernel) ⟨Nat.le_of_ble_eq_true rfl, Nat.le_of_ble_eq_true rfl⟩) hK hN hP hD [0] rfl rfl (ci := 10) (q0 := 0) rfl rfl rfl rfl hl.1 rfl (Nat.le_of_ble_eq_true rfl) dX10_told_71 ⟨Nat.le_refl 0, Nat.le_refl 0⟩) hP hD hS hA [0] ⟨rfl, rfl, rfl, rfl⟩ (fun H locs hP hD hS => ?_)
    exact hret 74 H locs ls (r6.1, r6.2) h hP hD hS dX10_told_74
  replace h := (if_neg c5).symm.trans h
  by_cases c7 : p1 = (3 : Int32)
  · replace h := (if_pos c7).symm.trans h
    refine lv_tableIn (tgt := 75) hx hb dX10_told_1 (by rw [c7]; decide) (by rw [c7]; decide) (by rw [c7]; rfl) (by decide) ?_
    refine lv_aload_n hx hb dX10_told_75 rfl (lv_at hl 0 rfl) ?_
    refine lv_aload_n hx hb dX10_told_76 rfl (lv_at hl 0 rfl) ?_
    refine va_get (D := D) (ci := 10) (v := .ref (a0 0)) (C := RX10) (T := TX10) (N := 19) hx hb hts hinX10 hown hK hP 0 rfl rfl 0 (by decide) (hts (.fieldLink RX10 10 "KneeBench" "bench" "LKneeBench$Bench;") (List.mem_of_getElem? (i := 1) rfl)) (fun _ h9 => h9) rfl dX10_told_77 ?_
    refine va_getN (D := D) (ci := 0) (v := .long (gl s1 11)) (C := RX0) (T := TX0) (N := 14) hx hb hts hinX0 hown hK hP 1 rfl rfl 11 (by decide) (NW.fld hN 21 rfl _) (fun _ h9 => h9) rfl dX10_told_80 ?_
    refine ca_i (w' := [WX10 cy h0 a0 s0, WX0 cy (a0 0) a1 s1]) (rn_S (As := [.long (gl s1 11)]) (rest := [.ref h0]) ⟨hx, hb, hml, hown, hts⟩ (kJ13_bitCount_95d88 l D cy (gl s1 11) _ rfl H.size) (va_cwS 1 hts gX10_told_J13_bitCount_95d88 rfl rfl rfl (by decide +kernel) ⟨Nat.le_of_ble_eq_true rfl, Nat.le_of_ble_eq_true rfl⟩) hK hN hP hD [] rfl rfl rfl hl.1 rfl (Nat.le_of_ble_eq_true rfl) dX10_told_83 ⟨Nat.le_refl 0, Nat.le_refl 0⟩) hP hD hS hA [] ⟨rfl, rfl, rfl, rfl⟩ (fun H locs hP hD hS => ?_)
    obtain ⟨r8, hr8, h⟩ := lt_elim h
    refine ca_i (w' := [WX10 cy h0 a0 r8.2, WX0 cy (a0 0) a1 s1]) (rn_V (As := [.int (fJ13_bitCount_95d88 (gl s1 11))]) (rest := []) ⟨hx, hb, hml, hown, hts⟩ (kX10_answer l D cy h0 a0 s0 (fJ13_bitCount_95d88 (gl s1 11)) r8 hr8.symm H.size) (cwV 1 hts gX10_told_X10_answer rfl rfl rfl (by decide +kernel) ⟨Nat.le_of_ble_eq_true rfl, Nat.le_of_ble_eq_true rfl⟩) hK hN hP hD [0] rfl rfl (ci := 10) (q0 := 0) rfl rfl rfl rfl hl.1 rfl (Nat.le_of_ble_eq_true rfl) dX10_told_86 ⟨Nat.le_refl 0, Nat.le_refl 0⟩) hP hD hS hA [0] ⟨rfl, rfl, rfl, rfl⟩ (fun H locs hP hD hS => ?_)
    exact hret 89 H locs ls (r8.1, r8.2) h hP hD hS dX10_told_89
  replace h := (if_neg c7).symm.trans h
  by_cases c9 : p1 = (4 : Int32)
  · replace h := (if_pos c9).symm.trans h
    refine lv_tableIn (tgt := 90) hx hb dX10_told_1 (by rw [c9]; decide) (by rw [c9]; decide) (by rw [c9]; rfl) (by decide) ?_
    refine lv_aload_n hx hb dX10_told_90 rfl (lv_at hl 0 rfl) ?_
    refine lv_aload_n hx hb dX10_told_91 rfl (lv_at hl 0 rfl) ?_
    refine va_get (D := D) (ci := 10) (v := .ref (a0 0)) (C := RX10) (T := TX10) (N := 19) hx hb hts hinX10 hown hK hP 0 rfl rfl 0 (by decide) (hts (.fieldLink RX10 10 "KneeBench" "bench" "LKneeBench$Bench;") (List.mem_of_getElem? (i := 1) rfl)) (fun _ h9 => h9) rfl dX10_told_92 ?_
    refine va_getN (D := D) (ci := 0) (v := .int (gi s1 12)) (C := RX0) (T := TX0) (N := 14) hx hb hts hinX0 hown hK hP 1 rfl rfl 12 (by decide) (NW.fld hN 23 rfl _) (fun _ h9 => h9) rfl dX10_told_95 ?_
    obtain ⟨r10, hr10, h⟩ := lt_elim h
    refine ca_i (w' := [WX10 cy h0 a0 r10.2, WX0 cy (a0 0) a1 s1]) (rn_V (As := [.int (gi s1 12)]) (rest := []) ⟨hx, hb, hml, hown, hts⟩ (kX10_answer l D cy h0 a0 s0 (gi s1 12) r10 hr10.symm H.size) (cwV 1 hts gX10_told_X10_answer rfl rfl rfl (by decide +kernel) ⟨Nat.le_of_ble_eq_true rfl, Nat.le_of_ble_eq_true rfl⟩) hK hN hP hD [0] rfl rfl (ci := 10) (q0 := 0) rfl rfl rfl rfl hl.1 rfl (Nat.le_of_ble_eq_true rfl) dX10_told_98 ⟨Nat.le_refl 0, Nat.le_refl 0⟩) hP hD hS hA [0] ⟨rfl, rfl, rfl, rfl⟩ (fun H locs hP hD hS => ?_)
    exact hret 101 H locs ls (r10.1, r10.2) h hP hD hS dX10_told_101
  replace h := (if_neg c9).symm.trans h
  have ic1 : p1.toInt ≠ 0 := fun z => c1 (Int32.toInt_inj.mp (z.trans (by decide)))
  have ic3 : p1.toInt ≠ 1 := fun z => c3 (Int32.toInt_inj.mp (z.trans (by decide)))
  have ic5 : p1.toInt ≠ 2 := fun z => c5 (Int32.toInt_inj.mp (z.trans (by decide)))
  have ic7 : p1.toInt ≠ 3 := fun z => c7 (Int32.toInt_inj.mp (z.trans (by decide)))
  have ic9 : p1.toInt ≠ 4 := fun z => c9 (Int32.toInt_inj.mp (z.trans (by decide)))
  have hsw : p1.toInt < 0 ∨ 4 < p1.toInt := by omega
  refine lv_tdf (tgt := 102) hx hb dX10_told_1 ?_ (by decide) ?_
  · rcases hsw with z | z
    · exact Or.inl z
    · exact Or.inr (Or.inl z)
  refine lv_aload_n hx hb dX10_told_102 rfl (lv_at hl 0 rfl) ?_
  refine lv_iconst (v := 1) hx hb dX10_told_103 (by decide) ?_
  obtain ⟨r11, hr11, h⟩ := lt_elim h
  refine ca_i (w' := [WX10 cy h0 a0 r11.2, WX0 cy (a0 0) a1 s1]) (rn_V (As := [.int (1 : Int32)]) (rest := []) ⟨hx, hb, hml, hown, hts⟩ (kX10_refuse l D cy h0 a0 s0 (1 : Int32) r11 hr11.symm H.size) (cwV 1 hts gX10_told_X10_refuse rfl rfl rfl (by decide +kernel) ⟨Nat.le_of_ble_eq_true rfl, Nat.le_of_ble_eq_true rfl⟩) hK hN hP hD [0] rfl rfl (ci := 10) (q0 := 0) rfl rfl rfl rfl hl.1 rfl (Nat.le_of_ble_eq_true rfl) dX10_told_104 ⟨Nat.le_refl 0, Nat.le_refl 0⟩) hP hD hS hA [0] ⟨rfl, rfl, rfl, rfl⟩ (fun H locs hP hD hS => ?_)
  exact hret 107 H locs ls (r11.1, r11.2) h hP hD hS dX10_told_107
set_option maxRecDepth 20000 in
theorem ggX10_toldBy_X10_noFarmer : GoodIn wsX10_toldBy wsX10_noFarmer := goodIn_r _ [6, 1, 47, 48, 49, 50, 51, 52, 53, 54, 55, 56, 57, 58, 59, 60, 61, 62, 63, 64, 65, 66, 67, 68, 69, 70, 71, 72, 73, 74, 75, 76, 77, 78, 79] (by decide +kernel) (by decide +kernel)
set_option maxRecDepth 20000 in
theorem gX10_toldBy_X10_noFarmer : GoodIn wsX10_toldBy (wsV RX10 215 RX10 yX10_noFarmer wsX10_noFarmer) := goodIn_app (goodIn_of _ (by decide +kernel)) ggX10_toldBy_X10_noFarmer
set_option maxRecDepth 20000 in
theorem ggX10_toldBy_X10_refuse : GoodIn wsX10_toldBy wsX10_refuse := goodIn_r _ [10, 11, 47, 48, 49, 50, 51, 52, 53, 54, 55, 56, 57, 58, 59, 60, 61, 62, 63, 64, 65] (by decide +kernel) (by decide +kernel)
set_option maxRecDepth 20000 in
theorem gX10_toldBy_X10_refuse : GoodIn wsX10_toldBy (wsV RX10 139 RX10 yX10_refuse wsX10_refuse) := goodIn_app (goodIn_of _ (by decide +kernel)) ggX10_toldBy_X10_refuse
set_option maxRecDepth 20000 in
theorem ggX10_toldBy_X0_toldDays : GoodIn wsX10_toldBy wsX0_toldDays := goodIn_r _ [16, 17, 18, 19, 20, 15, 21, 22, 23, 24, 25, 26, 27, 28, 5, 29, 30, 31, 32, 33, 34, 35, 66, 67, 68, 69, 70, 71, 72, 73, 74, 75, 76, 77, 78, 79] (by decide +kernel) (by decide +kernel)
set_option maxRecDepth 20000 in
theorem gX10_toldBy_X0_toldDays : GoodIn wsX10_toldBy (wsV RX10 308 RX0 yX0_toldDays wsX0_toldDays) := goodIn_app (goodIn_of _ (by decide +kernel)) ggX10_toldBy_X0_toldDays
set_option maxRecDepth 20000 in
theorem ggX10_toldBy_J13_bitCount_95d88 : GoodIn wsX10_toldBy wsJ13_bitCount_95d88 := goodIn_r _ [39, 40, 41, 42] (by decide +kernel) (by decide +kernel)
set_option maxRecDepth 20000 in
theorem gX10_toldBy_J13_bitCount_95d88 : GoodIn wsX10_toldBy (va_wsS RX10 203 yJ13_bitCount_95d88 wsJ13_bitCount_95d88) := goodIn_app (goodIn_of _ (by decide +kernel)) ggX10_toldBy_J13_bitCount_95d88
set_option maxRecDepth 20000 in
theorem ggX10_toldBy_X10_answer : GoodIn wsX10_toldBy wsX10_answer := goodIn_r _ [46, 11, 47, 48, 49, 50, 51, 52, 53, 54, 55, 56, 57, 58, 59, 60, 61, 62, 63, 64, 65] (by decide +kernel) (by decide +kernel)
set_option maxRecDepth 20000 in
theorem gX10_toldBy_X10_answer : GoodIn wsX10_toldBy (wsV RX10 181 RX10 yX10_answer wsX10_answer) := goodIn_app (goodIn_of _ (by decide +kernel)) ggX10_toldBy_X10_answer
theorem dX10_toldBy_0 : decode cX10_toldBy 0 = .ok (.aload_n 0, 1) := by decide +kernel
theorem dX10_toldBy_1 : decode cX10_toldBy 1 = .ok (.iload_n 1, 1) := by decide +kernel
theorem dX10_toldBy_2 : decode cX10_toldBy 2 = .ok (.invokevirtual 215, 3) := by decide +kernel
theorem dX10_toldBy_5 : decode cX10_toldBy 5 = .ok (.ifCond .eq 9, 3) := by decide +kernel
theorem dX10_toldBy_8 : decode cX10_toldBy 8 = .ok (.aload_n 0, 1) := by decide +kernel
theorem dX10_toldBy_9 : decode cX10_toldBy 9 = .ok (.iconst 1, 1) := by decide +kernel
theorem dX10_toldBy_10 : decode cX10_toldBy 10 = .ok (.invokevirtual 139, 3) := by decide +kernel
theorem dX10_toldBy_13 : decode cX10_toldBy 13 = .ok (.ireturn, 1) := by decide +kernel
theorem dX10_toldBy_14 : decode cX10_toldBy 14 = .ok (.aload_n 0, 1) := by decide +kernel
theorem dX10_toldBy_15 : decode cX10_toldBy 15 = .ok (.aload_n 0, 1) := by decide +kernel
theorem dX10_toldBy_16 : decode cX10_toldBy 16 = .ok (.getfield 10, 3) := by decide +kernel
theorem dX10_toldBy_19 : decode cX10_toldBy 19 = .ok (.iload_n 1, 1) := by decide +kernel
theorem dX10_toldBy_20 : decode cX10_toldBy 20 = .ok (.invokevirtual 308, 3) := by decide +kernel
theorem dX10_toldBy_23 : decode cX10_toldBy 23 = .ok (.invokestatic 203, 3) := by decide +kernel
theorem dX10_toldBy_26 : decode cX10_toldBy 26 = .ok (.invokevirtual 181, 3) := by decide +kernel
theorem dX10_toldBy_29 : decode cX10_toldBy 29 = .ok (.ireturn, 1) := by decide +kernel
abbrev rmX10_toldBy : Room := { frames := 3, cells := 0, slots := 0, locals := 62 }
set_option maxHeartbeats 4000000 in
set_option maxRecDepth 100000 in
theorem kX10_toldBy (l : Launch) (D : va_G) (cy : Nat → ClassId) (h0 : Nat) (a0 : Nat → Nat) (a1 : Nat → Nat) (s0 : Rc) (s1 : Rc) (p1 : Int32) (res : Int32 × Rc) (h : fX10_toldBy p1 s0 s1 = some res) : CI l D cy yX10_toldBy wsX10_toldBy rmX10_toldBy [.ref h0, .int p1] (flat [WX10 cy h0 a0 s0, WX0 cy (a0 0) a1 s1]) (flat [WX10 cy h0 a0 res.2, WX0 cy (a0 0) a1 s1]) res.1 := by
  refine CI.of (cc := cX10_toldBy) (maxL := 2) (by decide) rfl (Nat.le_of_ble_eq_true rfl) ?_
  intro p e s m args below meth c A QQ ls E hr
  obtain ⟨hx, hb, hml, hown, hts, hK, hN, hP, hD, hA, hl⟩ := E
  have hret : ∀ (pc : Nat) (H : Heap) (locs : List Loc) (ls : Array Slot) (u : Int32 × Rc), u = res → va_P D vwCl (flat [WX10 cy h0 a0 u.2, WX0 cy (a0 0) a1 s1]) H → va_D A (flat [WX10 cy h0 a0 u.2, WX0 cy (a0 0) a1 s1]) → va_S A s.heap H locs → decode cX10_toldBy pc = .ok (.ireturn, 1) → W p l e rmX10_toldBy s m args below meth c H locs 0 0 QQ (F0 m pc ls [.int u.1]) := by
    intro pc H locs ls u hu hP hD hS hd; subst hu; exact hr pc H locs ls _ rfl hP hD hS hd
  clear hr
  have hl : lv_has ls 2 [(0, .ref h0), (1, .int p1)] := hl
  have hinX10 : ∀ w ∈ wsX100, w ∈ wsX10_toldBy := fun _ h => List.mem_cons_of_mem _ (List.mem_append_left _ (List.mem_append_right _ h))
  unfold fX10_toldBy at h
  suffices key : ∀ (H : Heap) (locs : List Loc), va_P D vwCl (flat [WX10 cy h0 a0 s0, WX0 cy (a0 0) a1 s1]) H → va_S A s.heap H locs → W p l e rmX10_toldBy s m args below meth c H locs 0 0 QQ (F0 m 0 ls []) from key _ _ hP va_S.rf
  clear hP
  intro H locs hP hS
  refine lv_aload_n hx hb dX10_toldBy_0 rfl (lv_at hl 0 rfl) ?_
  refine lv_iload_n hx hb dX10_toldBy_1 rfl (lv_at hl 1 rfl) ?_
  refine ca_z (w' := [WX10 cy h0 a0 s0, WX0 cy (a0 0) a1 s1]) (rn_V (As := [.int p1]) (rest := []) ⟨hx, hb, hml, hown, hts⟩ (kX10_noFarmer l D cy h0 a0 a1 s0 s1 p1 _ rfl H.size) (cwV 1 hts gX10_toldBy_X10_noFarmer rfl rfl rfl (by decide +kernel) ⟨Nat.le_of_ble_eq_true rfl, Nat.le_of_ble_eq_true rfl⟩) hK hN hP hD [0, 1] rfl rfl (ci := 10) (q0 := 0) rfl rfl rfl rfl hl.1 rfl (Nat.le_of_ble_eq_true rfl) dX10_toldBy_2 ⟨Nat.le_refl 0, Nat.le_refl 0⟩) hP hD hS hA [0, 1] ⟨rfl, rfl, rfl, rfl⟩ (fun b1 H locs hP hD hS => ?_)
  refine lv_if_eq (tgt := 14) hx hb dX10_toldBy_5 (by decide) (fun c2 => ?_) (fun c2 => ?_)
  · replace h := (if_pos c2).symm.trans h
    refine lv_aload_n hx hb dX10_toldBy_14 rfl (lv_at hl 0 rfl) ?_
    refine lv_aload_n hx hb dX10_toldBy_15 rfl (lv_at hl 0 rfl) ?_
    refine va_get (D := D) (ci := 10) (v := .ref (a0 0)) (C := RX10) (T := TX10) (N := 19) hx hb hts hinX10 hown hK hP 0 rfl rfl 0 (by decide) (hts (.fieldLink RX10 10 "KneeBench" "bench" "LKneeBench$Bench;") (List.mem_of_getElem? (i := 1) rfl)) (fun _ h9 => h9) rfl dX10_toldBy_16 ?_
    refine lv_iload_n hx hb dX10_toldBy_19 rfl (lv_at hl 1 rfl) ?_
    obtain ⟨r3, hr3, h⟩ := bd_elim h
    refine ca_l (w' := [WX10 cy h0 a0 s0, WX0 cy (a0 0) a1 s1]) (rn_V (As := [.int p1]) (rest := [.ref h0]) ⟨hx, hb, hml, hown, hts⟩ (kX0_toldDays l D cy (a0 0) a1 s1 p1 r3 hr3 H.size) (cwV 1 hts gX10_toldBy_X0_toldDays rfl rfl rfl (by decide +kernel) ⟨Nat.le_of_ble_eq_true rfl, Nat.le_of_ble_eq_true rfl⟩) hK hN hP hD [1] rfl rfl (ci := 0) (q0 := 1) rfl rfl rfl rfl hl.1 rfl (Nat.le_of_ble_eq_true rfl) dX10_toldBy_20 ⟨Nat.le_refl 0, Nat.le_refl 0⟩) hP hD hS hA [1] ⟨rfl, rfl, rfl, rfl⟩ (fun H locs hP hD hS => ?_)
    refine ca_i (w' := [WX10 cy h0 a0 s0, WX0 cy (a0 0) a1 s1]) (rn_S (As := [.long r3]) (rest := [.ref h0]) ⟨hx, hb, hml, hown, hts⟩ (kJ13_bitCount_95d88 l D cy r3 _ rfl H.size) (va_cwS 1 hts gX10_toldBy_J13_bitCount_95d88 rfl rfl rfl (by decide +kernel) ⟨Nat.le_of_ble_eq_true rfl, Nat.le_of_ble_eq_true rfl⟩) hK hN hP hD [] rfl rfl rfl hl.1 rfl (Nat.le_of_ble_eq_true rfl) dX10_toldBy_23 ⟨Nat.le_refl 0, Nat.le_refl 0⟩) hP hD hS hA [] ⟨rfl, rfl, rfl, rfl⟩ (fun H locs hP hD hS => ?_)
    obtain ⟨r4, hr4, h⟩ := lt_elim h
    refine ca_i (w' := [WX10 cy h0 a0 r4.2, WX0 cy (a0 0) a1 s1]) (rn_V (As := [.int (fJ13_bitCount_95d88 r3)]) (rest := []) ⟨hx, hb, hml, hown, hts⟩ (kX10_answer l D cy h0 a0 s0 (fJ13_bitCount_95d88 r3) r4 hr4.symm H.size) (cwV 1 hts gX10_toldBy_X10_answer rfl rfl rfl (by decide +kernel) ⟨Nat.le_of_ble_eq_true rfl, Nat.le_of_ble_eq_true rfl⟩) hK hN hP hD [0] rfl rfl (ci := 10) (q0 := 0) rfl rfl rfl rfl hl.1 rfl (Nat.le_of_ble_eq_true rfl) dX10_toldBy_26 ⟨Nat.le_refl 0, Nat.le_refl 0⟩) hP hD hS hA [0] ⟨rfl, rfl, rfl, rfl⟩ (fun H locs hP hD hS => ?_)
    exact hret 29 H locs ls (r4.1, r4.2) (Option.some.inj h) hP hD hS dX10_toldBy_29
  · replace h := (if_neg c2).symm.trans h
    refine lv_aload_n hx hb dX10_toldBy_8 rfl (lv_at hl 0 rfl) ?_
    refine lv_iconst (v := 1) hx hb dX10_toldBy_9 (by decide) ?_
    obtain ⟨r5, hr5, h⟩ := lt_elim h
    refine ca_i (w' := [WX10 cy h0 a0 r5.2, WX0 cy (a0 0) a1 s1]) (rn_V (As := [.int (1 : Int32)]) (rest := []) ⟨hx, hb, hml, hown, hts⟩ (kX10_refuse l D cy h0 a0 s0 (1 : Int32) r5 hr5.symm H.size) (cwV 1 hts gX10_toldBy_X10_refuse rfl rfl rfl (by decide +kernel) ⟨Nat.le_of_ble_eq_true rfl, Nat.le_of_ble_eq_true rfl⟩) hK hN hP hD [0] rfl rfl (ci := 10) (q0 := 0) rfl rfl rfl rfl hl.1 rfl (Nat.le_of_ble_eq_true rfl) dX10_toldBy_10 ⟨Nat.le_refl 0, Nat.le_refl 0⟩) hP hD hS hA [0] ⟨rfl, rfl, rfl, rfl⟩ (fun H locs hP hD hS => ?_)
    exact hret 13 H locs ls (r5.1, r5.2) (Option.some.inj h) hP hD hS dX10_toldBy_13
theorem dX10_top_0 : decode cX10_top 0 = .ok (.aload_n 0, 1) := by decide +kernel
theorem dX10_top_1 : decode cX10_top 1 = .ok (.getfield 105, 3) := by decide +kernel
theorem dX10_top_4 : decode cX10_top 4 = .ok (.lreturn, 1) := by decide +kernel
abbrev rmX10_top : Room := { frames := 0, cells := 0, slots := 0, locals := 0 }
set_option maxHeartbeats 4000000 in
set_option maxRecDepth 100000 in
theorem kX10_top (l : Launch) (D : va_G) (cy : Nat → ClassId) (h0 : Nat) (a0 : Nat → Nat) (s0 : Rc) (res : Int64) (h : fX10_top s0 = res) : CL l D cy yX10_top wsX10_top rmX10_top [.ref h0] (flat [WX10 cy h0 a0 s0]) (flat [WX10 cy h0 a0 s0]) res := by
  refine CL.of (cc := cX10_top) (maxL := 1) (by decide) rfl (Nat.le_of_ble_eq_true rfl) ?_
  intro p e s m args below meth c A QQ ls E hr
  obtain ⟨hx, hb, hml, hown, hts, hK, hN, hP, hD, hA, hl⟩ := E
  have hret : ∀ (pc : Nat) (H : Heap) (locs : List Loc) (ls : Array Slot) (u : Int64), u = res → va_P D vwCl (flat [WX10 cy h0 a0 s0]) H → va_D A (flat [WX10 cy h0 a0 s0]) → va_S A s.heap H locs → decode cX10_top pc = .ok (.lreturn, 1) → W p l e rmX10_top s m args below meth c H locs 0 0 QQ (F0 m pc ls [.long u]) := by
    intro pc H locs ls u hu hP hD hS hd; subst hu; exact hr pc H locs ls _ rfl hP hD hS hd
  clear hr
  have hl : lv_has ls 1 [(0, .ref h0)] := hl
  have hinX10 : ∀ w ∈ wsX100, w ∈ wsX10_top := fun _ h => List.mem_cons_of_mem _ (List.mem_append_right _ h)
  unfold fX10_top at h
  suffices key : ∀ (H : Heap) (locs : List Loc), va_P D vwCl (flat [WX10 cy h0 a0 s0]) H → va_S A s.heap H locs → W p l e rmX10_top s m args below meth c H locs 0 0 QQ (F0 m 0 ls []) from key _ _ hP va_S.rf
  clear hP
  intro H locs hP hS
  refine lv_aload_n hx hb dX10_top_0 rfl (lv_at hl 0 rfl) ?_
  refine va_get (D := D) (ci := 10) (v := .long (gl s0 17)) (C := RX10) (T := TX10) (N := 19) hx hb hts hinX10 hown hK hP 0 rfl rfl 17 (by decide) (hts (.fieldLink RX10 105 "KneeBench" "fractionTop" "J") (List.mem_of_getElem? (i := 1) rfl)) (fun _ h9 => h9) rfl dX10_top_1 ?_
  exact hret 4 H locs ls (gl s0 17) h hP hD hS dX10_top_4
set_option maxRecDepth 20000 in
theorem ggX10_tray_X10_noTray : GoodIn wsX10_tray wsX10_noTray := goodIn_r _ [5, 6, 7, 4, 8] (by decide +kernel) (by decide +kernel)
set_option maxRecDepth 20000 in
theorem gX10_tray_X10_noTray : GoodIn wsX10_tray (va_wsS RX10 112 yX10_noTray wsX10_noTray) := goodIn_app (goodIn_of _ (by decide +kernel)) ggX10_tray_X10_noTray
set_option maxRecDepth 20000 in
theorem ggX10_tray_X10_outside : GoodIn wsX10_tray wsX10_outside := goodIn_r _ [8] (by decide +kernel) (by decide +kernel)
set_option maxRecDepth 20000 in
theorem gX10_tray_X10_outside : GoodIn wsX10_tray (va_wsS RX10 116 yX10_outside wsX10_outside) := goodIn_app (goodIn_of _ (by decide +kernel)) ggX10_tray_X10_outside
set_option maxRecDepth 20000 in
theorem ggX10_tray_X10_deny : GoodIn wsX10_tray wsX10_deny := goodIn_r _ [12, 13, 26, 27, 28, 29, 30, 31, 32, 33, 34, 35, 36, 37, 38, 39, 40, 41, 42, 43, 44] (by decide +kernel) (by decide +kernel)
set_option maxRecDepth 20000 in
theorem gX10_tray_X10_deny : GoodIn wsX10_tray (wsV RX10 120 RX10 yX10_deny wsX10_deny) := goodIn_app (goodIn_of _ (by decide +kernel)) ggX10_tray_X10_deny
set_option maxRecDepth 20000 in
theorem ggX10_tray_X9_lay : GoodIn wsX10_tray wsX9_lay := goodIn_r _ [18, 19, 20, 21, 45, 46, 47] (by decide +kernel) (by decide +kernel)
set_option maxRecDepth 20000 in
theorem gX10_tray_X9_lay : GoodIn wsX10_tray (wsV RX10 123 RX9 yX9_lay wsX9_lay) := goodIn_app (goodIn_of _ (by decide +kernel)) ggX10_tray_X9_lay
set_option maxRecDepth 20000 in
theorem ggX10_tray_X10_allow : GoodIn wsX10_tray wsX10_allow := goodIn_r _ [25, 13, 26, 27, 28, 29, 30, 31, 32, 33, 34, 35, 36, 37, 38, 39, 40, 41, 42, 43, 44] (by decide +kernel) (by decide +kernel)
set_option maxRecDepth 20000 in
theorem gX10_tray_X10_allow : GoodIn wsX10_tray (wsV RX10 127 RX10 yX10_allow wsX10_allow) := goodIn_app (goodIn_of _ (by decide +kernel)) ggX10_tray_X10_allow
theorem dX10_tray_0 : decode cX10_tray 0 = .ok (.iload_n 1, 1) := by decide +kernel
theorem dX10_tray_1 : decode cX10_tray 1 = .ok (.invokestatic 112, 3) := by decide +kernel
theorem dX10_tray_4 : decode cX10_tray 4 = .ok (.ifCond .ne 22, 3) := by decide +kernel
theorem dX10_tray_7 : decode cX10_tray 7 = .ok (.iload_n 2, 1) := by decide +kernel
theorem dX10_tray_8 : decode cX10_tray 8 = .ok (.iconst 0, 1) := by decide +kernel
theorem dX10_tray_9 : decode cX10_tray 9 = .ok (.iconst 3, 1) := by decide +kernel
theorem dX10_tray_10 : decode cX10_tray 10 = .ok (.invokestatic 116, 3) := by decide +kernel
theorem dX10_tray_13 : decode cX10_tray 13 = .ok (.ifCond .ne 13, 3) := by decide +kernel
theorem dX10_tray_16 : decode cX10_tray 16 = .ok (.iload_n 3, 1) := by decide +kernel
theorem dX10_tray_17 : decode cX10_tray 17 = .ok (.iconst 0, 1) := by decide +kernel
theorem dX10_tray_18 : decode cX10_tray 18 = .ok (.bipush 60, 2) := by decide +kernel
theorem dX10_tray_20 : decode cX10_tray 20 = .ok (.invokestatic 116, 3) := by decide +kernel
theorem dX10_tray_23 : decode cX10_tray 23 = .ok (.ifCond .eq 9, 3) := by decide +kernel
theorem dX10_tray_26 : decode cX10_tray 26 = .ok (.aload_n 0, 1) := by decide +kernel
theorem dX10_tray_27 : decode cX10_tray 27 = .ok (.iconst 1, 1) := by decide +kernel
theorem dX10_tray_28 : decode cX10_tray 28 = .ok (.invokevirtual 120, 3) := by decide +kernel
theorem dX10_tray_31 : decode cX10_tray 31 = .ok (.ireturn, 1) := by decide +kernel
theorem dX10_tray_32 : decode cX10_tray 32 = .ok (.aload_n 0, 1) := by decide +kernel
theorem dX10_tray_33 : decode cX10_tray 33 = .ok (.getfield 45, 3) := by decide +kernel
theorem dX10_tray_36 : decode cX10_tray 36 = .ok (.iload_n 1, 1) := by decide +kernel
theorem dX10_tray_37 : decode cX10_tray 37 = .ok (.iload_n 2, 1) := by decide +kernel
theorem dX10_tray_38 : decode cX10_tray 38 = .ok (.iload_n 3, 1) := by decide +kernel
theorem dX10_tray_39 : decode cX10_tray 39 = .ok (.invokevirtual 123, 3) := by decide +kernel
theorem dX10_tray_42 : decode cX10_tray 42 = .ok (.aload_n 0, 1) := by decide +kernel
theorem dX10_tray_43 : decode cX10_tray 43 = .ok (.invokevirtual 127, 3) := by decide +kernel
theorem dX10_tray_46 : decode cX10_tray 46 = .ok (.ireturn, 1) := by decide +kernel
abbrev rmX10_tray : Room := { frames := 2, cells := 0, slots := 0, locals := 42 }
set_option maxHeartbeats 4000000 in
set_option maxRecDepth 100000 in
theorem kX10_tray (l : Launch) (D : va_G) (cy : Nat → ClassId) (h0 : Nat) (a0 : Nat → Nat) (a1 : Nat → Nat) (s0 : Rc) (s1 : Rc) (p1 : Int32) (p2 : Int32) (p3 : Int32) (res : Int32 × Rc × Rc) (h : fX10_tray p1 p2 p3 s0 s1 = some res) : CZ l D cy yX10_tray wsX10_tray rmX10_tray [.ref h0, .int p1, .int p2, .int p3] (flat [WX10 cy h0 a0 s0, WX9 cy (a0 7) a1 s1]) (flat [WX10 cy h0 a0 res.2.1, WX9 cy (a0 7) a1 res.2.2]) res.1 := by
  refine CZ.of (cc := cX10_tray) (maxL := 4) (by decide) rfl (Nat.le_of_ble_eq_true rfl) ?_
  intro p e s m args below meth c A QQ ls E hr
  obtain ⟨hx, hb, hml, hown, hts, hK, hN, hP, hD, hA, hl⟩ := E
  have hret : ∀ (pc : Nat) (H : Heap) (locs : List Loc) (ls : Array Slot) (u : Int32 × Rc × Rc), u = res → va_P D vwCl (flat [WX10 cy h0 a0 u.2.1, WX9 cy (a0 7) a1 u.2.2]) H → va_D A (flat [WX10 cy h0 a0 u.2.1, WX9 cy (a0 7) a1 u.2.2]) → va_S A s.heap H locs → isb u.1 = true → decode cX10_tray pc = .ok (.ireturn, 1) → W p l e rmX10_tray s m args below meth c H locs 0 0 QQ (F0 m pc ls [.int u.1]) := by
    intro pc H locs ls u hu hP hD hS hz hd; subst hu; exact hr pc H locs ls _ rfl hP hD hS hz hd
  clear hr
  have hl : lv_has ls 4 [(0, .ref h0), (1, .int p1), (2, .int p2), (3, .int p3)] := hl
  have hinX10 : ∀ w ∈ wsX100, w ∈ wsX10_tray := fun _ h => List.mem_cons_of_mem _ (List.mem_append_left _ (List.mem_append_right _ h))
  unfold fX10_tray at h
  suffices key : ∀ (H : Heap) (locs : List Loc), va_P D vwCl (flat [WX10 cy h0 a0 s0, WX9 cy (a0 7) a1 s1]) H → va_S A s.heap H locs → W p l e rmX10_tray s m args below meth c H locs 0 0 QQ (F0 m 0 ls []) from key _ _ hP va_S.rf
  clear hP
  intro H locs hP hS
  refine lv_iload_n hx hb dX10_tray_0 rfl (lv_at hl 1 rfl) ?_
  refine ca_z (w' := [WX10 cy h0 a0 s0, WX9 cy (a0 7) a1 s1]) (rn_S (As := [.int p1]) (rest := []) ⟨hx, hb, hml, hown, hts⟩ (kX10_noTray l D cy p1 _ rfl H.size) (va_cwS 1 hts gX10_tray_X10_noTray rfl rfl rfl (by decide +kernel) ⟨Nat.le_of_ble_eq_true rfl, Nat.le_of_ble_eq_true rfl⟩) hK hN hP hD [] rfl rfl rfl hl.1 rfl (Nat.le_of_ble_eq_true rfl) dX10_tray_1 ⟨Nat.le_refl 0, Nat.le_refl 0⟩) hP hD hS hA [] ⟨rfl, rfl, rfl, rfl⟩ (fun b1 H locs hP hD hS => ?_)
  refine lv_if_ne (tgt := 26) hx hb dX10_tray_4 (by decide) (fun c2 => ?_) (fun c2 => ?_)
  · replace h := (if_neg c2).symm.trans h
    refine lv_aload_n hx hb dX10_tray_26 rfl (lv_at hl 0 rfl) ?_
    refine lv_iconst (v := 1) hx hb dX10_tray_27 (by decide) ?_
    obtain ⟨r3, hr3, h⟩ := lt_elim h
    refine ca_z (w' := [WX10 cy h0 a0 r3.2, WX9 cy (a0 7) a1 s1]) (rn_V (As := [.int (1 : Int32)]) (rest := []) ⟨hx, hb, hml, hown, hts⟩ (kX10_deny l D cy h0 a0 s0 (1 : Int32) r3 hr3.symm H.size) (cwV 1 hts gX10_tray_X10_deny rfl rfl rfl (by decide +kernel) ⟨Nat.le_of_ble_eq_true rfl, Nat.le_of_ble_eq_true rfl⟩) hK hN hP hD [0] rfl rfl (ci := 10) (q0 := 0) rfl rfl rfl rfl hl.1 rfl (Nat.le_of_ble_eq_true rfl) dX10_tray_28 ⟨Nat.le_refl 0, Nat.le_refl 0⟩) hP hD hS hA [0] ⟨rfl, rfl, rfl, rfl⟩ (fun b4 H locs hP hD hS => ?_)
    exact hret 31 H locs ls (r3.1, r3.2, s1) (Option.some.inj h) hP hD hS b4 dX10_tray_31
  · replace h := (if_pos c2).symm.trans h
    refine lv_iload_n hx hb dX10_tray_7 rfl (lv_at hl 2 rfl) ?_
    refine lv_iconst (v := 0) hx hb dX10_tray_8 (by decide) ?_
    refine lv_iconst (v := 3) hx hb dX10_tray_9 (by decide) ?_
    refine ca_z (w' := [WX10 cy h0 a0 s0, WX9 cy (a0 7) a1 s1]) (rn_S (As := [.int p2, .int (0 : Int32), .int (3 : Int32)]) (rest := []) ⟨hx, hb, hml, hown, hts⟩ (kX10_outside l D cy p2 (0 : Int32) (3 : Int32) _ rfl H.size) (va_cwS 3 hts gX10_tray_X10_outside rfl rfl rfl (by decide +kernel) ⟨Nat.le_of_ble_eq_true rfl, Nat.le_of_ble_eq_true rfl⟩) hK hN hP hD [] rfl rfl rfl hl.1 rfl (Nat.le_of_ble_eq_true rfl) dX10_tray_10 ⟨Nat.le_refl 0, Nat.le_refl 0⟩) hP hD hS hA [] ⟨rfl, rfl, rfl, rfl⟩ (fun b5 H locs hP hD hS => ?_)
    refine lv_if_ne (tgt := 26) hx hb dX10_tray_13 (by decide) (fun c6 => ?_) (fun c6 => ?_)
    · replace h := (if_neg c6).symm.trans h
      refine lv_aload_n hx hb dX10_tray_26 rfl (lv_at hl 0 rfl) ?_
      refine lv_iconst (v := 1) hx hb dX10_tray_27 (by decide) ?_
      obtain ⟨r7, hr7, h⟩ := lt_elim h
      refine ca_z (w' := [WX10 cy h0 a0 r7.2, WX9 cy (a0 7) a1 s1]) (rn_V (As := [.int (1 : Int32)]) (rest := []) ⟨hx, hb, hml, hown, hts⟩ (kX10_deny l D cy h0 a0 s0 (1 : Int32) r7 hr7.symm H.size) (cwV 1 hts gX10_tray_X10_deny rfl rfl rfl (by decide +kernel) ⟨Nat.le_of_ble_eq_true rfl, Nat.le_of_ble_eq_true rfl⟩) hK hN hP hD [0] rfl rfl (ci := 10) (q0 := 0) rfl rfl rfl rfl hl.1 rfl (Nat.le_of_ble_eq_true rfl) dX10_tray_28 ⟨Nat.le_refl 0, Nat.le_refl 0⟩) hP hD hS hA [0] ⟨rfl, rfl, rfl, rfl⟩ (fun b8 H locs hP hD hS => ?_)
      exact hret 31 H locs ls (r7.1, r7.2, s1) (Option.some.inj h) hP hD hS b8 dX10_tray_31
    · replace h := (if_pos c6).symm.trans h
      refine lv_iload_n hx hb dX10_tray_16 rfl (lv_at hl 3 rfl) ?_
      refine lv_iconst (v := 0) hx hb dX10_tray_17 (by decide) ?_
      refine lv_bipush (v := 60) hx hb dX10_tray_18 (by decide) ?_
      refine ca_z (w' := [WX10 cy h0 a0 s0, WX9 cy (a0 7) a1 s1]) (rn_S (As := [.int p3, .int (0 : Int32), .int (60 : Int32)]) (rest := []) ⟨hx, hb, hml, hown, hts⟩ (kX10_outside l D cy p3 (0 : Int32) (60 : Int32) _ rfl H.size) (va_cwS 3 hts gX10_tray_X10_outside rfl rfl rfl (by decide +kernel) ⟨Nat.le_of_ble_eq_true rfl, Nat.le_of_ble_eq_true rfl⟩) hK hN hP hD [] rfl rfl rfl hl.1 rfl (Nat.le_of_ble_eq_true rfl) dX10_tray_20 ⟨Nat.le_refl 0, Nat.le_refl 0⟩) hP hD hS hA [] ⟨rfl, rfl, rfl, rfl⟩ (fun b9 H locs hP hD hS => ?_)
      refine lv_if_eq (tgt := 32) hx hb dX10_tray_23 (by decide) (fun c10 => ?_) (fun c10 => ?_)
      · replace h := (if_pos c10).symm.trans h
        refine lv_aload_n hx hb dX10_tray_32 rfl (lv_at hl 0 rfl) ?_
        refine va_get (D := D) (ci := 10) (v := .ref (a0 7)) (C := RX10) (T := TX10) (N := 19) hx hb hts hinX10 hown hK hP 0 rfl rfl 7 (by decide) (hts (.fieldLink RX10 45 "KneeBench" "trays" "LKneeBench$Trays;") (List.mem_of_getElem? (i := 1) rfl)) (fun _ h9 => h9) rfl dX10_tray_33 ?_
        refine lv_iload_n hx hb dX10_tray_36 rfl (lv_at hl 1 rfl) ?_
        refine lv_iload_n hx hb dX10_tray_37 rfl (lv_at hl 2 rfl) ?_
        refine lv_iload_n hx hb dX10_tray_38 rfl (lv_at hl 3 rfl) ?_
        obtain ⟨r11, hr11, h⟩ := bd_elim h
        refine ca_v (w' := [WX10 cy h0 a0 s0, WX9 cy (a0 7) a1 r11]) (rn_V (As := [.int p1, .int p2, .int p3]) (rest := []) ⟨hx, hb, hml, hown, hts⟩ (kX9_lay l D cy (a0 7) a1 s1 p1 p2 p3 r11 hr11 H.size) (cwV 3 hts gX10_tray_X9_lay rfl rfl rfl (by decide +kernel) ⟨Nat.le_of_ble_eq_true rfl, Nat.le_of_ble_eq_true rfl⟩) hK hN hP hD [1] rfl rfl (ci := 9) (q0 := 1) rfl rfl rfl rfl hl.1 rfl (Nat.le_of_ble_eq_true rfl) dX10_tray_39 ⟨Nat.le_refl 0, Nat.le_refl 0⟩) hP hD hS hA [1] ⟨rfl, rfl, rfl, rfl⟩ (fun H locs hP hD hS => ?_)
        refine lv_aload_n hx hb dX10_tray_42 rfl (lv_at hl 0 rfl) ?_
        obtain ⟨r12, hr12, h⟩ := lt_elim h
        refine ca_z (w' := [WX10 cy h0 a0 r12.2, WX9 cy (a0 7) a1 r11]) (rn_V (As := []) (rest := []) ⟨hx, hb, hml, hown, hts⟩ (kX10_allow l D cy h0 a0 s0 r12 hr12.symm H.size) (cwV 0 hts gX10_tray_X10_allow rfl rfl rfl (by decide +kernel) ⟨Nat.le_of_ble_eq_true rfl, Nat.le_of_ble_eq_true rfl⟩) hK hN hP hD [0] rfl rfl (ci := 10) (q0 := 0) rfl rfl rfl rfl hl.1 rfl (Nat.le_of_ble_eq_true rfl) dX10_tray_43 ⟨Nat.le_refl 0, Nat.le_refl 0⟩) hP hD hS hA [0] ⟨rfl, rfl, rfl, rfl⟩ (fun b13 H locs hP hD hS => ?_)
        exact hret 46 H locs ls (r12.1, r12.2, r11) (Option.some.inj h) hP hD hS b13 dX10_tray_46
      · replace h := (if_neg c10).symm.trans h
        refine lv_aload_n hx hb dX10_tray_26 rfl (lv_at hl 0 rfl) ?_
        refine lv_iconst (v := 1) hx hb dX10_tray_27 (by decide) ?_
        obtain ⟨r14, hr14, h⟩ := lt_elim h
        refine ca_z (w' := [WX10 cy h0 a0 r14.2, WX9 cy (a0 7) a1 s1]) (rn_V (As := [.int (1 : Int32)]) (rest := []) ⟨hx, hb, hml, hown, hts⟩ (kX10_deny l D cy h0 a0 s0 (1 : Int32) r14 hr14.symm H.size) (cwV 1 hts gX10_tray_X10_deny rfl rfl rfl (by decide +kernel) ⟨Nat.le_of_ble_eq_true rfl, Nat.le_of_ble_eq_true rfl⟩) hK hN hP hD [0] rfl rfl (ci := 10) (q0 := 0) rfl rfl rfl rfl hl.1 rfl (Nat.le_of_ble_eq_true rfl) dX10_tray_28 ⟨Nat.le_refl 0, Nat.le_refl 0⟩) hP hD hS hA [0] ⟨rfl, rfl, rfl, rfl⟩ (fun b15 H locs hP hD hS => ?_)
        exact hret 31 H locs ls (r14.1, r14.2, s1) (Option.some.inj h) hP hD hS b15 dX10_tray_31
set_option maxRecDepth 20000 in
theorem ggX10_truest_X0_mostTrusted : GoodIn wsX10_truest wsX0_mostTrusted := goodIn_r _ [6, 7, 8, 9, 10, 5, 11, 12, 13, 14, 15, 16, 17, 18, 19, 20, 21, 22, 23, 24, 25, 26, 27, 28, 29, 30, 31, 32, 33, 34, 35, 36, 37, 38, 39, 40, 41, 42, 43, 44, 45, 46, 47, 48, 49, 50, 51, 52, 53, 54, 55, 56, 57, 58, 59, 92, 93, 94, 95, 96, 97, 98, 99, 100, 101, 102, 103, 104, 105] (by decide +kernel) (by decide +kernel)
set_option maxRecDepth 20000 in
theorem gX10_truest_X0_mostTrusted : GoodIn wsX10_truest (wsV RX10 321 RX0 yX0_mostTrusted wsX0_mostTrusted) := goodIn_app (goodIn_of _ (by decide +kernel)) ggX10_truest_X0_mostTrusted
set_option maxRecDepth 20000 in
theorem ggX10_truest_X10_answerIfAny : GoodIn wsX10_truest wsX10_answerIfAny := goodIn_r _ [63, 64, 65, 66, 29, 67, 68, 69, 70, 71, 72, 73, 74, 75, 76, 77, 78, 79, 80, 81, 82, 83, 84, 85, 86, 87, 88, 89, 90, 91] (by decide +kernel) (by decide +kernel)
set_option maxRecDepth 20000 in
theorem gX10_truest_X10_answerIfAny : GoodIn wsX10_truest (wsV RX10 296 RX10 yX10_answerIfAny wsX10_answerIfAny) := goodIn_app (goodIn_of _ (by decide +kernel)) ggX10_truest_X10_answerIfAny
theorem dX10_truest_0 : decode cX10_truest 0 = .ok (.aload_n 0, 1) := by decide +kernel
theorem dX10_truest_1 : decode cX10_truest 1 = .ok (.aload_n 0, 1) := by decide +kernel
theorem dX10_truest_2 : decode cX10_truest 2 = .ok (.getfield 10, 3) := by decide +kernel
theorem dX10_truest_5 : decode cX10_truest 5 = .ok (.invokevirtual 321, 3) := by decide +kernel
theorem dX10_truest_8 : decode cX10_truest 8 = .ok (.invokevirtual 296, 3) := by decide +kernel
theorem dX10_truest_11 : decode cX10_truest 11 = .ok (.ireturn, 1) := by decide +kernel
abbrev rmX10_truest : Room := { frames := 5, cells := 0, slots := 0, locals := 109 }
set_option maxHeartbeats 4000000 in
set_option maxRecDepth 100000 in
theorem kX10_truest (l : Launch) (D : va_G) (cy : Nat → ClassId) (h0 : Nat) (a0 : Nat → Nat) (a1 : Nat → Nat) (s0 : Rc) (s1 : Rc) (res : Int32 × Rc) (h : fX10_truest s0 s1 = some res) : CI l D cy yX10_truest wsX10_truest rmX10_truest [.ref h0] (flat [WX10 cy h0 a0 s0, WX0 cy (a0 0) a1 s1]) (flat [WX10 cy h0 a0 res.2, WX0 cy (a0 0) a1 s1]) res.1 := by
  refine CI.of (cc := cX10_truest) (maxL := 1) (by decide) rfl (Nat.le_of_ble_eq_true rfl) ?_
  intro p e s m args below meth c A QQ ls E hr
  obtain ⟨hx, hb, hml, hown, hts, hK, hN, hP, hD, hA, hl⟩ := E
  have hret : ∀ (pc : Nat) (H : Heap) (locs : List Loc) (ls : Array Slot) (u : Int32 × Rc), u = res → va_P D vwCl (flat [WX10 cy h0 a0 u.2, WX0 cy (a0 0) a1 s1]) H → va_D A (flat [WX10 cy h0 a0 u.2, WX0 cy (a0 0) a1 s1]) → va_S A s.heap H locs → decode cX10_truest pc = .ok (.ireturn, 1) → W p l e rmX10_truest s m args below meth c H locs 0 0 QQ (F0 m pc ls [.int u.1]) := by
    intro pc H locs ls u hu hP hD hS hd; subst hu; exact hr pc H locs ls _ rfl hP hD hS hd
  clear hr
  have hl : lv_has ls 1 [(0, .ref h0)] := hl
  have hinX10 : ∀ w ∈ wsX100, w ∈ wsX10_truest := fun _ h => List.mem_cons_of_mem _ (List.mem_append_left _ (List.mem_append_right _ h))
  unfold fX10_truest at h
  suffices key : ∀ (H : Heap) (locs : List Loc), va_P D vwCl (flat [WX10 cy h0 a0 s0, WX0 cy (a0 0) a1 s1]) H → va_S A s.heap H locs → W p l e rmX10_truest s m args below meth c H locs 0 0 QQ (F0 m 0 ls []) from key _ _ hP va_S.rf
  clear hP
  intro H locs hP hS
  refine lv_aload_n hx hb dX10_truest_0 rfl (lv_at hl 0 rfl) ?_
  refine lv_aload_n hx hb dX10_truest_1 rfl (lv_at hl 0 rfl) ?_
  refine va_get (D := D) (ci := 10) (v := .ref (a0 0)) (C := RX10) (T := TX10) (N := 19) hx hb hts hinX10 hown hK hP 0 rfl rfl 0 (by decide) (hts (.fieldLink RX10 10 "KneeBench" "bench" "LKneeBench$Bench;") (List.mem_of_getElem? (i := 1) rfl)) (fun _ h9 => h9) rfl dX10_truest_2 ?_
  obtain ⟨r1, hr1, h⟩ := bd_elim h
  refine ca_i (w' := [WX10 cy h0 a0 s0, WX0 cy (a0 0) a1 s1]) (rn_V (As := []) (rest := [.ref h0]) ⟨hx, hb, hml, hown, hts⟩ (kX0_mostTrusted l D cy (a0 0) a1 s1 r1 hr1 H.size) (cwV 0 hts gX10_truest_X0_mostTrusted rfl rfl rfl (by decide +kernel) ⟨Nat.le_of_ble_eq_true rfl, Nat.le_of_ble_eq_true rfl⟩) hK hN hP hD [1] rfl rfl (ci := 0) (q0 := 1) rfl rfl rfl rfl hl.1 rfl (Nat.le_of_ble_eq_true rfl) dX10_truest_5 ⟨Nat.le_refl 0, Nat.le_refl 0⟩) hP hD hS hA [1] ⟨rfl, rfl, rfl, rfl⟩ (fun H locs hP hD hS => ?_)
  obtain ⟨r2, hr2, h⟩ := lt_elim h
  refine ca_i (w' := [WX10 cy h0 a0 r2.2, WX0 cy (a0 0) a1 s1]) (rn_V (As := [.int r1]) (rest := []) ⟨hx, hb, hml, hown, hts⟩ (kX10_answerIfAny l D cy h0 a0 s0 r1 r2 hr2.symm H.size) (cwV 1 hts gX10_truest_X10_answerIfAny rfl rfl rfl (by decide +kernel) ⟨Nat.le_of_ble_eq_true rfl, Nat.le_of_ble_eq_true rfl⟩) hK hN hP hD [0] rfl rfl (ci := 10) (q0 := 0) rfl rfl rfl rfl hl.1 rfl (Nat.le_of_ble_eq_true rfl) dX10_truest_8 ⟨Nat.le_refl 0, Nat.le_refl 0⟩) hP hD hS hA [0] ⟨rfl, rfl, rfl, rfl⟩ (fun H locs hP hD hS => ?_)
  exact hret 11 H locs ls (r2.1, r2.2) (Option.some.inj h) hP hD hS dX10_truest_11
set_option maxRecDepth 20000 in
theorem ggX10_trust_X10_noFarmer : GoodIn wsX10_trust wsX10_noFarmer := goodIn_r _ [6, 1, 78, 79, 80, 81, 82, 83, 84, 85, 86, 87, 88, 89, 90, 91, 92, 93, 94, 95, 96, 97, 98, 99, 100, 101, 102, 103, 104, 105, 106, 107, 108, 109, 110] (by decide +kernel) (by decide +kernel)
set_option maxRecDepth 20000 in
theorem gX10_trust_X10_noFarmer : GoodIn wsX10_trust (wsV RX10 215 RX10 yX10_noFarmer wsX10_noFarmer) := goodIn_app (goodIn_of _ (by decide +kernel)) ggX10_trust_X10_noFarmer
set_option maxRecDepth 20000 in
theorem ggX10_trust_X10_deny : GoodIn wsX10_trust wsX10_deny := goodIn_r _ [10, 11, 78, 79, 80, 81, 82, 83, 84, 85, 86, 87, 88, 89, 90, 91, 92, 93, 94, 95, 96] (by decide +kernel) (by decide +kernel)
set_option maxRecDepth 20000 in
theorem gX10_trust_X10_deny : GoodIn wsX10_trust (wsV RX10 120 RX10 yX10_deny wsX10_deny) := goodIn_app (goodIn_of _ (by decide +kernel)) ggX10_trust_X10_deny
set_option maxRecDepth 20000 in
theorem ggX10_trust_X0_toldDays : GoodIn wsX10_trust wsX0_toldDays := goodIn_r _ [16, 17, 18, 19, 20, 15, 21, 22, 23, 24, 25, 26, 27, 28, 5, 29, 30, 31, 32, 33, 34, 35, 97, 98, 99, 100, 101, 102, 103, 104, 105, 106, 107, 108, 109, 110] (by decide +kernel) (by decide +kernel)
set_option maxRecDepth 20000 in
theorem gX10_trust_X0_toldDays : GoodIn wsX10_trust (wsV RX10 308 RX0 yX0_toldDays wsX0_toldDays) := goodIn_app (goodIn_of _ (by decide +kernel)) ggX10_trust_X0_toldDays
set_option maxRecDepth 20000 in
theorem ggX10_trust_J13_bitCount_95d88 : GoodIn wsX10_trust wsJ13_bitCount_95d88 := goodIn_r _ [39, 40, 41, 42] (by decide +kernel) (by decide +kernel)
set_option maxRecDepth 20000 in
theorem gX10_trust_J13_bitCount_95d88 : GoodIn wsX10_trust (va_wsS RX10 203 yJ13_bitCount_95d88 wsJ13_bitCount_95d88) := goodIn_app (goodIn_of _ (by decide +kernel)) ggX10_trust_J13_bitCount_95d88
set_option maxRecDepth 20000 in
theorem ggX10_trust_X0_rightDays : GoodIn wsX10_trust wsX0_rightDays := goodIn_r _ [46, 47, 48, 13, 14, 15, 16, 17, 18, 19, 20, 21, 22, 23, 24, 25, 26, 27, 28, 5, 29, 30, 31, 32, 33, 34, 35, 49, 50, 51, 52, 53, 54, 55, 56, 57, 58, 59, 60, 61, 62, 63, 64, 97, 98, 99, 100, 101, 102, 103, 104, 105, 106, 107, 108, 109, 110] (by decide +kernel) (by decide +kernel)
set_option maxRecDepth 20000 in
theorem gX10_trust_X0_rightDays : GoodIn wsX10_trust (wsV RX10 305 RX0 yX0_rightDays wsX0_rightDays) := goodIn_app (goodIn_of _ (by decide +kernel)) ggX10_trust_X0_rightDays
set_option maxRecDepth 20000 in
theorem ggX10_trust_X10_tellFraction : GoodIn wsX10_trust wsX10_tellFraction := goodIn_r _ [68, 69, 70, 71, 72, 5, 73, 78, 79, 80, 81, 82, 83, 84, 85, 86, 87, 88, 89, 90, 91, 92, 93, 94, 95, 96] (by decide +kernel) (by decide +kernel)
set_option maxRecDepth 20000 in
theorem gX10_trust_X10_tellFraction : GoodIn wsX10_trust (wsV RX10 311 RX10 yX10_tellFraction wsX10_tellFraction) := goodIn_app (goodIn_of _ (by decide +kernel)) ggX10_trust_X10_tellFraction
set_option maxRecDepth 20000 in
theorem ggX10_trust_X10_allow : GoodIn wsX10_trust wsX10_allow := goodIn_r _ [77, 11, 78, 79, 80, 81, 82, 83, 84, 85, 86, 87, 88, 89, 90, 91, 92, 93, 94, 95, 96] (by decide +kernel) (by decide +kernel)
set_option maxRecDepth 20000 in
theorem gX10_trust_X10_allow : GoodIn wsX10_trust (wsV RX10 127 RX10 yX10_allow wsX10_allow) := goodIn_app (goodIn_of _ (by decide +kernel)) ggX10_trust_X10_allow
theorem dX10_trust_0 : decode cX10_trust 0 = .ok (.aload_n 0, 1) := by decide +kernel
theorem dX10_trust_1 : decode cX10_trust 1 = .ok (.iload_n 1, 1) := by decide +kernel
theorem dX10_trust_2 : decode cX10_trust 2 = .ok (.invokevirtual 215, 3) := by decide +kernel
theorem dX10_trust_5 : decode cX10_trust 5 = .ok (.ifCond .eq 9, 3) := by decide +kernel
theorem dX10_trust_8 : decode cX10_trust 8 = .ok (.aload_n 0, 1) := by decide +kernel
theorem dX10_trust_9 : decode cX10_trust 9 = .ok (.iconst 1, 1) := by decide +kernel
theorem dX10_trust_10 : decode cX10_trust 10 = .ok (.invokevirtual 120, 3) := by decide +kernel
theorem dX10_trust_13 : decode cX10_trust 13 = .ok (.ireturn, 1) := by decide +kernel
theorem dX10_trust_14 : decode cX10_trust 14 = .ok (.aload_n 0, 1) := by decide +kernel
theorem dX10_trust_15 : decode cX10_trust 15 = .ok (.getfield 10, 3) := by decide +kernel
theorem dX10_trust_18 : decode cX10_trust 18 = .ok (.iload_n 1, 1) := by decide +kernel
theorem dX10_trust_19 : decode cX10_trust 19 = .ok (.invokevirtual 308, 3) := by decide +kernel
theorem dX10_trust_22 : decode cX10_trust 22 = .ok (.invokestatic 203, 3) := by decide +kernel
theorem dX10_trust_25 : decode cX10_trust 25 = .ok (.istore_n 2, 1) := by decide +kernel
theorem dX10_trust_26 : decode cX10_trust 26 = .ok (.iload_n 2, 1) := by decide +kernel
theorem dX10_trust_27 : decode cX10_trust 27 = .ok (.ifCond .ne 10, 3) := by decide +kernel
theorem dX10_trust_30 : decode cX10_trust 30 = .ok (.aload_n 0, 1) := by decide +kernel
theorem dX10_trust_31 : decode cX10_trust 31 = .ok (.bipush 6, 2) := by decide +kernel
theorem dX10_trust_33 : decode cX10_trust 33 = .ok (.invokevirtual 120, 3) := by decide +kernel
theorem dX10_trust_36 : decode cX10_trust 36 = .ok (.ireturn, 1) := by decide +kernel
theorem dX10_trust_37 : decode cX10_trust 37 = .ok (.aload_n 0, 1) := by decide +kernel
theorem dX10_trust_38 : decode cX10_trust 38 = .ok (.aload_n 0, 1) := by decide +kernel
theorem dX10_trust_39 : decode cX10_trust 39 = .ok (.getfield 10, 3) := by decide +kernel
theorem dX10_trust_42 : decode cX10_trust 42 = .ok (.iload_n 1, 1) := by decide +kernel
theorem dX10_trust_43 : decode cX10_trust 43 = .ok (.invokevirtual 305, 3) := by decide +kernel
theorem dX10_trust_46 : decode cX10_trust 46 = .ok (.invokestatic 203, 3) := by decide +kernel
theorem dX10_trust_49 : decode cX10_trust 49 = .ok (.i2l, 1) := by decide +kernel
theorem dX10_trust_50 : decode cX10_trust 50 = .ok (.iload_n 2, 1) := by decide +kernel
theorem dX10_trust_51 : decode cX10_trust 51 = .ok (.i2l, 1) := by decide +kernel
theorem dX10_trust_52 : decode cX10_trust 52 = .ok (.invokevirtual 311, 3) := by decide +kernel
theorem dX10_trust_55 : decode cX10_trust 55 = .ok (.aload_n 0, 1) := by decide +kernel
theorem dX10_trust_56 : decode cX10_trust 56 = .ok (.invokevirtual 127, 3) := by decide +kernel
theorem dX10_trust_59 : decode cX10_trust 59 = .ok (.ireturn, 1) := by decide +kernel
abbrev rmX10_trust : Room := { frames := 4, cells := 0, slots := 0, locals := 83 }
set_option maxHeartbeats 4000000 in
set_option maxRecDepth 100000 in
theorem kX10_trust (l : Launch) (D : va_G) (cy : Nat → ClassId) (h0 : Nat) (a0 : Nat → Nat) (a1 : Nat → Nat) (s0 : Rc) (s1 : Rc) (p1 : Int32) (res : Int32 × Rc) (h : fX10_trust p1 s0 s1 = some res) : CZ l D cy yX10_trust wsX10_trust rmX10_trust [.ref h0, .int p1] (flat [WX10 cy h0 a0 s0, WX0 cy (a0 0) a1 s1]) (flat [WX10 cy h0 a0 res.2, WX0 cy (a0 0) a1 s1]) res.1 := by
  refine CZ.of (cc := cX10_trust) (maxL := 3) (by decide) rfl (Nat.le_of_ble_eq_true rfl) ?_
  intro p e s m args below meth c A QQ ls E hr
  obtain ⟨hx, hb, hml, hown, hts, hK, hN, hP, hD, hA, hl⟩ := E
  have hret : ∀ (pc : Nat) (H : Heap) (locs : List Loc) (ls : Array Slot) (u : Int32 × Rc), u = res → va_P D vwCl (flat [WX10 cy h0 a0 u.2, WX0 cy (a0 0) a1 s1]) H → va_D A (flat [WX10 cy h0 a0 u.2, WX0 cy (a0 0) a1 s1]) → va_S A s.heap H locs → isb u.1 = true → decode cX10_trust pc = .ok (.ireturn, 1) → W p l e rmX10_trust s m args below meth c H locs 0 0 QQ (F0 m pc ls [.int u.1]) := by
    intro pc H locs ls u hu hP hD hS hz hd; subst hu; exact hr pc H locs ls _ rfl hP hD hS hz hd
  clear hr
  have hl : lv_has ls 3 [(0, .ref h0), (1, .int p1)] := hl
  have hinX10 : ∀ w ∈ wsX100, w ∈ wsX10_trust := fun _ h => List.mem_cons_of_mem _ (List.mem_append_left _ (List.mem_append_right _ h))
  unfold fX10_trust at h
  suffices key : ∀ (H : Heap) (locs : List Loc), va_P D vwCl (flat [WX10 cy h0 a0 s0, WX0 cy (a0 0) a1 s1]) H → va_S A s.heap H locs → W p l e rmX10_trust s m args below meth c H locs 0 0 QQ (F0 m 0 ls []) from key _ _ hP va_S.rf
  clear hP
  intro H locs hP hS
  refine lv_aload_n hx hb dX10_trust_0 rfl (lv_at hl 0 rfl) ?_
  refine lv_iload_n hx hb dX10_trust_1 rfl (lv_at hl 1 rfl) ?_
  refine ca_z (w' := [WX10 cy h0 a0 s0, WX0 cy (a0 0) a1 s1]) (rn_V (As := [.int p1]) (rest := []) ⟨hx, hb, hml, hown, hts⟩ (kX10_noFarmer l D cy h0 a0 a1 s0 s1 p1 _ rfl H.size) (cwV 1 hts gX10_trust_X10_noFarmer rfl rfl rfl (by decide +kernel) ⟨Nat.le_of_ble_eq_true rfl, Nat.le_of_ble_eq_true rfl⟩) hK hN hP hD [0, 1] rfl rfl (ci := 10) (q0 := 0) rfl rfl rfl rfl hl.1 rfl (Nat.le_of_ble_eq_true rfl) dX10_trust_2 ⟨Nat.le_refl 0, Nat.le_refl 0⟩) hP hD hS hA [0, 1] ⟨rfl, rfl, rfl, rfl⟩ (fun b1 H locs hP hD hS => ?_)
  refine lv_if_eq (tgt := 14) hx hb dX10_trust_5 (by decide) (fun c2 => ?_) (fun c2 => ?_)
  · replace h := (if_pos c2).symm.trans h
    refine lv_aload_n hx hb dX10_trust_14 rfl (lv_at hl 0 rfl) ?_
    refine va_get (D := D) (ci := 10) (v := .ref (a0 0)) (C := RX10) (T := TX10) (N := 19) hx hb hts hinX10 hown hK hP 0 rfl rfl 0 (by decide) (hts (.fieldLink RX10 10 "KneeBench" "bench" "LKneeBench$Bench;") (List.mem_of_getElem? (i := 1) rfl)) (fun _ h9 => h9) rfl dX10_trust_15 ?_
    refine lv_iload_n hx hb dX10_trust_18 rfl (lv_at hl 1 rfl) ?_
    obtain ⟨r3, hr3, h⟩ := bd_elim h
    refine ca_l (w' := [WX10 cy h0 a0 s0, WX0 cy (a0 0) a1 s1]) (rn_V (As := [.int p1]) (rest := []) ⟨hx, hb, hml, hown, hts⟩ (kX0_toldDays l D cy (a0 0) a1 s1 p1 r3 hr3 H.size) (cwV 1 hts gX10_trust_X0_toldDays rfl rfl rfl (by decide +kernel) ⟨Nat.le_of_ble_eq_true rfl, Nat.le_of_ble_eq_true rfl⟩) hK hN hP hD [1] rfl rfl (ci := 0) (q0 := 1) rfl rfl rfl rfl hl.1 rfl (Nat.le_of_ble_eq_true rfl) dX10_trust_19 ⟨Nat.le_refl 0, Nat.le_refl 0⟩) hP hD hS hA [1] ⟨rfl, rfl, rfl, rfl⟩ (fun H locs hP hD hS => ?_)
    refine ca_i (w' := [WX10 cy h0 a0 s0, WX0 cy (a0 0) a1 s1]) (rn_S (As := [.long r3]) (rest := []) ⟨hx, hb, hml, hown, hts⟩ (kJ13_bitCount_95d88 l D cy r3 _ rfl H.size) (va_cwS 1 hts gX10_trust_J13_bitCount_95d88 rfl rfl rfl (by decide +kernel) ⟨Nat.le_of_ble_eq_true rfl, Nat.le_of_ble_eq_true rfl⟩) hK hN hP hD [] rfl rfl rfl hl.1 rfl (Nat.le_of_ble_eq_true rfl) dX10_trust_22 ⟨Nat.le_refl 0, Nat.le_refl 0⟩) hP hD hS hA [] ⟨rfl, rfl, rfl, rfl⟩ (fun H locs hP hD hS => ?_)
    refine lv_topi (fun x4 ex4 => ?_)
    replace h := lt_use h x4 ex4
    refine lv_istore_n (lv' := [(2, .int x4), (0, .ref h0), (1, .int p1)]) hx hb dX10_trust_25 rfl hl (by decide) rfl (fun ls hl => ?_)
    refine lv_iload_n hx hb dX10_trust_26 rfl (lv_at hl 0 rfl) ?_
    refine lv_if_ne (tgt := 37) hx hb dX10_trust_27 (by decide) (fun c5 => ?_) (fun c5 => ?_)
    · replace h := (if_neg c5).symm.trans h
      refine lv_aload_n hx hb dX10_trust_37 rfl (lv_at hl 1 rfl) ?_
      refine lv_aload_n hx hb dX10_trust_38 rfl (lv_at hl 1 rfl) ?_
      refine va_get (D := D) (ci := 10) (v := .ref (a0 0)) (C := RX10) (T := TX10) (N := 19) hx hb hts hinX10 hown hK hP 0 rfl rfl 0 (by decide) (hts (.fieldLink RX10 10 "KneeBench" "bench" "LKneeBench$Bench;") (List.mem_of_getElem? (i := 1) rfl)) (fun _ h9 => h9) rfl dX10_trust_39 ?_
      refine lv_iload_n hx hb dX10_trust_42 rfl (lv_at hl 2 rfl) ?_
      obtain ⟨r6, hr6, h⟩ := bd_elim h
      refine ca_l (w' := [WX10 cy h0 a0 s0, WX0 cy (a0 0) a1 s1]) (rn_V (As := [.int p1]) (rest := [.ref h0]) ⟨hx, hb, hml, hown, hts⟩ (kX0_rightDays l D cy (a0 0) a1 s1 p1 r6 hr6 H.size) (cwV 1 hts gX10_trust_X0_rightDays rfl rfl rfl (by decide +kernel) ⟨Nat.le_of_ble_eq_true rfl, Nat.le_of_ble_eq_true rfl⟩) hK hN hP hD [1] rfl rfl (ci := 0) (q0 := 1) rfl rfl rfl rfl hl.1 rfl (Nat.le_of_ble_eq_true rfl) dX10_trust_43 ⟨Nat.le_refl 0, Nat.le_refl 0⟩) hP hD hS hA [1] ⟨rfl, rfl, rfl, rfl⟩ (fun H locs hP hD hS => ?_)
      refine ca_i (w' := [WX10 cy h0 a0 s0, WX0 cy (a0 0) a1 s1]) (rn_S (As := [.long r6]) (rest := [.ref h0]) ⟨hx, hb, hml, hown, hts⟩ (kJ13_bitCount_95d88 l D cy r6 _ rfl H.size) (va_cwS 1 hts gX10_trust_J13_bitCount_95d88 rfl rfl rfl (by decide +kernel) ⟨Nat.le_of_ble_eq_true rfl, Nat.le_of_ble_eq_true rfl⟩) hK hN hP hD [] rfl rfl rfl hl.1 rfl (Nat.le_of_ble_eq_true rfl) dX10_trust_46 ⟨Nat.le_refl 0, Nat.le_refl 0⟩) hP hD hS hA [] ⟨rfl, rfl, rfl, rfl⟩ (fun H locs hP hD hS => ?_)
      refine lv_i2l hx hb dX10_trust_49 rfl ?_
      refine lv_iload_n hx hb dX10_trust_50 rfl (lv_at hl 0 rfl) ?_
      refine lv_i2l hx hb dX10_trust_51 rfl ?_
      obtain ⟨r7, hr7, h⟩ := bd_elim h
      refine ca_v (w' := [WX10 cy h0 a0 r7, WX0 cy (a0 0) a1 s1]) (rn_V (As := [.long ((fJ13_bitCount_95d88 r6).toInt64), .long x4.toInt64]) (rest := []) ⟨hx, hb, hml, hown, hts⟩ (kX10_tellFraction l D cy h0 a0 s0 ((fJ13_bitCount_95d88 r6).toInt64) x4.toInt64 r7 hr7 H.size) (cwV 2 hts gX10_trust_X10_tellFraction rfl rfl rfl (by decide +kernel) ⟨Nat.le_of_ble_eq_true rfl, Nat.le_of_ble_eq_true rfl⟩) hK hN hP hD [0] rfl rfl (ci := 10) (q0 := 0) rfl rfl rfl rfl hl.1 rfl (Nat.le_of_ble_eq_true rfl) dX10_trust_52 ⟨Nat.le_refl 0, Nat.le_refl 0⟩) hP hD hS hA [0] ⟨rfl, rfl, rfl, rfl⟩ (fun H locs hP hD hS => ?_)
      refine lv_aload_n hx hb dX10_trust_55 rfl (lv_at hl 1 rfl) ?_
      obtain ⟨r8, hr8, h⟩ := lt_elim h
      refine ca_z (w' := [WX10 cy h0 a0 r8.2, WX0 cy (a0 0) a1 s1]) (rn_V (As := []) (rest := []) ⟨hx, hb, hml, hown, hts⟩ (kX10_allow l D cy h0 a0 r7 r8 hr8.symm H.size) (cwV 0 hts gX10_trust_X10_allow rfl rfl rfl (by decide +kernel) ⟨Nat.le_of_ble_eq_true rfl, Nat.le_of_ble_eq_true rfl⟩) hK hN hP hD [0] rfl rfl (ci := 10) (q0 := 0) rfl rfl rfl rfl hl.1 rfl (Nat.le_of_ble_eq_true rfl) dX10_trust_56 ⟨Nat.le_refl 0, Nat.le_refl 0⟩) hP hD hS hA [0] ⟨rfl, rfl, rfl, rfl⟩ (fun b9 H locs hP hD hS => ?_)
      exact hret 59 H locs ls (r8.1, r8.2) (Option.some.inj h) hP hD hS b9 dX10_trust_59
    · replace h := (if_pos c5).symm.trans h
      refine lv_aload_n hx hb dX10_trust_30 rfl (lv_at hl 1 rfl) ?_
      refine lv_bipush (v := 6) hx hb dX10_trust_31 (by decide) ?_
      obtain ⟨r10, hr10, h⟩ := lt_elim h
      refine ca_z (w' := [WX10 cy h0 a0 r10.2, WX0 cy (a0 0) a1 s1]) (rn_V (As := [.int (6 : Int32)]) (rest := []) ⟨hx, hb, hml, hown, hts⟩ (kX10_deny l D cy h0 a0 s0 (6 : Int32) r10 hr10.symm H.size) (cwV 1 hts gX10_trust_X10_deny rfl rfl rfl (by decide +kernel) ⟨Nat.le_of_ble_eq_true rfl, Nat.le_of_ble_eq_true rfl⟩) hK hN hP hD [0] rfl rfl (ci := 10) (q0 := 0) rfl rfl rfl rfl hl.1 rfl (Nat.le_of_ble_eq_true rfl) dX10_trust_33 ⟨Nat.le_refl 0, Nat.le_refl 0⟩) hP hD hS hA [0] ⟨rfl, rfl, rfl, rfl⟩ (fun b11 H locs hP hD hS => ?_)
      exact hret 36 H locs ls (r10.1, r10.2) (Option.some.inj h) hP hD hS b11 dX10_trust_36
  · replace h := (if_neg c2).symm.trans h
    refine lv_aload_n hx hb dX10_trust_8 rfl (lv_at hl 0 rfl) ?_
    refine lv_iconst (v := 1) hx hb dX10_trust_9 (by decide) ?_
    obtain ⟨r12, hr12, h⟩ := lt_elim h
    refine ca_z (w' := [WX10 cy h0 a0 r12.2, WX0 cy (a0 0) a1 s1]) (rn_V (As := [.int (1 : Int32)]) (rest := []) ⟨hx, hb, hml, hown, hts⟩ (kX10_deny l D cy h0 a0 s0 (1 : Int32) r12 hr12.symm H.size) (cwV 1 hts gX10_trust_X10_deny rfl rfl rfl (by decide +kernel) ⟨Nat.le_of_ble_eq_true rfl, Nat.le_of_ble_eq_true rfl⟩) hK hN hP hD [0] rfl rfl (ci := 10) (q0 := 0) rfl rfl rfl rfl hl.1 rfl (Nat.le_of_ble_eq_true rfl) dX10_trust_10 ⟨Nat.le_refl 0, Nat.le_refl 0⟩) hP hD hS hA [0] ⟨rfl, rfl, rfl, rfl⟩ (fun b13 H locs hP hD hS => ?_)
    exact hret 13 H locs ls (r12.1, r12.2) (Option.some.inj h) hP hD hS b13 dX10_trust_13
