set_option maxRecDepth 20000 in
theorem ggX10_mean_X10_outside : GoodIn wsX10_mean wsX10_outside := goodIn_r _ [8] (by decide +kernel) (by decide +kernel)
set_option maxRecDepth 20000 in
theorem gX10_mean_X10_outside : GoodIn wsX10_mean (va_wsS RX10 116 yX10_outside wsX10_outside) := goodIn_app (goodIn_of _ (by decide +kernel)) ggX10_mean_X10_outside
set_option maxRecDepth 20000 in
theorem ggX10_mean_X10_deny : GoodIn wsX10_mean wsX10_deny := goodIn_r _ [12, 13, 198, 199, 200, 201, 202, 203, 204, 205, 206, 207, 208, 209, 210, 211, 212, 213, 214, 215, 216] (by decide +kernel) (by decide +kernel)
set_option maxRecDepth 20000 in
theorem gX10_mean_X10_deny : GoodIn wsX10_mean (wsV RX10 120 RX10 yX10_deny wsX10_deny) := goodIn_app (goodIn_of _ (by decide +kernel)) ggX10_mean_X10_deny
set_option maxRecDepth 20000 in
theorem ggX10_mean_X0_copyFrom : GoodIn wsX10_mean wsX0_copyFrom := goodIn_r _ [18, 19, 20, 21, 22, 23, 24, 25, 26, 27, 28, 29, 30, 31, 32, 33, 34, 35, 36, 225, 226, 227, 228, 229, 230, 231, 232, 233, 234, 235, 236, 237, 238] (by decide +kernel) (by decide +kernel)
set_option maxRecDepth 20000 in
theorem gX10_mean_X0_copyFrom : GoodIn wsX10_mean (wsV RX10 171 RX0 yX0_copyFrom wsX0_copyFrom) := goodIn_app (goodIn_of _ (by decide +kernel)) ggX10_mean_X0_copyFrom
set_option maxRecDepth 20000 in
theorem ggX10_mean_X3_run : GoodIn wsX10_mean wsX3_run := goodIn_r _ [41, 42, 43, 44, 45, 46, 47, 48, 49, 50, 51, 52, 53, 54, 55, 7, 56, 57, 58, 59, 40, 60, 61, 62, 63, 64, 65, 66, 67, 17, 68, 36, 69, 70, 71, 72, 31, 73, 74, 75, 76, 24, 33, 27, 77, 78, 79, 80, 81, 82, 83, 84, 85, 86, 87, 88, 29, 89, 90, 91, 92, 93, 94, 95, 96, 97, 98, 99, 100, 101, 102, 103, 28, 104, 105, 106, 107, 108, 109, 110, 111, 112, 113, 114, 115, 116, 117, 118, 119, 120, 121, 122, 123, 124, 125, 126, 127, 128, 129, 130, 131, 34, 35, 132, 133, 134, 135, 136, 25, 26, 137, 138, 139, 140, 141, 142, 143, 144, 145, 146, 147, 148, 32, 149, 150, 151, 152, 153, 154, 155, 156, 157, 158, 159, 160, 161, 162, 163, 164, 165, 166, 167, 168, 169, 170, 171, 172, 173, 174, 175, 176, 239, 240, 241, 242, 243, 244, 245, 217, 218, 219, 220, 221, 222, 223, 224, 246, 225, 226, 227, 228, 229, 230, 231, 232, 233, 234, 235, 236, 237, 238] (by decide +kernel) (by decide +kernel)
set_option maxRecDepth 20000 in
theorem gX10_mean_X3_run : GoodIn wsX10_mean (wsV RX10 395 RX3 yX3_run wsX3_run) := goodIn_app (goodIn_of _ (by decide +kernel)) ggX10_mean_X3_run
set_option maxRecDepth 20000 in
theorem ggX10_mean_X0_keptUnder : GoodIn wsX10_mean wsX0_keptUnder := goodIn_r _ [180, 33, 69, 70, 71, 17, 72, 31, 73, 74, 75, 76, 24, 27, 77, 78, 79, 80, 81, 82, 83, 84, 85, 86, 87, 88, 29, 89, 90, 91, 92, 93, 94, 95, 96, 97, 98, 99, 55, 7, 56, 100, 101, 102, 103, 28, 181, 182, 183, 184, 34, 225, 226, 227, 228, 229, 230, 231, 232, 233, 234, 235, 236, 237, 238] (by decide +kernel) (by decide +kernel)
set_option maxRecDepth 20000 in
theorem gX10_mean_X0_keptUnder : GoodIn wsX10_mean (wsV RX10 315 RX0 yX0_keptUnder wsX0_keptUnder) := goodIn_app (goodIn_of _ (by decide +kernel)) ggX10_mean_X0_keptUnder
set_option maxRecDepth 20000 in
theorem ggX10_mean_X10_tellFraction : GoodIn wsX10_mean wsX10_tellFraction := goodIn_r _ [188, 189, 190, 191, 192, 7, 193, 198, 199, 200, 201, 202, 203, 204, 205, 206, 207, 208, 209, 210, 211, 212, 213, 214, 215, 216] (by decide +kernel) (by decide +kernel)
set_option maxRecDepth 20000 in
theorem gX10_mean_X10_tellFraction : GoodIn wsX10_mean (wsV RX10 311 RX10 yX10_tellFraction wsX10_tellFraction) := goodIn_app (goodIn_of _ (by decide +kernel)) ggX10_mean_X10_tellFraction
set_option maxRecDepth 20000 in
theorem ggX10_mean_X10_allow : GoodIn wsX10_mean wsX10_allow := goodIn_r _ [197, 13, 198, 199, 200, 201, 202, 203, 204, 205, 206, 207, 208, 209, 210, 211, 212, 213, 214, 215, 216] (by decide +kernel) (by decide +kernel)
set_option maxRecDepth 20000 in
theorem gX10_mean_X10_allow : GoodIn wsX10_mean (wsV RX10 127 RX10 yX10_allow wsX10_allow) := goodIn_app (goodIn_of _ (by decide +kernel)) ggX10_mean_X10_allow
theorem dX10_mean_0 : decode cX10_mean 0 = .ok (.iload_n 1, 1) := by decide +kernel
theorem dX10_mean_1 : decode cX10_mean 1 = .ok (.iconst 0, 1) := by decide +kernel
theorem dX10_mean_2 : decode cX10_mean 2 = .ok (.sipush 9999, 3) := by decide +kernel
theorem dX10_mean_5 : decode cX10_mean 5 = .ok (.invokestatic 116, 3) := by decide +kernel
theorem dX10_mean_8 : decode cX10_mean 8 = .ok (.ifCond .ne 24, 3) := by decide +kernel
theorem dX10_mean_11 : decode cX10_mean 11 = .ok (.iload_n 2, 1) := by decide +kernel
theorem dX10_mean_12 : decode cX10_mean 12 = .ok (.iconst 1, 1) := by decide +kernel
theorem dX10_mean_13 : decode cX10_mean 13 = .ok (.bipush 20, 2) := by decide +kernel
theorem dX10_mean_15 : decode cX10_mean 15 = .ok (.invokestatic 116, 3) := by decide +kernel
theorem dX10_mean_18 : decode cX10_mean 18 = .ok (.ifCond .ne 14, 3) := by decide +kernel
theorem dX10_mean_21 : decode cX10_mean 21 = .ok (.iload_n 1, 1) := by decide +kernel
theorem dX10_mean_22 : decode cX10_mean 22 = .ok (.iload_n 2, 1) := by decide +kernel
theorem dX10_mean_23 : decode cX10_mean 23 = .ok (.iadd, 1) := by decide +kernel
theorem dX10_mean_24 : decode cX10_mean 24 = .ok (.iconst 1, 1) := by decide +kernel
theorem dX10_mean_25 : decode cX10_mean 25 = .ok (.isub, 1) := by decide +kernel
theorem dX10_mean_26 : decode cX10_mean 26 = .ok (.sipush 9999, 3) := by decide +kernel
theorem dX10_mean_29 : decode cX10_mean 29 = .ok (.if_icmp .le 9, 3) := by decide +kernel
theorem dX10_mean_32 : decode cX10_mean 32 = .ok (.aload_n 0, 1) := by decide +kernel
theorem dX10_mean_33 : decode cX10_mean 33 = .ok (.iconst 1, 1) := by decide +kernel
theorem dX10_mean_34 : decode cX10_mean 34 = .ok (.invokevirtual 120, 3) := by decide +kernel
theorem dX10_mean_37 : decode cX10_mean 37 = .ok (.ireturn, 1) := by decide +kernel
theorem dX10_mean_38 : decode cX10_mean 38 = .ok (.aload_n 0, 1) := by decide +kernel
theorem dX10_mean_39 : decode cX10_mean 39 = .ok (.getfield 19, 3) := by decide +kernel
theorem dX10_mean_42 : decode cX10_mean 42 = .ok (.getfield 391, 3) := by decide +kernel
theorem dX10_mean_45 : decode cX10_mean 45 = .ok (.ifCond .ne 10, 3) := by decide +kernel
theorem dX10_mean_48 : decode cX10_mean 48 = .ok (.aload_n 0, 1) := by decide +kernel
theorem dX10_mean_49 : decode cX10_mean 49 = .ok (.bipush 6, 2) := by decide +kernel
theorem dX10_mean_51 : decode cX10_mean 51 = .ok (.invokevirtual 120, 3) := by decide +kernel
theorem dX10_mean_54 : decode cX10_mean 54 = .ok (.ireturn, 1) := by decide +kernel
theorem dX10_mean_55 : decode cX10_mean 55 = .ok (.lconst 0, 1) := by decide +kernel
theorem dX10_mean_56 : decode cX10_mean 56 = .ok (.lstore_n 3, 1) := by decide +kernel
theorem dX10_mean_57 : decode cX10_mean 57 = .ok (.iconst 0, 1) := by decide +kernel
theorem dX10_mean_58 : decode cX10_mean 58 = .ok (.istore 5, 2) := by decide +kernel
theorem dX10_mean_60 : decode cX10_mean 60 = .ok (.iload 5, 2) := by decide +kernel
theorem dX10_mean_62 : decode cX10_mean 62 = .ok (.iload_n 2, 1) := by decide +kernel
theorem dX10_mean_63 : decode cX10_mean 63 = .ok (.if_icmp .ge 58, 3) := by decide +kernel
theorem dX10_mean_66 : decode cX10_mean 66 = .ok (.aload_n 0, 1) := by decide +kernel
theorem dX10_mean_67 : decode cX10_mean 67 = .ok (.getfield 23, 3) := by decide +kernel
theorem dX10_mean_70 : decode cX10_mean 70 = .ok (.aload_n 0, 1) := by decide +kernel
theorem dX10_mean_71 : decode cX10_mean 71 = .ok (.getfield 10, 3) := by decide +kernel
theorem dX10_mean_74 : decode cX10_mean 74 = .ok (.invokevirtual 171, 3) := by decide +kernel
theorem dX10_mean_77 : decode cX10_mean 77 = .ok (.aload_n 0, 1) := by decide +kernel
theorem dX10_mean_78 : decode cX10_mean 78 = .ok (.getfield 81, 3) := by decide +kernel
theorem dX10_mean_81 : decode cX10_mean 81 = .ok (.aload_n 0, 1) := by decide +kernel
theorem dX10_mean_82 : decode cX10_mean 82 = .ok (.getfield 23, 3) := by decide +kernel
theorem dX10_mean_85 : decode cX10_mean 85 = .ok (.aload_n 0, 1) := by decide +kernel
theorem dX10_mean_86 : decode cX10_mean 86 = .ok (.getfield 19, 3) := by decide +kernel
theorem dX10_mean_89 : decode cX10_mean 89 = .ok (.iload_n 1, 1) := by decide +kernel
theorem dX10_mean_90 : decode cX10_mean 90 = .ok (.iload 5, 2) := by decide +kernel
theorem dX10_mean_92 : decode cX10_mean 92 = .ok (.iadd, 1) := by decide +kernel
theorem dX10_mean_93 : decode cX10_mean 93 = .ok (.invokevirtual 395, 3) := by decide +kernel
theorem dX10_mean_96 : decode cX10_mean 96 = .ok (.lload_n 3, 1) := by decide +kernel
theorem dX10_mean_97 : decode cX10_mean 97 = .ok (.aload_n 0, 1) := by decide +kernel
theorem dX10_mean_98 : decode cX10_mean 98 = .ok (.getfield 23, 3) := by decide +kernel
theorem dX10_mean_101 : decode cX10_mean 101 = .ok (.aload_n 0, 1) := by decide +kernel
theorem dX10_mean_102 : decode cX10_mean 102 = .ok (.getfield 23, 3) := by decide +kernel
theorem dX10_mean_105 : decode cX10_mean 105 = .ok (.getfield 212, 3) := by decide +kernel
theorem dX10_mean_108 : decode cX10_mean 108 = .ok (.iconst 0, 1) := by decide +kernel
theorem dX10_mean_109 : decode cX10_mean 109 = .ok (.invokevirtual 315, 3) := by decide +kernel
theorem dX10_mean_112 : decode cX10_mean 112 = .ok (.i2l, 1) := by decide +kernel
theorem dX10_mean_113 : decode cX10_mean 113 = .ok (.ladd, 1) := by decide +kernel
theorem dX10_mean_114 : decode cX10_mean 114 = .ok (.lstore_n 3, 1) := by decide +kernel
theorem dX10_mean_115 : decode cX10_mean 115 = .ok (.iinc 5 1, 3) := by decide +kernel
theorem dX10_mean_118 : decode cX10_mean 118 = .ok (.goto (-58), 3) := by decide +kernel
theorem dX10_mean_121 : decode cX10_mean 121 = .ok (.aload_n 0, 1) := by decide +kernel
theorem dX10_mean_122 : decode cX10_mean 122 = .ok (.lload_n 3, 1) := by decide +kernel
theorem dX10_mean_123 : decode cX10_mean 123 = .ok (.iload_n 2, 1) := by decide +kernel
theorem dX10_mean_124 : decode cX10_mean 124 = .ok (.i2l, 1) := by decide +kernel
theorem dX10_mean_125 : decode cX10_mean 125 = .ok (.invokevirtual 311, 3) := by decide +kernel
theorem dX10_mean_128 : decode cX10_mean 128 = .ok (.aload_n 0, 1) := by decide +kernel
theorem dX10_mean_129 : decode cX10_mean 129 = .ok (.invokevirtual 127, 3) := by decide +kernel
theorem dX10_mean_132 : decode cX10_mean 132 = .ok (.ireturn, 1) := by decide +kernel
abbrev rmX10_mean : Room := { frames := 7, cells := 0, slots := 0, locals := 167 }
set_option maxHeartbeats 4000000 in
set_option maxRecDepth 100000 in
theorem kX10_mean (l : Launch) (D : va_G) (cy : Nat → ClassId) (h0 : Nat) (a0 : Nat → Nat) (a1 : Nat → Nat) (a2 : Nat → Nat) (a3 : Nat → Nat) (a4 : Nat → Nat) (a5 : Nat → Nat) (s0 : Rc) (s1 : Rc) (s2 : Rc) (s3 : Rc) (s4 : Rc) (s5 : Rc) (p1 : Int32) (p2 : Int32) (res : Int32 × Rc × Rc × Rc × Rc) (h : fX10_mean p1 p2 s0 s1 s2 s3 s4 s5 = some res) : CZ l D cy yX10_mean wsX10_mean rmX10_mean [.ref h0, .int p1, .int p2] (flat [WX10 cy h0 a0 s0, WX0 cy (a0 0) a1 s1, WX5 cy (a0 1) a2 s2, WX0 cy (a0 2) a3 s3, WX3 cy (a0 12) a4 s4, WX2 cy (a4 0) a5 s5]) (flat [WX10 cy h0 a0 res.2.1, WX0 cy (a0 0) a1 s1, WX5 cy (a0 1) a2 s2, WX0 cy (a0 2) a3 res.2.2.1, WX3 cy (a0 12) a4 res.2.2.2.1, WX2 cy (a4 0) a5 res.2.2.2.2]) res.1 := by
  refine CZ.of (cc := cX10_mean) (maxL := 6) (by decide) rfl (Nat.le_of_ble_eq_true rfl) ?_
  intro p e s m args below meth c A QQ ls E hr
  obtain ⟨hx, hb, hml, hown, hts, hK, hN, hP, hD, hA, hl⟩ := E
  have hret : ∀ (pc : Nat) (H : Heap) (locs : List Loc) (ls : Array Slot) (u : Int32 × Rc × Rc × Rc × Rc), u = res → va_P D vwCl (flat [WX10 cy h0 a0 u.2.1, WX0 cy (a0 0) a1 s1, WX5 cy (a0 1) a2 s2, WX0 cy (a0 2) a3 u.2.2.1, WX3 cy (a0 12) a4 u.2.2.2.1, WX2 cy (a4 0) a5 u.2.2.2.2]) H → va_D A (flat [WX10 cy h0 a0 u.2.1, WX0 cy (a0 0) a1 s1, WX5 cy (a0 1) a2 s2, WX0 cy (a0 2) a3 u.2.2.1, WX3 cy (a0 12) a4 u.2.2.2.1, WX2 cy (a4 0) a5 u.2.2.2.2]) → va_S A s.heap H locs → isb u.1 = true → decode cX10_mean pc = .ok (.ireturn, 1) → W p l e rmX10_mean s m args below meth c H locs 0 0 QQ (F0 m pc ls [.int u.1]) := by
    intro pc H locs ls u hu hP hD hS hz hd; subst hu; exact hr pc H locs ls _ rfl hP hD hS hz hd
  clear hr
  have hl : lv_has ls 6 [(0, .ref h0), (1, .int p1), (2, .int p2)] := hl
  have hinX0 : ∀ w ∈ wsX00, w ∈ wsX10_mean := fun _ h => List.mem_cons_of_mem _ (List.mem_append_left _ (List.mem_append_left _ (List.mem_append_right _ h)))
  have hinX10 : ∀ w ∈ wsX100, w ∈ wsX10_mean := fun _ h => List.mem_cons_of_mem _ (List.mem_append_left _ (List.mem_append_left _ (List.mem_append_left _ (List.mem_append_left _ (List.mem_append_right _ h)))))
  have hinX5 : ∀ w ∈ wsX50, w ∈ wsX10_mean := fun _ h => List.mem_cons_of_mem _ (List.mem_append_left _ (List.mem_append_left _ (List.mem_append_left _ (List.mem_append_right _ h))))
  unfold fX10_mean at h
  suffices key : ∀ (H : Heap) (locs : List Loc), va_P D vwCl (flat [WX10 cy h0 a0 s0, WX0 cy (a0 0) a1 s1, WX5 cy (a0 1) a2 s2, WX0 cy (a0 2) a3 s3, WX3 cy (a0 12) a4 s4, WX2 cy (a4 0) a5 s5]) H → va_S A s.heap H locs → W p l e rmX10_mean s m args below meth c H locs 0 0 QQ (F0 m 0 ls []) from key _ _ hP va_S.rf
  clear hP
  intro H locs hP hS
  refine lv_iload_n hx hb dX10_mean_0 rfl (lv_at hl 1 rfl) ?_
  refine lv_iconst (v := 0) hx hb dX10_mean_1 (by decide) ?_
  refine lv_sipush (v := 9999) hx hb dX10_mean_2 (by decide) ?_
  refine ca_z (w' := [WX10 cy h0 a0 s0, WX0 cy (a0 0) a1 s1, WX5 cy (a0 1) a2 s2, WX0 cy (a0 2) a3 s3, WX3 cy (a0 12) a4 s4, WX2 cy (a4 0) a5 s5]) (rn_S (As := [.int p1, .int (0 : Int32), .int (9999 : Int32)]) (rest := []) ⟨hx, hb, hml, hown, hts⟩ (kX10_outside l D cy p1 (0 : Int32) (9999 : Int32) _ rfl H.size) (va_cwS 3 hts gX10_mean_X10_outside rfl rfl rfl (by decide +kernel) ⟨Nat.le_of_ble_eq_true rfl, Nat.le_of_ble_eq_true rfl⟩) hK hN hP hD [] rfl rfl rfl hl.1 rfl (Nat.le_of_ble_eq_true rfl) dX10_mean_5 ⟨Nat.le_refl 0, Nat.le_refl 0⟩) hP hD hS hA [] ⟨rfl, rfl, rfl, rfl⟩ (fun b1 H locs hP hD hS => ?_)
  refine lv_if_ne (tgt := 32) hx hb dX10_mean_8 (by decide) (fun c2 => ?_) (fun c2 => ?_)
  · replace h := (if_neg c2).symm.trans h
    refine lv_aload_n hx hb dX10_mean_32 rfl (lv_at hl 0 rfl) ?_
    refine lv_iconst (v := 1) hx hb dX10_mean_33 (by decide) ?_
    obtain ⟨r3, hr3, h⟩ := lt_elim h
    refine ca_z (w' := [WX10 cy h0 a0 r3.2, WX0 cy (a0 0) a1 s1, WX5 cy (a0 1) a2 s2, WX0 cy (a0 2) a3 s3, WX3 cy (a0 12) a4 s4, WX2 cy (a4 0) a5 s5]) (rn_V (As := [.int (1 : Int32)]) (rest := []) ⟨hx, hb, hml, hown, hts⟩ (kX10_deny l D cy h0 a0 s0 (1 : Int32) r3 hr3.symm H.size) (cwV 1 hts gX10_mean_X10_deny rfl rfl rfl (by decide +kernel) ⟨Nat.le_of_ble_eq_true rfl, Nat.le_of_ble_eq_true rfl⟩) hK hN hP hD [0] rfl rfl (ci := 10) (q0 := 0) rfl rfl rfl rfl hl.1 rfl (Nat.le_of_ble_eq_true rfl) dX10_mean_34 ⟨Nat.le_refl 0, Nat.le_refl 0⟩) hP hD hS hA [0] ⟨rfl, rfl, rfl, rfl⟩ (fun b4 H locs hP hD hS => ?_)
    exact hret 37 H locs ls (r3.1, r3.2, s3, s4, s5) (Option.some.inj h) hP hD hS b4 dX10_mean_37
  · replace h := (if_pos c2).symm.trans h
    refine lv_iload_n hx hb dX10_mean_11 rfl (lv_at hl 2 rfl) ?_
    refine lv_iconst (v := 1) hx hb dX10_mean_12 (by decide) ?_
    refine lv_bipush (v := 20) hx hb dX10_mean_13 (by decide) ?_
    refine ca_z (w' := [WX10 cy h0 a0 s0, WX0 cy (a0 0) a1 s1, WX5 cy (a0 1) a2 s2, WX0 cy (a0 2) a3 s3, WX3 cy (a0 12) a4 s4, WX2 cy (a4 0) a5 s5]) (rn_S (As := [.int p2, .int (1 : Int32), .int (20 : Int32)]) (rest := []) ⟨hx, hb, hml, hown, hts⟩ (kX10_outside l D cy p2 (1 : Int32) (20 : Int32) _ rfl H.size) (va_cwS 3 hts gX10_mean_X10_outside rfl rfl rfl (by decide +kernel) ⟨Nat.le_of_ble_eq_true rfl, Nat.le_of_ble_eq_true rfl⟩) hK hN hP hD [] rfl rfl rfl hl.1 rfl (Nat.le_of_ble_eq_true rfl) dX10_mean_15 ⟨Nat.le_refl 0, Nat.le_refl 0⟩) hP hD hS hA [] ⟨rfl, rfl, rfl, rfl⟩ (fun b5 H locs hP hD hS => ?_)
    refine lv_if_ne (tgt := 32) hx hb dX10_mean_18 (by decide) (fun c6 => ?_) (fun c6 => ?_)
    · replace h := (if_neg c6).symm.trans h
      refine lv_aload_n hx hb dX10_mean_32 rfl (lv_at hl 0 rfl) ?_
      refine lv_iconst (v := 1) hx hb dX10_mean_33 (by decide) ?_
      obtain ⟨r7, hr7, h⟩ := lt_elim h
      refine ca_z (w' := [WX10 cy h0 a0 r7.2, WX0 cy (a0 0) a1 s1, WX5 cy (a0 1) a2 s2, WX0 cy (a0 2) a3 s3, WX3 cy (a0 12) a4 s4, WX2 cy (a4 0) a5 s5]) (rn_V (As := [.int (1 : Int32)]) (rest := []) ⟨hx, hb, hml, hown, hts⟩ (kX10_deny l D cy h0 a0 s0 (1 : Int32) r7 hr7.symm H.size) (cwV 1 hts gX10_mean_X10_deny rfl rfl rfl (by decide +kernel) ⟨Nat.le_of_ble_eq_true rfl, Nat.le_of_ble_eq_true rfl⟩) hK hN hP hD [0] rfl rfl (ci := 10) (q0 := 0) rfl rfl rfl rfl hl.1 rfl (Nat.le_of_ble_eq_true rfl) dX10_mean_34 ⟨Nat.le_refl 0, Nat.le_refl 0⟩) hP hD hS hA [0] ⟨rfl, rfl, rfl, rfl⟩ (fun b8 H locs hP hD hS => ?_)
      exact hret 37 H locs ls (r7.1, r7.2, s3, s4, s5) (Option.some.inj h) hP hD hS b8 dX10_mean_37
    · replace h := (if_pos c6).symm.trans h
      refine lv_iload_n hx hb dX10_mean_21 rfl (lv_at hl 1 rfl) ?_
      refine lv_iload_n hx hb dX10_mean_22 rfl (lv_at hl 2 rfl) ?_
      refine lv_iadd hx hb dX10_mean_23 ?_
      refine lv_iconst (v := 1) hx hb dX10_mean_24 (by decide) ?_
      refine lv_isub hx hb dX10_mean_25 ?_
      refine lv_sipush (v := 9999) hx hb dX10_mean_26 (by decide) ?_
      refine lv_icmp_le (tgt := 38) hx hb dX10_mean_29 (by decide) (fun c9 => ?_) (fun c9 => ?_)
      · replace h := (if_pos c9).symm.trans h
        refine lv_aload_n hx hb dX10_mean_38 rfl (lv_at hl 0 rfl) ?_
        refine va_get (D := D) (ci := 10) (v := .ref (a0 1)) (C := RX10) (T := TX10) (N := 19) hx hb hts hinX10 hown hK hP 0 rfl rfl 1 (by decide) (hts (.fieldLink RX10 19 "KneeBench" "season" "LKneeBench$Season;") (List.mem_of_getElem? (i := 1) rfl)) (fun _ h9 => h9) rfl dX10_mean_39 ?_
        refine va_getN (D := D) (ci := 5) (v := .int (gi s2 7)) (C := RX5) (T := TX5) (N := 8) hx hb hts hinX5 hown hK hP 10 rfl rfl 7 (by decide) (NW.fld hN 40 rfl _) (fun _ h9 => h9) rfl dX10_mean_42 ?_
        refine lv_if_ne (tgt := 55) hx hb dX10_mean_45 (by decide) (fun c10 => ?_) (fun c10 => ?_)
        · replace h := (if_neg c10).symm.trans h
          refine lv_lconst (v := 0) hx hb dX10_mean_55 (by decide) ?_
          refine lv_lstore_n (lv' := [(3, .long (0 : Int64)), (0, .ref h0), (1, .int p1), (2, .int p2)]) hx hb dX10_mean_56 rfl hl (by decide) rfl (fun ls hl => ?_)
          refine lv_iconst (v := 0) hx hb dX10_mean_57 (by decide) ?_
          refine lv_istore (lv' := [(5, .int (0 : Int32)), (3, .long (0 : Int64)), (0, .ref h0), (1, .int p1), (2, .int p2)]) hx hb dX10_mean_58 hl (by decide) rfl (fun ls hl => ?_)
          have L60 : ∀ (n : Nat) (q60 : Int64 × Int32 × Rc × Rc × Rc) (o : Int64 × Rc × Rc × Rc), loopO (fX10_mean_L60 p1 p2 s1 s2) n q60 = some o → ∀ (H : Heap) (locs : List Loc) (ls : Array Slot), lv_has ls 6 [(0, .ref h0), (1, .int p1), (2, .int p2), (3, .long q60.1), (5, .int q60.2.1)] → va_P D vwCl (flat [WX10 cy h0 a0 s0, WX0 cy (a0 0) a1 s1, WX5 cy (a0 1) a2 s2, WX0 cy (a0 2) a3 q60.2.2.1, WX3 cy (a0 12) a4 q60.2.2.2.1, WX2 cy (a4 0) a5 q60.2.2.2.2]) H → va_D A (flat [WX10 cy h0 a0 s0, WX0 cy (a0 0) a1 s1, WX5 cy (a0 1) a2 s2, WX0 cy (a0 2) a3 q60.2.2.1, WX3 cy (a0 12) a4 q60.2.2.2.1, WX2 cy (a4 0) a5 q60.2.2.2.2]) → va_S A s.heap H locs → ∀ (kk121 : ∀ (H : Heap) (locs : List Loc) (ls : Array Slot), lv_has ls 6 [(0, .ref h0), (2, .int p2), (3, .long o.1)] → va_P D vwCl (flat [WX10 cy h0 a0 s0, WX0 cy (a0 0) a1 s1, WX5 cy (a0 1) a2 s2, WX0 cy (a0 2) a3 o.2.1, WX3 cy (a0 12) a4 o.2.2.1, WX2 cy (a4 0) a5 o.2.2.2]) H → va_D A (flat [WX10 cy h0 a0 s0, WX0 cy (a0 0) a1 s1, WX5 cy (a0 1) a2 s2, WX0 cy (a0 2) a3 o.2.1, WX3 cy (a0 12) a4 o.2.2.1, WX2 cy (a4 0) a5 o.2.2.2]) → va_S A s.heap H locs → W p l e rmX10_mean s m args below meth c H locs 0 0 QQ (F0 m 121 ls [])), W p l e rmX10_mean s m args below meth c H locs 0 0 QQ (F0 m 60 ls []) := by
            intro n
            induction n with
            | zero => intro q60 o h; exact absurd h (by rw [loopO_zero]; intro z; cases z)
            | succ n ih =>
              intro q60 o h H locs ls hl hP hD hS kk121
              obtain ⟨w, h, hgo, hst⟩ := loopO_elim h
              unfold fX10_mean_L60 at h
              refine lv_iload hx hb dX10_mean_60 (lv_at hl 4 rfl) ?_
              refine lv_iload_n hx hb dX10_mean_62 rfl (lv_at hl 2 rfl) ?_
              refine lv_icmp_ge (tgt := 121) hx hb dX10_mean_63 (by decide) (fun c11 => ?_) (fun c11 => ?_)
              · replace h := (if_pos c11).symm.trans h
                have eo := hst _ (Option.some.inj h).symm
                subst eo
                exact kk121 H locs ls (lv_sub hl [0, 2, 3] rfl) hP hD hS
              · replace h := (if_neg c11).symm.trans h
                refine lv_aload_n hx hb dX10_mean_66 rfl (lv_at hl 0 rfl) ?_
                refine va_get (D := D) (ci := 10) (v := .ref (a0 2)) (C := RX10) (T := TX10) (N := 19) hx hb hts hinX10 hown hK hP 0 rfl rfl 2 (by decide) (hts (.fieldLink RX10 23 "KneeBench" "spareBench" "LKneeBench$Bench;") (List.mem_of_getElem? (i := 2) rfl)) (fun _ h9 => h9) rfl dX10_mean_67 ?_
                refine lv_aload_n hx hb dX10_mean_70 rfl (lv_at hl 0 rfl) ?_
                refine va_get (D := D) (ci := 10) (v := .ref (a0 0)) (C := RX10) (T := TX10) (N := 19) hx hb hts hinX10 hown hK hP 0 rfl rfl 0 (by decide) (hts (.fieldLink RX10 10 "KneeBench" "bench" "LKneeBench$Bench;") (List.mem_of_getElem? (i := 3) rfl)) (fun _ h9 => h9) rfl dX10_mean_71 ?_
                obtain ⟨r12, hr12, h⟩ := bd_elim h
                refine ca_v (w' := [WX10 cy h0 a0 s0, WX0 cy (a0 0) a1 s1, WX5 cy (a0 1) a2 s2, WX0 cy (a0 2) a3 r12, WX3 cy (a0 12) a4 q60.2.2.2.1, WX2 cy (a4 0) a5 q60.2.2.2.2]) (rn_V (As := [.ref (a0 0)]) (rest := []) ⟨hx, hb, hml, hown, hts⟩ (kX0_copyFrom l D cy (a0 2) (a0 0) a3 a1 q60.2.2.1 s1 r12 hr12 H.size) (cwV 1 hts gX10_mean_X0_copyFrom rfl rfl rfl (by decide +kernel) ⟨Nat.le_of_ble_eq_true rfl, Nat.le_of_ble_eq_true rfl⟩) hK hN hP hD [3, 1] rfl rfl (ci := 0) (q0 := 16) rfl rfl rfl rfl hl.1 rfl (Nat.le_of_ble_eq_true rfl) dX10_mean_74 ⟨Nat.le_refl 0, Nat.le_refl 0⟩) hP hD hS hA [3, 1] ⟨rfl, rfl, rfl, rfl⟩ (fun H locs hP hD hS => ?_)
                refine lv_aload_n hx hb dX10_mean_77 rfl (lv_at hl 0 rfl) ?_
                refine va_get (D := D) (ci := 10) (v := .ref (a0 12)) (C := RX10) (T := TX10) (N := 19) hx hb hts hinX10 hown hK hP 0 rfl rfl 12 (by decide) (hts (.fieldLink RX10 81 "KneeBench" "trial" "LKneeBench$Life;") (List.mem_of_getElem? (i := 4) rfl)) (fun _ h9 => h9) rfl dX10_mean_78 ?_
                refine lv_aload_n hx hb dX10_mean_81 rfl (lv_at hl 0 rfl) ?_
                refine va_get (D := D) (ci := 10) (v := .ref (a0 2)) (C := RX10) (T := TX10) (N := 19) hx hb hts hinX10 hown hK hP 0 rfl rfl 2 (by decide) (hts (.fieldLink RX10 23 "KneeBench" "spareBench" "LKneeBench$Bench;") (List.mem_of_getElem? (i := 2) rfl)) (fun _ h9 => h9) rfl dX10_mean_82 ?_
                refine lv_aload_n hx hb dX10_mean_85 rfl (lv_at hl 0 rfl) ?_
                refine va_get (D := D) (ci := 10) (v := .ref (a0 1)) (C := RX10) (T := TX10) (N := 19) hx hb hts hinX10 hown hK hP 0 rfl rfl 1 (by decide) (hts (.fieldLink RX10 19 "KneeBench" "season" "LKneeBench$Season;") (List.mem_of_getElem? (i := 1) rfl)) (fun _ h9 => h9) rfl dX10_mean_86 ?_
                refine lv_iload_n hx hb dX10_mean_89 rfl (lv_at hl 1 rfl) ?_
                refine lv_iload hx hb dX10_mean_90 (lv_at hl 4 rfl) ?_
                refine lv_iadd hx hb dX10_mean_92 ?_
                obtain ⟨r13, hr13, h⟩ := bd_elim h
                refine ca_v (w' := [WX10 cy h0 a0 s0, WX0 cy (a0 0) a1 s1, WX5 cy (a0 1) a2 s2, WX0 cy (a0 2) a3 r13.2.2, WX3 cy (a0 12) a4 r13.1, WX2 cy (a4 0) a5 r13.2.1]) (rn_V (As := [.ref (a0 2), .ref (a0 1), .int (p1 + q60.2.1)]) (rest := []) ⟨hx, hb, hml, hown, hts⟩ (kX3_run l D cy (a0 12) (a0 2) (a0 1) a4 a5 a3 a2 q60.2.2.2.1 q60.2.2.2.2 r12 s2 (p1 + q60.2.1) r13 hr13 H.size) (cwV 3 hts gX10_mean_X3_run rfl rfl rfl (by decide +kernel) ⟨Nat.le_of_ble_eq_true rfl, Nat.le_of_ble_eq_true rfl⟩) hK hN hP hD [4, 5, 3, 2] rfl rfl (ci := 3) (q0 := 25) rfl rfl rfl rfl hl.1 rfl (Nat.le_of_ble_eq_true rfl) dX10_mean_93 ⟨Nat.le_refl 0, Nat.le_refl 0⟩) hP hD hS hA [4, 5, 3, 2] ⟨rfl, rfl, rfl, rfl⟩ (fun H locs hP hD hS => ?_)
                refine lv_lload_n hx hb dX10_mean_96 rfl (lv_at hl 3 rfl) ?_
                refine lv_aload_n hx hb dX10_mean_97 rfl (lv_at hl 0 rfl) ?_
                refine va_get (D := D) (ci := 10) (v := .ref (a0 2)) (C := RX10) (T := TX10) (N := 19) hx hb hts hinX10 hown hK hP 0 rfl rfl 2 (by decide) (hts (.fieldLink RX10 23 "KneeBench" "spareBench" "LKneeBench$Bench;") (List.mem_of_getElem? (i := 2) rfl)) (fun _ h9 => h9) rfl dX10_mean_98 ?_
                refine lv_aload_n hx hb dX10_mean_101 rfl (lv_at hl 0 rfl) ?_
                refine va_get (D := D) (ci := 10) (v := .ref (a0 2)) (C := RX10) (T := TX10) (N := 19) hx hb hts hinX10 hown hK hP 0 rfl rfl 2 (by decide) (hts (.fieldLink RX10 23 "KneeBench" "spareBench" "LKneeBench$Bench;") (List.mem_of_getElem? (i := 2) rfl)) (fun _ h9 => h9) rfl dX10_mean_102 ?_
                refine va_getN (D := D) (ci := 0) (v := .int (gi r13.2.2 12)) (C := RX0) (T := TX0) (N := 14) hx hb hts hinX0 hown hK hP 16 rfl rfl 12 (by decide) (NW.fld hN 23 rfl _) (fun _ h9 => h9) rfl dX10_mean_105 ?_
                refine lv_iconst (v := 0) hx hb dX10_mean_108 (by decide) ?_
                obtain ⟨r14, hr14, h⟩ := bd_elim h
                refine ca_i (w' := [WX10 cy h0 a0 s0, WX0 cy (a0 0) a1 s1, WX5 cy (a0 1) a2 s2, WX0 cy (a0 2) a3 r13.2.2, WX3 cy (a0 12) a4 r13.1, WX2 cy (a4 0) a5 r13.2.1]) (rn_V (As := [.int (gi r13.2.2 12), .int (0 : Int32)]) (rest := [.long q60.1]) ⟨hx, hb, hml, hown, hts⟩ (kX0_keptUnder l D cy (a0 2) a3 r13.2.2 (gi r13.2.2 12) (0 : Int32) r14 hr14 H.size) (cwV 2 hts gX10_mean_X0_keptUnder rfl rfl rfl (by decide +kernel) ⟨Nat.le_of_ble_eq_true rfl, Nat.le_of_ble_eq_true rfl⟩) hK hN hP hD [3] rfl rfl (ci := 0) (q0 := 16) rfl rfl rfl rfl hl.1 rfl (Nat.le_of_ble_eq_true rfl) dX10_mean_109 ⟨Nat.le_refl 0, Nat.le_refl 0⟩) hP hD hS hA [3] ⟨rfl, rfl, rfl, rfl⟩ (fun H locs hP hD hS => ?_)
                refine lv_i2l hx hb dX10_mean_112 rfl ?_
                refine lv_ladd hx hb dX10_mean_113 ?_
                refine lv_topl (fun x15 ex15 => ?_)
                replace h := lt_use h x15 ex15
                refine lv_lstore_n (lv' := [(3, .long x15), (0, .ref h0), (1, .int p1), (2, .int p2), (5, .int q60.2.1)]) hx hb dX10_mean_114 rfl hl (by decide) rfl (fun ls hl => ?_)
                refine lv_iinc (v := (q60.2.1 + (1 : Int32))) (lv' := [(5, .int (q60.2.1 + (1 : Int32))), (3, .long x15), (0, .ref h0), (1, .int p1), (2, .int p2)]) hx hb dX10_mean_115 hl (k := 4) rfl rfl (by decide) rfl (fun ls hl => ?_)
                refine lv_goto (tgt := 60) hx hb dX10_mean_118 (by decide) ?_
                exact ih _ o (hgo _ (Option.some.inj h).symm) H locs ls (lv_sub hl [2, 3, 4, 1, 0] rfl) hP hD hS kk121
          obtain ⟨o60, ho60, h⟩ := bd_elim h
          obtain ⟨n60, hn60⟩ := loopF_some ho60
          refine L60 n60 _ o60 hn60 H locs ls (lv_sub hl [2, 3, 4, 1, 0] rfl) hP hD hS (fun H locs ls hl hP hD hS => ?_)
          refine lv_aload_n hx hb dX10_mean_121 rfl (lv_at hl 0 rfl) ?_
          refine lv_lload_n hx hb dX10_mean_122 rfl (lv_at hl 2 rfl) ?_
          refine lv_iload_n hx hb dX10_mean_123 rfl (lv_at hl 1 rfl) ?_
          refine lv_i2l hx hb dX10_mean_124 rfl ?_
          obtain ⟨r16, hr16, h⟩ := bd_elim h
          refine ca_v (w' := [WX10 cy h0 a0 r16, WX0 cy (a0 0) a1 s1, WX5 cy (a0 1) a2 s2, WX0 cy (a0 2) a3 o60.2.1, WX3 cy (a0 12) a4 o60.2.2.1, WX2 cy (a4 0) a5 o60.2.2.2]) (rn_V (As := [.long o60.1, .long p2.toInt64]) (rest := []) ⟨hx, hb, hml, hown, hts⟩ (kX10_tellFraction l D cy h0 a0 s0 o60.1 p2.toInt64 r16 hr16 H.size) (cwV 2 hts gX10_mean_X10_tellFraction rfl rfl rfl (by decide +kernel) ⟨Nat.le_of_ble_eq_true rfl, Nat.le_of_ble_eq_true rfl⟩) hK hN hP hD [0] rfl rfl (ci := 10) (q0 := 0) rfl rfl rfl rfl hl.1 rfl (Nat.le_of_ble_eq_true rfl) dX10_mean_125 ⟨Nat.le_refl 0, Nat.le_refl 0⟩) hP hD hS hA [0] ⟨rfl, rfl, rfl, rfl⟩ (fun H locs hP hD hS => ?_)
          refine lv_aload_n hx hb dX10_mean_128 rfl (lv_at hl 0 rfl) ?_
          obtain ⟨r17, hr17, h⟩ := lt_elim h
          refine ca_z (w' := [WX10 cy h0 a0 r17.2, WX0 cy (a0 0) a1 s1, WX5 cy (a0 1) a2 s2, WX0 cy (a0 2) a3 o60.2.1, WX3 cy (a0 12) a4 o60.2.2.1, WX2 cy (a4 0) a5 o60.2.2.2]) (rn_V (As := []) (rest := []) ⟨hx, hb, hml, hown, hts⟩ (kX10_allow l D cy h0 a0 r16 r17 hr17.symm H.size) (cwV 0 hts gX10_mean_X10_allow rfl rfl rfl (by decide +kernel) ⟨Nat.le_of_ble_eq_true rfl, Nat.le_of_ble_eq_true rfl⟩) hK hN hP hD [0] rfl rfl (ci := 10) (q0 := 0) rfl rfl rfl rfl hl.1 rfl (Nat.le_of_ble_eq_true rfl) dX10_mean_129 ⟨Nat.le_refl 0, Nat.le_refl 0⟩) hP hD hS hA [0] ⟨rfl, rfl, rfl, rfl⟩ (fun b18 H locs hP hD hS => ?_)
          exact hret 132 H locs ls (r17.1, r17.2, o60.2.1, o60.2.2.1, o60.2.2.2) (Option.some.inj h) hP hD hS b18 dX10_mean_132
        · replace h := (if_pos c10).symm.trans h
          refine lv_aload_n hx hb dX10_mean_48 rfl (lv_at hl 0 rfl) ?_
          refine lv_bipush (v := 6) hx hb dX10_mean_49 (by decide) ?_
          obtain ⟨r19, hr19, h⟩ := lt_elim h
          refine ca_z (w' := [WX10 cy h0 a0 r19.2, WX0 cy (a0 0) a1 s1, WX5 cy (a0 1) a2 s2, WX0 cy (a0 2) a3 s3, WX3 cy (a0 12) a4 s4, WX2 cy (a4 0) a5 s5]) (rn_V (As := [.int (6 : Int32)]) (rest := []) ⟨hx, hb, hml, hown, hts⟩ (kX10_deny l D cy h0 a0 s0 (6 : Int32) r19 hr19.symm H.size) (cwV 1 hts gX10_mean_X10_deny rfl rfl rfl (by decide +kernel) ⟨Nat.le_of_ble_eq_true rfl, Nat.le_of_ble_eq_true rfl⟩) hK hN hP hD [0] rfl rfl (ci := 10) (q0 := 0) rfl rfl rfl rfl hl.1 rfl (Nat.le_of_ble_eq_true rfl) dX10_mean_51 ⟨Nat.le_refl 0, Nat.le_refl 0⟩) hP hD hS hA [0] ⟨rfl, rfl, rfl, rfl⟩ (fun b20 H locs hP hD hS => ?_)
          exact hret 54 H locs ls (r19.1, r19.2, s3, s4, s5) (Option.some.inj h) hP hD hS b20 dX10_mean_54
      · replace h := (if_neg c9).symm.trans h
        refine lv_aload_n hx hb dX10_mean_32 rfl (lv_at hl 0 rfl) ?_
        refine lv_iconst (v := 1) hx hb dX10_mean_33 (by decide) ?_
        obtain ⟨r21, hr21, h⟩ := lt_elim h
        refine ca_z (w' := [WX10 cy h0 a0 r21.2, WX0 cy (a0 0) a1 s1, WX5 cy (a0 1) a2 s2, WX0 cy (a0 2) a3 s3, WX3 cy (a0 12) a4 s4, WX2 cy (a4 0) a5 s5]) (rn_V (As := [.int (1 : Int32)]) (rest := []) ⟨hx, hb, hml, hown, hts⟩ (kX10_deny l D cy h0 a0 s0 (1 : Int32) r21 hr21.symm H.size) (cwV 1 hts gX10_mean_X10_deny rfl rfl rfl (by decide +kernel) ⟨Nat.le_of_ble_eq_true rfl, Nat.le_of_ble_eq_true rfl⟩) hK hN hP hD [0] rfl rfl (ci := 10) (q0 := 0) rfl rfl rfl rfl hl.1 rfl (Nat.le_of_ble_eq_true rfl) dX10_mean_34 ⟨Nat.le_refl 0, Nat.le_refl 0⟩) hP hD hS hA [0] ⟨rfl, rfl, rfl, rfl⟩ (fun b22 H locs hP hD hS => ?_)
        exact hret 37 H locs ls (r21.1, r21.2, s3, s4, s5) (Option.some.inj h) hP hD hS b22 dX10_mean_37
set_option maxRecDepth 20000 in
theorem ggX10_mood_X10_noFarmer : GoodIn wsX10_mood wsX10_noFarmer := goodIn_r _ [6, 1, 22, 23, 24, 25, 26, 27, 28, 29, 30, 31, 32, 33, 34, 35, 36, 37, 38, 39, 40, 41, 42, 43, 44, 45, 46, 47, 48, 49, 50, 51, 52, 53, 54] (by decide +kernel) (by decide +kernel)
set_option maxRecDepth 20000 in
theorem gX10_mood_X10_noFarmer : GoodIn wsX10_mood (wsV RX10 215 RX10 yX10_noFarmer wsX10_noFarmer) := goodIn_app (goodIn_of _ (by decide +kernel)) ggX10_mood_X10_noFarmer
set_option maxRecDepth 20000 in
theorem ggX10_mood_X10_refuse : GoodIn wsX10_mood wsX10_refuse := goodIn_r _ [10, 11, 22, 23, 24, 25, 26, 27, 28, 29, 30, 31, 32, 33, 34, 35, 36, 37, 38, 39, 40] (by decide +kernel) (by decide +kernel)
set_option maxRecDepth 20000 in
theorem gX10_mood_X10_refuse : GoodIn wsX10_mood (wsV RX10 139 RX10 yX10_refuse wsX10_refuse) := goodIn_app (goodIn_of _ (by decide +kernel)) ggX10_mood_X10_refuse
set_option maxRecDepth 20000 in
theorem ggX10_mood_X0_dislike : GoodIn wsX10_mood wsX0_dislike := goodIn_r _ [16, 17, 41, 42, 43, 44, 45, 46, 47, 48, 49, 50, 51, 52, 53, 54] (by decide +kernel) (by decide +kernel)
set_option maxRecDepth 20000 in
theorem gX10_mood_X0_dislike : GoodIn wsX10_mood (wsV RX10 244 RX0 yX0_dislike wsX0_dislike) := goodIn_app (goodIn_of _ (by decide +kernel)) ggX10_mood_X0_dislike
set_option maxRecDepth 20000 in
theorem ggX10_mood_X10_answer : GoodIn wsX10_mood wsX10_answer := goodIn_r _ [21, 11, 22, 23, 24, 25, 26, 27, 28, 29, 30, 31, 32, 33, 34, 35, 36, 37, 38, 39, 40] (by decide +kernel) (by decide +kernel)
set_option maxRecDepth 20000 in
theorem gX10_mood_X10_answer : GoodIn wsX10_mood (wsV RX10 181 RX10 yX10_answer wsX10_answer) := goodIn_app (goodIn_of _ (by decide +kernel)) ggX10_mood_X10_answer
theorem dX10_mood_0 : decode cX10_mood 0 = .ok (.aload_n 0, 1) := by decide +kernel
theorem dX10_mood_1 : decode cX10_mood 1 = .ok (.iload_n 1, 1) := by decide +kernel
theorem dX10_mood_2 : decode cX10_mood 2 = .ok (.invokevirtual 215, 3) := by decide +kernel
theorem dX10_mood_5 : decode cX10_mood 5 = .ok (.ifCond .eq 9, 3) := by decide +kernel
theorem dX10_mood_8 : decode cX10_mood 8 = .ok (.aload_n 0, 1) := by decide +kernel
theorem dX10_mood_9 : decode cX10_mood 9 = .ok (.iconst 1, 1) := by decide +kernel
theorem dX10_mood_10 : decode cX10_mood 10 = .ok (.invokevirtual 139, 3) := by decide +kernel
theorem dX10_mood_13 : decode cX10_mood 13 = .ok (.ireturn, 1) := by decide +kernel
theorem dX10_mood_14 : decode cX10_mood 14 = .ok (.iconst 0, 1) := by decide +kernel
theorem dX10_mood_15 : decode cX10_mood 15 = .ok (.istore_n 2, 1) := by decide +kernel
theorem dX10_mood_16 : decode cX10_mood 16 = .ok (.iconst 0, 1) := by decide +kernel
theorem dX10_mood_17 : decode cX10_mood 17 = .ok (.istore_n 3, 1) := by decide +kernel
theorem dX10_mood_18 : decode cX10_mood 18 = .ok (.iload_n 3, 1) := by decide +kernel
theorem dX10_mood_19 : decode cX10_mood 19 = .ok (.aload_n 0, 1) := by decide +kernel
theorem dX10_mood_20 : decode cX10_mood 20 = .ok (.getfield 10, 3) := by decide +kernel
theorem dX10_mood_23 : decode cX10_mood 23 = .ok (.getfield 178, 3) := by decide +kernel
theorem dX10_mood_26 : decode cX10_mood 26 = .ok (.if_icmp .ge 21, 3) := by decide +kernel
theorem dX10_mood_29 : decode cX10_mood 29 = .ok (.iload_n 2, 1) := by decide +kernel
theorem dX10_mood_30 : decode cX10_mood 30 = .ok (.aload_n 0, 1) := by decide +kernel
theorem dX10_mood_31 : decode cX10_mood 31 = .ok (.getfield 10, 3) := by decide +kernel
theorem dX10_mood_34 : decode cX10_mood 34 = .ok (.iload_n 1, 1) := by decide +kernel
theorem dX10_mood_35 : decode cX10_mood 35 = .ok (.iload_n 3, 1) := by decide +kernel
theorem dX10_mood_36 : decode cX10_mood 36 = .ok (.invokevirtual 244, 3) := by decide +kernel
theorem dX10_mood_39 : decode cX10_mood 39 = .ok (.iadd, 1) := by decide +kernel
theorem dX10_mood_40 : decode cX10_mood 40 = .ok (.istore_n 2, 1) := by decide +kernel
theorem dX10_mood_41 : decode cX10_mood 41 = .ok (.iinc 3 1, 3) := by decide +kernel
theorem dX10_mood_44 : decode cX10_mood 44 = .ok (.goto (-26), 3) := by decide +kernel
theorem dX10_mood_47 : decode cX10_mood 47 = .ok (.aload_n 0, 1) := by decide +kernel
theorem dX10_mood_48 : decode cX10_mood 48 = .ok (.iload_n 2, 1) := by decide +kernel
theorem dX10_mood_49 : decode cX10_mood 49 = .ok (.invokevirtual 181, 3) := by decide +kernel
theorem dX10_mood_52 : decode cX10_mood 52 = .ok (.ireturn, 1) := by decide +kernel
abbrev rmX10_mood : Room := { frames := 1, cells := 0, slots := 0, locals := 22 }
set_option maxHeartbeats 4000000 in
set_option maxRecDepth 100000 in
theorem kX10_mood (l : Launch) (D : va_G) (cy : Nat → ClassId) (h0 : Nat) (a0 : Nat → Nat) (a1 : Nat → Nat) (s0 : Rc) (s1 : Rc) (p1 : Int32) (res : Int32 × Rc) (h : fX10_mood p1 s0 s1 = some res) : CI l D cy yX10_mood wsX10_mood rmX10_mood [.ref h0, .int p1] (flat [WX10 cy h0 a0 s0, WX0 cy (a0 0) a1 s1]) (flat [WX10 cy h0 a0 res.2, WX0 cy (a0 0) a1 s1]) res.1 := by
  refine CI.of (cc := cX10_mood) (maxL := 4) (by decide) rfl (Nat.le_of_ble_eq_true rfl) ?_
  intro p e s m args below meth c A QQ ls E hr
  obtain ⟨hx, hb, hml, hown, hts, hK, hN, hP, hD, hA, hl⟩ := E
  have hret : ∀ (pc : Nat) (H : Heap) (locs : List Loc) (ls : Array Slot) (u : Int32 × Rc), u = res → va_P D vwCl (flat [WX10 cy h0 a0 u.2, WX0 cy (a0 0) a1 s1]) H → va_D A (flat [WX10 cy h0 a0 u.2, WX0 cy (a0 0) a1 s1]) → va_S A s.heap H locs → decode cX10_mood pc = .ok (.ireturn, 1) → W p l e rmX10_mood s m args below meth c H locs 0 0 QQ (F0 m pc ls [.int u.1]) := by
    intro pc H locs ls u hu hP hD hS hd; subst hu; exact hr pc H locs ls _ rfl hP hD hS hd
  clear hr
  have hl : lv_has ls 4 [(0, .ref h0), (1, .int p1)] := hl
  have hinX0 : ∀ w ∈ wsX00, w ∈ wsX10_mood := fun _ h => List.mem_cons_of_mem _ (List.mem_append_right _ h)
  have hinX10 : ∀ w ∈ wsX100, w ∈ wsX10_mood := fun _ h => List.mem_cons_of_mem _ (List.mem_append_left _ (List.mem_append_right _ h))
  unfold fX10_mood at h
  suffices key : ∀ (H : Heap) (locs : List Loc), va_P D vwCl (flat [WX10 cy h0 a0 s0, WX0 cy (a0 0) a1 s1]) H → va_S A s.heap H locs → W p l e rmX10_mood s m args below meth c H locs 0 0 QQ (F0 m 0 ls []) from key _ _ hP va_S.rf
  clear hP
  intro H locs hP hS
  refine lv_aload_n hx hb dX10_mood_0 rfl (lv_at hl 0 rfl) ?_
  refine lv_iload_n hx hb dX10_mood_1 rfl (lv_at hl 1 rfl) ?_
  refine ca_z (w' := [WX10 cy h0 a0 s0, WX0 cy (a0 0) a1 s1]) (rn_V (As := [.int p1]) (rest := []) ⟨hx, hb, hml, hown, hts⟩ (kX10_noFarmer l D cy h0 a0 a1 s0 s1 p1 _ rfl H.size) (cwV 1 hts gX10_mood_X10_noFarmer rfl rfl rfl (by decide +kernel) ⟨Nat.le_of_ble_eq_true rfl, Nat.le_of_ble_eq_true rfl⟩) hK hN hP hD [0, 1] rfl rfl (ci := 10) (q0 := 0) rfl rfl rfl rfl hl.1 rfl (Nat.le_of_ble_eq_true rfl) dX10_mood_2 ⟨Nat.le_refl 0, Nat.le_refl 0⟩) hP hD hS hA [0, 1] ⟨rfl, rfl, rfl, rfl⟩ (fun b1 H locs hP hD hS => ?_)
  refine lv_if_eq (tgt := 14) hx hb dX10_mood_5 (by decide) (fun c2 => ?_) (fun c2 => ?_)
  · replace h := (if_pos c2).symm.trans h
    refine lv_iconst (v := 0) hx hb dX10_mood_14 (by decide) ?_
    refine lv_istore_n (lv' := [(2, .int (0 : Int32)), (0, .ref h0), (1, .int p1)]) hx hb dX10_mood_15 rfl hl (by decide) rfl (fun ls hl => ?_)
    refine lv_iconst (v := 0) hx hb dX10_mood_16 (by decide) ?_
    refine lv_istore_n (lv' := [(3, .int (0 : Int32)), (2, .int (0 : Int32)), (0, .ref h0), (1, .int p1)]) hx hb dX10_mood_17 rfl hl (by decide) rfl (fun ls hl => ?_)
    have L18 : ∀ (n : Nat) (q18 : Int32 × Int32) (o : Int32), loopO (fX10_mood_L18 p1 s1) n q18 = some o → ∀ (H : Heap) (locs : List Loc) (ls : Array Slot), lv_has ls 4 [(0, .ref h0), (1, .int p1), (2, .int q18.1), (3, .int q18.2)] → va_P D vwCl (flat [WX10 cy h0 a0 s0, WX0 cy (a0 0) a1 s1]) H → va_D A (flat [WX10 cy h0 a0 s0, WX0 cy (a0 0) a1 s1]) → va_S A s.heap H locs → ∀ (kk47 : ∀ (H : Heap) (locs : List Loc) (ls : Array Slot), lv_has ls 4 [(0, .ref h0), (2, .int o)] → va_P D vwCl (flat [WX10 cy h0 a0 s0, WX0 cy (a0 0) a1 s1]) H → va_D A (flat [WX10 cy h0 a0 s0, WX0 cy (a0 0) a1 s1]) → va_S A s.heap H locs → W p l e rmX10_mood s m args below meth c H locs 0 0 QQ (F0 m 47 ls [])), W p l e rmX10_mood s m args below meth c H locs 0 0 QQ (F0 m 18 ls []) := by
      intro n
      induction n with
      | zero => intro q18 o h; exact absurd h (by rw [loopO_zero]; intro z; cases z)
      | succ n ih =>
        intro q18 o h H locs ls hl hP hD hS kk47
        obtain ⟨w, h, hgo, hst⟩ := loopO_elim h
        unfold fX10_mood_L18 at h
        refine lv_iload_n hx hb dX10_mood_18 rfl (lv_at hl 3 rfl) ?_
        refine lv_aload_n hx hb dX10_mood_19 rfl (lv_at hl 0 rfl) ?_
        refine va_get (D := D) (ci := 10) (v := .ref (a0 0)) (C := RX10) (T := TX10) (N := 19) hx hb hts hinX10 hown hK hP 0 rfl rfl 0 (by decide) (hts (.fieldLink RX10 10 "KneeBench" "bench" "LKneeBench$Bench;") (List.mem_of_getElem? (i := 1) rfl)) (fun _ h9 => h9) rfl dX10_mood_20 ?_
        refine va_getN (D := D) (ci := 0) (v := .int (gi s1 8)) (C := RX0) (T := TX0) (N := 14) hx hb hts hinX0 hown hK hP 1 rfl rfl 8 (by decide) (NW.fld hN 16 rfl _) (fun _ h9 => h9) rfl dX10_mood_23 ?_
        refine lv_icmp_ge (tgt := 47) hx hb dX10_mood_26 (by decide) (fun c3 => ?_) (fun c3 => ?_)
        · replace h := (if_pos c3).symm.trans h
          have eo := hst _ (Option.some.inj h).symm
          subst eo
          exact kk47 H locs ls (lv_sub hl [0, 2] rfl) hP hD hS
        · replace h := (if_neg c3).symm.trans h
          refine lv_iload_n hx hb dX10_mood_29 rfl (lv_at hl 2 rfl) ?_
          refine lv_aload_n hx hb dX10_mood_30 rfl (lv_at hl 0 rfl) ?_
          refine va_get (D := D) (ci := 10) (v := .ref (a0 0)) (C := RX10) (T := TX10) (N := 19) hx hb hts hinX10 hown hK hP 0 rfl rfl 0 (by decide) (hts (.fieldLink RX10 10 "KneeBench" "bench" "LKneeBench$Bench;") (List.mem_of_getElem? (i := 1) rfl)) (fun _ h9 => h9) rfl dX10_mood_31 ?_
          refine lv_iload_n hx hb dX10_mood_34 rfl (lv_at hl 1 rfl) ?_
          refine lv_iload_n hx hb dX10_mood_35 rfl (lv_at hl 3 rfl) ?_
          obtain ⟨r4, hr4, h⟩ := bd_elim h
          refine ca_i (w' := [WX10 cy h0 a0 s0, WX0 cy (a0 0) a1 s1]) (rn_V (As := [.int p1, .int q18.2]) (rest := [.int q18.1]) ⟨hx, hb, hml, hown, hts⟩ (kX0_dislike l D cy (a0 0) a1 s1 p1 q18.2 r4 hr4 H.size) (cwV 2 hts gX10_mood_X0_dislike rfl rfl rfl (by decide +kernel) ⟨Nat.le_of_ble_eq_true rfl, Nat.le_of_ble_eq_true rfl⟩) hK hN hP hD [1] rfl rfl (ci := 0) (q0 := 1) rfl rfl rfl rfl hl.1 rfl (Nat.le_of_ble_eq_true rfl) dX10_mood_36 ⟨Nat.le_refl 0, Nat.le_refl 0⟩) hP hD hS hA [1] ⟨rfl, rfl, rfl, rfl⟩ (fun H locs hP hD hS => ?_)
          refine lv_iadd hx hb dX10_mood_39 ?_
          refine lv_topi (fun x5 ex5 => ?_)
          replace h := lt_use h x5 ex5
          refine lv_istore_n (lv' := [(2, .int x5), (0, .ref h0), (1, .int p1), (3, .int q18.2)]) hx hb dX10_mood_40 rfl hl (by decide) rfl (fun ls hl => ?_)
          refine lv_iinc (v := (q18.2 + (1 : Int32))) (lv' := [(3, .int (q18.2 + (1 : Int32))), (2, .int x5), (0, .ref h0), (1, .int p1)]) hx hb dX10_mood_41 hl (k := 3) rfl rfl (by decide) rfl (fun ls hl => ?_)
          refine lv_goto (tgt := 18) hx hb dX10_mood_44 (by decide) ?_
          exact ih _ o (hgo _ (Option.some.inj h).symm) H locs ls (lv_sub hl [2, 3, 1, 0] rfl) hP hD hS kk47
    obtain ⟨o18, ho18, h⟩ := bd_elim h
    obtain ⟨n18, hn18⟩ := loopF_some ho18
    refine L18 n18 _ o18 hn18 H locs ls (lv_sub hl [2, 3, 1, 0] rfl) hP hD hS (fun H locs ls hl hP hD hS => ?_)
    refine lv_aload_n hx hb dX10_mood_47 rfl (lv_at hl 0 rfl) ?_
    refine lv_iload_n hx hb dX10_mood_48 rfl (lv_at hl 1 rfl) ?_
    obtain ⟨r6, hr6, h⟩ := lt_elim h
    refine ca_i (w' := [WX10 cy h0 a0 r6.2, WX0 cy (a0 0) a1 s1]) (rn_V (As := [.int o18]) (rest := []) ⟨hx, hb, hml, hown, hts⟩ (kX10_answer l D cy h0 a0 s0 o18 r6 hr6.symm H.size) (cwV 1 hts gX10_mood_X10_answer rfl rfl rfl (by decide +kernel) ⟨Nat.le_of_ble_eq_true rfl, Nat.le_of_ble_eq_true rfl⟩) hK hN hP hD [0] rfl rfl (ci := 10) (q0 := 0) rfl rfl rfl rfl hl.1 rfl (Nat.le_of_ble_eq_true rfl) dX10_mood_49 ⟨Nat.le_refl 0, Nat.le_refl 0⟩) hP hD hS hA [0] ⟨rfl, rfl, rfl, rfl⟩ (fun H locs hP hD hS => ?_)
    exact hret 52 H locs ls (r6.1, r6.2) (Option.some.inj h) hP hD hS dX10_mood_52
  · replace h := (if_neg c2).symm.trans h
    refine lv_aload_n hx hb dX10_mood_8 rfl (lv_at hl 0 rfl) ?_
    refine lv_iconst (v := 1) hx hb dX10_mood_9 (by decide) ?_
    obtain ⟨r7, hr7, h⟩ := lt_elim h
    refine ca_i (w' := [WX10 cy h0 a0 r7.2, WX0 cy (a0 0) a1 s1]) (rn_V (As := [.int (1 : Int32)]) (rest := []) ⟨hx, hb, hml, hown, hts⟩ (kX10_refuse l D cy h0 a0 s0 (1 : Int32) r7 hr7.symm H.size) (cwV 1 hts gX10_mood_X10_refuse rfl rfl rfl (by decide +kernel) ⟨Nat.le_of_ble_eq_true rfl, Nat.le_of_ble_eq_true rfl⟩) hK hN hP hD [0] rfl rfl (ci := 10) (q0 := 0) rfl rfl rfl rfl hl.1 rfl (Nat.le_of_ble_eq_true rfl) dX10_mood_10 ⟨Nat.le_refl 0, Nat.le_refl 0⟩) hP hD hS hA [0] ⟨rfl, rfl, rfl, rfl⟩ (fun H locs hP hD hS => ?_)
    exact hret 13 H locs ls (r7.1, r7.2) (Option.some.inj h) hP hD hS dX10_mood_13
set_option maxRecDepth 20000 in
theorem ggX10_nextWrong_X10_outside : GoodIn wsX10_nextWrong wsX10_outside := goodIn_r _ [5] (by decide +kernel) (by decide +kernel)
set_option maxRecDepth 20000 in
theorem gX10_nextWrong_X10_outside : GoodIn wsX10_nextWrong (va_wsS RX10 116 yX10_outside wsX10_outside) := goodIn_app (goodIn_of _ (by decide +kernel)) ggX10_nextWrong_X10_outside
set_option maxRecDepth 20000 in
theorem ggX10_nextWrong_X10_refuse : GoodIn wsX10_nextWrong wsX10_refuse := goodIn_r _ [9, 10, 69, 70, 71, 72, 73, 74, 75, 76, 77, 78, 79, 80, 81, 82, 83, 84, 85, 86, 87] (by decide +kernel) (by decide +kernel)
set_option maxRecDepth 20000 in
theorem gX10_nextWrong_X10_refuse : GoodIn wsX10_nextWrong (wsV RX10 139 RX10 yX10_refuse wsX10_refuse) := goodIn_app (goodIn_of _ (by decide +kernel)) ggX10_nextWrong_X10_refuse
set_option maxRecDepth 20000 in
theorem ggX10_nextWrong_X0_verdictOf : GoodIn wsX10_nextWrong wsX0_verdictOf := goodIn_r _ [15, 16, 17, 18, 19, 14, 20, 21, 22, 23, 24, 25, 26, 27, 28, 29, 30, 31, 32, 33, 34, 35, 36, 37, 38, 39, 40, 41, 42, 43, 44, 45, 46, 47, 48, 49, 50, 51, 52, 53, 4, 54, 55, 56, 57, 58, 59, 88, 89, 90, 91, 92, 93, 94, 95, 96, 97, 98, 99, 100, 101] (by decide +kernel) (by decide +kernel)
set_option maxRecDepth 20000 in
theorem gX10_nextWrong_X0_verdictOf : GoodIn wsX10_nextWrong (wsV RX10 293 RX0 yX0_verdictOf wsX0_verdictOf) := goodIn_app (goodIn_of _ (by decide +kernel)) ggX10_nextWrong_X0_verdictOf
set_option maxRecDepth 20000 in
theorem ggX10_nextWrong_X0_wetOn : GoodIn wsX10_nextWrong wsX0_wetOn := goodIn_r _ [63, 64, 88, 89, 90, 91, 92, 93, 94, 95, 96, 97, 98, 99, 100, 101] (by decide +kernel) (by decide +kernel)
set_option maxRecDepth 20000 in
theorem gX10_nextWrong_X0_wetOn : GoodIn wsX10_nextWrong (wsV RX10 250 RX0 yX0_wetOn wsX0_wetOn) := goodIn_app (goodIn_of _ (by decide +kernel)) ggX10_nextWrong_X0_wetOn
set_option maxRecDepth 20000 in
theorem ggX10_nextWrong_X10_answer : GoodIn wsX10_nextWrong wsX10_answer := goodIn_r _ [68, 10, 69, 70, 71, 72, 73, 74, 75, 76, 77, 78, 79, 80, 81, 82, 83, 84, 85, 86, 87] (by decide +kernel) (by decide +kernel)
set_option maxRecDepth 20000 in
theorem gX10_nextWrong_X10_answer : GoodIn wsX10_nextWrong (wsV RX10 181 RX10 yX10_answer wsX10_answer) := goodIn_app (goodIn_of _ (by decide +kernel)) ggX10_nextWrong_X10_answer
theorem dX10_nextWrong_0 : decode cX10_nextWrong 0 = .ok (.iload_n 1, 1) := by decide +kernel
theorem dX10_nextWrong_1 : decode cX10_nextWrong 1 = .ok (.iconst 0, 1) := by decide +kernel
theorem dX10_nextWrong_2 : decode cX10_nextWrong 2 = .ok (.bipush 59, 2) := by decide +kernel
theorem dX10_nextWrong_4 : decode cX10_nextWrong 4 = .ok (.invokestatic 116, 3) := by decide +kernel
theorem dX10_nextWrong_7 : decode cX10_nextWrong 7 = .ok (.ifCond .eq 9, 3) := by decide +kernel
theorem dX10_nextWrong_10 : decode cX10_nextWrong 10 = .ok (.aload_n 0, 1) := by decide +kernel
theorem dX10_nextWrong_11 : decode cX10_nextWrong 11 = .ok (.iconst 1, 1) := by decide +kernel
theorem dX10_nextWrong_12 : decode cX10_nextWrong 12 = .ok (.invokevirtual 139, 3) := by decide +kernel
theorem dX10_nextWrong_15 : decode cX10_nextWrong 15 = .ok (.ireturn, 1) := by decide +kernel
theorem dX10_nextWrong_16 : decode cX10_nextWrong 16 = .ok (.iload_n 1, 1) := by decide +kernel
theorem dX10_nextWrong_17 : decode cX10_nextWrong 17 = .ok (.istore_n 2, 1) := by decide +kernel
theorem dX10_nextWrong_18 : decode cX10_nextWrong 18 = .ok (.iload_n 2, 1) := by decide +kernel
theorem dX10_nextWrong_19 : decode cX10_nextWrong 19 = .ok (.aload_n 0, 1) := by decide +kernel
theorem dX10_nextWrong_20 : decode cX10_nextWrong 20 = .ok (.getfield 10, 3) := by decide +kernel
theorem dX10_nextWrong_23 : decode cX10_nextWrong 23 = .ok (.getfield 197, 3) := by decide +kernel
theorem dX10_nextWrong_26 : decode cX10_nextWrong 26 = .ok (.if_icmp .ge 36, 3) := by decide +kernel
theorem dX10_nextWrong_29 : decode cX10_nextWrong 29 = .ok (.aload_n 0, 1) := by decide +kernel
theorem dX10_nextWrong_30 : decode cX10_nextWrong 30 = .ok (.getfield 10, 3) := by decide +kernel
theorem dX10_nextWrong_33 : decode cX10_nextWrong 33 = .ok (.iload_n 2, 1) := by decide +kernel
theorem dX10_nextWrong_34 : decode cX10_nextWrong 34 = .ok (.invokevirtual 293, 3) := by decide +kernel
theorem dX10_nextWrong_37 : decode cX10_nextWrong 37 = .ok (.iconst 1, 1) := by decide +kernel
theorem dX10_nextWrong_38 : decode cX10_nextWrong 38 = .ok (.aload_n 0, 1) := by decide +kernel
theorem dX10_nextWrong_39 : decode cX10_nextWrong 39 = .ok (.getfield 10, 3) := by decide +kernel
theorem dX10_nextWrong_42 : decode cX10_nextWrong 42 = .ok (.iload_n 2, 1) := by decide +kernel
theorem dX10_nextWrong_43 : decode cX10_nextWrong 43 = .ok (.invokevirtual 250, 3) := by decide +kernel
theorem dX10_nextWrong_46 : decode cX10_nextWrong 46 = .ok (.isub, 1) := by decide +kernel
theorem dX10_nextWrong_47 : decode cX10_nextWrong 47 = .ok (.if_icmp .ne 9, 3) := by decide +kernel
theorem dX10_nextWrong_50 : decode cX10_nextWrong 50 = .ok (.aload_n 0, 1) := by decide +kernel
theorem dX10_nextWrong_51 : decode cX10_nextWrong 51 = .ok (.iload_n 2, 1) := by decide +kernel
theorem dX10_nextWrong_52 : decode cX10_nextWrong 52 = .ok (.invokevirtual 181, 3) := by decide +kernel
theorem dX10_nextWrong_55 : decode cX10_nextWrong 55 = .ok (.ireturn, 1) := by decide +kernel
theorem dX10_nextWrong_56 : decode cX10_nextWrong 56 = .ok (.iinc 2 1, 3) := by decide +kernel
theorem dX10_nextWrong_59 : decode cX10_nextWrong 59 = .ok (.goto (-41), 3) := by decide +kernel
theorem dX10_nextWrong_62 : decode cX10_nextWrong 62 = .ok (.aload_n 0, 1) := by decide +kernel
theorem dX10_nextWrong_63 : decode cX10_nextWrong 63 = .ok (.bipush 6, 2) := by decide +kernel
theorem dX10_nextWrong_65 : decode cX10_nextWrong 65 = .ok (.invokevirtual 139, 3) := by decide +kernel
theorem dX10_nextWrong_68 : decode cX10_nextWrong 68 = .ok (.ireturn, 1) := by decide +kernel
abbrev rmX10_nextWrong : Room := { frames := 4, cells := 0, slots := 0, locals := 89 }
set_option maxHeartbeats 4000000 in
set_option maxRecDepth 100000 in
theorem kX10_nextWrong (l : Launch) (D : va_G) (cy : Nat → ClassId) (h0 : Nat) (a0 : Nat → Nat) (a1 : Nat → Nat) (s0 : Rc) (s1 : Rc) (p1 : Int32) (res : Int32 × Rc) (h : fX10_nextWrong p1 s0 s1 = some res) : CI l D cy yX10_nextWrong wsX10_nextWrong rmX10_nextWrong [.ref h0, .int p1] (flat [WX10 cy h0 a0 s0, WX0 cy (a0 0) a1 s1]) (flat [WX10 cy h0 a0 res.2, WX0 cy (a0 0) a1 s1]) res.1 := by
  refine CI.of (cc := cX10_nextWrong) (maxL := 3) (by decide) rfl (Nat.le_of_ble_eq_true rfl) ?_
  intro p e s m args below meth c A QQ ls E hr
  obtain ⟨hx, hb, hml, hown, hts, hK, hN, hP, hD, hA, hl⟩ := E
  have hret : ∀ (pc : Nat) (H : Heap) (locs : List Loc) (ls : Array Slot) (u : Int32 × Rc), u = res → va_P D vwCl (flat [WX10 cy h0 a0 u.2, WX0 cy (a0 0) a1 s1]) H → va_D A (flat [WX10 cy h0 a0 u.2, WX0 cy (a0 0) a1 s1]) → va_S A s.heap H locs → decode cX10_nextWrong pc = .ok (.ireturn, 1) → W p l e rmX10_nextWrong s m args below meth c H locs 0 0 QQ (F0 m pc ls [.int u.1]) := by
    intro pc H locs ls u hu hP hD hS hd; subst hu; exact hr pc H locs ls _ rfl hP hD hS hd
  clear hr
  have hl : lv_has ls 3 [(0, .ref h0), (1, .int p1)] := hl
  have hinX0 : ∀ w ∈ wsX00, w ∈ wsX10_nextWrong := fun _ h => List.mem_cons_of_mem _ (List.mem_append_right _ h)
  have hinX10 : ∀ w ∈ wsX100, w ∈ wsX10_nextWrong := fun _ h => List.mem_cons_of_mem _ (List.mem_append_left _ (List.mem_append_right _ h))
  unfold fX10_nextWrong at h
  suffices key : ∀ (H : Heap) (locs : List Loc), va_P D vwCl (flat [WX10 cy h0 a0 s0, WX0 cy (a0 0) a1 s1]) H → va_S A s.heap H locs → W p l e rmX10_nextWrong s m args below meth c H locs 0 0 QQ (F0 m 0 ls []) from key _ _ hP va_S.rf
  clear hP
  intro H locs hP hS
  refine lv_iload_n hx hb dX10_nextWrong_0 rfl (lv_at hl 1 rfl) ?_
  refine lv_iconst (v := 0) hx hb dX10_nextWrong_1 (by decide) ?_
  refine lv_bipush (v := 59) hx hb dX10_nextWrong_2 (by decide) ?_
  refine ca_z (w' := [WX10 cy h0 a0 s0, WX0 cy (a0 0) a1 s1]) (rn_S (As := [.int p1, .int (0 : Int32), .int (59 : Int32)]) (rest := []) ⟨hx, hb, hml, hown, hts⟩ (kX10_outside l D cy p1 (0 : Int32) (59 : Int32) _ rfl H.size) (va_cwS 3 hts gX10_nextWrong_X10_outside rfl rfl rfl (by decide +kernel) ⟨Nat.le_of_ble_eq_true rfl, Nat.le_of_ble_eq_true rfl⟩) hK hN hP hD [] rfl rfl rfl hl.1 rfl (Nat.le_of_ble_eq_true rfl) dX10_nextWrong_4 ⟨Nat.le_refl 0, Nat.le_refl 0⟩) hP hD hS hA [] ⟨rfl, rfl, rfl, rfl⟩ (fun b1 H locs hP hD hS => ?_)
  refine lv_if_eq (tgt := 16) hx hb dX10_nextWrong_7 (by decide) (fun c2 => ?_) (fun c2 => ?_)
  · replace h := (if_pos c2).symm.trans h
    refine lv_iload_n hx hb dX10_nextWrong_16 rfl (lv_at hl 1 rfl) ?_
    refine lv_istore_n (lv' := [(2, .int p1), (0, .ref h0), (1, .int p1)]) hx hb dX10_nextWrong_17 rfl hl (by decide) rfl (fun ls hl => ?_)
    have L18 : ∀ (n : Nat) (q18 : Int32) (o : (Int32) ⊕ (Unit)), loopO (fX10_nextWrong_L18 s1) n q18 = some o → ∀ (H : Heap) (locs : List Loc) (ls : Array Slot), lv_has ls 3 [(0, .ref h0), (2, .int q18)] → va_P D vwCl (flat [WX10 cy h0 a0 s0, WX0 cy (a0 0) a1 s1]) H → va_D A (flat [WX10 cy h0 a0 s0, WX0 cy (a0 0) a1 s1]) → va_S A s.heap H locs → ∀ (kk50 : ∀ v : Int32, o = (.inl v) → ∀ (H : Heap) (locs : List Loc) (ls : Array Slot), lv_has ls 3 [(0, .ref h0), (2, .int v)] → va_P D vwCl (flat [WX10 cy h0 a0 s0, WX0 cy (a0 0) a1 s1]) H → va_D A (flat [WX10 cy h0 a0 s0, WX0 cy (a0 0) a1 s1]) → va_S A s.heap H locs → W p l e rmX10_nextWrong s m args below meth c H locs 0 0 QQ (F0 m 50 ls [])) (kk62 : ∀ v : Unit, o = (.inr v) → ∀ (H : Heap) (locs : List Loc) (ls : Array Slot), lv_has ls 3 [(0, .ref h0)] → va_P D vwCl (flat [WX10 cy h0 a0 s0, WX0 cy (a0 0) a1 s1]) H → va_D A (flat [WX10 cy h0 a0 s0, WX0 cy (a0 0) a1 s1]) → va_S A s.heap H locs → W p l e rmX10_nextWrong s m args below meth c H locs 0 0 QQ (F0 m 62 ls [])), W p l e rmX10_nextWrong s m args below meth c H locs 0 0 QQ (F0 m 18 ls []) := by
      intro n
      induction n with
      | zero => intro q18 o h; exact absurd h (by rw [loopO_zero]; intro z; cases z)
      | succ n ih =>
        intro q18 o h H locs ls hl hP hD hS kk50 kk62
        obtain ⟨w, h, hgo, hst⟩ := loopO_elim h
        unfold fX10_nextWrong_L18 at h
        refine lv_iload_n hx hb dX10_nextWrong_18 rfl (lv_at hl 1 rfl) ?_
        refine lv_aload_n hx hb dX10_nextWrong_19 rfl (lv_at hl 0 rfl) ?_
        refine va_get (D := D) (ci := 10) (v := .ref (a0 0)) (C := RX10) (T := TX10) (N := 19) hx hb hts hinX10 hown hK hP 0 rfl rfl 0 (by decide) (hts (.fieldLink RX10 10 "KneeBench" "bench" "LKneeBench$Bench;") (List.mem_of_getElem? (i := 1) rfl)) (fun _ h9 => h9) rfl dX10_nextWrong_20 ?_
        refine va_getN (D := D) (ci := 0) (v := .int (gi s1 9)) (C := RX0) (T := TX0) (N := 14) hx hb hts hinX0 hown hK hP 1 rfl rfl 9 (by decide) (NW.fld hN 19 rfl _) (fun _ h9 => h9) rfl dX10_nextWrong_23 ?_
        refine lv_icmp_ge (tgt := 62) hx hb dX10_nextWrong_26 (by decide) (fun c3 => ?_) (fun c3 => ?_)
        · replace h := (if_pos c3).symm.trans h
          have eo := hst _ (Option.some.inj h).symm
          exact kk62 _ eo.symm H locs ls (lv_sub hl [0] rfl) hP hD hS
        · replace h := (if_neg c3).symm.trans h
          refine lv_aload_n hx hb dX10_nextWrong_29 rfl (lv_at hl 0 rfl) ?_
          refine va_get (D := D) (ci := 10) (v := .ref (a0 0)) (C := RX10) (T := TX10) (N := 19) hx hb hts hinX10 hown hK hP 0 rfl rfl 0 (by decide) (hts (.fieldLink RX10 10 "KneeBench" "bench" "LKneeBench$Bench;") (List.mem_of_getElem? (i := 1) rfl)) (fun _ h9 => h9) rfl dX10_nextWrong_30 ?_
          refine lv_iload_n hx hb dX10_nextWrong_33 rfl (lv_at hl 1 rfl) ?_
          obtain ⟨r4, hr4, h⟩ := bd_elim h
          refine ca_i (w' := [WX10 cy h0 a0 s0, WX0 cy (a0 0) a1 s1]) (rn_V (As := [.int q18]) (rest := []) ⟨hx, hb, hml, hown, hts⟩ (kX0_verdictOf l D cy (a0 0) a1 s1 q18 r4 hr4 H.size) (cwV 1 hts gX10_nextWrong_X0_verdictOf rfl rfl rfl (by decide +kernel) ⟨Nat.le_of_ble_eq_true rfl, Nat.le_of_ble_eq_true rfl⟩) hK hN hP hD [1] rfl rfl (ci := 0) (q0 := 1) rfl rfl rfl rfl hl.1 rfl (Nat.le_of_ble_eq_true rfl) dX10_nextWrong_34 ⟨Nat.le_refl 0, Nat.le_refl 0⟩) hP hD hS hA [1] ⟨rfl, rfl, rfl, rfl⟩ (fun H locs hP hD hS => ?_)
          refine lv_iconst (v := 1) hx hb dX10_nextWrong_37 (by decide) ?_
          refine lv_aload_n hx hb dX10_nextWrong_38 rfl (lv_at hl 0 rfl) ?_
          refine va_get (D := D) (ci := 10) (v := .ref (a0 0)) (C := RX10) (T := TX10) (N := 19) hx hb hts hinX10 hown hK hP 0 rfl rfl 0 (by decide) (hts (.fieldLink RX10 10 "KneeBench" "bench" "LKneeBench$Bench;") (List.mem_of_getElem? (i := 1) rfl)) (fun _ h9 => h9) rfl dX10_nextWrong_39 ?_
          refine lv_iload_n hx hb dX10_nextWrong_42 rfl (lv_at hl 1 rfl) ?_
          refine ca_i (w' := [WX10 cy h0 a0 s0, WX0 cy (a0 0) a1 s1]) (rn_V (As := [.int q18]) (rest := [.int (1 : Int32), .int r4]) ⟨hx, hb, hml, hown, hts⟩ (kX0_wetOn l D cy (a0 0) a1 s1 q18 _ rfl H.size) (cwV 1 hts gX10_nextWrong_X0_wetOn rfl rfl rfl (by decide +kernel) ⟨Nat.le_of_ble_eq_true rfl, Nat.le_of_ble_eq_true rfl⟩) hK hN hP hD [1] rfl rfl (ci := 0) (q0 := 1) rfl rfl rfl rfl hl.1 rfl (Nat.le_of_ble_eq_true rfl) dX10_nextWrong_43 ⟨Nat.le_refl 0, Nat.le_refl 0⟩) hP hD hS hA [1] ⟨rfl, rfl, rfl, rfl⟩ (fun H locs hP hD hS => ?_)
          refine lv_isub hx hb dX10_nextWrong_46 ?_
          refine lv_icmp_ne (tgt := 56) hx hb dX10_nextWrong_47 (by decide) (fun c5 => ?_) (fun c5 => ?_)
          · replace h := (if_neg c5).symm.trans h
            refine lv_iinc (v := (q18 + (1 : Int32))) (lv' := [(2, .int (q18 + (1 : Int32))), (0, .ref h0)]) hx hb dX10_nextWrong_56 hl (k := 1) rfl rfl (by decide) rfl (fun ls hl => ?_)
            refine lv_goto (tgt := 18) hx hb dX10_nextWrong_59 (by decide) ?_
            exact ih _ o (hgo _ (Option.some.inj h).symm) H locs ls (lv_sub hl [1, 0] rfl) hP hD hS kk50 kk62
          · replace h := (if_pos c5).symm.trans h
            have eo := hst _ (Option.some.inj h).symm
            exact kk50 _ eo.symm H locs ls (lv_sub hl [0, 1] rfl) hP hD hS
    obtain ⟨o18, ho18, h⟩ := bd_elim h
    obtain ⟨n18, hn18⟩ := loopF_some ho18
    refine L18 n18 _ o18 hn18 H locs ls (lv_sub hl [1, 0] rfl) hP hD hS (fun o18a eo H locs ls hl hP hD hS => ?_) (fun o18b eo H locs ls hl hP hD hS => ?_)
    · subst eo
      rw [Sum.elim_inl] at h
      refine lv_aload_n hx hb dX10_nextWrong_50 rfl (lv_at hl 0 rfl) ?_
      refine lv_iload_n hx hb dX10_nextWrong_51 rfl (lv_at hl 1 rfl) ?_
      obtain ⟨r6, hr6, h⟩ := lt_elim h
      refine ca_i (w' := [WX10 cy h0 a0 r6.2, WX0 cy (a0 0) a1 s1]) (rn_V (As := [.int o18a]) (rest := []) ⟨hx, hb, hml, hown, hts⟩ (kX10_answer l D cy h0 a0 s0 o18a r6 hr6.symm H.size) (cwV 1 hts gX10_nextWrong_X10_answer rfl rfl rfl (by decide +kernel) ⟨Nat.le_of_ble_eq_true rfl, Nat.le_of_ble_eq_true rfl⟩) hK hN hP hD [0] rfl rfl (ci := 10) (q0 := 0) rfl rfl rfl rfl hl.1 rfl (Nat.le_of_ble_eq_true rfl) dX10_nextWrong_52 ⟨Nat.le_refl 0, Nat.le_refl 0⟩) hP hD hS hA [0] ⟨rfl, rfl, rfl, rfl⟩ (fun H locs hP hD hS => ?_)
      exact hret 55 H locs ls (r6.1, r6.2) (Option.some.inj h) hP hD hS dX10_nextWrong_55
    · subst eo
      rw [Sum.elim_inr] at h
      refine lv_aload_n hx hb dX10_nextWrong_62 rfl (lv_at hl 0 rfl) ?_
      refine lv_bipush (v := 6) hx hb dX10_nextWrong_63 (by decide) ?_
      obtain ⟨r7, hr7, h⟩ := lt_elim h
      refine ca_i (w' := [WX10 cy h0 a0 r7.2, WX0 cy (a0 0) a1 s1]) (rn_V (As := [.int (6 : Int32)]) (rest := []) ⟨hx, hb, hml, hown, hts⟩ (kX10_refuse l D cy h0 a0 s0 (6 : Int32) r7 hr7.symm H.size) (cwV 1 hts gX10_nextWrong_X10_refuse rfl rfl rfl (by decide +kernel) ⟨Nat.le_of_ble_eq_true rfl, Nat.le_of_ble_eq_true rfl⟩) hK hN hP hD [0] rfl rfl (ci := 10) (q0 := 0) rfl rfl rfl rfl hl.1 rfl (Nat.le_of_ble_eq_true rfl) dX10_nextWrong_65 ⟨Nat.le_refl 0, Nat.le_refl 0⟩) hP hD hS hA [0] ⟨rfl, rfl, rfl, rfl⟩ (fun H locs hP hD hS => ?_)
      exact hret 68 H locs ls (r7.1, r7.2) (Option.some.inj h) hP hD hS dX10_nextWrong_68
  · replace h := (if_neg c2).symm.trans h
    refine lv_aload_n hx hb dX10_nextWrong_10 rfl (lv_at hl 0 rfl) ?_
    refine lv_iconst (v := 1) hx hb dX10_nextWrong_11 (by decide) ?_
    obtain ⟨r8, hr8, h⟩ := lt_elim h
    refine ca_i (w' := [WX10 cy h0 a0 r8.2, WX0 cy (a0 0) a1 s1]) (rn_V (As := [.int (1 : Int32)]) (rest := []) ⟨hx, hb, hml, hown, hts⟩ (kX10_refuse l D cy h0 a0 s0 (1 : Int32) r8 hr8.symm H.size) (cwV 1 hts gX10_nextWrong_X10_refuse rfl rfl rfl (by decide +kernel) ⟨Nat.le_of_ble_eq_true rfl, Nat.le_of_ble_eq_true rfl⟩) hK hN hP hD [0] rfl rfl (ci := 10) (q0 := 0) rfl rfl rfl rfl hl.1 rfl (Nat.le_of_ble_eq_true rfl) dX10_nextWrong_12 ⟨Nat.le_refl 0, Nat.le_refl 0⟩) hP hD hS hA [0] ⟨rfl, rfl, rfl, rfl⟩ (fun H locs hP hD hS => ?_)
    exact hret 15 H locs ls (r8.1, r8.2) (Option.some.inj h) hP hD hS dX10_nextWrong_15
set_option maxRecDepth 20000 in
theorem ggX10_noSpan_X10_noToldDay : GoodIn wsX10_noSpan wsX10_noToldDay := goodIn_r _ [4, 5, 6, 3, 7] (by decide +kernel) (by decide +kernel)
set_option maxRecDepth 20000 in
theorem gX10_noSpan_X10_noToldDay : GoodIn wsX10_noSpan (va_wsS RX10 281 yX10_noToldDay wsX10_noToldDay) := goodIn_app (goodIn_of _ (by decide +kernel)) ggX10_noSpan_X10_noToldDay
theorem dX10_noSpan_0 : decode cX10_noSpan 0 = .ok (.iload_n 0, 1) := by decide +kernel
theorem dX10_noSpan_1 : decode cX10_noSpan 1 = .ok (.invokestatic 281, 3) := by decide +kernel
theorem dX10_noSpan_4 : decode cX10_noSpan 4 = .ok (.ifCond .ne 15, 3) := by decide +kernel
theorem dX10_noSpan_7 : decode cX10_noSpan 7 = .ok (.iload_n 1, 1) := by decide +kernel
theorem dX10_noSpan_8 : decode cX10_noSpan 8 = .ok (.invokestatic 281, 3) := by decide +kernel
theorem dX10_noSpan_11 : decode cX10_noSpan 11 = .ok (.ifCond .ne 8, 3) := by decide +kernel
theorem dX10_noSpan_14 : decode cX10_noSpan 14 = .ok (.iload_n 1, 1) := by decide +kernel
theorem dX10_noSpan_15 : decode cX10_noSpan 15 = .ok (.iload_n 0, 1) := by decide +kernel
theorem dX10_noSpan_16 : decode cX10_noSpan 16 = .ok (.if_icmp .ge 7, 3) := by decide +kernel
theorem dX10_noSpan_19 : decode cX10_noSpan 19 = .ok (.iconst 1, 1) := by decide +kernel
theorem dX10_noSpan_20 : decode cX10_noSpan 20 = .ok (.goto 4, 3) := by decide +kernel
theorem dX10_noSpan_23 : decode cX10_noSpan 23 = .ok (.iconst 0, 1) := by decide +kernel
theorem dX10_noSpan_24 : decode cX10_noSpan 24 = .ok (.ireturn, 1) := by decide +kernel
abbrev rmX10_noSpan : Room := { frames := 2, cells := 0, slots := 0, locals := 42 }
set_option maxHeartbeats 4000000 in
set_option maxRecDepth 100000 in
theorem kX10_noSpan (l : Launch) (D : va_G) (cy : Nat → ClassId) (p1 : Int32) (p2 : Int32) (res : Int32) (h : fX10_noSpan p1 p2 = res) : CZ l D cy yX10_noSpan wsX10_noSpan rmX10_noSpan [.int p1, .int p2] (flat []) (flat []) res := by
  refine CZ.of (cc := cX10_noSpan) (maxL := 2) (by decide) rfl (Nat.le_of_ble_eq_true rfl) ?_
  intro p e s m args below meth c A QQ ls E hr
  obtain ⟨hx, hb, hml, hown, hts, hK, hN, hP, hD, hA, hl⟩ := E
  have hret : ∀ (pc : Nat) (H : Heap) (locs : List Loc) (ls : Array Slot) (u : Int32), u = res → va_P D vwCl (flat []) H → va_D A (flat []) → va_S A s.heap H locs → isb u = true → decode cX10_noSpan pc = .ok (.ireturn, 1) → W p l e rmX10_noSpan s m args below meth c H locs 0 0 QQ (F0 m pc ls [.int u]) := by
    intro pc H locs ls u hu hP hD hS hz hd; subst hu; exact hr pc H locs ls _ rfl hP hD hS hz hd
  clear hr
  have hl : lv_has ls 2 [(0, .int p1), (1, .int p2)] := hl
  unfold fX10_noSpan at h
  suffices key : ∀ (H : Heap) (locs : List Loc), va_P D vwCl (flat []) H → va_S A s.heap H locs → W p l e rmX10_noSpan s m args below meth c H locs 0 0 QQ (F0 m 0 ls []) from key _ _ hP va_S.rf
  clear hP
  intro H locs hP hS
  refine lv_iload_n hx hb dX10_noSpan_0 rfl (lv_at hl 0 rfl) ?_
  refine ca_z (w' := []) (rn_S (As := [.int p1]) (rest := []) ⟨hx, hb, hml, hown, hts⟩ (kX10_noToldDay l D cy p1 _ rfl H.size) (va_cwS 1 hts gX10_noSpan_X10_noToldDay rfl rfl rfl (by decide +kernel) ⟨Nat.le_of_ble_eq_true rfl, Nat.le_of_ble_eq_true rfl⟩) hK hN hP hD [] rfl rfl rfl hl.1 rfl (Nat.le_of_ble_eq_true rfl) dX10_noSpan_1 ⟨Nat.le_refl 0, Nat.le_refl 0⟩) hP hD hS hA [] ⟨rfl, rfl, rfl, rfl⟩ (fun b1 H locs hP hD hS => ?_)
  refine lv_if_ne (tgt := 19) hx hb dX10_noSpan_4 (by decide) (fun c2 => ?_) (fun c2 => ?_)
  · replace h := (if_neg c2).symm.trans h
    refine lv_iconst (v := 1) hx hb dX10_noSpan_19 (by decide) ?_
    refine lv_goto (tgt := 24) hx hb dX10_noSpan_20 (by decide) ?_
    exact hret 24 H locs ls (1 : Int32) h hP hD hS (show isb (1 : Int32) = true by decide) dX10_noSpan_24
  · replace h := (if_pos c2).symm.trans h
    refine lv_iload_n hx hb dX10_noSpan_7 rfl (lv_at hl 1 rfl) ?_
    refine ca_z (w' := []) (rn_S (As := [.int p2]) (rest := []) ⟨hx, hb, hml, hown, hts⟩ (kX10_noToldDay l D cy p2 _ rfl H.size) (va_cwS 1 hts gX10_noSpan_X10_noToldDay rfl rfl rfl (by decide +kernel) ⟨Nat.le_of_ble_eq_true rfl, Nat.le_of_ble_eq_true rfl⟩) hK hN hP hD [] rfl rfl rfl hl.1 rfl (Nat.le_of_ble_eq_true rfl) dX10_noSpan_8 ⟨Nat.le_refl 0, Nat.le_refl 0⟩) hP hD hS hA [] ⟨rfl, rfl, rfl, rfl⟩ (fun b3 H locs hP hD hS => ?_)
    refine lv_if_ne (tgt := 19) hx hb dX10_noSpan_11 (by decide) (fun c4 => ?_) (fun c4 => ?_)
    · replace h := (if_neg c4).symm.trans h
      refine lv_iconst (v := 1) hx hb dX10_noSpan_19 (by decide) ?_
      refine lv_goto (tgt := 24) hx hb dX10_noSpan_20 (by decide) ?_
      exact hret 24 H locs ls (1 : Int32) h hP hD hS (show isb (1 : Int32) = true by decide) dX10_noSpan_24
    · replace h := (if_pos c4).symm.trans h
      refine lv_iload_n hx hb dX10_noSpan_14 rfl (lv_at hl 1 rfl) ?_
      refine lv_iload_n hx hb dX10_noSpan_15 rfl (lv_at hl 0 rfl) ?_
      refine lv_icmp_ge (tgt := 23) hx hb dX10_noSpan_16 (by decide) (fun c5 => ?_) (fun c5 => ?_)
      · replace h := (if_pos c5).symm.trans h
        refine lv_iconst (v := 0) hx hb dX10_noSpan_23 (by decide) ?_
        exact hret 24 H locs ls (0 : Int32) h hP hD hS (show isb (0 : Int32) = true by decide) dX10_noSpan_24
      · replace h := (if_neg c5).symm.trans h
        refine lv_iconst (v := 1) hx hb dX10_noSpan_19 (by decide) ?_
        refine lv_goto (tgt := 24) hx hb dX10_noSpan_20 (by decide) ?_
        exact hret 24 H locs ls (1 : Int32) h hP hD hS (show isb (1 : Int32) = true by decide) dX10_noSpan_24
set_option maxRecDepth 20000 in
theorem ggX10_noTray_X10_outside : GoodIn wsX10_noTray wsX10_outside := goodIn_r _ [4] (by decide +kernel) (by decide +kernel)
set_option maxRecDepth 20000 in
theorem gX10_noTray_X10_outside : GoodIn wsX10_noTray (va_wsS RX10 116 yX10_outside wsX10_outside) := goodIn_app (goodIn_of _ (by decide +kernel)) ggX10_noTray_X10_outside
theorem dX10_noTray_0 : decode cX10_noTray 0 = .ok (.iload_n 0, 1) := by decide +kernel
theorem dX10_noTray_1 : decode cX10_noTray 1 = .ok (.iconst 0, 1) := by decide +kernel
theorem dX10_noTray_2 : decode cX10_noTray 2 = .ok (.iconst 3, 1) := by decide +kernel
theorem dX10_noTray_3 : decode cX10_noTray 3 = .ok (.invokestatic 116, 3) := by decide +kernel
theorem dX10_noTray_6 : decode cX10_noTray 6 = .ok (.ireturn, 1) := by decide +kernel
abbrev rmX10_noTray : Room := { frames := 1, cells := 0, slots := 0, locals := 22 }
set_option maxHeartbeats 4000000 in
set_option maxRecDepth 100000 in
theorem kX10_noTray (l : Launch) (D : va_G) (cy : Nat → ClassId) (p1 : Int32) (res : Int32) (h : fX10_noTray p1 = res) : CZ l D cy yX10_noTray wsX10_noTray rmX10_noTray [.int p1] (flat []) (flat []) res := by
  refine CZ.of (cc := cX10_noTray) (maxL := 1) (by decide) rfl (Nat.le_of_ble_eq_true rfl) ?_
  intro p e s m args below meth c A QQ ls E hr
  obtain ⟨hx, hb, hml, hown, hts, hK, hN, hP, hD, hA, hl⟩ := E
  have hret : ∀ (pc : Nat) (H : Heap) (locs : List Loc) (ls : Array Slot) (u : Int32), u = res → va_P D vwCl (flat []) H → va_D A (flat []) → va_S A s.heap H locs → isb u = true → decode cX10_noTray pc = .ok (.ireturn, 1) → W p l e rmX10_noTray s m args below meth c H locs 0 0 QQ (F0 m pc ls [.int u]) := by
    intro pc H locs ls u hu hP hD hS hz hd; subst hu; exact hr pc H locs ls _ rfl hP hD hS hz hd
  clear hr
  have hl : lv_has ls 1 [(0, .int p1)] := hl
  unfold fX10_noTray at h
  suffices key : ∀ (H : Heap) (locs : List Loc), va_P D vwCl (flat []) H → va_S A s.heap H locs → W p l e rmX10_noTray s m args below meth c H locs 0 0 QQ (F0 m 0 ls []) from key _ _ hP va_S.rf
  clear hP
  intro H locs hP hS
  refine lv_iload_n hx hb dX10_noTray_0 rfl (lv_at hl 0 rfl) ?_
  refine lv_iconst (v := 0) hx hb dX10_noTray_1 (by decide) ?_
  refine lv_iconst (v := 3) hx hb dX10_noTray_2 (by decide) ?_
  refine ca_z (w' := []) (rn_S (As := [.int p1, .int (0 : Int32), .int (3 : Int32)]) (rest := []) ⟨hx, hb, hml, hown, hts⟩ (kX10_outside l D cy p1 (0 : Int32) (3 : Int32) _ rfl H.size) (va_cwS 3 hts gX10_noTray_X10_outside rfl rfl rfl (by decide +kernel) ⟨Nat.le_of_ble_eq_true rfl, Nat.le_of_ble_eq_true rfl⟩) hK hN hP hD [] rfl rfl rfl hl.1 rfl (Nat.le_of_ble_eq_true rfl) dX10_noTray_3 ⟨Nat.le_refl 0, Nat.le_refl 0⟩) hP hD hS hA [] ⟨rfl, rfl, rfl, rfl⟩ (fun b1 H locs hP hD hS => ?_)
  exact hret 6 H locs ls (fX10_outside p1 (0 : Int32) (3 : Int32)) h hP hD hS b1 dX10_noTray_6
set_option maxRecDepth 20000 in
theorem ggX10_odds_X10_noToldDay : GoodIn wsX10_odds wsX10_noToldDay := goodIn_r _ [5, 6, 7, 4, 8] (by decide +kernel) (by decide +kernel)
set_option maxRecDepth 20000 in
theorem gX10_odds_X10_noToldDay : GoodIn wsX10_odds (va_wsS RX10 281 yX10_noToldDay wsX10_noToldDay) := goodIn_app (goodIn_of _ (by decide +kernel)) ggX10_odds_X10_noToldDay
set_option maxRecDepth 20000 in
theorem ggX10_odds_X10_outside : GoodIn wsX10_odds wsX10_outside := goodIn_r _ [8] (by decide +kernel) (by decide +kernel)
set_option maxRecDepth 20000 in
theorem gX10_odds_X10_outside : GoodIn wsX10_odds (va_wsS RX10 116 yX10_outside wsX10_outside) := goodIn_app (goodIn_of _ (by decide +kernel)) ggX10_odds_X10_outside
set_option maxRecDepth 20000 in
theorem ggX10_odds_X10_deny : GoodIn wsX10_odds wsX10_deny := goodIn_r _ [12, 13, 64, 65, 66, 67, 68, 69, 70, 71, 72, 73, 74, 75, 76, 77, 78, 79, 80, 81, 82] (by decide +kernel) (by decide +kernel)
set_option maxRecDepth 20000 in
theorem gX10_odds_X10_deny : GoodIn wsX10_odds (wsV RX10 120 RX10 yX10_deny wsX10_deny) := goodIn_app (goodIn_of _ (by decide +kernel)) ggX10_odds_X10_deny
set_option maxRecDepth 20000 in
theorem ggX10_odds_X0_rainShare : GoodIn wsX10_odds wsX0_rainShare := goodIn_r _ [18, 19, 20, 21, 17, 22, 23, 24, 25, 26, 27, 28, 29, 30, 31, 32, 33, 34, 35, 36, 37, 38, 39, 40, 41, 42, 43, 44, 45, 46, 83, 84, 85, 86, 87, 88, 89, 90, 91, 92, 93, 94, 95, 96] (by decide +kernel) (by decide +kernel)
set_option maxRecDepth 20000 in
theorem gX10_odds_X0_rainShare : GoodIn wsX10_odds (wsV RX10 324 RX0 yX0_rainShare wsX0_rainShare) := goodIn_app (goodIn_of _ (by decide +kernel)) ggX10_odds_X0_rainShare
set_option maxRecDepth 20000 in
theorem ggX10_odds_X0_dryShare : GoodIn wsX10_odds wsX0_dryShare := goodIn_r _ [50, 19, 20, 21, 17, 22, 23, 24, 25, 26, 27, 28, 29, 30, 31, 32, 33, 34, 35, 36, 37, 38, 39, 40, 41, 42, 43, 44, 45, 46, 83, 84, 85, 86, 87, 88, 89, 90, 91, 92, 93, 94, 95, 96] (by decide +kernel) (by decide +kernel)
set_option maxRecDepth 20000 in
theorem gX10_odds_X0_dryShare : GoodIn wsX10_odds (wsV RX10 327 RX0 yX0_dryShare wsX0_dryShare) := goodIn_app (goodIn_of _ (by decide +kernel)) ggX10_odds_X0_dryShare
set_option maxRecDepth 20000 in
theorem ggX10_odds_X10_tellFraction : GoodIn wsX10_odds wsX10_tellFraction := goodIn_r _ [54, 55, 56, 57, 58, 4, 59, 64, 65, 66, 67, 68, 69, 70, 71, 72, 73, 74, 75, 76, 77, 78, 79, 80, 81, 82] (by decide +kernel) (by decide +kernel)
set_option maxRecDepth 20000 in
theorem gX10_odds_X10_tellFraction : GoodIn wsX10_odds (wsV RX10 311 RX10 yX10_tellFraction wsX10_tellFraction) := goodIn_app (goodIn_of _ (by decide +kernel)) ggX10_odds_X10_tellFraction
set_option maxRecDepth 20000 in
theorem ggX10_odds_X10_allow : GoodIn wsX10_odds wsX10_allow := goodIn_r _ [63, 13, 64, 65, 66, 67, 68, 69, 70, 71, 72, 73, 74, 75, 76, 77, 78, 79, 80, 81, 82] (by decide +kernel) (by decide +kernel)
set_option maxRecDepth 20000 in
theorem gX10_odds_X10_allow : GoodIn wsX10_odds (wsV RX10 127 RX10 yX10_allow wsX10_allow) := goodIn_app (goodIn_of _ (by decide +kernel)) ggX10_odds_X10_allow
theorem dX10_odds_0 : decode cX10_odds 0 = .ok (.iload_n 1, 1) := by decide +kernel
theorem dX10_odds_1 : decode cX10_odds 1 = .ok (.invokestatic 281, 3) := by decide +kernel
theorem dX10_odds_4 : decode cX10_odds 4 = .ok (.ifCond .ne 13, 3) := by decide +kernel
theorem dX10_odds_7 : decode cX10_odds 7 = .ok (.iload_n 2, 1) := by decide +kernel
theorem dX10_odds_8 : decode cX10_odds 8 = .ok (.iconst 1, 1) := by decide +kernel
theorem dX10_odds_9 : decode cX10_odds 9 = .ok (.bipush 15, 2) := by decide +kernel
theorem dX10_odds_11 : decode cX10_odds 11 = .ok (.invokestatic 116, 3) := by decide +kernel
theorem dX10_odds_14 : decode cX10_odds 14 = .ok (.ifCond .eq 9, 3) := by decide +kernel
theorem dX10_odds_17 : decode cX10_odds 17 = .ok (.aload_n 0, 1) := by decide +kernel
theorem dX10_odds_18 : decode cX10_odds 18 = .ok (.iconst 1, 1) := by decide +kernel
theorem dX10_odds_19 : decode cX10_odds 19 = .ok (.invokevirtual 120, 3) := by decide +kernel
theorem dX10_odds_22 : decode cX10_odds 22 = .ok (.ireturn, 1) := by decide +kernel
theorem dX10_odds_23 : decode cX10_odds 23 = .ok (.aload_n 0, 1) := by decide +kernel
theorem dX10_odds_24 : decode cX10_odds 24 = .ok (.getfield 10, 3) := by decide +kernel
theorem dX10_odds_27 : decode cX10_odds 27 = .ok (.iload_n 1, 1) := by decide +kernel
theorem dX10_odds_28 : decode cX10_odds 28 = .ok (.iload_n 2, 1) := by decide +kernel
theorem dX10_odds_29 : decode cX10_odds 29 = .ok (.invokevirtual 324, 3) := by decide +kernel
theorem dX10_odds_32 : decode cX10_odds 32 = .ok (.lstore_n 3, 1) := by decide +kernel
theorem dX10_odds_33 : decode cX10_odds 33 = .ok (.lload_n 3, 1) := by decide +kernel
theorem dX10_odds_34 : decode cX10_odds 34 = .ok (.aload_n 0, 1) := by decide +kernel
theorem dX10_odds_35 : decode cX10_odds 35 = .ok (.getfield 10, 3) := by decide +kernel
theorem dX10_odds_38 : decode cX10_odds 38 = .ok (.iload_n 1, 1) := by decide +kernel
theorem dX10_odds_39 : decode cX10_odds 39 = .ok (.iload_n 2, 1) := by decide +kernel
theorem dX10_odds_40 : decode cX10_odds 40 = .ok (.invokevirtual 327, 3) := by decide +kernel
theorem dX10_odds_43 : decode cX10_odds 43 = .ok (.ladd, 1) := by decide +kernel
theorem dX10_odds_44 : decode cX10_odds 44 = .ok (.lstore 5, 2) := by decide +kernel
theorem dX10_odds_46 : decode cX10_odds 46 = .ok (.lload 5, 2) := by decide +kernel
theorem dX10_odds_48 : decode cX10_odds 48 = .ok (.lconst 0, 1) := by decide +kernel
theorem dX10_odds_49 : decode cX10_odds 49 = .ok (.lcmp, 1) := by decide +kernel
theorem dX10_odds_50 : decode cX10_odds 50 = .ok (.ifCond .ne 10, 3) := by decide +kernel
theorem dX10_odds_53 : decode cX10_odds 53 = .ok (.aload_n 0, 1) := by decide +kernel
theorem dX10_odds_54 : decode cX10_odds 54 = .ok (.bipush 7, 2) := by decide +kernel
theorem dX10_odds_56 : decode cX10_odds 56 = .ok (.invokevirtual 120, 3) := by decide +kernel
theorem dX10_odds_59 : decode cX10_odds 59 = .ok (.ireturn, 1) := by decide +kernel
theorem dX10_odds_60 : decode cX10_odds 60 = .ok (.aload_n 0, 1) := by decide +kernel
theorem dX10_odds_61 : decode cX10_odds 61 = .ok (.lload_n 3, 1) := by decide +kernel
theorem dX10_odds_62 : decode cX10_odds 62 = .ok (.lload 5, 2) := by decide +kernel
theorem dX10_odds_64 : decode cX10_odds 64 = .ok (.invokevirtual 311, 3) := by decide +kernel
theorem dX10_odds_67 : decode cX10_odds 67 = .ok (.aload_n 0, 1) := by decide +kernel
theorem dX10_odds_68 : decode cX10_odds 68 = .ok (.invokevirtual 127, 3) := by decide +kernel
theorem dX10_odds_71 : decode cX10_odds 71 = .ok (.ireturn, 1) := by decide +kernel
abbrev rmX10_odds : Room := { frames := 4, cells := 0, slots := 0, locals := 93 }
set_option maxHeartbeats 4000000 in
set_option maxRecDepth 100000 in
theorem kX10_odds (l : Launch) (D : va_G) (cy : Nat → ClassId) (h0 : Nat) (a0 : Nat → Nat) (a1 : Nat → Nat) (s0 : Rc) (s1 : Rc) (p1 : Int32) (p2 : Int32) (res : Int32 × Rc) (h : fX10_odds p1 p2 s0 s1 = some res) : CZ l D cy yX10_odds wsX10_odds rmX10_odds [.ref h0, .int p1, .int p2] (flat [WX10 cy h0 a0 s0, WX0 cy (a0 0) a1 s1]) (flat [WX10 cy h0 a0 res.2, WX0 cy (a0 0) a1 s1]) res.1 := by
  refine CZ.of (cc := cX10_odds) (maxL := 7) (by decide) rfl (Nat.le_of_ble_eq_true rfl) ?_
  intro p e s m args below meth c A QQ ls E hr
  obtain ⟨hx, hb, hml, hown, hts, hK, hN, hP, hD, hA, hl⟩ := E
  have hret : ∀ (pc : Nat) (H : Heap) (locs : List Loc) (ls : Array Slot) (u : Int32 × Rc), u = res → va_P D vwCl (flat [WX10 cy h0 a0 u.2, WX0 cy (a0 0) a1 s1]) H → va_D A (flat [WX10 cy h0 a0 u.2, WX0 cy (a0 0) a1 s1]) → va_S A s.heap H locs → isb u.1 = true → decode cX10_odds pc = .ok (.ireturn, 1) → W p l e rmX10_odds s m args below meth c H locs 0 0 QQ (F0 m pc ls [.int u.1]) := by
    intro pc H locs ls u hu hP hD hS hz hd; subst hu; exact hr pc H locs ls _ rfl hP hD hS hz hd
  clear hr
  have hl : lv_has ls 7 [(0, .ref h0), (1, .int p1), (2, .int p2)] := hl
  have hinX10 : ∀ w ∈ wsX100, w ∈ wsX10_odds := fun _ h => List.mem_cons_of_mem _ (List.mem_append_left _ (List.mem_append_right _ h))
  unfold fX10_odds at h
  suffices key : ∀ (H : Heap) (locs : List Loc), va_P D vwCl (flat [WX10 cy h0 a0 s0, WX0 cy (a0 0) a1 s1]) H → va_S A s.heap H locs → W p l e rmX10_odds s m args below meth c H locs 0 0 QQ (F0 m 0 ls []) from key _ _ hP va_S.rf
  clear hP
  intro H locs hP hS
  refine lv_iload_n hx hb dX10_odds_0 rfl (lv_at hl 1 rfl) ?_
  refine ca_z (w' := [WX10 cy h0 a0 s0, WX0 cy (a0 0) a1 s1]) (rn_S (As := [.int p1]) (rest := []) ⟨hx, hb, hml, hown, hts⟩ (kX10_noToldDay l D cy p1 _ rfl H.size) (va_cwS 1 hts gX10_odds_X10_noToldDay rfl rfl rfl (by decide +kernel) ⟨Nat.le_of_ble_eq_true rfl, Nat.le_of_ble_eq_true rfl⟩) hK hN hP hD [] rfl rfl rfl hl.1 rfl (Nat.le_of_ble_eq_true rfl) dX10_odds_1 ⟨Nat.le_refl 0, Nat.le_refl 0⟩) hP hD hS hA [] ⟨rfl, rfl, rfl, rfl⟩ (fun b1 H locs hP hD hS => ?_)
  refine lv_if_ne (tgt := 17) hx hb dX10_odds_4 (by decide) (fun c2 => ?_) (fun c2 => ?_)
  · replace h := (if_neg c2).symm.trans h
    refine lv_aload_n hx hb dX10_odds_17 rfl (lv_at hl 0 rfl) ?_
    refine lv_iconst (v := 1) hx hb dX10_odds_18 (by decide) ?_
    obtain ⟨r3, hr3, h⟩ := lt_elim h
    refine ca_z (w' := [WX10 cy h0 a0 r3.2, WX0 cy (a0 0) a1 s1]) (rn_V (As := [.int (1 : Int32)]) (rest := []) ⟨hx, hb, hml, hown, hts⟩ (kX10_deny l D cy h0 a0 s0 (1 : Int32) r3 hr3.symm H.size) (cwV 1 hts gX10_odds_X10_deny rfl rfl rfl (by decide +kernel) ⟨Nat.le_of_ble_eq_true rfl, Nat.le_of_ble_eq_true rfl⟩) hK hN hP hD [0] rfl rfl (ci := 10) (q0 := 0) rfl rfl rfl rfl hl.1 rfl (Nat.le_of_ble_eq_true rfl) dX10_odds_19 ⟨Nat.le_refl 0, Nat.le_refl 0⟩) hP hD hS hA [0] ⟨rfl, rfl, rfl, rfl⟩ (fun b4 H locs hP hD hS => ?_)
    exact hret 22 H locs ls (r3.1, r3.2) (Option.some.inj h) hP hD hS b4 dX10_odds_22
  · replace h := (if_pos c2).symm.trans h
    refine lv_iload_n hx hb dX10_odds_7 rfl (lv_at hl 2 rfl) ?_
    refine lv_iconst (v := 1) hx hb dX10_odds_8 (by decide) ?_
    refine lv_bipush (v := 15) hx hb dX10_odds_9 (by decide) ?_
    refine ca_z (w' := [WX10 cy h0 a0 s0, WX0 cy (a0 0) a1 s1]) (rn_S (As := [.int p2, .int (1 : Int32), .int (15 : Int32)]) (rest := []) ⟨hx, hb, hml, hown, hts⟩ (kX10_outside l D cy p2 (1 : Int32) (15 : Int32) _ rfl H.size) (va_cwS 3 hts gX10_odds_X10_outside rfl rfl rfl (by decide +kernel) ⟨Nat.le_of_ble_eq_true rfl, Nat.le_of_ble_eq_true rfl⟩) hK hN hP hD [] rfl rfl rfl hl.1 rfl (Nat.le_of_ble_eq_true rfl) dX10_odds_11 ⟨Nat.le_refl 0, Nat.le_refl 0⟩) hP hD hS hA [] ⟨rfl, rfl, rfl, rfl⟩ (fun b5 H locs hP hD hS => ?_)
    refine lv_if_eq (tgt := 23) hx hb dX10_odds_14 (by decide) (fun c6 => ?_) (fun c6 => ?_)
    · replace h := (if_pos c6).symm.trans h
      refine lv_aload_n hx hb dX10_odds_23 rfl (lv_at hl 0 rfl) ?_
      refine va_get (D := D) (ci := 10) (v := .ref (a0 0)) (C := RX10) (T := TX10) (N := 19) hx hb hts hinX10 hown hK hP 0 rfl rfl 0 (by decide) (hts (.fieldLink RX10 10 "KneeBench" "bench" "LKneeBench$Bench;") (List.mem_of_getElem? (i := 1) rfl)) (fun _ h9 => h9) rfl dX10_odds_24 ?_
      refine lv_iload_n hx hb dX10_odds_27 rfl (lv_at hl 1 rfl) ?_
      refine lv_iload_n hx hb dX10_odds_28 rfl (lv_at hl 2 rfl) ?_
      obtain ⟨r7, hr7, h⟩ := bd_elim h
      refine ca_l (w' := [WX10 cy h0 a0 s0, WX0 cy (a0 0) a1 s1]) (rn_V (As := [.int p1, .int p2]) (rest := []) ⟨hx, hb, hml, hown, hts⟩ (kX0_rainShare l D cy (a0 0) a1 s1 p1 p2 r7 hr7 H.size) (cwV 2 hts gX10_odds_X0_rainShare rfl rfl rfl (by decide +kernel) ⟨Nat.le_of_ble_eq_true rfl, Nat.le_of_ble_eq_true rfl⟩) hK hN hP hD [1] rfl rfl (ci := 0) (q0 := 1) rfl rfl rfl rfl hl.1 rfl (Nat.le_of_ble_eq_true rfl) dX10_odds_29 ⟨Nat.le_refl 0, Nat.le_refl 0⟩) hP hD hS hA [1] ⟨rfl, rfl, rfl, rfl⟩ (fun H locs hP hD hS => ?_)
      refine lv_lstore_n (lv' := [(3, .long r7), (0, .ref h0), (1, .int p1), (2, .int p2)]) hx hb dX10_odds_32 rfl hl (by decide) rfl (fun ls hl => ?_)
      refine lv_lload_n hx hb dX10_odds_33 rfl (lv_at hl 0 rfl) ?_
      refine lv_aload_n hx hb dX10_odds_34 rfl (lv_at hl 1 rfl) ?_
      refine va_get (D := D) (ci := 10) (v := .ref (a0 0)) (C := RX10) (T := TX10) (N := 19) hx hb hts hinX10 hown hK hP 0 rfl rfl 0 (by decide) (hts (.fieldLink RX10 10 "KneeBench" "bench" "LKneeBench$Bench;") (List.mem_of_getElem? (i := 1) rfl)) (fun _ h9 => h9) rfl dX10_odds_35 ?_
      refine lv_iload_n hx hb dX10_odds_38 rfl (lv_at hl 2 rfl) ?_
      refine lv_iload_n hx hb dX10_odds_39 rfl (lv_at hl 3 rfl) ?_
      obtain ⟨r8, hr8, h⟩ := bd_elim h
      refine ca_l (w' := [WX10 cy h0 a0 s0, WX0 cy (a0 0) a1 s1]) (rn_V (As := [.int p1, .int p2]) (rest := [.long r7]) ⟨hx, hb, hml, hown, hts⟩ (kX0_dryShare l D cy (a0 0) a1 s1 p1 p2 r8 hr8 H.size) (cwV 2 hts gX10_odds_X0_dryShare rfl rfl rfl (by decide +kernel) ⟨Nat.le_of_ble_eq_true rfl, Nat.le_of_ble_eq_true rfl⟩) hK hN hP hD [1] rfl rfl (ci := 0) (q0 := 1) rfl rfl rfl rfl hl.1 rfl (Nat.le_of_ble_eq_true rfl) dX10_odds_40 ⟨Nat.le_refl 0, Nat.le_refl 0⟩) hP hD hS hA [1] ⟨rfl, rfl, rfl, rfl⟩ (fun H locs hP hD hS => ?_)
      refine lv_ladd hx hb dX10_odds_43 ?_
      refine lv_topl (fun x9 ex9 => ?_)
      replace h := lt_use h x9 ex9
      refine lv_lstore (lv' := [(5, .long x9), (3, .long r7), (0, .ref h0), (1, .int p1), (2, .int p2)]) hx hb dX10_odds_44 hl (by decide) rfl (fun ls hl => ?_)
      refine lv_lload hx hb dX10_odds_46 (lv_at hl 0 rfl) ?_
      refine lv_lconst (v := 0) hx hb dX10_odds_48 (by decide) ?_
      refine W.lcmp hx hb dX10_odds_49 ?_
      refine lv_if_ne (tgt := 60) hx hb dX10_odds_50 (by decide) (fun c10 => ?_) (fun c10 => ?_)
      · replace h := (if_neg (fun z => c10 (lg_ceq.mpr z))).symm.trans h
        refine lv_aload_n hx hb dX10_odds_60 rfl (lv_at hl 2 rfl) ?_
        refine lv_lload_n hx hb dX10_odds_61 rfl (lv_at hl 1 rfl) ?_
        refine lv_lload hx hb dX10_odds_62 (lv_at hl 0 rfl) ?_
        obtain ⟨r11, hr11, h⟩ := bd_elim h
        refine ca_v (w' := [WX10 cy h0 a0 r11, WX0 cy (a0 0) a1 s1]) (rn_V (As := [.long r7, .long x9]) (rest := []) ⟨hx, hb, hml, hown, hts⟩ (kX10_tellFraction l D cy h0 a0 s0 r7 x9 r11 hr11 H.size) (cwV 2 hts gX10_odds_X10_tellFraction rfl rfl rfl (by decide +kernel) ⟨Nat.le_of_ble_eq_true rfl, Nat.le_of_ble_eq_true rfl⟩) hK hN hP hD [0] rfl rfl (ci := 10) (q0 := 0) rfl rfl rfl rfl hl.1 rfl (Nat.le_of_ble_eq_true rfl) dX10_odds_64 ⟨Nat.le_refl 0, Nat.le_refl 0⟩) hP hD hS hA [0] ⟨rfl, rfl, rfl, rfl⟩ (fun H locs hP hD hS => ?_)
        refine lv_aload_n hx hb dX10_odds_67 rfl (lv_at hl 2 rfl) ?_
        obtain ⟨r12, hr12, h⟩ := lt_elim h
        refine ca_z (w' := [WX10 cy h0 a0 r12.2, WX0 cy (a0 0) a1 s1]) (rn_V (As := []) (rest := []) ⟨hx, hb, hml, hown, hts⟩ (kX10_allow l D cy h0 a0 r11 r12 hr12.symm H.size) (cwV 0 hts gX10_odds_X10_allow rfl rfl rfl (by decide +kernel) ⟨Nat.le_of_ble_eq_true rfl, Nat.le_of_ble_eq_true rfl⟩) hK hN hP hD [0] rfl rfl (ci := 10) (q0 := 0) rfl rfl rfl rfl hl.1 rfl (Nat.le_of_ble_eq_true rfl) dX10_odds_68 ⟨Nat.le_refl 0, Nat.le_refl 0⟩) hP hD hS hA [0] ⟨rfl, rfl, rfl, rfl⟩ (fun b13 H locs hP hD hS => ?_)
        exact hret 71 H locs ls (r12.1, r12.2) (Option.some.inj h) hP hD hS b13 dX10_odds_71
      · replace h := (if_pos (lg_ceq.mp c10)).symm.trans h
        refine lv_aload_n hx hb dX10_odds_53 rfl (lv_at hl 2 rfl) ?_
        refine lv_bipush (v := 7) hx hb dX10_odds_54 (by decide) ?_
        obtain ⟨r14, hr14, h⟩ := lt_elim h
        refine ca_z (w' := [WX10 cy h0 a0 r14.2, WX0 cy (a0 0) a1 s1]) (rn_V (As := [.int (7 : Int32)]) (rest := []) ⟨hx, hb, hml, hown, hts⟩ (kX10_deny l D cy h0 a0 s0 (7 : Int32) r14 hr14.symm H.size) (cwV 1 hts gX10_odds_X10_deny rfl rfl rfl (by decide +kernel) ⟨Nat.le_of_ble_eq_true rfl, Nat.le_of_ble_eq_true rfl⟩) hK hN hP hD [0] rfl rfl (ci := 10) (q0 := 0) rfl rfl rfl rfl hl.1 rfl (Nat.le_of_ble_eq_true rfl) dX10_odds_56 ⟨Nat.le_refl 0, Nat.le_refl 0⟩) hP hD hS hA [0] ⟨rfl, rfl, rfl, rfl⟩ (fun b15 H locs hP hD hS => ?_)
        exact hret 59 H locs ls (r14.1, r14.2) (Option.some.inj h) hP hD hS b15 dX10_odds_59
    · replace h := (if_neg c6).symm.trans h
      refine lv_aload_n hx hb dX10_odds_17 rfl (lv_at hl 0 rfl) ?_
      refine lv_iconst (v := 1) hx hb dX10_odds_18 (by decide) ?_
      obtain ⟨r16, hr16, h⟩ := lt_elim h
      refine ca_z (w' := [WX10 cy h0 a0 r16.2, WX0 cy (a0 0) a1 s1]) (rn_V (As := [.int (1 : Int32)]) (rest := []) ⟨hx, hb, hml, hown, hts⟩ (kX10_deny l D cy h0 a0 s0 (1 : Int32) r16 hr16.symm H.size) (cwV 1 hts gX10_odds_X10_deny rfl rfl rfl (by decide +kernel) ⟨Nat.le_of_ble_eq_true rfl, Nat.le_of_ble_eq_true rfl⟩) hK hN hP hD [0] rfl rfl (ci := 10) (q0 := 0) rfl rfl rfl rfl hl.1 rfl (Nat.le_of_ble_eq_true rfl) dX10_odds_19 ⟨Nat.le_refl 0, Nat.le_refl 0⟩) hP hD hS hA [0] ⟨rfl, rfl, rfl, rfl⟩ (fun b17 H locs hP hD hS => ?_)
      exact hret 22 H locs ls (r16.1, r16.2) (Option.some.inj h) hP hD hS b17 dX10_odds_22
set_option maxRecDepth 20000 in
theorem ggX10_placeProblem_X10_noTray : GoodIn wsX10_placeProblem wsX10_noTray := goodIn_r _ [5, 6, 7, 4, 8] (by decide +kernel) (by decide +kernel)
set_option maxRecDepth 20000 in
theorem gX10_placeProblem_X10_noTray : GoodIn wsX10_placeProblem (va_wsS RX10 112 yX10_noTray wsX10_noTray) := goodIn_app (goodIn_of _ (by decide +kernel)) ggX10_placeProblem_X10_noTray
set_option maxRecDepth 20000 in
theorem ggX10_placeProblem_X9_isMissing : GoodIn wsX10_placeProblem wsX9_isMissing := goodIn_r _ [13, 14, 38, 39, 40] (by decide +kernel) (by decide +kernel)
set_option maxRecDepth 20000 in
theorem gX10_placeProblem_X9_isMissing : GoodIn wsX10_placeProblem (wsV RX10 147 RX9 yX9_isMissing wsX9_isMissing) := goodIn_app (goodIn_of _ (by decide +kernel)) ggX10_placeProblem_X9_isMissing
set_option maxRecDepth 20000 in
theorem ggX10_placeProblem_X9_hasPlaces : GoodIn wsX10_placeProblem wsX9_hasPlaces := goodIn_r _ [18, 14, 38, 39, 40] (by decide +kernel) (by decide +kernel)
set_option maxRecDepth 20000 in
theorem gX10_placeProblem_X9_hasPlaces : GoodIn wsX10_placeProblem (wsV RX10 154 RX9 yX9_hasPlaces wsX9_hasPlaces) := goodIn_app (goodIn_of _ (by decide +kernel)) ggX10_placeProblem_X9_hasPlaces
theorem dX10_placeProblem_0 : decode cX10_placeProblem 0 = .ok (.iload_n 1, 1) := by decide +kernel
theorem dX10_placeProblem_1 : decode cX10_placeProblem 1 = .ok (.invokestatic 112, 3) := by decide +kernel
theorem dX10_placeProblem_4 : decode cX10_placeProblem 4 = .ok (.ifCond .eq 5, 3) := by decide +kernel
theorem dX10_placeProblem_7 : decode cX10_placeProblem 7 = .ok (.iconst 1, 1) := by decide +kernel
theorem dX10_placeProblem_8 : decode cX10_placeProblem 8 = .ok (.ireturn, 1) := by decide +kernel
theorem dX10_placeProblem_9 : decode cX10_placeProblem 9 = .ok (.aload_n 0, 1) := by decide +kernel
theorem dX10_placeProblem_10 : decode cX10_placeProblem 10 = .ok (.getfield 45, 3) := by decide +kernel
theorem dX10_placeProblem_13 : decode cX10_placeProblem 13 = .ok (.iload_n 1, 1) := by decide +kernel
theorem dX10_placeProblem_14 : decode cX10_placeProblem 14 = .ok (.invokevirtual 147, 3) := by decide +kernel
theorem dX10_placeProblem_17 : decode cX10_placeProblem 17 = .ok (.ifCond .eq 5, 3) := by decide +kernel
theorem dX10_placeProblem_20 : decode cX10_placeProblem 20 = .ok (.iconst 2, 1) := by decide +kernel
theorem dX10_placeProblem_21 : decode cX10_placeProblem 21 = .ok (.ireturn, 1) := by decide +kernel
theorem dX10_placeProblem_22 : decode cX10_placeProblem 22 = .ok (.aload_n 0, 1) := by decide +kernel
theorem dX10_placeProblem_23 : decode cX10_placeProblem 23 = .ok (.getfield 45, 3) := by decide +kernel
theorem dX10_placeProblem_26 : decode cX10_placeProblem 26 = .ok (.iload_n 1, 1) := by decide +kernel
theorem dX10_placeProblem_27 : decode cX10_placeProblem 27 = .ok (.iload_n 2, 1) := by decide +kernel
theorem dX10_placeProblem_28 : decode cX10_placeProblem 28 = .ok (.iconst 1, 1) := by decide +kernel
theorem dX10_placeProblem_29 : decode cX10_placeProblem 29 = .ok (.invokevirtual 154, 3) := by decide +kernel
theorem dX10_placeProblem_32 : decode cX10_placeProblem 32 = .ok (.ifCond .eq 7, 3) := by decide +kernel
theorem dX10_placeProblem_35 : decode cX10_placeProblem 35 = .ok (.iconst 0, 1) := by decide +kernel
theorem dX10_placeProblem_36 : decode cX10_placeProblem 36 = .ok (.goto 4, 3) := by decide +kernel
theorem dX10_placeProblem_39 : decode cX10_placeProblem 39 = .ok (.iconst 3, 1) := by decide +kernel
theorem dX10_placeProblem_40 : decode cX10_placeProblem 40 = .ok (.ireturn, 1) := by decide +kernel
abbrev rmX10_placeProblem : Room := { frames := 2, cells := 0, slots := 0, locals := 42 }
set_option maxHeartbeats 4000000 in
set_option maxRecDepth 100000 in
theorem kX10_placeProblem (l : Launch) (D : va_G) (cy : Nat → ClassId) (h0 : Nat) (a0 : Nat → Nat) (a1 : Nat → Nat) (s0 : Rc) (s1 : Rc) (p1 : Int32) (p2 : Int32) (res : Int32) (h : fX10_placeProblem p1 p2 s0 s1 = some res) : CI l D cy yX10_placeProblem wsX10_placeProblem rmX10_placeProblem [.ref h0, .int p1, .int p2] (flat [WX10 cy h0 a0 s0, WX9 cy (a0 7) a1 s1]) (flat [WX10 cy h0 a0 s0, WX9 cy (a0 7) a1 s1]) res := by
  refine CI.of (cc := cX10_placeProblem) (maxL := 3) (by decide) rfl (Nat.le_of_ble_eq_true rfl) ?_
  intro p e s m args below meth c A QQ ls E hr
  obtain ⟨hx, hb, hml, hown, hts, hK, hN, hP, hD, hA, hl⟩ := E
  have hret : ∀ (pc : Nat) (H : Heap) (locs : List Loc) (ls : Array Slot) (u : Int32), u = res → va_P D vwCl (flat [WX10 cy h0 a0 s0, WX9 cy (a0 7) a1 s1]) H → va_D A (flat [WX10 cy h0 a0 s0, WX9 cy (a0 7) a1 s1]) → va_S A s.heap H locs → decode cX10_placeProblem pc = .ok (.ireturn, 1) → W p l e rmX10_placeProblem s m args below meth c H locs 0 0 QQ (F0 m pc ls [.int u]) := by
    intro pc H locs ls u hu hP hD hS hd; subst hu; exact hr pc H locs ls _ rfl hP hD hS hd
  clear hr
  have hl : lv_has ls 3 [(0, .ref h0), (1, .int p1), (2, .int p2)] := hl
  have hinX10 : ∀ w ∈ wsX100, w ∈ wsX10_placeProblem := fun _ h => List.mem_cons_of_mem _ (List.mem_append_left _ (List.mem_append_right _ h))
  unfold fX10_placeProblem at h
  suffices key : ∀ (H : Heap) (locs : List Loc), va_P D vwCl (flat [WX10 cy h0 a0 s0, WX9 cy (a0 7) a1 s1]) H → va_S A s.heap H locs → W p l e rmX10_placeProblem s m args below meth c H locs 0 0 QQ (F0 m 0 ls []) from key _ _ hP va_S.rf
  clear hP
  intro H locs hP hS
  refine lv_iload_n hx hb dX10_placeProblem_0 rfl (lv_at hl 1 rfl) ?_
  refine ca_z (w' := [WX10 cy h0 a0 s0, WX9 cy (a0 7) a1 s1]) (rn_S (As := [.int p1]) (rest := []) ⟨hx, hb, hml, hown, hts⟩ (kX10_noTray l D cy p1 _ rfl H.size) (va_cwS 1 hts gX10_placeProblem_X10_noTray rfl rfl rfl (by decide +kernel) ⟨Nat.le_of_ble_eq_true rfl, Nat.le_of_ble_eq_true rfl⟩) hK hN hP hD [] rfl rfl rfl hl.1 rfl (Nat.le_of_ble_eq_true rfl) dX10_placeProblem_1 ⟨Nat.le_refl 0, Nat.le_refl 0⟩) hP hD hS hA [] ⟨rfl, rfl, rfl, rfl⟩ (fun b1 H locs hP hD hS => ?_)
  refine lv_if_eq (tgt := 9) hx hb dX10_placeProblem_4 (by decide) (fun c2 => ?_) (fun c2 => ?_)
  · replace h := (if_pos c2).symm.trans h
    refine lv_aload_n hx hb dX10_placeProblem_9 rfl (lv_at hl 0 rfl) ?_
    refine va_get (D := D) (ci := 10) (v := .ref (a0 7)) (C := RX10) (T := TX10) (N := 19) hx hb hts hinX10 hown hK hP 0 rfl rfl 7 (by decide) (hts (.fieldLink RX10 45 "KneeBench" "trays" "LKneeBench$Trays;") (List.mem_of_getElem? (i := 1) rfl)) (fun _ h9 => h9) rfl dX10_placeProblem_10 ?_
    refine lv_iload_n hx hb dX10_placeProblem_13 rfl (lv_at hl 1 rfl) ?_
    obtain ⟨r3, hr3, h⟩ := bd_elim h
    refine ca_z (w' := [WX10 cy h0 a0 s0, WX9 cy (a0 7) a1 s1]) (rn_V (As := [.int p1]) (rest := []) ⟨hx, hb, hml, hown, hts⟩ (kX9_isMissing l D cy (a0 7) a1 s1 p1 r3 hr3 H.size) (cwV 1 hts gX10_placeProblem_X9_isMissing rfl rfl rfl (by decide +kernel) ⟨Nat.le_of_ble_eq_true rfl, Nat.le_of_ble_eq_true rfl⟩) hK hN hP hD [1] rfl rfl (ci := 9) (q0 := 1) rfl rfl rfl rfl hl.1 rfl (Nat.le_of_ble_eq_true rfl) dX10_placeProblem_14 ⟨Nat.le_refl 0, Nat.le_refl 0⟩) hP hD hS hA [1] ⟨rfl, rfl, rfl, rfl⟩ (fun b4 H locs hP hD hS => ?_)
    refine lv_if_eq (tgt := 22) hx hb dX10_placeProblem_17 (by decide) (fun c5 => ?_) (fun c5 => ?_)
    · replace h := (if_pos c5).symm.trans h
      refine lv_aload_n hx hb dX10_placeProblem_22 rfl (lv_at hl 0 rfl) ?_
      refine va_get (D := D) (ci := 10) (v := .ref (a0 7)) (C := RX10) (T := TX10) (N := 19) hx hb hts hinX10 hown hK hP 0 rfl rfl 7 (by decide) (hts (.fieldLink RX10 45 "KneeBench" "trays" "LKneeBench$Trays;") (List.mem_of_getElem? (i := 1) rfl)) (fun _ h9 => h9) rfl dX10_placeProblem_23 ?_
      refine lv_iload_n hx hb dX10_placeProblem_26 rfl (lv_at hl 1 rfl) ?_
      refine lv_iload_n hx hb dX10_placeProblem_27 rfl (lv_at hl 2 rfl) ?_
      refine lv_iconst (v := 1) hx hb dX10_placeProblem_28 (by decide) ?_
      obtain ⟨r6, hr6, h⟩ := bd_elim h
      refine ca_z (w' := [WX10 cy h0 a0 s0, WX9 cy (a0 7) a1 s1]) (rn_V (As := [.int p1, .int p2, .int (1 : Int32)]) (rest := []) ⟨hx, hb, hml, hown, hts⟩ (kX9_hasPlaces l D cy (a0 7) a1 s1 p1 p2 (1 : Int32) r6 hr6 H.size) (cwV 3 hts gX10_placeProblem_X9_hasPlaces rfl rfl rfl (by decide +kernel) ⟨Nat.le_of_ble_eq_true rfl, Nat.le_of_ble_eq_true rfl⟩) hK hN hP hD [1] rfl rfl (ci := 9) (q0 := 1) rfl rfl rfl rfl hl.1 rfl (Nat.le_of_ble_eq_true rfl) dX10_placeProblem_29 ⟨Nat.le_refl 0, Nat.le_refl 0⟩) hP hD hS hA [1] ⟨rfl, rfl, rfl, rfl⟩ (fun b7 H locs hP hD hS => ?_)
      refine lv_if_eq (tgt := 39) hx hb dX10_placeProblem_32 (by decide) (fun c8 => ?_) (fun c8 => ?_)
      · replace h := (if_pos c8).symm.trans h
        refine lv_iconst (v := 3) hx hb dX10_placeProblem_39 (by decide) ?_
        exact hret 40 H locs ls (3 : Int32) (Option.some.inj h) hP hD hS dX10_placeProblem_40
      · replace h := (if_neg c8).symm.trans h
        refine lv_iconst (v := 0) hx hb dX10_placeProblem_35 (by decide) ?_
        refine lv_goto (tgt := 40) hx hb dX10_placeProblem_36 (by decide) ?_
        exact hret 40 H locs ls (0 : Int32) (Option.some.inj h) hP hD hS dX10_placeProblem_40
    · replace h := (if_neg c5).symm.trans h
      refine lv_iconst (v := 2) hx hb dX10_placeProblem_20 (by decide) ?_
      exact hret 21 H locs ls (2 : Int32) (Option.some.inj h) hP hD hS dX10_placeProblem_21
  · replace h := (if_neg c2).symm.trans h
    refine lv_iconst (v := 1) hx hb dX10_placeProblem_7 (by decide) ?_
    exact hret 8 H locs ls (1 : Int32) (Option.some.inj h) hP hD hS dX10_placeProblem_8
set_option maxRecDepth 20000 in
theorem ggX10_pour_X10_noTray : GoodIn wsX10_pour wsX10_noTray := goodIn_r _ [5, 6, 7, 4, 8] (by decide +kernel) (by decide +kernel)
set_option maxRecDepth 20000 in
theorem gX10_pour_X10_noTray : GoodIn wsX10_pour (va_wsS RX10 112 yX10_noTray wsX10_noTray) := goodIn_app (goodIn_of _ (by decide +kernel)) ggX10_pour_X10_noTray
set_option maxRecDepth 20000 in
theorem ggX10_pour_X10_deny : GoodIn wsX10_pour wsX10_deny := goodIn_r _ [12, 13, 37, 38, 39, 40, 41, 42, 43, 44, 45, 46, 47, 48, 49, 50, 51, 52, 53, 54, 55] (by decide +kernel) (by decide +kernel)
set_option maxRecDepth 20000 in
theorem gX10_pour_X10_deny : GoodIn wsX10_pour (wsV RX10 120 RX10 yX10_deny wsX10_deny) := goodIn_app (goodIn_of _ (by decide +kernel)) ggX10_pour_X10_deny
set_option maxRecDepth 20000 in
theorem ggX10_pour_X9_isMissing : GoodIn wsX10_pour wsX9_isMissing := goodIn_r _ [18, 19, 56, 57, 58] (by decide +kernel) (by decide +kernel)
set_option maxRecDepth 20000 in
theorem gX10_pour_X9_isMissing : GoodIn wsX10_pour (wsV RX10 147 RX9 yX9_isMissing wsX9_isMissing) := goodIn_app (goodIn_of _ (by decide +kernel)) ggX10_pour_X9_isMissing
set_option maxRecDepth 20000 in
theorem ggX10_pour_X9_hasPlaces : GoodIn wsX10_pour wsX9_hasPlaces := goodIn_r _ [23, 19, 56, 57, 58] (by decide +kernel) (by decide +kernel)
set_option maxRecDepth 20000 in
theorem gX10_pour_X9_hasPlaces : GoodIn wsX10_pour (wsV RX10 154 RX9 yX9_hasPlaces wsX9_hasPlaces) := goodIn_app (goodIn_of _ (by decide +kernel)) ggX10_pour_X9_hasPlaces
set_option maxRecDepth 20000 in
theorem ggX10_pour_X9_move : GoodIn wsX10_pour wsX9_move := goodIn_r _ [27, 28, 29, 30, 31, 32, 56, 57, 58] (by decide +kernel) (by decide +kernel)
set_option maxRecDepth 20000 in
theorem gX10_pour_X9_move : GoodIn wsX10_pour (wsV RX10 157 RX9 yX9_move wsX9_move) := goodIn_app (goodIn_of _ (by decide +kernel)) ggX10_pour_X9_move
set_option maxRecDepth 20000 in
theorem ggX10_pour_X10_allow : GoodIn wsX10_pour wsX10_allow := goodIn_r _ [36, 13, 37, 38, 39, 40, 41, 42, 43, 44, 45, 46, 47, 48, 49, 50, 51, 52, 53, 54, 55] (by decide +kernel) (by decide +kernel)
set_option maxRecDepth 20000 in
theorem gX10_pour_X10_allow : GoodIn wsX10_pour (wsV RX10 127 RX10 yX10_allow wsX10_allow) := goodIn_app (goodIn_of _ (by decide +kernel)) ggX10_pour_X10_allow
theorem dX10_pour_0 : decode cX10_pour 0 = .ok (.iload_n 1, 1) := by decide +kernel
theorem dX10_pour_1 : decode cX10_pour 1 = .ok (.invokestatic 112, 3) := by decide +kernel
theorem dX10_pour_4 : decode cX10_pour 4 = .ok (.ifCond .ne 24, 3) := by decide +kernel
theorem dX10_pour_7 : decode cX10_pour 7 = .ok (.iload_n 3, 1) := by decide +kernel
theorem dX10_pour_8 : decode cX10_pour 8 = .ok (.invokestatic 112, 3) := by decide +kernel
theorem dX10_pour_11 : decode cX10_pour 11 = .ok (.ifCond .ne 17, 3) := by decide +kernel
theorem dX10_pour_14 : decode cX10_pour 14 = .ok (.iload_n 2, 1) := by decide +kernel
theorem dX10_pour_15 : decode cX10_pour 15 = .ok (.ifCond .lt 13, 3) := by decide +kernel
theorem dX10_pour_18 : decode cX10_pour 18 = .ok (.iload 4, 2) := by decide +kernel
theorem dX10_pour_20 : decode cX10_pour 20 = .ok (.ifCond .lt 8, 3) := by decide +kernel
theorem dX10_pour_23 : decode cX10_pour 23 = .ok (.iload 5, 2) := by decide +kernel
theorem dX10_pour_25 : decode cX10_pour 25 = .ok (.ifCond .ge 9, 3) := by decide +kernel
theorem dX10_pour_28 : decode cX10_pour 28 = .ok (.aload_n 0, 1) := by decide +kernel
theorem dX10_pour_29 : decode cX10_pour 29 = .ok (.iconst 1, 1) := by decide +kernel
theorem dX10_pour_30 : decode cX10_pour 30 = .ok (.invokevirtual 120, 3) := by decide +kernel
theorem dX10_pour_33 : decode cX10_pour 33 = .ok (.ireturn, 1) := by decide +kernel
theorem dX10_pour_34 : decode cX10_pour 34 = .ok (.aload_n 0, 1) := by decide +kernel
theorem dX10_pour_35 : decode cX10_pour 35 = .ok (.getfield 45, 3) := by decide +kernel
theorem dX10_pour_38 : decode cX10_pour 38 = .ok (.iload_n 1, 1) := by decide +kernel
theorem dX10_pour_39 : decode cX10_pour 39 = .ok (.invokevirtual 147, 3) := by decide +kernel
theorem dX10_pour_42 : decode cX10_pour 42 = .ok (.ifCond .ne 14, 3) := by decide +kernel
theorem dX10_pour_45 : decode cX10_pour 45 = .ok (.aload_n 0, 1) := by decide +kernel
theorem dX10_pour_46 : decode cX10_pour 46 = .ok (.getfield 45, 3) := by decide +kernel
theorem dX10_pour_49 : decode cX10_pour 49 = .ok (.iload_n 3, 1) := by decide +kernel
theorem dX10_pour_50 : decode cX10_pour 50 = .ok (.invokevirtual 147, 3) := by decide +kernel
theorem dX10_pour_53 : decode cX10_pour 53 = .ok (.ifCond .eq 9, 3) := by decide +kernel
theorem dX10_pour_56 : decode cX10_pour 56 = .ok (.aload_n 0, 1) := by decide +kernel
theorem dX10_pour_57 : decode cX10_pour 57 = .ok (.iconst 2, 1) := by decide +kernel
theorem dX10_pour_58 : decode cX10_pour 58 = .ok (.invokevirtual 120, 3) := by decide +kernel
theorem dX10_pour_61 : decode cX10_pour 61 = .ok (.ireturn, 1) := by decide +kernel
theorem dX10_pour_62 : decode cX10_pour 62 = .ok (.aload_n 0, 1) := by decide +kernel
theorem dX10_pour_63 : decode cX10_pour 63 = .ok (.getfield 45, 3) := by decide +kernel
theorem dX10_pour_66 : decode cX10_pour 66 = .ok (.getfield 150, 3) := by decide +kernel
theorem dX10_pour_69 : decode cX10_pour 69 = .ok (.iload_n 1, 1) := by decide +kernel
theorem dX10_pour_70 : decode cX10_pour 70 = .ok (.iaload, 1) := by decide +kernel
theorem dX10_pour_71 : decode cX10_pour 71 = .ok (.aload_n 0, 1) := by decide +kernel
theorem dX10_pour_72 : decode cX10_pour 72 = .ok (.getfield 45, 3) := by decide +kernel
theorem dX10_pour_75 : decode cX10_pour 75 = .ok (.getfield 150, 3) := by decide +kernel
theorem dX10_pour_78 : decode cX10_pour 78 = .ok (.iload_n 3, 1) := by decide +kernel
theorem dX10_pour_79 : decode cX10_pour 79 = .ok (.iaload, 1) := by decide +kernel
theorem dX10_pour_80 : decode cX10_pour 80 = .ok (.if_icmp .eq 10, 3) := by decide +kernel
theorem dX10_pour_83 : decode cX10_pour 83 = .ok (.aload_n 0, 1) := by decide +kernel
theorem dX10_pour_84 : decode cX10_pour 84 = .ok (.bipush 8, 2) := by decide +kernel
theorem dX10_pour_86 : decode cX10_pour 86 = .ok (.invokevirtual 120, 3) := by decide +kernel
theorem dX10_pour_89 : decode cX10_pour 89 = .ok (.ireturn, 1) := by decide +kernel
theorem dX10_pour_90 : decode cX10_pour 90 = .ok (.aload_n 0, 1) := by decide +kernel
theorem dX10_pour_91 : decode cX10_pour 91 = .ok (.getfield 45, 3) := by decide +kernel
theorem dX10_pour_94 : decode cX10_pour 94 = .ok (.iload_n 1, 1) := by decide +kernel
theorem dX10_pour_95 : decode cX10_pour 95 = .ok (.iload_n 2, 1) := by decide +kernel
theorem dX10_pour_96 : decode cX10_pour 96 = .ok (.iload 5, 2) := by decide +kernel
theorem dX10_pour_98 : decode cX10_pour 98 = .ok (.invokevirtual 154, 3) := by decide +kernel
theorem dX10_pour_101 : decode cX10_pour 101 = .ok (.ifCond .eq 18, 3) := by decide +kernel
theorem dX10_pour_104 : decode cX10_pour 104 = .ok (.aload_n 0, 1) := by decide +kernel
theorem dX10_pour_105 : decode cX10_pour 105 = .ok (.getfield 45, 3) := by decide +kernel
theorem dX10_pour_108 : decode cX10_pour 108 = .ok (.iload_n 3, 1) := by decide +kernel
theorem dX10_pour_109 : decode cX10_pour 109 = .ok (.iload 4, 2) := by decide +kernel
theorem dX10_pour_111 : decode cX10_pour 111 = .ok (.iload 5, 2) := by decide +kernel
theorem dX10_pour_113 : decode cX10_pour 113 = .ok (.invokevirtual 154, 3) := by decide +kernel
theorem dX10_pour_116 : decode cX10_pour 116 = .ok (.ifCond .ne 9, 3) := by decide +kernel
theorem dX10_pour_119 : decode cX10_pour 119 = .ok (.aload_n 0, 1) := by decide +kernel
theorem dX10_pour_120 : decode cX10_pour 120 = .ok (.iconst 3, 1) := by decide +kernel
theorem dX10_pour_121 : decode cX10_pour 121 = .ok (.invokevirtual 120, 3) := by decide +kernel
theorem dX10_pour_124 : decode cX10_pour 124 = .ok (.ireturn, 1) := by decide +kernel
theorem dX10_pour_125 : decode cX10_pour 125 = .ok (.aload_n 0, 1) := by decide +kernel
theorem dX10_pour_126 : decode cX10_pour 126 = .ok (.getfield 45, 3) := by decide +kernel
theorem dX10_pour_129 : decode cX10_pour 129 = .ok (.iload_n 1, 1) := by decide +kernel
theorem dX10_pour_130 : decode cX10_pour 130 = .ok (.iload_n 2, 1) := by decide +kernel
theorem dX10_pour_131 : decode cX10_pour 131 = .ok (.iload_n 3, 1) := by decide +kernel
theorem dX10_pour_132 : decode cX10_pour 132 = .ok (.iload 4, 2) := by decide +kernel
theorem dX10_pour_134 : decode cX10_pour 134 = .ok (.iload 5, 2) := by decide +kernel
theorem dX10_pour_136 : decode cX10_pour 136 = .ok (.invokevirtual 157, 3) := by decide +kernel
theorem dX10_pour_139 : decode cX10_pour 139 = .ok (.aload_n 0, 1) := by decide +kernel
theorem dX10_pour_140 : decode cX10_pour 140 = .ok (.invokevirtual 127, 3) := by decide +kernel
theorem dX10_pour_143 : decode cX10_pour 143 = .ok (.ireturn, 1) := by decide +kernel
abbrev rmX10_pour : Room := { frames := 2, cells := 0, slots := 0, locals := 65 }
set_option maxHeartbeats 4000000 in
set_option maxRecDepth 100000 in
theorem kX10_pour (l : Launch) (D : va_G) (cy : Nat → ClassId) (h0 : Nat) (a0 : Nat → Nat) (a1 : Nat → Nat) (s0 : Rc) (s1 : Rc) (p1 : Int32) (p2 : Int32) (p3 : Int32) (p4 : Int32) (p5 : Int32) (res : Int32 × Rc × Rc) (h : fX10_pour p1 p2 p3 p4 p5 s0 s1 = some res) : CZ l D cy yX10_pour wsX10_pour rmX10_pour [.ref h0, .int p1, .int p2, .int p3, .int p4, .int p5] (flat [WX10 cy h0 a0 s0, WX9 cy (a0 7) a1 s1]) (flat [WX10 cy h0 a0 res.2.1, WX9 cy (a0 7) a1 res.2.2]) res.1 := by
  refine CZ.of (cc := cX10_pour) (maxL := 6) (by decide) rfl (Nat.le_of_ble_eq_true rfl) ?_
  intro p e s m args below meth c A QQ ls E hr
  obtain ⟨hx, hb, hml, hown, hts, hK, hN, hP, hD, hA, hl⟩ := E
  have hret : ∀ (pc : Nat) (H : Heap) (locs : List Loc) (ls : Array Slot) (u : Int32 × Rc × Rc), u = res → va_P D vwCl (flat [WX10 cy h0 a0 u.2.1, WX9 cy (a0 7) a1 u.2.2]) H → va_D A (flat [WX10 cy h0 a0 u.2.1, WX9 cy (a0 7) a1 u.2.2]) → va_S A s.heap H locs → isb u.1 = true → decode cX10_pour pc = .ok (.ireturn, 1) → W p l e rmX10_pour s m args below meth c H locs 0 0 QQ (F0 m pc ls [.int u.1]) := by
    intro pc H locs ls u hu hP hD hS hz hd; subst hu; exact hr pc H locs ls _ rfl hP hD hS hz hd
  clear hr
  have hl : lv_has ls 6 [(0, .ref h0), (1, .int p1), (2, .int p2), (3, .int p3), (4, .int p4), (5, .int p5)] := hl
  have hinX10 : ∀ w ∈ wsX100, w ∈ wsX10_pour := fun _ h => List.mem_cons_of_mem _ (List.mem_append_left _ (List.mem_append_right _ h))
  have hinX9 : ∀ w ∈ wsX90, w ∈ wsX10_pour := fun _ h => List.mem_cons_of_mem _ (List.mem_append_right _ h)
  unfold fX10_pour at h
  suffices key : ∀ (H : Heap) (locs : List Loc), va_P D vwCl (flat [WX10 cy h0 a0 s0, WX9 cy (a0 7) a1 s1]) H → va_S A s.heap H locs → W p l e rmX10_pour s m args below meth c H locs 0 0 QQ (F0 m 0 ls []) from key _ _ hP va_S.rf
  clear hP
  intro H locs hP hS
  refine lv_iload_n hx hb dX10_pour_0 rfl (lv_at hl 1 rfl) ?_
  refine ca_z (w' := [WX10 cy h0 a0 s0, WX9 cy (a0 7) a1 s1]) (rn_S (As := [.int p1]) (rest := []) ⟨hx, hb, hml, hown, hts⟩ (kX10_noTray l D cy p1 _ rfl H.size) (va_cwS 1 hts gX10_pour_X10_noTray rfl rfl rfl (by decide +kernel) ⟨Nat.le_of_ble_eq_true rfl, Nat.le_of_ble_eq_true rfl⟩) hK hN hP hD [] rfl rfl rfl hl.1 rfl (Nat.le_of_ble_eq_true rfl) dX10_pour_1 ⟨Nat.le_refl 0, Nat.le_refl 0⟩) hP hD hS hA [] ⟨rfl, rfl, rfl, rfl⟩ (fun b1 H locs hP hD hS => ?_)
  refine lv_if_ne (tgt := 28) hx hb dX10_pour_4 (by decide) (fun c2 => ?_) (fun c2 => ?_)
  · replace h := (if_neg c2).symm.trans h
    refine lv_aload_n hx hb dX10_pour_28 rfl (lv_at hl 0 rfl) ?_
    refine lv_iconst (v := 1) hx hb dX10_pour_29 (by decide) ?_
    obtain ⟨r3, hr3, h⟩ := lt_elim h
    refine ca_z (w' := [WX10 cy h0 a0 r3.2, WX9 cy (a0 7) a1 s1]) (rn_V (As := [.int (1 : Int32)]) (rest := []) ⟨hx, hb, hml, hown, hts⟩ (kX10_deny l D cy h0 a0 s0 (1 : Int32) r3 hr3.symm H.size) (cwV 1 hts gX10_pour_X10_deny rfl rfl rfl (by decide +kernel) ⟨Nat.le_of_ble_eq_true rfl, Nat.le_of_ble_eq_true rfl⟩) hK hN hP hD [0] rfl rfl (ci := 10) (q0 := 0) rfl rfl rfl rfl hl.1 rfl (Nat.le_of_ble_eq_true rfl) dX10_pour_30 ⟨Nat.le_refl 0, Nat.le_refl 0⟩) hP hD hS hA [0] ⟨rfl, rfl, rfl, rfl⟩ (fun b4 H locs hP hD hS => ?_)
    exact hret 33 H locs ls (r3.1, r3.2, s1) (Option.some.inj h) hP hD hS b4 dX10_pour_33
  · replace h := (if_pos c2).symm.trans h
    refine lv_iload_n hx hb dX10_pour_7 rfl (lv_at hl 3 rfl) ?_
    refine ca_z (w' := [WX10 cy h0 a0 s0, WX9 cy (a0 7) a1 s1]) (rn_S (As := [.int p3]) (rest := []) ⟨hx, hb, hml, hown, hts⟩ (kX10_noTray l D cy p3 _ rfl H.size) (va_cwS 1 hts gX10_pour_X10_noTray rfl rfl rfl (by decide +kernel) ⟨Nat.le_of_ble_eq_true rfl, Nat.le_of_ble_eq_true rfl⟩) hK hN hP hD [] rfl rfl rfl hl.1 rfl (Nat.le_of_ble_eq_true rfl) dX10_pour_8 ⟨Nat.le_refl 0, Nat.le_refl 0⟩) hP hD hS hA [] ⟨rfl, rfl, rfl, rfl⟩ (fun b5 H locs hP hD hS => ?_)
    refine lv_if_ne (tgt := 28) hx hb dX10_pour_11 (by decide) (fun c6 => ?_) (fun c6 => ?_)
    · replace h := (if_neg c6).symm.trans h
      refine lv_aload_n hx hb dX10_pour_28 rfl (lv_at hl 0 rfl) ?_
      refine lv_iconst (v := 1) hx hb dX10_pour_29 (by decide) ?_
      obtain ⟨r7, hr7, h⟩ := lt_elim h
      refine ca_z (w' := [WX10 cy h0 a0 r7.2, WX9 cy (a0 7) a1 s1]) (rn_V (As := [.int (1 : Int32)]) (rest := []) ⟨hx, hb, hml, hown, hts⟩ (kX10_deny l D cy h0 a0 s0 (1 : Int32) r7 hr7.symm H.size) (cwV 1 hts gX10_pour_X10_deny rfl rfl rfl (by decide +kernel) ⟨Nat.le_of_ble_eq_true rfl, Nat.le_of_ble_eq_true rfl⟩) hK hN hP hD [0] rfl rfl (ci := 10) (q0 := 0) rfl rfl rfl rfl hl.1 rfl (Nat.le_of_ble_eq_true rfl) dX10_pour_30 ⟨Nat.le_refl 0, Nat.le_refl 0⟩) hP hD hS hA [0] ⟨rfl, rfl, rfl, rfl⟩ (fun b8 H locs hP hD hS => ?_)
      exact hret 33 H locs ls (r7.1, r7.2, s1) (Option.some.inj h) hP hD hS b8 dX10_pour_33
    · replace h := (if_pos c6).symm.trans h
      refine lv_iload_n hx hb dX10_pour_14 rfl (lv_at hl 2 rfl) ?_
      refine lv_if_lt (tgt := 28) hx hb dX10_pour_15 (by decide) (fun c9 => ?_) (fun c9 => ?_)
      · replace h := (if_pos c9).symm.trans h
        refine lv_aload_n hx hb dX10_pour_28 rfl (lv_at hl 0 rfl) ?_
        refine lv_iconst (v := 1) hx hb dX10_pour_29 (by decide) ?_
        obtain ⟨r10, hr10, h⟩ := lt_elim h
        refine ca_z (w' := [WX10 cy h0 a0 r10.2, WX9 cy (a0 7) a1 s1]) (rn_V (As := [.int (1 : Int32)]) (rest := []) ⟨hx, hb, hml, hown, hts⟩ (kX10_deny l D cy h0 a0 s0 (1 : Int32) r10 hr10.symm H.size) (cwV 1 hts gX10_pour_X10_deny rfl rfl rfl (by decide +kernel) ⟨Nat.le_of_ble_eq_true rfl, Nat.le_of_ble_eq_true rfl⟩) hK hN hP hD [0] rfl rfl (ci := 10) (q0 := 0) rfl rfl rfl rfl hl.1 rfl (Nat.le_of_ble_eq_true rfl) dX10_pour_30 ⟨Nat.le_refl 0, Nat.le_refl 0⟩) hP hD hS hA [0] ⟨rfl, rfl, rfl, rfl⟩ (fun b11 H locs hP hD hS => ?_)
        exact hret 33 H locs ls (r10.1, r10.2, s1) (Option.some.inj h) hP hD hS b11 dX10_pour_33
      · replace h := (if_neg c9).symm.trans h
        refine lv_iload hx hb dX10_pour_18 (lv_at hl 4 rfl) ?_
        refine lv_if_lt (tgt := 28) hx hb dX10_pour_20 (by decide) (fun c12 => ?_) (fun c12 => ?_)
        · replace h := (if_pos c12).symm.trans h
          refine lv_aload_n hx hb dX10_pour_28 rfl (lv_at hl 0 rfl) ?_
          refine lv_iconst (v := 1) hx hb dX10_pour_29 (by decide) ?_
          obtain ⟨r13, hr13, h⟩ := lt_elim h
          refine ca_z (w' := [WX10 cy h0 a0 r13.2, WX9 cy (a0 7) a1 s1]) (rn_V (As := [.int (1 : Int32)]) (rest := []) ⟨hx, hb, hml, hown, hts⟩ (kX10_deny l D cy h0 a0 s0 (1 : Int32) r13 hr13.symm H.size) (cwV 1 hts gX10_pour_X10_deny rfl rfl rfl (by decide +kernel) ⟨Nat.le_of_ble_eq_true rfl, Nat.le_of_ble_eq_true rfl⟩) hK hN hP hD [0] rfl rfl (ci := 10) (q0 := 0) rfl rfl rfl rfl hl.1 rfl (Nat.le_of_ble_eq_true rfl) dX10_pour_30 ⟨Nat.le_refl 0, Nat.le_refl 0⟩) hP hD hS hA [0] ⟨rfl, rfl, rfl, rfl⟩ (fun b14 H locs hP hD hS => ?_)
          exact hret 33 H locs ls (r13.1, r13.2, s1) (Option.some.inj h) hP hD hS b14 dX10_pour_33
        · replace h := (if_neg c12).symm.trans h
          refine lv_iload hx hb dX10_pour_23 (lv_at hl 5 rfl) ?_
          refine lv_if_ge (tgt := 34) hx hb dX10_pour_25 (by decide) (fun c15 => ?_) (fun c15 => ?_)
          · replace h := (if_pos c15).symm.trans h
            refine lv_aload_n hx hb dX10_pour_34 rfl (lv_at hl 0 rfl) ?_
            refine va_get (D := D) (ci := 10) (v := .ref (a0 7)) (C := RX10) (T := TX10) (N := 19) hx hb hts hinX10 hown hK hP 0 rfl rfl 7 (by decide) (hts (.fieldLink RX10 45 "KneeBench" "trays" "LKneeBench$Trays;") (List.mem_of_getElem? (i := 1) rfl)) (fun _ h9 => h9) rfl dX10_pour_35 ?_
            refine lv_iload_n hx hb dX10_pour_38 rfl (lv_at hl 1 rfl) ?_
            obtain ⟨r16, hr16, h⟩ := bd_elim h
            refine ca_z (w' := [WX10 cy h0 a0 s0, WX9 cy (a0 7) a1 s1]) (rn_V (As := [.int p1]) (rest := []) ⟨hx, hb, hml, hown, hts⟩ (kX9_isMissing l D cy (a0 7) a1 s1 p1 r16 hr16 H.size) (cwV 1 hts gX10_pour_X9_isMissing rfl rfl rfl (by decide +kernel) ⟨Nat.le_of_ble_eq_true rfl, Nat.le_of_ble_eq_true rfl⟩) hK hN hP hD [1] rfl rfl (ci := 9) (q0 := 1) rfl rfl rfl rfl hl.1 rfl (Nat.le_of_ble_eq_true rfl) dX10_pour_39 ⟨Nat.le_refl 0, Nat.le_refl 0⟩) hP hD hS hA [1] ⟨rfl, rfl, rfl, rfl⟩ (fun b17 H locs hP hD hS => ?_)
            refine lv_if_ne (tgt := 56) hx hb dX10_pour_42 (by decide) (fun c18 => ?_) (fun c18 => ?_)
            · replace h := (if_neg c18).symm.trans h
              refine lv_aload_n hx hb dX10_pour_56 rfl (lv_at hl 0 rfl) ?_
              refine lv_iconst (v := 2) hx hb dX10_pour_57 (by decide) ?_
              obtain ⟨r19, hr19, h⟩ := lt_elim h
              refine ca_z (w' := [WX10 cy h0 a0 r19.2, WX9 cy (a0 7) a1 s1]) (rn_V (As := [.int (2 : Int32)]) (rest := []) ⟨hx, hb, hml, hown, hts⟩ (kX10_deny l D cy h0 a0 s0 (2 : Int32) r19 hr19.symm H.size) (cwV 1 hts gX10_pour_X10_deny rfl rfl rfl (by decide +kernel) ⟨Nat.le_of_ble_eq_true rfl, Nat.le_of_ble_eq_true rfl⟩) hK hN hP hD [0] rfl rfl (ci := 10) (q0 := 0) rfl rfl rfl rfl hl.1 rfl (Nat.le_of_ble_eq_true rfl) dX10_pour_58 ⟨Nat.le_refl 0, Nat.le_refl 0⟩) hP hD hS hA [0] ⟨rfl, rfl, rfl, rfl⟩ (fun b20 H locs hP hD hS => ?_)
              exact hret 61 H locs ls (r19.1, r19.2, s1) (Option.some.inj h) hP hD hS b20 dX10_pour_61
            · replace h := (if_pos c18).symm.trans h
              refine lv_aload_n hx hb dX10_pour_45 rfl (lv_at hl 0 rfl) ?_
              refine va_get (D := D) (ci := 10) (v := .ref (a0 7)) (C := RX10) (T := TX10) (N := 19) hx hb hts hinX10 hown hK hP 0 rfl rfl 7 (by decide) (hts (.fieldLink RX10 45 "KneeBench" "trays" "LKneeBench$Trays;") (List.mem_of_getElem? (i := 1) rfl)) (fun _ h9 => h9) rfl dX10_pour_46 ?_
              refine lv_iload_n hx hb dX10_pour_49 rfl (lv_at hl 3 rfl) ?_
              obtain ⟨r21, hr21, h⟩ := bd_elim h
              refine ca_z (w' := [WX10 cy h0 a0 s0, WX9 cy (a0 7) a1 s1]) (rn_V (As := [.int p3]) (rest := []) ⟨hx, hb, hml, hown, hts⟩ (kX9_isMissing l D cy (a0 7) a1 s1 p3 r21 hr21 H.size) (cwV 1 hts gX10_pour_X9_isMissing rfl rfl rfl (by decide +kernel) ⟨Nat.le_of_ble_eq_true rfl, Nat.le_of_ble_eq_true rfl⟩) hK hN hP hD [1] rfl rfl (ci := 9) (q0 := 1) rfl rfl rfl rfl hl.1 rfl (Nat.le_of_ble_eq_true rfl) dX10_pour_50 ⟨Nat.le_refl 0, Nat.le_refl 0⟩) hP hD hS hA [1] ⟨rfl, rfl, rfl, rfl⟩ (fun b22 H locs hP hD hS => ?_)
              refine lv_if_eq (tgt := 62) hx hb dX10_pour_53 (by decide) (fun c23 => ?_) (fun c23 => ?_)
              · replace h := (if_pos c23).symm.trans h
                refine lv_aload_n hx hb dX10_pour_62 rfl (lv_at hl 0 rfl) ?_
                refine va_get (D := D) (ci := 10) (v := .ref (a0 7)) (C := RX10) (T := TX10) (N := 19) hx hb hts hinX10 hown hK hP 0 rfl rfl 7 (by decide) (hts (.fieldLink RX10 45 "KneeBench" "trays" "LKneeBench$Trays;") (List.mem_of_getElem? (i := 1) rfl)) (fun _ h9 => h9) rfl dX10_pour_63 ?_
                refine va_getN (D := D) (ci := 9) (v := .ref (a1 1)) (C := RX9) (T := TX9) (N := 3) hx hb hts hinX9 hown hK hP 1 rfl rfl 1 (by decide) (NW.fld hN 41 rfl _) (fun _ h9 => h9) rfl dX10_pour_66 ?_
                refine lv_iload_n hx hb dX10_pour_69 rfl (lv_at hl 1 rfl) ?_
                obtain ⟨g24, h⟩ := gd_elim h
                refine va_iald hx hb hK hP 3 1 rfl rfl (inb_in g24) dX10_pour_70 ?_
                refine lv_aload_n hx hb dX10_pour_71 rfl (lv_at hl 0 rfl) ?_
                refine va_get (D := D) (ci := 10) (v := .ref (a0 7)) (C := RX10) (T := TX10) (N := 19) hx hb hts hinX10 hown hK hP 0 rfl rfl 7 (by decide) (hts (.fieldLink RX10 45 "KneeBench" "trays" "LKneeBench$Trays;") (List.mem_of_getElem? (i := 1) rfl)) (fun _ h9 => h9) rfl dX10_pour_72 ?_
                refine va_getN (D := D) (ci := 9) (v := .ref (a1 1)) (C := RX9) (T := TX9) (N := 3) hx hb hts hinX9 hown hK hP 1 rfl rfl 1 (by decide) (NW.fld hN 41 rfl _) (fun _ h9 => h9) rfl dX10_pour_75 ?_
                refine lv_iload_n hx hb dX10_pour_78 rfl (lv_at hl 3 rfl) ?_
                obtain ⟨g25, h⟩ := gd_elim h
                refine va_iald hx hb hK hP 3 1 rfl rfl (inb_in g25) dX10_pour_79 ?_
                refine lv_icmp_eq (tgt := 90) hx hb dX10_pour_80 (by decide) (fun c26 => ?_) (fun c26 => ?_)
                · replace h := (if_pos c26).symm.trans h
                  refine lv_aload_n hx hb dX10_pour_90 rfl (lv_at hl 0 rfl) ?_
                  refine va_get (D := D) (ci := 10) (v := .ref (a0 7)) (C := RX10) (T := TX10) (N := 19) hx hb hts hinX10 hown hK hP 0 rfl rfl 7 (by decide) (hts (.fieldLink RX10 45 "KneeBench" "trays" "LKneeBench$Trays;") (List.mem_of_getElem? (i := 1) rfl)) (fun _ h9 => h9) rfl dX10_pour_91 ?_
                  refine lv_iload_n hx hb dX10_pour_94 rfl (lv_at hl 1 rfl) ?_
                  refine lv_iload_n hx hb dX10_pour_95 rfl (lv_at hl 2 rfl) ?_
                  refine lv_iload hx hb dX10_pour_96 (lv_at hl 5 rfl) ?_
                  obtain ⟨r27, hr27, h⟩ := bd_elim h
                  refine ca_z (w' := [WX10 cy h0 a0 s0, WX9 cy (a0 7) a1 s1]) (rn_V (As := [.int p1, .int p2, .int p5]) (rest := []) ⟨hx, hb, hml, hown, hts⟩ (kX9_hasPlaces l D cy (a0 7) a1 s1 p1 p2 p5 r27 hr27 H.size) (cwV 3 hts gX10_pour_X9_hasPlaces rfl rfl rfl (by decide +kernel) ⟨Nat.le_of_ble_eq_true rfl, Nat.le_of_ble_eq_true rfl⟩) hK hN hP hD [1] rfl rfl (ci := 9) (q0 := 1) rfl rfl rfl rfl hl.1 rfl (Nat.le_of_ble_eq_true rfl) dX10_pour_98 ⟨Nat.le_refl 0, Nat.le_refl 0⟩) hP hD hS hA [1] ⟨rfl, rfl, rfl, rfl⟩ (fun b28 H locs hP hD hS => ?_)
                  refine lv_if_eq (tgt := 119) hx hb dX10_pour_101 (by decide) (fun c29 => ?_) (fun c29 => ?_)
                  · replace h := (if_pos c29).symm.trans h
                    refine lv_aload_n hx hb dX10_pour_119 rfl (lv_at hl 0 rfl) ?_
                    refine lv_iconst (v := 3) hx hb dX10_pour_120 (by decide) ?_
                    obtain ⟨r30, hr30, h⟩ := lt_elim h
                    refine ca_z (w' := [WX10 cy h0 a0 r30.2, WX9 cy (a0 7) a1 s1]) (rn_V (As := [.int (3 : Int32)]) (rest := []) ⟨hx, hb, hml, hown, hts⟩ (kX10_deny l D cy h0 a0 s0 (3 : Int32) r30 hr30.symm H.size) (cwV 1 hts gX10_pour_X10_deny rfl rfl rfl (by decide +kernel) ⟨Nat.le_of_ble_eq_true rfl, Nat.le_of_ble_eq_true rfl⟩) hK hN hP hD [0] rfl rfl (ci := 10) (q0 := 0) rfl rfl rfl rfl hl.1 rfl (Nat.le_of_ble_eq_true rfl) dX10_pour_121 ⟨Nat.le_refl 0, Nat.le_refl 0⟩) hP hD hS hA [0] ⟨rfl, rfl, rfl, rfl⟩ (fun b31 H locs hP hD hS => ?_)
                    exact hret 124 H locs ls (r30.1, r30.2, s1) (Option.some.inj h) hP hD hS b31 dX10_pour_124
                  · replace h := (if_neg c29).symm.trans h
                    refine lv_aload_n hx hb dX10_pour_104 rfl (lv_at hl 0 rfl) ?_
                    refine va_get (D := D) (ci := 10) (v := .ref (a0 7)) (C := RX10) (T := TX10) (N := 19) hx hb hts hinX10 hown hK hP 0 rfl rfl 7 (by decide) (hts (.fieldLink RX10 45 "KneeBench" "trays" "LKneeBench$Trays;") (List.mem_of_getElem? (i := 1) rfl)) (fun _ h9 => h9) rfl dX10_pour_105 ?_
                    refine lv_iload_n hx hb dX10_pour_108 rfl (lv_at hl 3 rfl) ?_
                    refine lv_iload hx hb dX10_pour_109 (lv_at hl 4 rfl) ?_
                    refine lv_iload hx hb dX10_pour_111 (lv_at hl 5 rfl) ?_
                    obtain ⟨r32, hr32, h⟩ := bd_elim h
                    refine ca_z (w' := [WX10 cy h0 a0 s0, WX9 cy (a0 7) a1 s1]) (rn_V (As := [.int p3, .int p4, .int p5]) (rest := []) ⟨hx, hb, hml, hown, hts⟩ (kX9_hasPlaces l D cy (a0 7) a1 s1 p3 p4 p5 r32 hr32 H.size) (cwV 3 hts gX10_pour_X9_hasPlaces rfl rfl rfl (by decide +kernel) ⟨Nat.le_of_ble_eq_true rfl, Nat.le_of_ble_eq_true rfl⟩) hK hN hP hD [1] rfl rfl (ci := 9) (q0 := 1) rfl rfl rfl rfl hl.1 rfl (Nat.le_of_ble_eq_true rfl) dX10_pour_113 ⟨Nat.le_refl 0, Nat.le_refl 0⟩) hP hD hS hA [1] ⟨rfl, rfl, rfl, rfl⟩ (fun b33 H locs hP hD hS => ?_)
                    refine lv_if_ne (tgt := 125) hx hb dX10_pour_116 (by decide) (fun c34 => ?_) (fun c34 => ?_)
                    · replace h := (if_neg c34).symm.trans h
                      refine lv_aload_n hx hb dX10_pour_125 rfl (lv_at hl 0 rfl) ?_
                      refine va_get (D := D) (ci := 10) (v := .ref (a0 7)) (C := RX10) (T := TX10) (N := 19) hx hb hts hinX10 hown hK hP 0 rfl rfl 7 (by decide) (hts (.fieldLink RX10 45 "KneeBench" "trays" "LKneeBench$Trays;") (List.mem_of_getElem? (i := 1) rfl)) (fun _ h9 => h9) rfl dX10_pour_126 ?_
                      refine lv_iload_n hx hb dX10_pour_129 rfl (lv_at hl 1 rfl) ?_
                      refine lv_iload_n hx hb dX10_pour_130 rfl (lv_at hl 2 rfl) ?_
                      refine lv_iload_n hx hb dX10_pour_131 rfl (lv_at hl 3 rfl) ?_
                      refine lv_iload hx hb dX10_pour_132 (lv_at hl 4 rfl) ?_
                      refine lv_iload hx hb dX10_pour_134 (lv_at hl 5 rfl) ?_
                      obtain ⟨r35, hr35, h⟩ := bd_elim h
                      refine ca_v (w' := [WX10 cy h0 a0 s0, WX9 cy (a0 7) a1 r35]) (rn_V (As := [.int p1, .int p2, .int p3, .int p4, .int p5]) (rest := []) ⟨hx, hb, hml, hown, hts⟩ (kX9_move l D cy (a0 7) a1 s1 p1 p2 p3 p4 p5 r35 hr35 H.size) (cwV 5 hts gX10_pour_X9_move rfl rfl rfl (by decide +kernel) ⟨Nat.le_of_ble_eq_true rfl, Nat.le_of_ble_eq_true rfl⟩) hK hN hP hD [1] rfl rfl (ci := 9) (q0 := 1) rfl rfl rfl rfl hl.1 rfl (Nat.le_of_ble_eq_true rfl) dX10_pour_136 ⟨Nat.le_refl 0, Nat.le_refl 0⟩) hP hD hS hA [1] ⟨rfl, rfl, rfl, rfl⟩ (fun H locs hP hD hS => ?_)
                      refine lv_aload_n hx hb dX10_pour_139 rfl (lv_at hl 0 rfl) ?_
                      obtain ⟨r36, hr36, h⟩ := lt_elim h
                      refine ca_z (w' := [WX10 cy h0 a0 r36.2, WX9 cy (a0 7) a1 r35]) (rn_V (As := []) (rest := []) ⟨hx, hb, hml, hown, hts⟩ (kX10_allow l D cy h0 a0 s0 r36 hr36.symm H.size) (cwV 0 hts gX10_pour_X10_allow rfl rfl rfl (by decide +kernel) ⟨Nat.le_of_ble_eq_true rfl, Nat.le_of_ble_eq_true rfl⟩) hK hN hP hD [0] rfl rfl (ci := 10) (q0 := 0) rfl rfl rfl rfl hl.1 rfl (Nat.le_of_ble_eq_true rfl) dX10_pour_140 ⟨Nat.le_refl 0, Nat.le_refl 0⟩) hP hD hS hA [0] ⟨rfl, rfl, rfl, rfl⟩ (fun b37 H locs hP hD hS => ?_)
                      exact hret 143 H locs ls (r36.1, r36.2, r35) (Option.some.inj h) hP hD hS b37 dX10_pour_143
                    · replace h := (if_pos c34).symm.trans h
                      refine lv_aload_n hx hb dX10_pour_119 rfl (lv_at hl 0 rfl) ?_
                      refine lv_iconst (v := 3) hx hb dX10_pour_120 (by decide) ?_
                      obtain ⟨r38, hr38, h⟩ := lt_elim h
                      refine ca_z (w' := [WX10 cy h0 a0 r38.2, WX9 cy (a0 7) a1 s1]) (rn_V (As := [.int (3 : Int32)]) (rest := []) ⟨hx, hb, hml, hown, hts⟩ (kX10_deny l D cy h0 a0 s0 (3 : Int32) r38 hr38.symm H.size) (cwV 1 hts gX10_pour_X10_deny rfl rfl rfl (by decide +kernel) ⟨Nat.le_of_ble_eq_true rfl, Nat.le_of_ble_eq_true rfl⟩) hK hN hP hD [0] rfl rfl (ci := 10) (q0 := 0) rfl rfl rfl rfl hl.1 rfl (Nat.le_of_ble_eq_true rfl) dX10_pour_121 ⟨Nat.le_refl 0, Nat.le_refl 0⟩) hP hD hS hA [0] ⟨rfl, rfl, rfl, rfl⟩ (fun b39 H locs hP hD hS => ?_)
                      exact hret 124 H locs ls (r38.1, r38.2, s1) (Option.some.inj h) hP hD hS b39 dX10_pour_124
                · replace h := (if_neg c26).symm.trans h
                  refine lv_aload_n hx hb dX10_pour_83 rfl (lv_at hl 0 rfl) ?_
                  refine lv_bipush (v := 8) hx hb dX10_pour_84 (by decide) ?_
                  obtain ⟨r40, hr40, h⟩ := lt_elim h
                  refine ca_z (w' := [WX10 cy h0 a0 r40.2, WX9 cy (a0 7) a1 s1]) (rn_V (As := [.int (8 : Int32)]) (rest := []) ⟨hx, hb, hml, hown, hts⟩ (kX10_deny l D cy h0 a0 s0 (8 : Int32) r40 hr40.symm H.size) (cwV 1 hts gX10_pour_X10_deny rfl rfl rfl (by decide +kernel) ⟨Nat.le_of_ble_eq_true rfl, Nat.le_of_ble_eq_true rfl⟩) hK hN hP hD [0] rfl rfl (ci := 10) (q0 := 0) rfl rfl rfl rfl hl.1 rfl (Nat.le_of_ble_eq_true rfl) dX10_pour_86 ⟨Nat.le_refl 0, Nat.le_refl 0⟩) hP hD hS hA [0] ⟨rfl, rfl, rfl, rfl⟩ (fun b41 H locs hP hD hS => ?_)
                  exact hret 89 H locs ls (r40.1, r40.2, s1) (Option.some.inj h) hP hD hS b41 dX10_pour_89
              · replace h := (if_neg c23).symm.trans h
                refine lv_aload_n hx hb dX10_pour_56 rfl (lv_at hl 0 rfl) ?_
                refine lv_iconst (v := 2) hx hb dX10_pour_57 (by decide) ?_
                obtain ⟨r42, hr42, h⟩ := lt_elim h
                refine ca_z (w' := [WX10 cy h0 a0 r42.2, WX9 cy (a0 7) a1 s1]) (rn_V (As := [.int (2 : Int32)]) (rest := []) ⟨hx, hb, hml, hown, hts⟩ (kX10_deny l D cy h0 a0 s0 (2 : Int32) r42 hr42.symm H.size) (cwV 1 hts gX10_pour_X10_deny rfl rfl rfl (by decide +kernel) ⟨Nat.le_of_ble_eq_true rfl, Nat.le_of_ble_eq_true rfl⟩) hK hN hP hD [0] rfl rfl (ci := 10) (q0 := 0) rfl rfl rfl rfl hl.1 rfl (Nat.le_of_ble_eq_true rfl) dX10_pour_58 ⟨Nat.le_refl 0, Nat.le_refl 0⟩) hP hD hS hA [0] ⟨rfl, rfl, rfl, rfl⟩ (fun b43 H locs hP hD hS => ?_)
                exact hret 61 H locs ls (r42.1, r42.2, s1) (Option.some.inj h) hP hD hS b43 dX10_pour_61
          · replace h := (if_neg c15).symm.trans h
            refine lv_aload_n hx hb dX10_pour_28 rfl (lv_at hl 0 rfl) ?_
            refine lv_iconst (v := 1) hx hb dX10_pour_29 (by decide) ?_
            obtain ⟨r44, hr44, h⟩ := lt_elim h
            refine ca_z (w' := [WX10 cy h0 a0 r44.2, WX9 cy (a0 7) a1 s1]) (rn_V (As := [.int (1 : Int32)]) (rest := []) ⟨hx, hb, hml, hown, hts⟩ (kX10_deny l D cy h0 a0 s0 (1 : Int32) r44 hr44.symm H.size) (cwV 1 hts gX10_pour_X10_deny rfl rfl rfl (by decide +kernel) ⟨Nat.le_of_ble_eq_true rfl, Nat.le_of_ble_eq_true rfl⟩) hK hN hP hD [0] rfl rfl (ci := 10) (q0 := 0) rfl rfl rfl rfl hl.1 rfl (Nat.le_of_ble_eq_true rfl) dX10_pour_30 ⟨Nat.le_refl 0, Nat.le_refl 0⟩) hP hD hS hA [0] ⟨rfl, rfl, rfl, rfl⟩ (fun b45 H locs hP hD hS => ?_)
            exact hret 33 H locs ls (r44.1, r44.2, s1) (Option.some.inj h) hP hD hS b45 dX10_pour_33
set_option maxRecDepth 20000 in
theorem ggX10_quiet_X10_noFarmer : GoodIn wsX10_quiet wsX10_noFarmer := goodIn_r _ [7, 1, 28, 29, 30, 31, 32, 33, 34, 35, 36, 37, 38, 39, 40, 41, 42, 43, 44, 45, 46, 47, 48, 49, 50, 51, 52, 53, 54, 55, 56, 57, 58, 59, 60] (by decide +kernel) (by decide +kernel)
set_option maxRecDepth 20000 in
theorem gX10_quiet_X10_noFarmer : GoodIn wsX10_quiet (wsV RX10 215 RX10 yX10_noFarmer wsX10_noFarmer) := goodIn_app (goodIn_of _ (by decide +kernel)) ggX10_quiet_X10_noFarmer
set_option maxRecDepth 20000 in
theorem ggX10_quiet_X10_refuse : GoodIn wsX10_quiet wsX10_refuse := goodIn_r _ [11, 12, 28, 29, 30, 31, 32, 33, 34, 35, 36, 37, 38, 39, 40, 41, 42, 43, 44, 45, 46] (by decide +kernel) (by decide +kernel)
set_option maxRecDepth 20000 in
theorem gX10_quiet_X10_refuse : GoodIn wsX10_quiet (wsV RX10 139 RX10 yX10_refuse wsX10_refuse) := goodIn_app (goodIn_of _ (by decide +kernel)) ggX10_quiet_X10_refuse
set_option maxRecDepth 20000 in
theorem ggX10_quiet_X0_daysThere : GoodIn wsX10_quiet wsX0_daysThere := goodIn_r _ [17, 18, 19, 6, 20, 47, 48, 49, 50, 51, 52, 53, 54, 55, 56, 57, 58, 59, 60] (by decide +kernel) (by decide +kernel)
set_option maxRecDepth 20000 in
theorem gX10_quiet_X0_daysThere : GoodIn wsX10_quiet (wsV RX10 359 RX0 yX0_daysThere wsX0_daysThere) := goodIn_app (goodIn_of _ (by decide +kernel)) ggX10_quiet_X0_daysThere
set_option maxRecDepth 20000 in
theorem ggX10_quiet_X10_longestRow : GoodIn wsX10_quiet wsX10_longestRow := goodIn_r _ [23] (by decide +kernel) (by decide +kernel)
set_option maxRecDepth 20000 in
theorem gX10_quiet_X10_longestRow : GoodIn wsX10_quiet (va_wsS RX10 363 yX10_longestRow wsX10_longestRow) := goodIn_app (goodIn_of _ (by decide +kernel)) ggX10_quiet_X10_longestRow
set_option maxRecDepth 20000 in
theorem ggX10_quiet_X10_answer : GoodIn wsX10_quiet wsX10_answer := goodIn_r _ [27, 12, 28, 29, 30, 31, 32, 33, 34, 35, 36, 37, 38, 39, 40, 41, 42, 43, 44, 45, 46] (by decide +kernel) (by decide +kernel)
set_option maxRecDepth 20000 in
theorem gX10_quiet_X10_answer : GoodIn wsX10_quiet (wsV RX10 181 RX10 yX10_answer wsX10_answer) := goodIn_app (goodIn_of _ (by decide +kernel)) ggX10_quiet_X10_answer
theorem dX10_quiet_0 : decode cX10_quiet 0 = .ok (.aload_n 0, 1) := by decide +kernel
theorem dX10_quiet_1 : decode cX10_quiet 1 = .ok (.iload_n 1, 1) := by decide +kernel
theorem dX10_quiet_2 : decode cX10_quiet 2 = .ok (.invokevirtual 215, 3) := by decide +kernel
theorem dX10_quiet_5 : decode cX10_quiet 5 = .ok (.ifCond .eq 9, 3) := by decide +kernel
theorem dX10_quiet_8 : decode cX10_quiet 8 = .ok (.aload_n 0, 1) := by decide +kernel
theorem dX10_quiet_9 : decode cX10_quiet 9 = .ok (.iconst 1, 1) := by decide +kernel
theorem dX10_quiet_10 : decode cX10_quiet 10 = .ok (.invokevirtual 139, 3) := by decide +kernel
theorem dX10_quiet_13 : decode cX10_quiet 13 = .ok (.ireturn, 1) := by decide +kernel
theorem dX10_quiet_14 : decode cX10_quiet 14 = .ok (.aload_n 0, 1) := by decide +kernel
theorem dX10_quiet_15 : decode cX10_quiet 15 = .ok (.aload_n 0, 1) := by decide +kernel
theorem dX10_quiet_16 : decode cX10_quiet 16 = .ok (.getfield 10, 3) := by decide +kernel
theorem dX10_quiet_19 : decode cX10_quiet 19 = .ok (.invokevirtual 359, 3) := by decide +kernel
theorem dX10_quiet_22 : decode cX10_quiet 22 = .ok (.aload_n 0, 1) := by decide +kernel
theorem dX10_quiet_23 : decode cX10_quiet 23 = .ok (.getfield 10, 3) := by decide +kernel
theorem dX10_quiet_26 : decode cX10_quiet 26 = .ok (.getfield 240, 3) := by decide +kernel
theorem dX10_quiet_29 : decode cX10_quiet 29 = .ok (.iload_n 1, 1) := by decide +kernel
theorem dX10_quiet_30 : decode cX10_quiet 30 = .ok (.laload, 1) := by decide +kernel
theorem dX10_quiet_31 : decode cX10_quiet 31 = .ok (.ldc2_w 291, 3) := by decide +kernel
theorem dX10_quiet_34 : decode cX10_quiet 34 = .ok (.lxor, 1) := by decide +kernel
theorem dX10_quiet_35 : decode cX10_quiet 35 = .ok (.land, 1) := by decide +kernel
theorem dX10_quiet_36 : decode cX10_quiet 36 = .ok (.invokestatic 363, 3) := by decide +kernel
theorem dX10_quiet_39 : decode cX10_quiet 39 = .ok (.invokevirtual 181, 3) := by decide +kernel
theorem dX10_quiet_42 : decode cX10_quiet 42 = .ok (.ireturn, 1) := by decide +kernel
abbrev rmX10_quiet : Room := { frames := 2, cells := 0, slots := 0, locals := 40 }
set_option maxHeartbeats 4000000 in
set_option maxRecDepth 100000 in
theorem kX10_quiet (l : Launch) (D : va_G) (cy : Nat → ClassId) (h0 : Nat) (a0 : Nat → Nat) (a1 : Nat → Nat) (s0 : Rc) (s1 : Rc) (p1 : Int32) (res : Int32 × Rc) (h : fX10_quiet p1 s0 s1 = some res) : CI l D cy yX10_quiet wsX10_quiet rmX10_quiet [.ref h0, .int p1] (flat [WX10 cy h0 a0 s0, WX0 cy (a0 0) a1 s1]) (flat [WX10 cy h0 a0 res.2, WX0 cy (a0 0) a1 s1]) res.1 := by
  refine CI.of (cc := cX10_quiet) (maxL := 2) (by decide) rfl (Nat.le_of_ble_eq_true rfl) ?_
  intro p e s m args below meth c A QQ ls E hr
  obtain ⟨hx, hb, hml, hown, hts, hK, hN, hP, hD, hA, hl⟩ := E
  have hret : ∀ (pc : Nat) (H : Heap) (locs : List Loc) (ls : Array Slot) (u : Int32 × Rc), u = res → va_P D vwCl (flat [WX10 cy h0 a0 u.2, WX0 cy (a0 0) a1 s1]) H → va_D A (flat [WX10 cy h0 a0 u.2, WX0 cy (a0 0) a1 s1]) → va_S A s.heap H locs → decode cX10_quiet pc = .ok (.ireturn, 1) → W p l e rmX10_quiet s m args below meth c H locs 0 0 QQ (F0 m pc ls [.int u.1]) := by
    intro pc H locs ls u hu hP hD hS hd; subst hu; exact hr pc H locs ls _ rfl hP hD hS hd
  clear hr
  have hl : lv_has ls 2 [(0, .ref h0), (1, .int p1)] := hl
  have hinX0 : ∀ w ∈ wsX00, w ∈ wsX10_quiet := fun _ h => List.mem_cons_of_mem _ (List.mem_append_right _ h)
  have hinX10 : ∀ w ∈ wsX100, w ∈ wsX10_quiet := fun _ h => List.mem_cons_of_mem _ (List.mem_append_left _ (List.mem_append_right _ h))
  unfold fX10_quiet at h
  suffices key : ∀ (H : Heap) (locs : List Loc), va_P D vwCl (flat [WX10 cy h0 a0 s0, WX0 cy (a0 0) a1 s1]) H → va_S A s.heap H locs → W p l e rmX10_quiet s m args below meth c H locs 0 0 QQ (F0 m 0 ls []) from key _ _ hP va_S.rf
  clear hP
  intro H locs hP hS
  refine lv_aload_n hx hb dX10_quiet_0 rfl (lv_at hl 0 rfl) ?_
  refine lv_iload_n hx hb dX10_quiet_1 rfl (lv_at hl 1 rfl) ?_
  refine ca_z (w' := [WX10 cy h0 a0 s0, WX0 cy (a0 0) a1 s1]) (rn_V (As := [.int p1]) (rest := []) ⟨hx, hb, hml, hown, hts⟩ (kX10_noFarmer l D cy h0 a0 a1 s0 s1 p1 _ rfl H.size) (cwV 1 hts gX10_quiet_X10_noFarmer rfl rfl rfl (by decide +kernel) ⟨Nat.le_of_ble_eq_true rfl, Nat.le_of_ble_eq_true rfl⟩) hK hN hP hD [0, 1] rfl rfl (ci := 10) (q0 := 0) rfl rfl rfl rfl hl.1 rfl (Nat.le_of_ble_eq_true rfl) dX10_quiet_2 ⟨Nat.le_refl 0, Nat.le_refl 0⟩) hP hD hS hA [0, 1] ⟨rfl, rfl, rfl, rfl⟩ (fun b1 H locs hP hD hS => ?_)
  refine lv_if_eq (tgt := 14) hx hb dX10_quiet_5 (by decide) (fun c2 => ?_) (fun c2 => ?_)
  · replace h := (if_pos c2).symm.trans h
    refine lv_aload_n hx hb dX10_quiet_14 rfl (lv_at hl 0 rfl) ?_
    refine lv_aload_n hx hb dX10_quiet_15 rfl (lv_at hl 0 rfl) ?_
    refine va_get (D := D) (ci := 10) (v := .ref (a0 0)) (C := RX10) (T := TX10) (N := 19) hx hb hts hinX10 hown hK hP 0 rfl rfl 0 (by decide) (hts (.fieldLink RX10 10 "KneeBench" "bench" "LKneeBench$Bench;") (List.mem_of_getElem? (i := 1) rfl)) (fun _ h9 => h9) rfl dX10_quiet_16 ?_
    refine ca_l (w' := [WX10 cy h0 a0 s0, WX0 cy (a0 0) a1 s1]) (rn_V (As := []) (rest := [.ref h0]) ⟨hx, hb, hml, hown, hts⟩ (kX0_daysThere l D cy (a0 0) a1 s1 _ rfl H.size) (cwV 0 hts gX10_quiet_X0_daysThere rfl rfl rfl (by decide +kernel) ⟨Nat.le_of_ble_eq_true rfl, Nat.le_of_ble_eq_true rfl⟩) hK hN hP hD [1] rfl rfl (ci := 0) (q0 := 1) rfl rfl rfl rfl hl.1 rfl (Nat.le_of_ble_eq_true rfl) dX10_quiet_19 ⟨Nat.le_refl 0, Nat.le_refl 0⟩) hP hD hS hA [1] ⟨rfl, rfl, rfl, rfl⟩ (fun H locs hP hD hS => ?_)
    refine lv_aload_n hx hb dX10_quiet_22 rfl (lv_at hl 0 rfl) ?_
    refine va_get (D := D) (ci := 10) (v := .ref (a0 0)) (C := RX10) (T := TX10) (N := 19) hx hb hts hinX10 hown hK hP 0 rfl rfl 0 (by decide) (hts (.fieldLink RX10 10 "KneeBench" "bench" "LKneeBench$Bench;") (List.mem_of_getElem? (i := 1) rfl)) (fun _ h9 => h9) rfl dX10_quiet_23 ?_
    refine va_getN (D := D) (ci := 0) (v := .ref (a1 6)) (C := RX0) (T := TX0) (N := 14) hx hb hts hinX0 hown hK hP 1 rfl rfl 6 (by decide) (NW.fld hN 13 rfl _) (fun _ h9 => h9) rfl dX10_quiet_26 ?_
    refine lv_iload_n hx hb dX10_quiet_29 rfl (lv_at hl 1 rfl) ?_
    obtain ⟨g3, h⟩ := gd_elim h
    refine va_lald hx hb hK hP 8 2 rfl rfl (inb_in g3) dX10_quiet_30 ?_
    refine lv_ldc2 (v := -1) hx hb hown (hts (.constantLong RX10 291 (-1)) (List.mem_of_getElem? (i := 2) rfl)) dX10_quiet_31 ?_
    refine lv_lxor hx hb dX10_quiet_34 ?_
    refine lv_land hx hb dX10_quiet_35 ?_
    obtain ⟨r4, hr4, h⟩ := bd_elim h
    refine ca_i (w' := [WX10 cy h0 a0 s0, WX0 cy (a0 0) a1 s1]) (rn_S (As := [.long ((fX0_daysThere s1) &&& ((gb s1 6 p1.toNatClampNeg) ^^^ (-1 : Int64)))]) (rest := [.ref h0]) ⟨hx, hb, hml, hown, hts⟩ (kX10_longestRow l D cy ((fX0_daysThere s1) &&& ((gb s1 6 p1.toNatClampNeg) ^^^ (-1 : Int64))) r4 hr4 H.size) (va_cwS 1 hts gX10_quiet_X10_longestRow rfl rfl rfl (by decide +kernel) ⟨Nat.le_of_ble_eq_true rfl, Nat.le_of_ble_eq_true rfl⟩) hK hN hP hD [] rfl rfl rfl hl.1 rfl (Nat.le_of_ble_eq_true rfl) dX10_quiet_36 ⟨Nat.le_refl 0, Nat.le_refl 0⟩) hP hD hS hA [] ⟨rfl, rfl, rfl, rfl⟩ (fun H locs hP hD hS => ?_)
    obtain ⟨r5, hr5, h⟩ := lt_elim h
    refine ca_i (w' := [WX10 cy h0 a0 r5.2, WX0 cy (a0 0) a1 s1]) (rn_V (As := [.int r4]) (rest := []) ⟨hx, hb, hml, hown, hts⟩ (kX10_answer l D cy h0 a0 s0 r4 r5 hr5.symm H.size) (cwV 1 hts gX10_quiet_X10_answer rfl rfl rfl (by decide +kernel) ⟨Nat.le_of_ble_eq_true rfl, Nat.le_of_ble_eq_true rfl⟩) hK hN hP hD [0] rfl rfl (ci := 10) (q0 := 0) rfl rfl rfl rfl hl.1 rfl (Nat.le_of_ble_eq_true rfl) dX10_quiet_39 ⟨Nat.le_refl 0, Nat.le_refl 0⟩) hP hD hS hA [0] ⟨rfl, rfl, rfl, rfl⟩ (fun H locs hP hD hS => ?_)
    exact hret 42 H locs ls (r5.1, r5.2) (Option.some.inj h) hP hD hS dX10_quiet_42
  · replace h := (if_neg c2).symm.trans h
    refine lv_aload_n hx hb dX10_quiet_8 rfl (lv_at hl 0 rfl) ?_
    refine lv_iconst (v := 1) hx hb dX10_quiet_9 (by decide) ?_
    obtain ⟨r6, hr6, h⟩ := lt_elim h
    refine ca_i (w' := [WX10 cy h0 a0 r6.2, WX0 cy (a0 0) a1 s1]) (rn_V (As := [.int (1 : Int32)]) (rest := []) ⟨hx, hb, hml, hown, hts⟩ (kX10_refuse l D cy h0 a0 s0 (1 : Int32) r6 hr6.symm H.size) (cwV 1 hts gX10_quiet_X10_refuse rfl rfl rfl (by decide +kernel) ⟨Nat.le_of_ble_eq_true rfl, Nat.le_of_ble_eq_true rfl⟩) hK hN hP hD [0] rfl rfl (ci := 10) (q0 := 0) rfl rfl rfl rfl hl.1 rfl (Nat.le_of_ble_eq_true rfl) dX10_quiet_10 ⟨Nat.le_refl 0, Nat.le_refl 0⟩) hP hD hS hA [0] ⟨rfl, rfl, rfl, rfl⟩ (fun H locs hP hD hS => ?_)
    exact hret 13 H locs ls (r6.1, r6.2) (Option.some.inj h) hP hD hS dX10_quiet_13
set_option maxRecDepth 20000 in
theorem ggX10_read_X10_placeProblem : GoodIn wsX10_read wsX10_placeProblem := goodIn_r _ [7, 2, 8, 9, 6, 10, 11, 12, 13, 14, 15, 16, 17, 18, 19, 20, 21, 22, 23, 33, 34, 35, 36, 37, 38, 39, 40, 41, 42, 43, 44, 45, 46, 47, 48, 49, 50, 51, 52, 53, 54] (by decide +kernel) (by decide +kernel)
set_option maxRecDepth 20000 in
theorem gX10_read_X10_placeProblem : GoodIn wsX10_read (wsV RX10 131 RX10 yX10_placeProblem wsX10_placeProblem) := goodIn_app (goodIn_of _ (by decide +kernel)) ggX10_read_X10_placeProblem
set_option maxRecDepth 20000 in
theorem ggX10_read_X10_refuse : GoodIn wsX10_read wsX10_refuse := goodIn_r _ [27, 1, 33, 34, 35, 36, 37, 38, 39, 40, 41, 42, 43, 44, 45, 46, 47, 48, 49, 50, 51] (by decide +kernel) (by decide +kernel)
set_option maxRecDepth 20000 in
theorem gX10_read_X10_refuse : GoodIn wsX10_read (wsV RX10 139 RX10 yX10_refuse wsX10_refuse) := goodIn_app (goodIn_of _ (by decide +kernel)) ggX10_read_X10_refuse
set_option maxRecDepth 20000 in
theorem ggX10_read_X9_at : GoodIn wsX10_read wsX9_at := goodIn_r _ [31, 32, 52, 53, 54] (by decide +kernel) (by decide +kernel)
set_option maxRecDepth 20000 in
theorem gX10_read_X9_at : GoodIn wsX10_read (wsV RX10 143 RX9 yX9_at wsX9_at) := goodIn_app (goodIn_of _ (by decide +kernel)) ggX10_read_X9_at
theorem dX10_read_0 : decode cX10_read 0 = .ok (.aload_n 0, 1) := by decide +kernel
theorem dX10_read_1 : decode cX10_read 1 = .ok (.iload_n 1, 1) := by decide +kernel
theorem dX10_read_2 : decode cX10_read 2 = .ok (.iload_n 2, 1) := by decide +kernel
theorem dX10_read_3 : decode cX10_read 3 = .ok (.invokevirtual 131, 3) := by decide +kernel
theorem dX10_read_6 : decode cX10_read 6 = .ok (.istore_n 3, 1) := by decide +kernel
theorem dX10_read_7 : decode cX10_read 7 = .ok (.iload_n 3, 1) := by decide +kernel
theorem dX10_read_8 : decode cX10_read 8 = .ok (.ifCond .eq 10, 3) := by decide +kernel
theorem dX10_read_11 : decode cX10_read 11 = .ok (.aload_n 0, 1) := by decide +kernel
theorem dX10_read_12 : decode cX10_read 12 = .ok (.iload_n 3, 1) := by decide +kernel
theorem dX10_read_13 : decode cX10_read 13 = .ok (.invokevirtual 139, 3) := by decide +kernel
theorem dX10_read_16 : decode cX10_read 16 = .ok (.i2l, 1) := by decide +kernel
theorem dX10_read_17 : decode cX10_read 17 = .ok (.lreturn, 1) := by decide +kernel
theorem dX10_read_18 : decode cX10_read 18 = .ok (.aload_n 0, 1) := by decide +kernel
theorem dX10_read_19 : decode cX10_read 19 = .ok (.iconst 0, 1) := by decide +kernel
theorem dX10_read_20 : decode cX10_read 20 = .ok (.putfield 102, 3) := by decide +kernel
theorem dX10_read_23 : decode cX10_read 23 = .ok (.aload_n 0, 1) := by decide +kernel
theorem dX10_read_24 : decode cX10_read 24 = .ok (.getfield 45, 3) := by decide +kernel
theorem dX10_read_27 : decode cX10_read 27 = .ok (.iload_n 1, 1) := by decide +kernel
theorem dX10_read_28 : decode cX10_read 28 = .ok (.iload_n 2, 1) := by decide +kernel
theorem dX10_read_29 : decode cX10_read 29 = .ok (.invokevirtual 143, 3) := by decide +kernel
theorem dX10_read_32 : decode cX10_read 32 = .ok (.lreturn, 1) := by decide +kernel
abbrev rmX10_read : Room := { frames := 3, cells := 0, slots := 0, locals := 64 }
set_option maxHeartbeats 4000000 in
set_option maxRecDepth 100000 in
theorem kX10_read (l : Launch) (D : va_G) (cy : Nat → ClassId) (h0 : Nat) (a0 : Nat → Nat) (a1 : Nat → Nat) (s0 : Rc) (s1 : Rc) (p1 : Int32) (p2 : Int32) (res : Int64 × Rc) (h : fX10_read p1 p2 s0 s1 = some res) : CL l D cy yX10_read wsX10_read rmX10_read [.ref h0, .int p1, .int p2] (flat [WX10 cy h0 a0 s0, WX9 cy (a0 7) a1 s1]) (flat [WX10 cy h0 a0 res.2, WX9 cy (a0 7) a1 s1]) res.1 := by
  refine CL.of (cc := cX10_read) (maxL := 4) (by decide) rfl (Nat.le_of_ble_eq_true rfl) ?_
  intro p e s m args below meth c A QQ ls E hr
  obtain ⟨hx, hb, hml, hown, hts, hK, hN, hP, hD, hA, hl⟩ := E
  have hret : ∀ (pc : Nat) (H : Heap) (locs : List Loc) (ls : Array Slot) (u : Int64 × Rc), u = res → va_P D vwCl (flat [WX10 cy h0 a0 u.2, WX9 cy (a0 7) a1 s1]) H → va_D A (flat [WX10 cy h0 a0 u.2, WX9 cy (a0 7) a1 s1]) → va_S A s.heap H locs → decode cX10_read pc = .ok (.lreturn, 1) → W p l e rmX10_read s m args below meth c H locs 0 0 QQ (F0 m pc ls [.long u.1]) := by
    intro pc H locs ls u hu hP hD hS hd; subst hu; exact hr pc H locs ls _ rfl hP hD hS hd
  clear hr
  have hl : lv_has ls 4 [(0, .ref h0), (1, .int p1), (2, .int p2)] := hl
  have hinX10 : ∀ w ∈ wsX100, w ∈ wsX10_read := fun _ h => List.mem_cons_of_mem _ (List.mem_append_left _ (List.mem_append_right _ h))
  unfold fX10_read at h
  suffices key : ∀ (H : Heap) (locs : List Loc), va_P D vwCl (flat [WX10 cy h0 a0 s0, WX9 cy (a0 7) a1 s1]) H → va_S A s.heap H locs → W p l e rmX10_read s m args below meth c H locs 0 0 QQ (F0 m 0 ls []) from key _ _ hP va_S.rf
  clear hP
  intro H locs hP hS
  refine lv_aload_n hx hb dX10_read_0 rfl (lv_at hl 0 rfl) ?_
  refine lv_iload_n hx hb dX10_read_1 rfl (lv_at hl 1 rfl) ?_
  refine lv_iload_n hx hb dX10_read_2 rfl (lv_at hl 2 rfl) ?_
  obtain ⟨r1, hr1, h⟩ := bd_elim h
  refine ca_i (w' := [WX10 cy h0 a0 s0, WX9 cy (a0 7) a1 s1]) (rn_V (As := [.int p1, .int p2]) (rest := []) ⟨hx, hb, hml, hown, hts⟩ (kX10_placeProblem l D cy h0 a0 a1 s0 s1 p1 p2 r1 hr1 H.size) (cwV 2 hts gX10_read_X10_placeProblem rfl rfl rfl (by decide +kernel) ⟨Nat.le_of_ble_eq_true rfl, Nat.le_of_ble_eq_true rfl⟩) hK hN hP hD [0, 1] rfl rfl (ci := 10) (q0 := 0) rfl rfl rfl rfl hl.1 rfl (Nat.le_of_ble_eq_true rfl) dX10_read_3 ⟨Nat.le_refl 0, Nat.le_refl 0⟩) hP hD hS hA [0, 1] ⟨rfl, rfl, rfl, rfl⟩ (fun H locs hP hD hS => ?_)
  refine lv_istore_n (lv' := [(3, .int r1), (0, .ref h0), (1, .int p1), (2, .int p2)]) hx hb dX10_read_6 rfl hl (by decide) rfl (fun ls hl => ?_)
  refine lv_iload_n hx hb dX10_read_7 rfl (lv_at hl 0 rfl) ?_
  refine lv_if_eq (tgt := 18) hx hb dX10_read_8 (by decide) (fun c2 => ?_) (fun c2 => ?_)
  · replace h := (if_pos c2).symm.trans h
    refine lv_aload_n hx hb dX10_read_18 rfl (lv_at hl 1 rfl) ?_
    refine lv_iconst (v := 0) hx hb dX10_read_19 (by decide) ?_
    obtain ⟨s0_3, es, h⟩ := lt_elim h
    refine va_put (D := D) (ci := 10) (v := .int (0 : Int32)) (ty := .int) (C := RX10) (T := TX10) (N := 19) hx hb hts hinX10 tyX10 tyX10_ok nmX10 hown hK hP hD hS 0 rfl rfl 16 (by decide) (hts (.fieldLink RX10 102 "KneeBench" "latestStatus" "I") (List.mem_of_getElem? (i := 1) rfl)) (fun _ h9 => h9) rfl (by decide +kernel) rfl rfl (Nat.le_of_ble_eq_true rfl) dX10_read_20 (fun H locs hP hD hS => ?_)
    have hP : va_P D vwCl (flat [WX10 cy h0 a0 s0_3, WX9 cy (a0 7) a1 s1]) H := by rw [es]; exact hP
    have hD : va_D A (flat [WX10 cy h0 a0 s0_3, WX9 cy (a0 7) a1 s1]) := by rw [es]; exact hD
    clear es
    refine lv_aload_n hx hb dX10_read_23 rfl (lv_at hl 1 rfl) ?_
    refine va_get (D := D) (ci := 10) (v := .ref (a0 7)) (C := RX10) (T := TX10) (N := 19) hx hb hts hinX10 hown hK hP 0 rfl rfl 7 (by decide) (hts (.fieldLink RX10 45 "KneeBench" "trays" "LKneeBench$Trays;") (List.mem_of_getElem? (i := 2) rfl)) (fun _ h9 => h9) rfl dX10_read_24 ?_
    refine lv_iload_n hx hb dX10_read_27 rfl (lv_at hl 2 rfl) ?_
    refine lv_iload_n hx hb dX10_read_28 rfl (lv_at hl 3 rfl) ?_
    obtain ⟨r4, hr4, h⟩ := bd_elim h
    refine ca_l (w' := [WX10 cy h0 a0 s0_3, WX9 cy (a0 7) a1 s1]) (rn_V (As := [.int p1, .int p2]) (rest := []) ⟨hx, hb, hml, hown, hts⟩ (kX9_at l D cy (a0 7) a1 s1 p1 p2 r4 hr4 H.size) (cwV 2 hts gX10_read_X9_at rfl rfl rfl (by decide +kernel) ⟨Nat.le_of_ble_eq_true rfl, Nat.le_of_ble_eq_true rfl⟩) hK hN hP hD [1] rfl rfl (ci := 9) (q0 := 1) rfl rfl rfl rfl hl.1 rfl (Nat.le_of_ble_eq_true rfl) dX10_read_29 ⟨Nat.le_refl 0, Nat.le_refl 0⟩) hP hD hS hA [1] ⟨rfl, rfl, rfl, rfl⟩ (fun H locs hP hD hS => ?_)
    exact hret 32 H locs ls (r4, s0_3) (Option.some.inj h) hP hD hS dX10_read_32
  · replace h := (if_neg c2).symm.trans h
    refine lv_aload_n hx hb dX10_read_11 rfl (lv_at hl 1 rfl) ?_
    refine lv_iload_n hx hb dX10_read_12 rfl (lv_at hl 0 rfl) ?_
    obtain ⟨r5, hr5, h⟩ := lt_elim h
    refine ca_i (w' := [WX10 cy h0 a0 r5.2, WX9 cy (a0 7) a1 s1]) (rn_V (As := [.int r1]) (rest := []) ⟨hx, hb, hml, hown, hts⟩ (kX10_refuse l D cy h0 a0 s0 r1 r5 hr5.symm H.size) (cwV 1 hts gX10_read_X10_refuse rfl rfl rfl (by decide +kernel) ⟨Nat.le_of_ble_eq_true rfl, Nat.le_of_ble_eq_true rfl⟩) hK hN hP hD [0] rfl rfl (ci := 10) (q0 := 0) rfl rfl rfl rfl hl.1 rfl (Nat.le_of_ble_eq_true rfl) dX10_read_13 ⟨Nat.le_refl 0, Nat.le_refl 0⟩) hP hD hS hA [0] ⟨rfl, rfl, rfl, rfl⟩ (fun H locs hP hD hS => ?_)
    refine lv_i2l hx hb dX10_read_16 rfl ?_
    exact hret 17 H locs ls (r5.1.toInt64, r5.2) (Option.some.inj h) hP hD hS dX10_read_17
