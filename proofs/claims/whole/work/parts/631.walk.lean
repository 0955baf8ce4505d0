set_option maxRecDepth 20000 in
theorem ggX10_hay_X10_noToldDay : GoodIn wsX10_hay wsX10_noToldDay := goodIn_r _ [6, 7, 8, 5, 9] (by decide +kernel) (by decide +kernel)
set_option maxRecDepth 20000 in
theorem gX10_hay_X10_noToldDay : GoodIn wsX10_hay (va_wsS RX10 281 yX10_noToldDay wsX10_noToldDay) := goodIn_app (goodIn_of _ (by decide +kernel)) ggX10_hay_X10_noToldDay
set_option maxRecDepth 20000 in
theorem ggX10_hay_X10_outside : GoodIn wsX10_hay wsX10_outside := goodIn_r _ [9] (by decide +kernel) (by decide +kernel)
set_option maxRecDepth 20000 in
theorem gX10_hay_X10_outside : GoodIn wsX10_hay (va_wsS RX10 116 yX10_outside wsX10_outside) := goodIn_app (goodIn_of _ (by decide +kernel)) ggX10_hay_X10_outside
set_option maxRecDepth 20000 in
theorem ggX10_hay_X10_deny : GoodIn wsX10_hay wsX10_deny := goodIn_r _ [13, 14, 70, 71, 72, 73, 74, 75, 76, 77, 78, 79, 80, 81, 82, 83, 84, 85, 86, 87, 88] (by decide +kernel) (by decide +kernel)
set_option maxRecDepth 20000 in
theorem gX10_hay_X10_deny : GoodIn wsX10_hay (wsV RX10 120 RX10 yX10_deny wsX10_deny) := goodIn_app (goodIn_of _ (by decide +kernel)) ggX10_hay_X10_deny
set_option maxRecDepth 20000 in
theorem ggX10_hay_X10_dryMillionths : GoodIn wsX10_hay wsX10_dryMillionths := goodIn_r _ [18, 19, 1, 2, 20, 21, 22, 23, 24, 25, 26, 27, 28, 29, 30, 31, 32, 33, 34, 35, 36, 37, 38, 39, 40, 41, 42, 43, 44, 45, 46, 47, 48, 49, 50, 51, 52, 53, 54, 55, 56, 70, 71, 72, 73, 74, 75, 76, 77, 78, 79, 80, 81, 82, 83, 84, 85, 86, 87, 88, 89, 90, 91, 92, 93, 94, 95, 96, 97, 98, 99, 100, 101, 102] (by decide +kernel) (by decide +kernel)
set_option maxRecDepth 20000 in
theorem gX10_hay_X10_dryMillionths : GoodIn wsX10_hay (wsV RX10 330 RX10 yX10_dryMillionths wsX10_dryMillionths) := goodIn_app (goodIn_of _ (by decide +kernel)) ggX10_hay_X10_dryMillionths
set_option maxRecDepth 20000 in
theorem ggX10_hay_X10_tellFraction : GoodIn wsX10_hay wsX10_tellFraction := goodIn_r _ [60, 61, 62, 63, 64, 5, 65, 70, 71, 72, 73, 74, 75, 76, 77, 78, 79, 80, 81, 82, 83, 84, 85, 86, 87, 88] (by decide +kernel) (by decide +kernel)
set_option maxRecDepth 20000 in
theorem gX10_hay_X10_tellFraction : GoodIn wsX10_hay (wsV RX10 311 RX10 yX10_tellFraction wsX10_tellFraction) := goodIn_app (goodIn_of _ (by decide +kernel)) ggX10_hay_X10_tellFraction
set_option maxRecDepth 20000 in
theorem ggX10_hay_X10_allow : GoodIn wsX10_hay wsX10_allow := goodIn_r _ [69, 14, 70, 71, 72, 73, 74, 75, 76, 77, 78, 79, 80, 81, 82, 83, 84, 85, 86, 87, 88] (by decide +kernel) (by decide +kernel)
set_option maxRecDepth 20000 in
theorem gX10_hay_X10_allow : GoodIn wsX10_hay (wsV RX10 127 RX10 yX10_allow wsX10_allow) := goodIn_app (goodIn_of _ (by decide +kernel)) ggX10_hay_X10_allow
theorem dX10_hay_0 : decode cX10_hay 0 = .ok (.iload_n 1, 1) := by decide +kernel
theorem dX10_hay_1 : decode cX10_hay 1 = .ok (.invokestatic 281, 3) := by decide +kernel
theorem dX10_hay_4 : decode cX10_hay 4 = .ok (.ifCond .ne 32, 3) := by decide +kernel
theorem dX10_hay_7 : decode cX10_hay 7 = .ok (.iload_n 2, 1) := by decide +kernel
theorem dX10_hay_8 : decode cX10_hay 8 = .ok (.iconst 1, 1) := by decide +kernel
theorem dX10_hay_9 : decode cX10_hay 9 = .ok (.iconst 3, 1) := by decide +kernel
theorem dX10_hay_10 : decode cX10_hay 10 = .ok (.invokestatic 116, 3) := by decide +kernel
theorem dX10_hay_13 : decode cX10_hay 13 = .ok (.ifCond .ne 23, 3) := by decide +kernel
theorem dX10_hay_16 : decode cX10_hay 16 = .ok (.iload_n 1, 1) := by decide +kernel
theorem dX10_hay_17 : decode cX10_hay 17 = .ok (.iload_n 2, 1) := by decide +kernel
theorem dX10_hay_18 : decode cX10_hay 18 = .ok (.iadd, 1) := by decide +kernel
theorem dX10_hay_19 : decode cX10_hay 19 = .ok (.iconst 1, 1) := by decide +kernel
theorem dX10_hay_20 : decode cX10_hay 20 = .ok (.isub, 1) := by decide +kernel
theorem dX10_hay_21 : decode cX10_hay 21 = .ok (.bipush 62, 2) := by decide +kernel
theorem dX10_hay_23 : decode cX10_hay 23 = .ok (.if_icmp .gt 13, 3) := by decide +kernel
theorem dX10_hay_26 : decode cX10_hay 26 = .ok (.iload_n 3, 1) := by decide +kernel
theorem dX10_hay_27 : decode cX10_hay 27 = .ok (.iconst 1, 1) := by decide +kernel
theorem dX10_hay_28 : decode cX10_hay 28 = .ok (.bipush 15, 2) := by decide +kernel
theorem dX10_hay_30 : decode cX10_hay 30 = .ok (.invokestatic 116, 3) := by decide +kernel
theorem dX10_hay_33 : decode cX10_hay 33 = .ok (.ifCond .eq 9, 3) := by decide +kernel
theorem dX10_hay_36 : decode cX10_hay 36 = .ok (.aload_n 0, 1) := by decide +kernel
theorem dX10_hay_37 : decode cX10_hay 37 = .ok (.iconst 1, 1) := by decide +kernel
theorem dX10_hay_38 : decode cX10_hay 38 = .ok (.invokevirtual 120, 3) := by decide +kernel
theorem dX10_hay_41 : decode cX10_hay 41 = .ok (.ireturn, 1) := by decide +kernel
theorem dX10_hay_42 : decode cX10_hay 42 = .ok (.lconst 1, 1) := by decide +kernel
theorem dX10_hay_43 : decode cX10_hay 43 = .ok (.lstore 4, 2) := by decide +kernel
theorem dX10_hay_45 : decode cX10_hay 45 = .ok (.lconst 1, 1) := by decide +kernel
theorem dX10_hay_46 : decode cX10_hay 46 = .ok (.lstore 6, 2) := by decide +kernel
theorem dX10_hay_48 : decode cX10_hay 48 = .ok (.iconst 0, 1) := by decide +kernel
theorem dX10_hay_49 : decode cX10_hay 49 = .ok (.istore 8, 2) := by decide +kernel
theorem dX10_hay_51 : decode cX10_hay 51 = .ok (.iload 8, 2) := by decide +kernel
theorem dX10_hay_53 : decode cX10_hay 53 = .ok (.iload_n 2, 1) := by decide +kernel
theorem dX10_hay_54 : decode cX10_hay 54 = .ok (.if_icmp .ge 51, 3) := by decide +kernel
theorem dX10_hay_57 : decode cX10_hay 57 = .ok (.aload_n 0, 1) := by decide +kernel
theorem dX10_hay_58 : decode cX10_hay 58 = .ok (.iload_n 1, 1) := by decide +kernel
theorem dX10_hay_59 : decode cX10_hay 59 = .ok (.iload 8, 2) := by decide +kernel
theorem dX10_hay_61 : decode cX10_hay 61 = .ok (.iadd, 1) := by decide +kernel
theorem dX10_hay_62 : decode cX10_hay 62 = .ok (.iload_n 3, 1) := by decide +kernel
theorem dX10_hay_63 : decode cX10_hay 63 = .ok (.invokevirtual 330, 3) := by decide +kernel
theorem dX10_hay_66 : decode cX10_hay 66 = .ok (.lstore 9, 2) := by decide +kernel
theorem dX10_hay_68 : decode cX10_hay 68 = .ok (.lload 9, 2) := by decide +kernel
theorem dX10_hay_70 : decode cX10_hay 70 = .ok (.ldc2_w 291, 3) := by decide +kernel
theorem dX10_hay_73 : decode cX10_hay 73 = .ok (.lcmp, 1) := by decide +kernel
theorem dX10_hay_74 : decode cX10_hay 74 = .ok (.ifCond .ne 10, 3) := by decide +kernel
theorem dX10_hay_77 : decode cX10_hay 77 = .ok (.aload_n 0, 1) := by decide +kernel
theorem dX10_hay_78 : decode cX10_hay 78 = .ok (.bipush 7, 2) := by decide +kernel
theorem dX10_hay_80 : decode cX10_hay 80 = .ok (.invokevirtual 120, 3) := by decide +kernel
theorem dX10_hay_83 : decode cX10_hay 83 = .ok (.ireturn, 1) := by decide +kernel
theorem dX10_hay_84 : decode cX10_hay 84 = .ok (.lload 4, 2) := by decide +kernel
theorem dX10_hay_86 : decode cX10_hay 86 = .ok (.lload 9, 2) := by decide +kernel
theorem dX10_hay_88 : decode cX10_hay 88 = .ok (.lmul, 1) := by decide +kernel
theorem dX10_hay_89 : decode cX10_hay 89 = .ok (.lstore 4, 2) := by decide +kernel
theorem dX10_hay_91 : decode cX10_hay 91 = .ok (.lload 6, 2) := by decide +kernel
theorem dX10_hay_93 : decode cX10_hay 93 = .ok (.ldc2_w 333, 3) := by decide +kernel
theorem dX10_hay_96 : decode cX10_hay 96 = .ok (.lmul, 1) := by decide +kernel
theorem dX10_hay_97 : decode cX10_hay 97 = .ok (.lstore 6, 2) := by decide +kernel
theorem dX10_hay_99 : decode cX10_hay 99 = .ok (.iinc 8 1, 3) := by decide +kernel
theorem dX10_hay_102 : decode cX10_hay 102 = .ok (.goto (-51), 3) := by decide +kernel
theorem dX10_hay_105 : decode cX10_hay 105 = .ok (.aload_n 0, 1) := by decide +kernel
theorem dX10_hay_106 : decode cX10_hay 106 = .ok (.lload 4, 2) := by decide +kernel
theorem dX10_hay_108 : decode cX10_hay 108 = .ok (.lload 6, 2) := by decide +kernel
theorem dX10_hay_110 : decode cX10_hay 110 = .ok (.invokevirtual 311, 3) := by decide +kernel
theorem dX10_hay_113 : decode cX10_hay 113 = .ok (.aload_n 0, 1) := by decide +kernel
theorem dX10_hay_114 : decode cX10_hay 114 = .ok (.invokevirtual 127, 3) := by decide +kernel
theorem dX10_hay_117 : decode cX10_hay 117 = .ok (.ireturn, 1) := by decide +kernel
abbrev rmX10_hay : Room := { frames := 5, cells := 0, slots := 0, locals := 119 }
set_option maxHeartbeats 4000000 in
set_option maxRecDepth 100000 in
theorem kX10_hay (l : Launch) (D : va_G) (cy : Nat → ClassId) (h0 : Nat) (a0 : Nat → Nat) (a1 : Nat → Nat) (s0 : Rc) (s1 : Rc) (p1 : Int32) (p2 : Int32) (p3 : Int32) (res : Int32 × Rc) (h : fX10_hay p1 p2 p3 s0 s1 = some res) : CZ l D cy yX10_hay wsX10_hay rmX10_hay [.ref h0, .int p1, .int p2, .int p3] (flat [WX10 cy h0 a0 s0, WX0 cy (a0 0) a1 s1]) (flat [WX10 cy h0 a0 res.2, WX0 cy (a0 0) a1 s1]) res.1 := by
  refine CZ.of (cc := cX10_hay) (maxL := 11) (by decide) rfl (Nat.le_of_ble_eq_true rfl) ?_
  intro p e s m args below meth c A QQ ls E hr
  obtain ⟨hx, hb, hml, hown, hts, hK, hN, hP, hD, hA, hl⟩ := E
  have hret : ∀ (pc : Nat) (H : Heap) (locs : List Loc) (ls : Array Slot) (u : Int32 × Rc), u = res → va_P D vwCl (flat [WX10 cy h0 a0 u.2, WX0 cy (a0 0) a1 s1]) H → va_D A (flat [WX10 cy h0 a0 u.2, WX0 cy (a0 0) a1 s1]) → va_S A s.heap H locs → isb u.1 = true → decode cX10_hay pc = .ok (.ireturn, 1) → W p l e rmX10_hay s m args below meth c H locs 0 0 QQ (F0 m pc ls [.int u.1]) := by
    intro pc H locs ls u hu hP hD hS hz hd; subst hu; exact hr pc H locs ls _ rfl hP hD hS hz hd
  clear hr
  have hl : lv_has ls 11 [(0, .ref h0), (1, .int p1), (2, .int p2), (3, .int p3)] := hl
  unfold fX10_hay at h
  suffices key : ∀ (H : Heap) (locs : List Loc), va_P D vwCl (flat [WX10 cy h0 a0 s0, WX0 cy (a0 0) a1 s1]) H → va_S A s.heap H locs → W p l e rmX10_hay s m args below meth c H locs 0 0 QQ (F0 m 0 ls []) from key _ _ hP va_S.rf
  clear hP
  intro H locs hP hS
  refine lv_iload_n hx hb dX10_hay_0 rfl (lv_at hl 1 rfl) ?_
  refine ca_z (w' := [WX10 cy h0 a0 s0, WX0 cy (a0 0) a1 s1]) (rn_S (As := [.int p1]) (rest := []) ⟨hx, hb, hml, hown, hts⟩ (kX10_noToldDay l D cy p1 _ rfl H.size) (va_cwS 1 hts gX10_hay_X10_noToldDay rfl rfl rfl (by decide +kernel) ⟨Nat.le_of_ble_eq_true rfl, Nat.le_of_ble_eq_true rfl⟩) hK hN hP hD [] rfl rfl rfl hl.1 rfl (Nat.le_of_ble_eq_true rfl) dX10_hay_1 ⟨Nat.le_refl 0, Nat.le_refl 0⟩) hP hD hS hA [] ⟨rfl, rfl, rfl, rfl⟩ (fun b1 H locs hP hD hS => ?_)
  refine lv_if_ne (tgt := 36) hx hb dX10_hay_4 (by decide) (fun c2 => ?_) (fun c2 => ?_)
  · replace h := (if_neg c2).symm.trans h
    refine lv_aload_n hx hb dX10_hay_36 rfl (lv_at hl 0 rfl) ?_
    refine lv_iconst (v := 1) hx hb dX10_hay_37 (by decide) ?_
    obtain ⟨r3, hr3, h⟩ := lt_elim h
    refine ca_z (w' := [WX10 cy h0 a0 r3.2, WX0 cy (a0 0) a1 s1]) (rn_V (As := [.int (1 : Int32)]) (rest := []) ⟨hx, hb, hml, hown, hts⟩ (kX10_deny l D cy h0 a0 s0 (1 : Int32) r3 hr3.symm H.size) (cwV 1 hts gX10_hay_X10_deny rfl rfl rfl (by decide +kernel) ⟨Nat.le_of_ble_eq_true rfl, Nat.le_of_ble_eq_true rfl⟩) hK hN hP hD [0] rfl rfl (ci := 10) (q0 := 0) rfl rfl rfl rfl hl.1 rfl (Nat.le_of_ble_eq_true rfl) dX10_hay_38 ⟨Nat.le_refl 0, Nat.le_refl 0⟩) hP hD hS hA [0] ⟨rfl, rfl, rfl, rfl⟩ (fun b4 H locs hP hD hS => ?_)
    exact hret 41 H locs ls (r3.1, r3.2) (Option.some.inj h) hP hD hS b4 dX10_hay_41
  · replace h := (if_pos c2).symm.trans h
    refine lv_iload_n hx hb dX10_hay_7 rfl (lv_at hl 2 rfl) ?_
    refine lv_iconst (v := 1) hx hb dX10_hay_8 (by decide) ?_
    refine lv_iconst (v := 3) hx hb dX10_hay_9 (by decide) ?_
    refine ca_z (w' := [WX10 cy h0 a0 s0, WX0 cy (a0 0) a1 s1]) (rn_S (As := [.int p2, .int (1 : Int32), .int (3 : Int32)]) (rest := []) ⟨hx, hb, hml, hown, hts⟩ (kX10_outside l D cy p2 (1 : Int32) (3 : Int32) _ rfl H.size) (va_cwS 3 hts gX10_hay_X10_outside rfl rfl rfl (by decide +kernel) ⟨Nat.le_of_ble_eq_true rfl, Nat.le_of_ble_eq_true rfl⟩) hK hN hP hD [] rfl rfl rfl hl.1 rfl (Nat.le_of_ble_eq_true rfl) dX10_hay_10 ⟨Nat.le_refl 0, Nat.le_refl 0⟩) hP hD hS hA [] ⟨rfl, rfl, rfl, rfl⟩ (fun b5 H locs hP hD hS => ?_)
    refine lv_if_ne (tgt := 36) hx hb dX10_hay_13 (by decide) (fun c6 => ?_) (fun c6 => ?_)
    · replace h := (if_neg c6).symm.trans h
      refine lv_aload_n hx hb dX10_hay_36 rfl (lv_at hl 0 rfl) ?_
      refine lv_iconst (v := 1) hx hb dX10_hay_37 (by decide) ?_
      obtain ⟨r7, hr7, h⟩ := lt_elim h
      refine ca_z (w' := [WX10 cy h0 a0 r7.2, WX0 cy (a0 0) a1 s1]) (rn_V (As := [.int (1 : Int32)]) (rest := []) ⟨hx, hb, hml, hown, hts⟩ (kX10_deny l D cy h0 a0 s0 (1 : Int32) r7 hr7.symm H.size) (cwV 1 hts gX10_hay_X10_deny rfl rfl rfl (by decide +kernel) ⟨Nat.le_of_ble_eq_true rfl, Nat.le_of_ble_eq_true rfl⟩) hK hN hP hD [0] rfl rfl (ci := 10) (q0 := 0) rfl rfl rfl rfl hl.1 rfl (Nat.le_of_ble_eq_true rfl) dX10_hay_38 ⟨Nat.le_refl 0, Nat.le_refl 0⟩) hP hD hS hA [0] ⟨rfl, rfl, rfl, rfl⟩ (fun b8 H locs hP hD hS => ?_)
      exact hret 41 H locs ls (r7.1, r7.2) (Option.some.inj h) hP hD hS b8 dX10_hay_41
    · replace h := (if_pos c6).symm.trans h
      refine lv_iload_n hx hb dX10_hay_16 rfl (lv_at hl 1 rfl) ?_
      refine lv_iload_n hx hb dX10_hay_17 rfl (lv_at hl 2 rfl) ?_
      refine lv_iadd hx hb dX10_hay_18 ?_
      refine lv_iconst (v := 1) hx hb dX10_hay_19 (by decide) ?_
      refine lv_isub hx hb dX10_hay_20 ?_
      refine lv_bipush (v := 62) hx hb dX10_hay_21 (by decide) ?_
      refine lv_icmp_gt (tgt := 36) hx hb dX10_hay_23 (by decide) (fun c9 => ?_) (fun c9 => ?_)
      · replace h := (if_pos c9).symm.trans h
        refine lv_aload_n hx hb dX10_hay_36 rfl (lv_at hl 0 rfl) ?_
        refine lv_iconst (v := 1) hx hb dX10_hay_37 (by decide) ?_
        obtain ⟨r10, hr10, h⟩ := lt_elim h
        refine ca_z (w' := [WX10 cy h0 a0 r10.2, WX0 cy (a0 0) a1 s1]) (rn_V (As := [.int (1 : Int32)]) (rest := []) ⟨hx, hb, hml, hown, hts⟩ (kX10_deny l D cy h0 a0 s0 (1 : Int32) r10 hr10.symm H.size) (cwV 1 hts gX10_hay_X10_deny rfl rfl rfl (by decide +kernel) ⟨Nat.le_of_ble_eq_true rfl, Nat.le_of_ble_eq_true rfl⟩) hK hN hP hD [0] rfl rfl (ci := 10) (q0 := 0) rfl rfl rfl rfl hl.1 rfl (Nat.le_of_ble_eq_true rfl) dX10_hay_38 ⟨Nat.le_refl 0, Nat.le_refl 0⟩) hP hD hS hA [0] ⟨rfl, rfl, rfl, rfl⟩ (fun b11 H locs hP hD hS => ?_)
        exact hret 41 H locs ls (r10.1, r10.2) (Option.some.inj h) hP hD hS b11 dX10_hay_41
      · replace h := (if_neg c9).symm.trans h
        refine lv_iload_n hx hb dX10_hay_26 rfl (lv_at hl 3 rfl) ?_
        refine lv_iconst (v := 1) hx hb dX10_hay_27 (by decide) ?_
        refine lv_bipush (v := 15) hx hb dX10_hay_28 (by decide) ?_
        refine ca_z (w' := [WX10 cy h0 a0 s0, WX0 cy (a0 0) a1 s1]) (rn_S (As := [.int p3, .int (1 : Int32), .int (15 : Int32)]) (rest := []) ⟨hx, hb, hml, hown, hts⟩ (kX10_outside l D cy p3 (1 : Int32) (15 : Int32) _ rfl H.size) (va_cwS 3 hts gX10_hay_X10_outside rfl rfl rfl (by decide +kernel) ⟨Nat.le_of_ble_eq_true rfl, Nat.le_of_ble_eq_true rfl⟩) hK hN hP hD [] rfl rfl rfl hl.1 rfl (Nat.le_of_ble_eq_true rfl) dX10_hay_30 ⟨Nat.le_refl 0, Nat.le_refl 0⟩) hP hD hS hA [] ⟨rfl, rfl, rfl, rfl⟩ (fun b12 H locs hP hD hS => ?_)
        refine lv_if_eq (tgt := 42) hx hb dX10_hay_33 (by decide) (fun c13 => ?_) (fun c13 => ?_)
        · replace h := (if_pos c13).symm.trans h
          refine lv_lconst (v := 1) hx hb dX10_hay_42 (by decide) ?_
          refine lv_lstore (lv' := [(4, .long (1 : Int64)), (0, .ref h0), (1, .int p1), (2, .int p2), (3, .int p3)]) hx hb dX10_hay_43 hl (by decide) rfl (fun ls hl => ?_)
          refine lv_lconst (v := 1) hx hb dX10_hay_45 (by decide) ?_
          refine lv_lstore (lv' := [(6, .long (1 : Int64)), (4, .long (1 : Int64)), (0, .ref h0), (1, .int p1), (2, .int p2), (3, .int p3)]) hx hb dX10_hay_46 hl (by decide) rfl (fun ls hl => ?_)
          refine lv_iconst (v := 0) hx hb dX10_hay_48 (by decide) ?_
          refine lv_istore (lv' := [(8, .int (0 : Int32)), (6, .long (1 : Int64)), (4, .long (1 : Int64)), (0, .ref h0), (1, .int p1), (2, .int p2), (3, .int p3)]) hx hb dX10_hay_49 hl (by decide) rfl (fun ls hl => ?_)
          have L51 : ∀ (n : Nat) (q51 : Int64 × Int64 × Int32) (o : (Unit) ⊕ (Int64 × Int64)), loopO (fX10_hay_L51 p1 p2 p3 s0 s1) n q51 = some o → ∀ (H : Heap) (locs : List Loc) (ls : Array Slot), lv_has ls 11 [(0, .ref h0), (1, .int p1), (2, .int p2), (3, .int p3), (4, .long q51.1), (6, .long q51.2.1), (8, .int q51.2.2)] → va_P D vwCl (flat [WX10 cy h0 a0 s0, WX0 cy (a0 0) a1 s1]) H → va_D A (flat [WX10 cy h0 a0 s0, WX0 cy (a0 0) a1 s1]) → va_S A s.heap H locs → ∀ (kk77 : ∀ v : Unit, o = (.inl v) → ∀ (H : Heap) (locs : List Loc) (ls : Array Slot), lv_has ls 11 [(0, .ref h0)] → va_P D vwCl (flat [WX10 cy h0 a0 s0, WX0 cy (a0 0) a1 s1]) H → va_D A (flat [WX10 cy h0 a0 s0, WX0 cy (a0 0) a1 s1]) → va_S A s.heap H locs → W p l e rmX10_hay s m args below meth c H locs 0 0 QQ (F0 m 77 ls [])) (kk105 : ∀ v : Int64 × Int64, o = (.inr v) → ∀ (H : Heap) (locs : List Loc) (ls : Array Slot), lv_has ls 11 [(0, .ref h0), (4, .long v.1), (6, .long v.2)] → va_P D vwCl (flat [WX10 cy h0 a0 s0, WX0 cy (a0 0) a1 s1]) H → va_D A (flat [WX10 cy h0 a0 s0, WX0 cy (a0 0) a1 s1]) → va_S A s.heap H locs → W p l e rmX10_hay s m args below meth c H locs 0 0 QQ (F0 m 105 ls [])), W p l e rmX10_hay s m args below meth c H locs 0 0 QQ (F0 m 51 ls []) := by
            intro n
            induction n with
            | zero => intro q51 o h; exact absurd h (by rw [loopO_zero]; intro z; cases z)
            | succ n ih =>
              intro q51 o h H locs ls hl hP hD hS kk77 kk105
              obtain ⟨w, h, hgo, hst⟩ := loopO_elim h
              unfold fX10_hay_L51 at h
              refine lv_iload hx hb dX10_hay_51 (lv_at hl 6 rfl) ?_
              refine lv_iload_n hx hb dX10_hay_53 rfl (lv_at hl 2 rfl) ?_
              refine lv_icmp_ge (tgt := 105) hx hb dX10_hay_54 (by decide) (fun c14 => ?_) (fun c14 => ?_)
              · replace h := (if_pos c14).symm.trans h
                have eo := hst _ (Option.some.inj h).symm
                exact kk105 _ eo.symm H locs ls (lv_sub hl [0, 4, 5] rfl) hP hD hS
              · replace h := (if_neg c14).symm.trans h
                refine lv_aload_n hx hb dX10_hay_57 rfl (lv_at hl 0 rfl) ?_
                refine lv_iload_n hx hb dX10_hay_58 rfl (lv_at hl 1 rfl) ?_
                refine lv_iload hx hb dX10_hay_59 (lv_at hl 6 rfl) ?_
                refine lv_iadd hx hb dX10_hay_61 ?_
                refine lv_iload_n hx hb dX10_hay_62 rfl (lv_at hl 3 rfl) ?_
                obtain ⟨r15, hr15, h⟩ := bd_elim h
                refine ca_l (w' := [WX10 cy h0 a0 s0, WX0 cy (a0 0) a1 s1]) (rn_V (As := [.int (p1 + q51.2.2), .int p3]) (rest := []) ⟨hx, hb, hml, hown, hts⟩ (kX10_dryMillionths l D cy h0 a0 a1 s0 s1 (p1 + q51.2.2) p3 r15 hr15 H.size) (cwV 2 hts gX10_hay_X10_dryMillionths rfl rfl rfl (by decide +kernel) ⟨Nat.le_of_ble_eq_true rfl, Nat.le_of_ble_eq_true rfl⟩) hK hN hP hD [0, 1] rfl rfl (ci := 10) (q0 := 0) rfl rfl rfl rfl hl.1 rfl (Nat.le_of_ble_eq_true rfl) dX10_hay_63 ⟨Nat.le_refl 0, Nat.le_refl 0⟩) hP hD hS hA [0, 1] ⟨rfl, rfl, rfl, rfl⟩ (fun H locs hP hD hS => ?_)
                refine lv_lstore (lv' := [(9, .long r15), (0, .ref h0), (1, .int p1), (2, .int p2), (3, .int p3), (4, .long q51.1), (6, .long q51.2.1), (8, .int q51.2.2)]) hx hb dX10_hay_66 hl (by decide) rfl (fun ls hl => ?_)
                refine lv_lload hx hb dX10_hay_68 (lv_at hl 0 rfl) ?_
                refine lv_ldc2 (v := -1) hx hb hown (hts (.constantLong RX10 291 (-1)) (List.mem_of_getElem? (i := 1) rfl)) dX10_hay_70 ?_
                refine W.lcmp hx hb dX10_hay_73 ?_
                refine lv_if_ne (tgt := 84) hx hb dX10_hay_74 (by decide) (fun c16 => ?_) (fun c16 => ?_)
                · replace h := (if_neg (fun z => c16 (lg_ceq.mpr z))).symm.trans h
                  refine lv_lload hx hb dX10_hay_84 (lv_at hl 5 rfl) ?_
                  refine lv_lload hx hb dX10_hay_86 (lv_at hl 0 rfl) ?_
                  refine lv_lmul hx hb dX10_hay_88 ?_
                  refine lv_topl (fun x17 ex17 => ?_)
                  replace h := lt_use h x17 ex17
                  refine lv_lstore (lv' := [(4, .long x17), (9, .long r15), (0, .ref h0), (1, .int p1), (2, .int p2), (3, .int p3), (6, .long q51.2.1), (8, .int q51.2.2)]) hx hb dX10_hay_89 hl (by decide) rfl (fun ls hl => ?_)
                  refine lv_lload hx hb dX10_hay_91 (lv_at hl 6 rfl) ?_
                  refine lv_ldc2 (v := 1000000) hx hb hown (hts (.constantLong RX10 333 (1000000)) (List.mem_of_getElem? (i := 2) rfl)) dX10_hay_93 ?_
                  refine lv_lmul hx hb dX10_hay_96 ?_
                  refine lv_topl (fun x18 ex18 => ?_)
                  replace h := lt_use h x18 ex18
                  refine lv_lstore (lv' := [(6, .long x18), (4, .long x17), (9, .long r15), (0, .ref h0), (1, .int p1), (2, .int p2), (3, .int p3), (8, .int q51.2.2)]) hx hb dX10_hay_97 hl (by decide) rfl (fun ls hl => ?_)
                  refine lv_iinc (v := (q51.2.2 + (1 : Int32))) (lv' := [(8, .int (q51.2.2 + (1 : Int32))), (6, .long x18), (4, .long x17), (9, .long r15), (0, .ref h0), (1, .int p1), (2, .int p2), (3, .int p3)]) hx hb dX10_hay_99 hl (k := 7) rfl rfl (by decide) rfl (fun ls hl => ?_)
                  refine lv_goto (tgt := 51) hx hb dX10_hay_102 (by decide) ?_
                  exact ih _ o (hgo _ (Option.some.inj h).symm) H locs ls (lv_sub hl [4, 5, 6, 7, 2, 1, 0] rfl) hP hD hS kk77 kk105
                · replace h := (if_pos (lg_ceq.mp c16)).symm.trans h
                  have eo := hst _ (Option.some.inj h).symm
                  exact kk77 _ eo.symm H locs ls (lv_sub hl [1] rfl) hP hD hS
          obtain ⟨o51, ho51, h⟩ := bd_elim h
          obtain ⟨n51, hn51⟩ := loopF_some ho51
          refine L51 n51 _ o51 hn51 H locs ls (lv_sub hl [3, 4, 5, 6, 2, 1, 0] rfl) hP hD hS (fun o51a eo H locs ls hl hP hD hS => ?_) (fun o51b eo H locs ls hl hP hD hS => ?_)
          · subst eo
            rw [Sum.elim_inl] at h
            refine lv_aload_n hx hb dX10_hay_77 rfl (lv_at hl 0 rfl) ?_
            refine lv_bipush (v := 7) hx hb dX10_hay_78 (by decide) ?_
            obtain ⟨r19, hr19, h⟩ := lt_elim h
            refine ca_z (w' := [WX10 cy h0 a0 r19.2, WX0 cy (a0 0) a1 s1]) (rn_V (As := [.int (7 : Int32)]) (rest := []) ⟨hx, hb, hml, hown, hts⟩ (kX10_deny l D cy h0 a0 s0 (7 : Int32) r19 hr19.symm H.size) (cwV 1 hts gX10_hay_X10_deny rfl rfl rfl (by decide +kernel) ⟨Nat.le_of_ble_eq_true rfl, Nat.le_of_ble_eq_true rfl⟩) hK hN hP hD [0] rfl rfl (ci := 10) (q0 := 0) rfl rfl rfl rfl hl.1 rfl (Nat.le_of_ble_eq_true rfl) dX10_hay_80 ⟨Nat.le_refl 0, Nat.le_refl 0⟩) hP hD hS hA [0] ⟨rfl, rfl, rfl, rfl⟩ (fun b20 H locs hP hD hS => ?_)
            exact hret 83 H locs ls (r19.1, r19.2) (Option.some.inj h) hP hD hS b20 dX10_hay_83
          · subst eo
            rw [Sum.elim_inr] at h
            refine lv_aload_n hx hb dX10_hay_105 rfl (lv_at hl 0 rfl) ?_
            refine lv_lload hx hb dX10_hay_106 (lv_at hl 1 rfl) ?_
            refine lv_lload hx hb dX10_hay_108 (lv_at hl 2 rfl) ?_
            obtain ⟨r21, hr21, h⟩ := bd_elim h
            refine ca_v (w' := [WX10 cy h0 a0 r21, WX0 cy (a0 0) a1 s1]) (rn_V (As := [.long o51b.1, .long o51b.2]) (rest := []) ⟨hx, hb, hml, hown, hts⟩ (kX10_tellFraction l D cy h0 a0 s0 o51b.1 o51b.2 r21 hr21 H.size) (cwV 2 hts gX10_hay_X10_tellFraction rfl rfl rfl (by decide +kernel) ⟨Nat.le_of_ble_eq_true rfl, Nat.le_of_ble_eq_true rfl⟩) hK hN hP hD [0] rfl rfl (ci := 10) (q0 := 0) rfl rfl rfl rfl hl.1 rfl (Nat.le_of_ble_eq_true rfl) dX10_hay_110 ⟨Nat.le_refl 0, Nat.le_refl 0⟩) hP hD hS hA [0] ⟨rfl, rfl, rfl, rfl⟩ (fun H locs hP hD hS => ?_)
            refine lv_aload_n hx hb dX10_hay_113 rfl (lv_at hl 0 rfl) ?_
            obtain ⟨r22, hr22, h⟩ := lt_elim h
            refine ca_z (w' := [WX10 cy h0 a0 r22.2, WX0 cy (a0 0) a1 s1]) (rn_V (As := []) (rest := []) ⟨hx, hb, hml, hown, hts⟩ (kX10_allow l D cy h0 a0 r21 r22 hr22.symm H.size) (cwV 0 hts gX10_hay_X10_allow rfl rfl rfl (by decide +kernel) ⟨Nat.le_of_ble_eq_true rfl, Nat.le_of_ble_eq_true rfl⟩) hK hN hP hD [0] rfl rfl (ci := 10) (q0 := 0) rfl rfl rfl rfl hl.1 rfl (Nat.le_of_ble_eq_true rfl) dX10_hay_114 ⟨Nat.le_refl 0, Nat.le_refl 0⟩) hP hD hS hA [0] ⟨rfl, rfl, rfl, rfl⟩ (fun b23 H locs hP hD hS => ?_)
            exact hret 117 H locs ls (r22.1, r22.2) (Option.some.inj h) hP hD hS b23 dX10_hay_117
        · replace h := (if_neg c13).symm.trans h
          refine lv_aload_n hx hb dX10_hay_36 rfl (lv_at hl 0 rfl) ?_
          refine lv_iconst (v := 1) hx hb dX10_hay_37 (by decide) ?_
          obtain ⟨r24, hr24, h⟩ := lt_elim h
          refine ca_z (w' := [WX10 cy h0 a0 r24.2, WX0 cy (a0 0) a1 s1]) (rn_V (As := [.int (1 : Int32)]) (rest := []) ⟨hx, hb, hml, hown, hts⟩ (kX10_deny l D cy h0 a0 s0 (1 : Int32) r24 hr24.symm H.size) (cwV 1 hts gX10_hay_X10_deny rfl rfl rfl (by decide +kernel) ⟨Nat.le_of_ble_eq_true rfl, Nat.le_of_ble_eq_true rfl⟩) hK hN hP hD [0] rfl rfl (ci := 10) (q0 := 0) rfl rfl rfl rfl hl.1 rfl (Nat.le_of_ble_eq_true rfl) dX10_hay_38 ⟨Nat.le_refl 0, Nat.le_refl 0⟩) hP hD hS hA [0] ⟨rfl, rfl, rfl, rfl⟩ (fun b25 H locs hP hD hS => ?_)
          exact hret 41 H locs ls (r24.1, r24.2) (Option.some.inj h) hP hD hS b25 dX10_hay_41
set_option maxRecDepth 20000 in
theorem ggX10_kept_X0_keptUnder : GoodIn wsX10_kept wsX0_keptUnder := goodIn_r _ [6, 7, 8, 9, 10, 5, 11, 12, 13, 14, 15, 16, 17, 18, 19, 20, 21, 22, 23, 24, 25, 26, 27, 28, 29, 30, 31, 32, 33, 34, 35, 36, 37, 38, 39, 40, 41, 42, 43, 44, 45, 46, 47, 48, 49, 50, 51, 52, 53, 54, 55, 80, 81, 82, 83, 84, 85, 86, 87, 88, 89, 90, 91, 92, 93] (by decide +kernel) (by decide +kernel)
set_option maxRecDepth 20000 in
theorem gX10_kept_X0_keptUnder : GoodIn wsX10_kept (wsV RX10 315 RX0 yX0_keptUnder wsX0_keptUnder) := goodIn_app (goodIn_of _ (by decide +kernel)) ggX10_kept_X0_keptUnder
set_option maxRecDepth 20000 in
theorem ggX10_kept_X10_answer : GoodIn wsX10_kept wsX10_answer := goodIn_r _ [59, 60, 61, 62, 63, 64, 65, 66, 67, 68, 69, 70, 71, 72, 73, 74, 75, 76, 77, 78, 79] (by decide +kernel) (by decide +kernel)
set_option maxRecDepth 20000 in
theorem gX10_kept_X10_answer : GoodIn wsX10_kept (wsV RX10 181 RX10 yX10_answer wsX10_answer) := goodIn_app (goodIn_of _ (by decide +kernel)) ggX10_kept_X10_answer
theorem dX10_kept_0 : decode cX10_kept 0 = .ok (.aload_n 0, 1) := by decide +kernel
theorem dX10_kept_1 : decode cX10_kept 1 = .ok (.aload_n 0, 1) := by decide +kernel
theorem dX10_kept_2 : decode cX10_kept 2 = .ok (.getfield 10, 3) := by decide +kernel
theorem dX10_kept_5 : decode cX10_kept 5 = .ok (.aload_n 0, 1) := by decide +kernel
theorem dX10_kept_6 : decode cX10_kept 6 = .ok (.getfield 10, 3) := by decide +kernel
theorem dX10_kept_9 : decode cX10_kept 9 = .ok (.getfield 212, 3) := by decide +kernel
theorem dX10_kept_12 : decode cX10_kept 12 = .ok (.iconst 0, 1) := by decide +kernel
theorem dX10_kept_13 : decode cX10_kept 13 = .ok (.invokevirtual 315, 3) := by decide +kernel
theorem dX10_kept_16 : decode cX10_kept 16 = .ok (.invokevirtual 181, 3) := by decide +kernel
theorem dX10_kept_19 : decode cX10_kept 19 = .ok (.ireturn, 1) := by decide +kernel
abbrev rmX10_kept : Room := { frames := 4, cells := 0, slots := 0, locals := 92 }
set_option maxHeartbeats 4000000 in
set_option maxRecDepth 100000 in
theorem kX10_kept (l : Launch) (D : va_G) (cy : Nat → ClassId) (h0 : Nat) (a0 : Nat → Nat) (a1 : Nat → Nat) (s0 : Rc) (s1 : Rc) (res : Int32 × Rc) (h : fX10_kept s0 s1 = some res) : CI l D cy yX10_kept wsX10_kept rmX10_kept [.ref h0] (flat [WX10 cy h0 a0 s0, WX0 cy (a0 0) a1 s1]) (flat [WX10 cy h0 a0 res.2, WX0 cy (a0 0) a1 s1]) res.1 := by
  refine CI.of (cc := cX10_kept) (maxL := 1) (by decide) rfl (Nat.le_of_ble_eq_true rfl) ?_
  intro p e s m args below meth c A QQ ls E hr
  obtain ⟨hx, hb, hml, hown, hts, hK, hN, hP, hD, hA, hl⟩ := E
  have hret : ∀ (pc : Nat) (H : Heap) (locs : List Loc) (ls : Array Slot) (u : Int32 × Rc), u = res → va_P D vwCl (flat [WX10 cy h0 a0 u.2, WX0 cy (a0 0) a1 s1]) H → va_D A (flat [WX10 cy h0 a0 u.2, WX0 cy (a0 0) a1 s1]) → va_S A s.heap H locs → decode cX10_kept pc = .ok (.ireturn, 1) → W p l e rmX10_kept s m args below meth c H locs 0 0 QQ (F0 m pc ls [.int u.1]) := by
    intro pc H locs ls u hu hP hD hS hd; subst hu; exact hr pc H locs ls _ rfl hP hD hS hd
  clear hr
  have hl : lv_has ls 1 [(0, .ref h0)] := hl
  have hinX0 : ∀ w ∈ wsX00, w ∈ wsX10_kept := fun _ h => List.mem_cons_of_mem _ (List.mem_append_right _ h)
  have hinX10 : ∀ w ∈ wsX100, w ∈ wsX10_kept := fun _ h => List.mem_cons_of_mem _ (List.mem_append_left _ (List.mem_append_right _ h))
  unfold fX10_kept at h
  suffices key : ∀ (H : Heap) (locs : List Loc), va_P D vwCl (flat [WX10 cy h0 a0 s0, WX0 cy (a0 0) a1 s1]) H → va_S A s.heap H locs → W p l e rmX10_kept s m args below meth c H locs 0 0 QQ (F0 m 0 ls []) from key _ _ hP va_S.rf
  clear hP
  intro H locs hP hS
  refine lv_aload_n hx hb dX10_kept_0 rfl (lv_at hl 0 rfl) ?_
  refine lv_aload_n hx hb dX10_kept_1 rfl (lv_at hl 0 rfl) ?_
  refine va_get (D := D) (ci := 10) (v := .ref (a0 0)) (C := RX10) (T := TX10) (N := 19) hx hb hts hinX10 hown hK hP 0 rfl rfl 0 (by decide) (hts (.fieldLink RX10 10 "KneeBench" "bench" "LKneeBench$Bench;") (List.mem_of_getElem? (i := 1) rfl)) (fun _ h9 => h9) rfl dX10_kept_2 ?_
  refine lv_aload_n hx hb dX10_kept_5 rfl (lv_at hl 0 rfl) ?_
  refine va_get (D := D) (ci := 10) (v := .ref (a0 0)) (C := RX10) (T := TX10) (N := 19) hx hb hts hinX10 hown hK hP 0 rfl rfl 0 (by decide) (hts (.fieldLink RX10 10 "KneeBench" "bench" "LKneeBench$Bench;") (List.mem_of_getElem? (i := 1) rfl)) (fun _ h9 => h9) rfl dX10_kept_6 ?_
  refine va_getN (D := D) (ci := 0) (v := .int (gi s1 12)) (C := RX0) (T := TX0) (N := 14) hx hb hts hinX0 hown hK hP 1 rfl rfl 12 (by decide) (NW.fld hN 23 rfl _) (fun _ h9 => h9) rfl dX10_kept_9 ?_
  refine lv_iconst (v := 0) hx hb dX10_kept_12 (by decide) ?_
  obtain ⟨r1, hr1, h⟩ := bd_elim h
  refine ca_i (w' := [WX10 cy h0 a0 s0, WX0 cy (a0 0) a1 s1]) (rn_V (As := [.int (gi s1 12), .int (0 : Int32)]) (rest := [.ref h0]) ⟨hx, hb, hml, hown, hts⟩ (kX0_keptUnder l D cy (a0 0) a1 s1 (gi s1 12) (0 : Int32) r1 hr1 H.size) (cwV 2 hts gX10_kept_X0_keptUnder rfl rfl rfl (by decide +kernel) ⟨Nat.le_of_ble_eq_true rfl, Nat.le_of_ble_eq_true rfl⟩) hK hN hP hD [1] rfl rfl (ci := 0) (q0 := 1) rfl rfl rfl rfl hl.1 rfl (Nat.le_of_ble_eq_true rfl) dX10_kept_13 ⟨Nat.le_refl 0, Nat.le_refl 0⟩) hP hD hS hA [1] ⟨rfl, rfl, rfl, rfl⟩ (fun H locs hP hD hS => ?_)
  obtain ⟨r2, hr2, h⟩ := lt_elim h
  refine ca_i (w' := [WX10 cy h0 a0 r2.2, WX0 cy (a0 0) a1 s1]) (rn_V (As := [.int r1]) (rest := []) ⟨hx, hb, hml, hown, hts⟩ (kX10_answer l D cy h0 a0 s0 r1 r2 hr2.symm H.size) (cwV 1 hts gX10_kept_X10_answer rfl rfl rfl (by decide +kernel) ⟨Nat.le_of_ble_eq_true rfl, Nat.le_of_ble_eq_true rfl⟩) hK hN hP hD [0] rfl rfl (ci := 10) (q0 := 0) rfl rfl rfl rfl hl.1 rfl (Nat.le_of_ble_eq_true rfl) dX10_kept_16 ⟨Nat.le_refl 0, Nat.le_refl 0⟩) hP hD hS hA [0] ⟨rfl, rfl, rfl, rfl⟩ (fun H locs hP hD hS => ?_)
  exact hret 19 H locs ls (r2.1, r2.2) (Option.some.inj h) hP hD hS dX10_kept_19
set_option maxRecDepth 20000 in
theorem ggX10_keptBy_X10_outside : GoodIn wsX10_keptBy wsX10_outside := goodIn_r _ [5] (by decide +kernel) (by decide +kernel)
set_option maxRecDepth 20000 in
theorem gX10_keptBy_X10_outside : GoodIn wsX10_keptBy (va_wsS RX10 116 yX10_outside wsX10_outside) := goodIn_app (goodIn_of _ (by decide +kernel)) ggX10_keptBy_X10_outside
set_option maxRecDepth 20000 in
theorem ggX10_keptBy_X10_refuse : GoodIn wsX10_keptBy wsX10_refuse := goodIn_r _ [9, 10, 68, 69, 70, 71, 72, 73, 74, 75, 76, 77, 78, 79, 80, 81, 82, 83, 84, 85, 86] (by decide +kernel) (by decide +kernel)
set_option maxRecDepth 20000 in
theorem gX10_keptBy_X10_refuse : GoodIn wsX10_keptBy (wsV RX10 139 RX10 yX10_refuse wsX10_refuse) := goodIn_app (goodIn_of _ (by decide +kernel)) ggX10_keptBy_X10_refuse
set_option maxRecDepth 20000 in
theorem ggX10_keptBy_X0_keptUnder : GoodIn wsX10_keptBy wsX0_keptUnder := goodIn_r _ [15, 16, 17, 18, 19, 14, 20, 21, 22, 23, 24, 25, 26, 27, 28, 29, 30, 31, 32, 33, 34, 35, 36, 37, 38, 39, 40, 41, 42, 43, 44, 45, 46, 47, 48, 49, 50, 51, 52, 4, 53, 54, 55, 56, 57, 58, 59, 60, 61, 62, 63, 87, 88, 89, 90, 91, 92, 93, 94, 95, 96, 97, 98, 99, 100] (by decide +kernel) (by decide +kernel)
set_option maxRecDepth 20000 in
theorem gX10_keptBy_X0_keptUnder : GoodIn wsX10_keptBy (wsV RX10 315 RX0 yX0_keptUnder wsX0_keptUnder) := goodIn_app (goodIn_of _ (by decide +kernel)) ggX10_keptBy_X0_keptUnder
set_option maxRecDepth 20000 in
theorem ggX10_keptBy_X10_answer : GoodIn wsX10_keptBy wsX10_answer := goodIn_r _ [67, 10, 68, 69, 70, 71, 72, 73, 74, 75, 76, 77, 78, 79, 80, 81, 82, 83, 84, 85, 86] (by decide +kernel) (by decide +kernel)
set_option maxRecDepth 20000 in
theorem gX10_keptBy_X10_answer : GoodIn wsX10_keptBy (wsV RX10 181 RX10 yX10_answer wsX10_answer) := goodIn_app (goodIn_of _ (by decide +kernel)) ggX10_keptBy_X10_answer
theorem dX10_keptBy_0 : decode cX10_keptBy 0 = .ok (.iload_n 1, 1) := by decide +kernel
theorem dX10_keptBy_1 : decode cX10_keptBy 1 = .ok (.iconst 0, 1) := by decide +kernel
theorem dX10_keptBy_2 : decode cX10_keptBy 2 = .ok (.iconst 3, 1) := by decide +kernel
theorem dX10_keptBy_3 : decode cX10_keptBy 3 = .ok (.invokestatic 116, 3) := by decide +kernel
theorem dX10_keptBy_6 : decode cX10_keptBy 6 = .ok (.ifCond .eq 9, 3) := by decide +kernel
theorem dX10_keptBy_9 : decode cX10_keptBy 9 = .ok (.aload_n 0, 1) := by decide +kernel
theorem dX10_keptBy_10 : decode cX10_keptBy 10 = .ok (.iconst 1, 1) := by decide +kernel
theorem dX10_keptBy_11 : decode cX10_keptBy 11 = .ok (.invokevirtual 139, 3) := by decide +kernel
theorem dX10_keptBy_14 : decode cX10_keptBy 14 = .ok (.ireturn, 1) := by decide +kernel
theorem dX10_keptBy_15 : decode cX10_keptBy 15 = .ok (.aload_n 0, 1) := by decide +kernel
theorem dX10_keptBy_16 : decode cX10_keptBy 16 = .ok (.aload_n 0, 1) := by decide +kernel
theorem dX10_keptBy_17 : decode cX10_keptBy 17 = .ok (.getfield 10, 3) := by decide +kernel
theorem dX10_keptBy_20 : decode cX10_keptBy 20 = .ok (.iload_n 1, 1) := by decide +kernel
theorem dX10_keptBy_21 : decode cX10_keptBy 21 = .ok (.iconst 0, 1) := by decide +kernel
theorem dX10_keptBy_22 : decode cX10_keptBy 22 = .ok (.invokevirtual 315, 3) := by decide +kernel
theorem dX10_keptBy_25 : decode cX10_keptBy 25 = .ok (.invokevirtual 181, 3) := by decide +kernel
theorem dX10_keptBy_28 : decode cX10_keptBy 28 = .ok (.ireturn, 1) := by decide +kernel
abbrev rmX10_keptBy : Room := { frames := 4, cells := 0, slots := 0, locals := 92 }
set_option maxHeartbeats 4000000 in
set_option maxRecDepth 100000 in
theorem kX10_keptBy (l : Launch) (D : va_G) (cy : Nat → ClassId) (h0 : Nat) (a0 : Nat → Nat) (a1 : Nat → Nat) (s0 : Rc) (s1 : Rc) (p1 : Int32) (res : Int32 × Rc) (h : fX10_keptBy p1 s0 s1 = some res) : CI l D cy yX10_keptBy wsX10_keptBy rmX10_keptBy [.ref h0, .int p1] (flat [WX10 cy h0 a0 s0, WX0 cy (a0 0) a1 s1]) (flat [WX10 cy h0 a0 res.2, WX0 cy (a0 0) a1 s1]) res.1 := by
  refine CI.of (cc := cX10_keptBy) (maxL := 2) (by decide) rfl (Nat.le_of_ble_eq_true rfl) ?_
  intro p e s m args below meth c A QQ ls E hr
  obtain ⟨hx, hb, hml, hown, hts, hK, hN, hP, hD, hA, hl⟩ := E
  have hret : ∀ (pc : Nat) (H : Heap) (locs : List Loc) (ls : Array Slot) (u : Int32 × Rc), u = res → va_P D vwCl (flat [WX10 cy h0 a0 u.2, WX0 cy (a0 0) a1 s1]) H → va_D A (flat [WX10 cy h0 a0 u.2, WX0 cy (a0 0) a1 s1]) → va_S A s.heap H locs → decode cX10_keptBy pc = .ok (.ireturn, 1) → W p l e rmX10_keptBy s m args below meth c H locs 0 0 QQ (F0 m pc ls [.int u.1]) := by
    intro pc H locs ls u hu hP hD hS hd; subst hu; exact hr pc H locs ls _ rfl hP hD hS hd
  clear hr
  have hl : lv_has ls 2 [(0, .ref h0), (1, .int p1)] := hl
  have hinX10 : ∀ w ∈ wsX100, w ∈ wsX10_keptBy := fun _ h => List.mem_cons_of_mem _ (List.mem_append_left _ (List.mem_append_right _ h))
  unfold fX10_keptBy at h
  suffices key : ∀ (H : Heap) (locs : List Loc), va_P D vwCl (flat [WX10 cy h0 a0 s0, WX0 cy (a0 0) a1 s1]) H → va_S A s.heap H locs → W p l e rmX10_keptBy s m args below meth c H locs 0 0 QQ (F0 m 0 ls []) from key _ _ hP va_S.rf
  clear hP
  intro H locs hP hS
  refine lv_iload_n hx hb dX10_keptBy_0 rfl (lv_at hl 1 rfl) ?_
  refine lv_iconst (v := 0) hx hb dX10_keptBy_1 (by decide) ?_
  refine lv_iconst (v := 3) hx hb dX10_keptBy_2 (by decide) ?_
  refine ca_z (w' := [WX10 cy h0 a0 s0, WX0 cy (a0 0) a1 s1]) (rn_S (As := [.int p1, .int (0 : Int32), .int (3 : Int32)]) (rest := []) ⟨hx, hb, hml, hown, hts⟩ (kX10_outside l D cy p1 (0 : Int32) (3 : Int32) _ rfl H.size) (va_cwS 3 hts gX10_keptBy_X10_outside rfl rfl rfl (by decide +kernel) ⟨Nat.le_of_ble_eq_true rfl, Nat.le_of_ble_eq_true rfl⟩) hK hN hP hD [] rfl rfl rfl hl.1 rfl (Nat.le_of_ble_eq_true rfl) dX10_keptBy_3 ⟨Nat.le_refl 0, Nat.le_refl 0⟩) hP hD hS hA [] ⟨rfl, rfl, rfl, rfl⟩ (fun b1 H locs hP hD hS => ?_)
  refine lv_if_eq (tgt := 15) hx hb dX10_keptBy_6 (by decide) (fun c2 => ?_) (fun c2 => ?_)
  · replace h := (if_pos c2).symm.trans h
    refine lv_aload_n hx hb dX10_keptBy_15 rfl (lv_at hl 0 rfl) ?_
    refine lv_aload_n hx hb dX10_keptBy_16 rfl (lv_at hl 0 rfl) ?_
    refine va_get (D := D) (ci := 10) (v := .ref (a0 0)) (C := RX10) (T := TX10) (N := 19) hx hb hts hinX10 hown hK hP 0 rfl rfl 0 (by decide) (hts (.fieldLink RX10 10 "KneeBench" "bench" "LKneeBench$Bench;") (List.mem_of_getElem? (i := 1) rfl)) (fun _ h9 => h9) rfl dX10_keptBy_17 ?_
    refine lv_iload_n hx hb dX10_keptBy_20 rfl (lv_at hl 1 rfl) ?_
    refine lv_iconst (v := 0) hx hb dX10_keptBy_21 (by decide) ?_
    obtain ⟨r3, hr3, h⟩ := bd_elim h
    refine ca_i (w' := [WX10 cy h0 a0 s0, WX0 cy (a0 0) a1 s1]) (rn_V (As := [.int p1, .int (0 : Int32)]) (rest := [.ref h0]) ⟨hx, hb, hml, hown, hts⟩ (kX0_keptUnder l D cy (a0 0) a1 s1 p1 (0 : Int32) r3 hr3 H.size) (cwV 2 hts gX10_keptBy_X0_keptUnder rfl rfl rfl (by decide +kernel) ⟨Nat.le_of_ble_eq_true rfl, Nat.le_of_ble_eq_true rfl⟩) hK hN hP hD [1] rfl rfl (ci := 0) (q0 := 1) rfl rfl rfl rfl hl.1 rfl (Nat.le_of_ble_eq_true rfl) dX10_keptBy_22 ⟨Nat.le_refl 0, Nat.le_refl 0⟩) hP hD hS hA [1] ⟨rfl, rfl, rfl, rfl⟩ (fun H locs hP hD hS => ?_)
    obtain ⟨r4, hr4, h⟩ := lt_elim h
    refine ca_i (w' := [WX10 cy h0 a0 r4.2, WX0 cy (a0 0) a1 s1]) (rn_V (As := [.int r3]) (rest := []) ⟨hx, hb, hml, hown, hts⟩ (kX10_answer l D cy h0 a0 s0 r3 r4 hr4.symm H.size) (cwV 1 hts gX10_keptBy_X10_answer rfl rfl rfl (by decide +kernel) ⟨Nat.le_of_ble_eq_true rfl, Nat.le_of_ble_eq_true rfl⟩) hK hN hP hD [0] rfl rfl (ci := 10) (q0 := 0) rfl rfl rfl rfl hl.1 rfl (Nat.le_of_ble_eq_true rfl) dX10_keptBy_25 ⟨Nat.le_refl 0, Nat.le_refl 0⟩) hP hD hS hA [0] ⟨rfl, rfl, rfl, rfl⟩ (fun H locs hP hD hS => ?_)
    exact hret 28 H locs ls (r4.1, r4.2) (Option.some.inj h) hP hD hS dX10_keptBy_28
  · replace h := (if_neg c2).symm.trans h
    refine lv_aload_n hx hb dX10_keptBy_9 rfl (lv_at hl 0 rfl) ?_
    refine lv_iconst (v := 1) hx hb dX10_keptBy_10 (by decide) ?_
    obtain ⟨r5, hr5, h⟩ := lt_elim h
    refine ca_i (w' := [WX10 cy h0 a0 r5.2, WX0 cy (a0 0) a1 s1]) (rn_V (As := [.int (1 : Int32)]) (rest := []) ⟨hx, hb, hml, hown, hts⟩ (kX10_refuse l D cy h0 a0 s0 (1 : Int32) r5 hr5.symm H.size) (cwV 1 hts gX10_keptBy_X10_refuse rfl rfl rfl (by decide +kernel) ⟨Nat.le_of_ble_eq_true rfl, Nat.le_of_ble_eq_true rfl⟩) hK hN hP hD [0] rfl rfl (ci := 10) (q0 := 0) rfl rfl rfl rfl hl.1 rfl (Nat.le_of_ble_eq_true rfl) dX10_keptBy_11 ⟨Nat.le_refl 0, Nat.le_refl 0⟩) hP hD hS hA [0] ⟨rfl, rfl, rfl, rfl⟩ (fun H locs hP hD hS => ?_)
    exact hret 14 H locs ls (r5.1, r5.2) (Option.some.inj h) hP hD hS dX10_keptBy_14
set_option maxRecDepth 20000 in
theorem ggX10_lag_X10_noFarmer : GoodIn wsX10_lag wsX10_noFarmer := goodIn_r _ [6, 1, 50, 51, 52, 53, 54, 55, 56, 57, 58, 59, 60, 61, 62, 63, 64, 65, 66, 67, 68, 69, 70, 71, 72, 73, 74, 75, 76, 77, 78, 79, 80, 81, 82] (by decide +kernel) (by decide +kernel)
set_option maxRecDepth 20000 in
theorem gX10_lag_X10_noFarmer : GoodIn wsX10_lag (wsV RX10 215 RX10 yX10_noFarmer wsX10_noFarmer) := goodIn_app (goodIn_of _ (by decide +kernel)) ggX10_lag_X10_noFarmer
set_option maxRecDepth 20000 in
theorem ggX10_lag_X10_refuse : GoodIn wsX10_lag wsX10_refuse := goodIn_r _ [10, 11, 50, 51, 52, 53, 54, 55, 56, 57, 58, 59, 60, 61, 62, 63, 64, 65, 66, 67, 68] (by decide +kernel) (by decide +kernel)
set_option maxRecDepth 20000 in
theorem gX10_lag_X10_refuse : GoodIn wsX10_lag (wsV RX10 139 RX10 yX10_refuse wsX10_refuse) := goodIn_app (goodIn_of _ (by decide +kernel)) ggX10_lag_X10_refuse
set_option maxRecDepth 20000 in
theorem ggX10_lag_X0_fitsBy : GoodIn wsX10_lag wsX0_fitsBy := goodIn_r _ [16, 17, 18, 19, 20, 21, 15, 22, 23, 24, 5, 25, 26, 27, 28, 29, 30, 31, 32, 33, 34, 35, 36, 37, 38, 39, 40, 41, 42, 43, 44, 45, 69, 70, 71, 72, 73, 74, 75, 76, 77, 78, 79, 80, 81, 82] (by decide +kernel) (by decide +kernel)
set_option maxRecDepth 20000 in
theorem gX10_lag_X0_fitsBy : GoodIn wsX10_lag (wsV RX10 354 RX0 yX0_fitsBy wsX0_fitsBy) := goodIn_app (goodIn_of _ (by decide +kernel)) ggX10_lag_X0_fitsBy
set_option maxRecDepth 20000 in
theorem ggX10_lag_X10_answer : GoodIn wsX10_lag wsX10_answer := goodIn_r _ [49, 11, 50, 51, 52, 53, 54, 55, 56, 57, 58, 59, 60, 61, 62, 63, 64, 65, 66, 67, 68] (by decide +kernel) (by decide +kernel)
set_option maxRecDepth 20000 in
theorem gX10_lag_X10_answer : GoodIn wsX10_lag (wsV RX10 181 RX10 yX10_answer wsX10_answer) := goodIn_app (goodIn_of _ (by decide +kernel)) ggX10_lag_X10_answer
theorem dX10_lag_0 : decode cX10_lag 0 = .ok (.aload_n 0, 1) := by decide +kernel
theorem dX10_lag_1 : decode cX10_lag 1 = .ok (.iload_n 1, 1) := by decide +kernel
theorem dX10_lag_2 : decode cX10_lag 2 = .ok (.invokevirtual 215, 3) := by decide +kernel
theorem dX10_lag_5 : decode cX10_lag 5 = .ok (.ifCond .eq 9, 3) := by decide +kernel
theorem dX10_lag_8 : decode cX10_lag 8 = .ok (.aload_n 0, 1) := by decide +kernel
theorem dX10_lag_9 : decode cX10_lag 9 = .ok (.iconst 1, 1) := by decide +kernel
theorem dX10_lag_10 : decode cX10_lag 10 = .ok (.invokevirtual 139, 3) := by decide +kernel
theorem dX10_lag_13 : decode cX10_lag 13 = .ok (.ireturn, 1) := by decide +kernel
theorem dX10_lag_14 : decode cX10_lag 14 = .ok (.iconst 0, 1) := by decide +kernel
theorem dX10_lag_15 : decode cX10_lag 15 = .ok (.istore_n 2, 1) := by decide +kernel
theorem dX10_lag_16 : decode cX10_lag 16 = .ok (.iconst 1, 1) := by decide +kernel
theorem dX10_lag_17 : decode cX10_lag 17 = .ok (.istore_n 3, 1) := by decide +kernel
theorem dX10_lag_18 : decode cX10_lag 18 = .ok (.iload_n 3, 1) := by decide +kernel
theorem dX10_lag_19 : decode cX10_lag 19 = .ok (.iconst 3, 1) := by decide +kernel
theorem dX10_lag_20 : decode cX10_lag 20 = .ok (.if_icmp .gt 57, 3) := by decide +kernel
theorem dX10_lag_23 : decode cX10_lag 23 = .ok (.aload_n 0, 1) := by decide +kernel
theorem dX10_lag_24 : decode cX10_lag 24 = .ok (.getfield 10, 3) := by decide +kernel
theorem dX10_lag_27 : decode cX10_lag 27 = .ok (.iload_n 1, 1) := by decide +kernel
theorem dX10_lag_28 : decode cX10_lag 28 = .ok (.iload_n 3, 1) := by decide +kernel
theorem dX10_lag_29 : decode cX10_lag 29 = .ok (.ineg, 1) := by decide +kernel
theorem dX10_lag_30 : decode cX10_lag 30 = .ok (.invokevirtual 354, 3) := by decide +kernel
theorem dX10_lag_33 : decode cX10_lag 33 = .ok (.aload_n 0, 1) := by decide +kernel
theorem dX10_lag_34 : decode cX10_lag 34 = .ok (.getfield 10, 3) := by decide +kernel
theorem dX10_lag_37 : decode cX10_lag 37 = .ok (.iload_n 1, 1) := by decide +kernel
theorem dX10_lag_38 : decode cX10_lag 38 = .ok (.iload_n 2, 1) := by decide +kernel
theorem dX10_lag_39 : decode cX10_lag 39 = .ok (.invokevirtual 354, 3) := by decide +kernel
theorem dX10_lag_42 : decode cX10_lag 42 = .ok (.if_icmp .le 6, 3) := by decide +kernel
theorem dX10_lag_45 : decode cX10_lag 45 = .ok (.iload_n 3, 1) := by decide +kernel
theorem dX10_lag_46 : decode cX10_lag 46 = .ok (.ineg, 1) := by decide +kernel
theorem dX10_lag_47 : decode cX10_lag 47 = .ok (.istore_n 2, 1) := by decide +kernel
theorem dX10_lag_48 : decode cX10_lag 48 = .ok (.aload_n 0, 1) := by decide +kernel
theorem dX10_lag_49 : decode cX10_lag 49 = .ok (.getfield 10, 3) := by decide +kernel
theorem dX10_lag_52 : decode cX10_lag 52 = .ok (.iload_n 1, 1) := by decide +kernel
theorem dX10_lag_53 : decode cX10_lag 53 = .ok (.iload_n 3, 1) := by decide +kernel
theorem dX10_lag_54 : decode cX10_lag 54 = .ok (.invokevirtual 354, 3) := by decide +kernel
theorem dX10_lag_57 : decode cX10_lag 57 = .ok (.aload_n 0, 1) := by decide +kernel
theorem dX10_lag_58 : decode cX10_lag 58 = .ok (.getfield 10, 3) := by decide +kernel
theorem dX10_lag_61 : decode cX10_lag 61 = .ok (.iload_n 1, 1) := by decide +kernel
theorem dX10_lag_62 : decode cX10_lag 62 = .ok (.iload_n 2, 1) := by decide +kernel
theorem dX10_lag_63 : decode cX10_lag 63 = .ok (.invokevirtual 354, 3) := by decide +kernel
theorem dX10_lag_66 : decode cX10_lag 66 = .ok (.if_icmp .le 5, 3) := by decide +kernel
theorem dX10_lag_69 : decode cX10_lag 69 = .ok (.iload_n 3, 1) := by decide +kernel
theorem dX10_lag_70 : decode cX10_lag 70 = .ok (.istore_n 2, 1) := by decide +kernel
theorem dX10_lag_71 : decode cX10_lag 71 = .ok (.iinc 3 1, 3) := by decide +kernel
theorem dX10_lag_74 : decode cX10_lag 74 = .ok (.goto (-56), 3) := by decide +kernel
theorem dX10_lag_77 : decode cX10_lag 77 = .ok (.aload_n 0, 1) := by decide +kernel
theorem dX10_lag_78 : decode cX10_lag 78 = .ok (.iload_n 2, 1) := by decide +kernel
theorem dX10_lag_79 : decode cX10_lag 79 = .ok (.invokevirtual 181, 3) := by decide +kernel
theorem dX10_lag_82 : decode cX10_lag 82 = .ok (.ireturn, 1) := by decide +kernel
abbrev rmX10_lag : Room := { frames := 3, cells := 0, slots := 0, locals := 66 }
set_option maxHeartbeats 4000000 in
set_option maxRecDepth 100000 in
theorem kX10_lag (l : Launch) (D : va_G) (cy : Nat → ClassId) (h0 : Nat) (a0 : Nat → Nat) (a1 : Nat → Nat) (s0 : Rc) (s1 : Rc) (p1 : Int32) (res : Int32 × Rc) (h : fX10_lag p1 s0 s1 = some res) : CI l D cy yX10_lag wsX10_lag rmX10_lag [.ref h0, .int p1] (flat [WX10 cy h0 a0 s0, WX0 cy (a0 0) a1 s1]) (flat [WX10 cy h0 a0 res.2, WX0 cy (a0 0) a1 s1]) res.1 := by
  refine CI.of (cc := cX10_lag) (maxL := 4) (by decide) rfl (Nat.le_of_ble_eq_true rfl) ?_
  intro p e s m args below meth c A QQ ls E hr
  obtain ⟨hx, hb, hml, hown, hts, hK, hN, hP, hD, hA, hl⟩ := E
  have hret : ∀ (pc : Nat) (H : Heap) (locs : List Loc) (ls : Array Slot) (u : Int32 × Rc), u = res → va_P D vwCl (flat [WX10 cy h0 a0 u.2, WX0 cy (a0 0) a1 s1]) H → va_D A (flat [WX10 cy h0 a0 u.2, WX0 cy (a0 0) a1 s1]) → va_S A s.heap H locs → decode cX10_lag pc = .ok (.ireturn, 1) → W p l e rmX10_lag s m args below meth c H locs 0 0 QQ (F0 m pc ls [.int u.1]) := by
    intro pc H locs ls u hu hP hD hS hd; subst hu; exact hr pc H locs ls _ rfl hP hD hS hd
  clear hr
  have hl : lv_has ls 4 [(0, .ref h0), (1, .int p1)] := hl
  have hinX10 : ∀ w ∈ wsX100, w ∈ wsX10_lag := fun _ h => List.mem_cons_of_mem _ (List.mem_append_left _ (List.mem_append_right _ h))
  unfold fX10_lag at h
  suffices key : ∀ (H : Heap) (locs : List Loc), va_P D vwCl (flat [WX10 cy h0 a0 s0, WX0 cy (a0 0) a1 s1]) H → va_S A s.heap H locs → W p l e rmX10_lag s m args below meth c H locs 0 0 QQ (F0 m 0 ls []) from key _ _ hP va_S.rf
  clear hP
  intro H locs hP hS
  refine lv_aload_n hx hb dX10_lag_0 rfl (lv_at hl 0 rfl) ?_
  refine lv_iload_n hx hb dX10_lag_1 rfl (lv_at hl 1 rfl) ?_
  refine ca_z (w' := [WX10 cy h0 a0 s0, WX0 cy (a0 0) a1 s1]) (rn_V (As := [.int p1]) (rest := []) ⟨hx, hb, hml, hown, hts⟩ (kX10_noFarmer l D cy h0 a0 a1 s0 s1 p1 _ rfl H.size) (cwV 1 hts gX10_lag_X10_noFarmer rfl rfl rfl (by decide +kernel) ⟨Nat.le_of_ble_eq_true rfl, Nat.le_of_ble_eq_true rfl⟩) hK hN hP hD [0, 1] rfl rfl (ci := 10) (q0 := 0) rfl rfl rfl rfl hl.1 rfl (Nat.le_of_ble_eq_true rfl) dX10_lag_2 ⟨Nat.le_refl 0, Nat.le_refl 0⟩) hP hD hS hA [0, 1] ⟨rfl, rfl, rfl, rfl⟩ (fun b1 H locs hP hD hS => ?_)
  refine lv_if_eq (tgt := 14) hx hb dX10_lag_5 (by decide) (fun c2 => ?_) (fun c2 => ?_)
  · replace h := (if_pos c2).symm.trans h
    refine lv_iconst (v := 0) hx hb dX10_lag_14 (by decide) ?_
    refine lv_istore_n (lv' := [(2, .int (0 : Int32)), (0, .ref h0), (1, .int p1)]) hx hb dX10_lag_15 rfl hl (by decide) rfl (fun ls hl => ?_)
    refine lv_iconst (v := 1) hx hb dX10_lag_16 (by decide) ?_
    refine lv_istore_n (lv' := [(3, .int (1 : Int32)), (2, .int (0 : Int32)), (0, .ref h0), (1, .int p1)]) hx hb dX10_lag_17 rfl hl (by decide) rfl (fun ls hl => ?_)
    have L18 : ∀ (n : Nat) (q18 : Int32 × Int32) (o : Int32), loopO (fX10_lag_L18 p1 s1) n q18 = some o → ∀ (H : Heap) (locs : List Loc) (ls : Array Slot), lv_has ls 4 [(0, .ref h0), (1, .int p1), (2, .int q18.1), (3, .int q18.2)] → va_P D vwCl (flat [WX10 cy h0 a0 s0, WX0 cy (a0 0) a1 s1]) H → va_D A (flat [WX10 cy h0 a0 s0, WX0 cy (a0 0) a1 s1]) → va_S A s.heap H locs → ∀ (kk77 : ∀ (H : Heap) (locs : List Loc) (ls : Array Slot), lv_has ls 4 [(0, .ref h0), (2, .int o)] → va_P D vwCl (flat [WX10 cy h0 a0 s0, WX0 cy (a0 0) a1 s1]) H → va_D A (flat [WX10 cy h0 a0 s0, WX0 cy (a0 0) a1 s1]) → va_S A s.heap H locs → W p l e rmX10_lag s m args below meth c H locs 0 0 QQ (F0 m 77 ls [])), W p l e rmX10_lag s m args below meth c H locs 0 0 QQ (F0 m 18 ls []) := by
      intro n
      induction n with
      | zero => intro q18 o h; exact absurd h (by rw [loopO_zero]; intro z; cases z)
      | succ n ih =>
        intro q18 o h H locs ls hl hP hD hS kk77
        obtain ⟨w, h, hgo, hst⟩ := loopO_elim h
        unfold fX10_lag_L18 at h
        have J48 : ∀ (y48_2 : Int32) (H : Heap) (locs : List Loc) (ls : Array Slot), lv_has ls 4 [(0, .ref h0), (1, .int p1), (3, .int q18.2), (2, .int y48_2)] → va_P D vwCl (flat [WX10 cy h0 a0 s0, WX0 cy (a0 0) a1 s1]) H → va_D A (flat [WX10 cy h0 a0 s0, WX0 cy (a0 0) a1 s1]) → va_S A s.heap H locs → fX10_lag_J48 p1 s1 q18 y48_2 = some w → W p l e rmX10_lag s m args below meth c H locs 0 0 QQ (F0 m 48 ls []) := by
          intro y48_2 H locs ls hl hP hD hS h
          unfold fX10_lag_J48 at h
          refine lv_aload_n hx hb dX10_lag_48 rfl (lv_at hl 0 rfl) ?_
          refine va_get (D := D) (ci := 10) (v := .ref (a0 0)) (C := RX10) (T := TX10) (N := 19) hx hb hts hinX10 hown hK hP 0 rfl rfl 0 (by decide) (hts (.fieldLink RX10 10 "KneeBench" "bench" "LKneeBench$Bench;") (List.mem_of_getElem? (i := 1) rfl)) (fun _ h9 => h9) rfl dX10_lag_49 ?_
          refine lv_iload_n hx hb dX10_lag_52 rfl (lv_at hl 1 rfl) ?_
          refine lv_iload_n hx hb dX10_lag_53 rfl (lv_at hl 2 rfl) ?_
          obtain ⟨r3, hr3, h⟩ := bd_elim h
          refine ca_i (w' := [WX10 cy h0 a0 s0, WX0 cy (a0 0) a1 s1]) (rn_V (As := [.int p1, .int q18.2]) (rest := []) ⟨hx, hb, hml, hown, hts⟩ (kX0_fitsBy l D cy (a0 0) a1 s1 p1 q18.2 r3 hr3 H.size) (cwV 2 hts gX10_lag_X0_fitsBy rfl rfl rfl (by decide +kernel) ⟨Nat.le_of_ble_eq_true rfl, Nat.le_of_ble_eq_true rfl⟩) hK hN hP hD [1] rfl rfl (ci := 0) (q0 := 1) rfl rfl rfl rfl hl.1 rfl (Nat.le_of_ble_eq_true rfl) dX10_lag_54 ⟨Nat.le_refl 0, Nat.le_refl 0⟩) hP hD hS hA [1] ⟨rfl, rfl, rfl, rfl⟩ (fun H locs hP hD hS => ?_)
          refine lv_aload_n hx hb dX10_lag_57 rfl (lv_at hl 0 rfl) ?_
          refine va_get (D := D) (ci := 10) (v := .ref (a0 0)) (C := RX10) (T := TX10) (N := 19) hx hb hts hinX10 hown hK hP 0 rfl rfl 0 (by decide) (hts (.fieldLink RX10 10 "KneeBench" "bench" "LKneeBench$Bench;") (List.mem_of_getElem? (i := 1) rfl)) (fun _ h9 => h9) rfl dX10_lag_58 ?_
          refine lv_iload_n hx hb dX10_lag_61 rfl (lv_at hl 1 rfl) ?_
          refine lv_iload_n hx hb dX10_lag_62 rfl (lv_at hl 3 rfl) ?_
          obtain ⟨r4, hr4, h⟩ := bd_elim h
          refine ca_i (w' := [WX10 cy h0 a0 s0, WX0 cy (a0 0) a1 s1]) (rn_V (As := [.int p1, .int y48_2]) (rest := [.int r3]) ⟨hx, hb, hml, hown, hts⟩ (kX0_fitsBy l D cy (a0 0) a1 s1 p1 y48_2 r4 hr4 H.size) (cwV 2 hts gX10_lag_X0_fitsBy rfl rfl rfl (by decide +kernel) ⟨Nat.le_of_ble_eq_true rfl, Nat.le_of_ble_eq_true rfl⟩) hK hN hP hD [1] rfl rfl (ci := 0) (q0 := 1) rfl rfl rfl rfl hl.1 rfl (Nat.le_of_ble_eq_true rfl) dX10_lag_63 ⟨Nat.le_refl 0, Nat.le_refl 0⟩) hP hD hS hA [1] ⟨rfl, rfl, rfl, rfl⟩ (fun H locs hP hD hS => ?_)
          refine lv_icmp_le (tgt := 71) hx hb dX10_lag_66 (by decide) (fun c5 => ?_) (fun c5 => ?_)
          · replace h := (if_pos c5).symm.trans h
            refine lv_iinc (v := (q18.2 + (1 : Int32))) (lv' := [(3, .int (q18.2 + (1 : Int32))), (0, .ref h0), (1, .int p1), (2, .int y48_2)]) hx hb dX10_lag_71 hl (k := 2) rfl rfl (by decide) rfl (fun ls hl => ?_)
            refine lv_goto (tgt := 18) hx hb dX10_lag_74 (by decide) ?_
            exact ih _ o (hgo _ (Option.some.inj h).symm) H locs ls (lv_sub hl [1, 2, 3, 0] rfl) hP hD hS kk77
          · replace h := (if_neg c5).symm.trans h
            refine lv_iload_n hx hb dX10_lag_69 rfl (lv_at hl 2 rfl) ?_
            refine lv_istore_n (lv' := [(2, .int q18.2), (0, .ref h0), (1, .int p1), (3, .int q18.2)]) hx hb dX10_lag_70 rfl hl (by decide) rfl (fun ls hl => ?_)
            refine lv_iinc (v := (q18.2 + (1 : Int32))) (lv' := [(3, .int (q18.2 + (1 : Int32))), (2, .int q18.2), (0, .ref h0), (1, .int p1)]) hx hb dX10_lag_71 hl (k := 3) rfl rfl (by decide) rfl (fun ls hl => ?_)
            refine lv_goto (tgt := 18) hx hb dX10_lag_74 (by decide) ?_
            exact ih _ o (hgo _ (Option.some.inj h).symm) H locs ls (lv_sub hl [2, 3, 1, 0] rfl) hP hD hS kk77
        refine lv_iload_n hx hb dX10_lag_18 rfl (lv_at hl 3 rfl) ?_
        refine lv_iconst (v := 3) hx hb dX10_lag_19 (by decide) ?_
        refine lv_icmp_gt (tgt := 77) hx hb dX10_lag_20 (by decide) (fun c6 => ?_) (fun c6 => ?_)
        · replace h := (if_pos c6).symm.trans h
          have eo := hst _ (Option.some.inj h).symm
          subst eo
          exact kk77 H locs ls (lv_sub hl [0, 2] rfl) hP hD hS
        · replace h := (if_neg c6).symm.trans h
          refine lv_aload_n hx hb dX10_lag_23 rfl (lv_at hl 0 rfl) ?_
          refine va_get (D := D) (ci := 10) (v := .ref (a0 0)) (C := RX10) (T := TX10) (N := 19) hx hb hts hinX10 hown hK hP 0 rfl rfl 0 (by decide) (hts (.fieldLink RX10 10 "KneeBench" "bench" "LKneeBench$Bench;") (List.mem_of_getElem? (i := 1) rfl)) (fun _ h9 => h9) rfl dX10_lag_24 ?_
          refine lv_iload_n hx hb dX10_lag_27 rfl (lv_at hl 1 rfl) ?_
          refine lv_iload_n hx hb dX10_lag_28 rfl (lv_at hl 3 rfl) ?_
          refine lv_ineg hx hb dX10_lag_29 ?_
          obtain ⟨r7, hr7, h⟩ := bd_elim h
          refine ca_i (w' := [WX10 cy h0 a0 s0, WX0 cy (a0 0) a1 s1]) (rn_V (As := [.int p1, .int (-q18.2)]) (rest := []) ⟨hx, hb, hml, hown, hts⟩ (kX0_fitsBy l D cy (a0 0) a1 s1 p1 (-q18.2) r7 hr7 H.size) (cwV 2 hts gX10_lag_X0_fitsBy rfl rfl rfl (by decide +kernel) ⟨Nat.le_of_ble_eq_true rfl, Nat.le_of_ble_eq_true rfl⟩) hK hN hP hD [1] rfl rfl (ci := 0) (q0 := 1) rfl rfl rfl rfl hl.1 rfl (Nat.le_of_ble_eq_true rfl) dX10_lag_30 ⟨Nat.le_refl 0, Nat.le_refl 0⟩) hP hD hS hA [1] ⟨rfl, rfl, rfl, rfl⟩ (fun H locs hP hD hS => ?_)
          refine lv_aload_n hx hb dX10_lag_33 rfl (lv_at hl 0 rfl) ?_
          refine va_get (D := D) (ci := 10) (v := .ref (a0 0)) (C := RX10) (T := TX10) (N := 19) hx hb hts hinX10 hown hK hP 0 rfl rfl 0 (by decide) (hts (.fieldLink RX10 10 "KneeBench" "bench" "LKneeBench$Bench;") (List.mem_of_getElem? (i := 1) rfl)) (fun _ h9 => h9) rfl dX10_lag_34 ?_
          refine lv_iload_n hx hb dX10_lag_37 rfl (lv_at hl 1 rfl) ?_
          refine lv_iload_n hx hb dX10_lag_38 rfl (lv_at hl 2 rfl) ?_
          obtain ⟨r8, hr8, h⟩ := bd_elim h
          refine ca_i (w' := [WX10 cy h0 a0 s0, WX0 cy (a0 0) a1 s1]) (rn_V (As := [.int p1, .int q18.1]) (rest := [.int r7]) ⟨hx, hb, hml, hown, hts⟩ (kX0_fitsBy l D cy (a0 0) a1 s1 p1 q18.1 r8 hr8 H.size) (cwV 2 hts gX10_lag_X0_fitsBy rfl rfl rfl (by decide +kernel) ⟨Nat.le_of_ble_eq_true rfl, Nat.le_of_ble_eq_true rfl⟩) hK hN hP hD [1] rfl rfl (ci := 0) (q0 := 1) rfl rfl rfl rfl hl.1 rfl (Nat.le_of_ble_eq_true rfl) dX10_lag_39 ⟨Nat.le_refl 0, Nat.le_refl 0⟩) hP hD hS hA [1] ⟨rfl, rfl, rfl, rfl⟩ (fun H locs hP hD hS => ?_)
          refine lv_icmp_le (tgt := 48) hx hb dX10_lag_42 (by decide) (fun c9 => ?_) (fun c9 => ?_)
          · replace h := (if_pos c9).symm.trans h
            exact J48 q18.1 H locs ls (lv_sub hl [0, 1, 3, 2] rfl) hP hD hS h
          · replace h := (if_neg c9).symm.trans h
            refine lv_iload_n hx hb dX10_lag_45 rfl (lv_at hl 3 rfl) ?_
            refine lv_ineg hx hb dX10_lag_46 ?_
            refine lv_topi (fun x10 ex10 => ?_)
            replace h := lt_use h x10 ex10
            refine lv_istore_n (lv' := [(2, .int x10), (0, .ref h0), (1, .int p1), (3, .int q18.2)]) hx hb dX10_lag_47 rfl hl (by decide) rfl (fun ls hl => ?_)
            exact J48 x10 H locs ls (lv_sub hl [1, 2, 3, 0] rfl) hP hD hS h
    obtain ⟨o18, ho18, h⟩ := bd_elim h
    obtain ⟨n18, hn18⟩ := loopF_some ho18
    refine L18 n18 _ o18 hn18 H locs ls (lv_sub hl [2, 3, 1, 0] rfl) hP hD hS (fun H locs ls hl hP hD hS => ?_)
    refine lv_aload_n hx hb dX10_lag_77 rfl (lv_at hl 0 rfl) ?_
    refine lv_iload_n hx hb dX10_lag_78 rfl (lv_at hl 1 rfl) ?_
    obtain ⟨r11, hr11, h⟩ := lt_elim h
    refine ca_i (w' := [WX10 cy h0 a0 r11.2, WX0 cy (a0 0) a1 s1]) (rn_V (As := [.int o18]) (rest := []) ⟨hx, hb, hml, hown, hts⟩ (kX10_answer l D cy h0 a0 s0 o18 r11 hr11.symm H.size) (cwV 1 hts gX10_lag_X10_answer rfl rfl rfl (by decide +kernel) ⟨Nat.le_of_ble_eq_true rfl, Nat.le_of_ble_eq_true rfl⟩) hK hN hP hD [0] rfl rfl (ci := 10) (q0 := 0) rfl rfl rfl rfl hl.1 rfl (Nat.le_of_ble_eq_true rfl) dX10_lag_79 ⟨Nat.le_refl 0, Nat.le_refl 0⟩) hP hD hS hA [0] ⟨rfl, rfl, rfl, rfl⟩ (fun H locs hP hD hS => ?_)
    exact hret 82 H locs ls (r11.1, r11.2) (Option.some.inj h) hP hD hS dX10_lag_82
  · replace h := (if_neg c2).symm.trans h
    refine lv_aload_n hx hb dX10_lag_8 rfl (lv_at hl 0 rfl) ?_
    refine lv_iconst (v := 1) hx hb dX10_lag_9 (by decide) ?_
    obtain ⟨r12, hr12, h⟩ := lt_elim h
    refine ca_i (w' := [WX10 cy h0 a0 r12.2, WX0 cy (a0 0) a1 s1]) (rn_V (As := [.int (1 : Int32)]) (rest := []) ⟨hx, hb, hml, hown, hts⟩ (kX10_refuse l D cy h0 a0 s0 (1 : Int32) r12 hr12.symm H.size) (cwV 1 hts gX10_lag_X10_refuse rfl rfl rfl (by decide +kernel) ⟨Nat.le_of_ble_eq_true rfl, Nat.le_of_ble_eq_true rfl⟩) hK hN hP hD [0] rfl rfl (ci := 10) (q0 := 0) rfl rfl rfl rfl hl.1 rfl (Nat.le_of_ble_eq_true rfl) dX10_lag_10 ⟨Nat.le_refl 0, Nat.le_refl 0⟩) hP hD hS hA [0] ⟨rfl, rfl, rfl, rfl⟩ (fun H locs hP hD hS => ?_)
    exact hret 13 H locs ls (r12.1, r12.2) (Option.some.inj h) hP hD hS dX10_lag_13
theorem dX10_noDay_0 : decode cX10_noDay 0 = .ok (.iload_n 1, 1) := by decide +kernel
theorem dX10_noDay_1 : decode cX10_noDay 1 = .ok (.ifCond .lt 14, 3) := by decide +kernel
theorem dX10_noDay_4 : decode cX10_noDay 4 = .ok (.iload_n 1, 1) := by decide +kernel
theorem dX10_noDay_5 : decode cX10_noDay 5 = .ok (.aload_n 0, 1) := by decide +kernel
theorem dX10_noDay_6 : decode cX10_noDay 6 = .ok (.getfield 10, 3) := by decide +kernel
theorem dX10_noDay_9 : decode cX10_noDay 9 = .ok (.getfield 197, 3) := by decide +kernel
theorem dX10_noDay_12 : decode cX10_noDay 12 = .ok (.if_icmp .lt 7, 3) := by decide +kernel
theorem dX10_noDay_15 : decode cX10_noDay 15 = .ok (.iconst 1, 1) := by decide +kernel
theorem dX10_noDay_16 : decode cX10_noDay 16 = .ok (.goto 4, 3) := by decide +kernel
theorem dX10_noDay_19 : decode cX10_noDay 19 = .ok (.iconst 0, 1) := by decide +kernel
theorem dX10_noDay_20 : decode cX10_noDay 20 = .ok (.ireturn, 1) := by decide +kernel
abbrev rmX10_noDay : Room := { frames := 0, cells := 0, slots := 0, locals := 0 }
set_option maxHeartbeats 4000000 in
set_option maxRecDepth 100000 in
theorem kX10_noDay (l : Launch) (D : va_G) (cy : Nat → ClassId) (h0 : Nat) (a0 : Nat → Nat) (a1 : Nat → Nat) (s0 : Rc) (s1 : Rc) (p1 : Int32) (res : Int32) (h : fX10_noDay p1 s0 s1 = res) : CZ l D cy yX10_noDay wsX10_noDay rmX10_noDay [.ref h0, .int p1] (flat [WX10 cy h0 a0 s0, WX0 cy (a0 0) a1 s1]) (flat [WX10 cy h0 a0 s0, WX0 cy (a0 0) a1 s1]) res := by
  refine CZ.of (cc := cX10_noDay) (maxL := 2) (by decide) rfl (Nat.le_of_ble_eq_true rfl) ?_
  intro p e s m args below meth c A QQ ls E hr
  obtain ⟨hx, hb, hml, hown, hts, hK, hN, hP, hD, hA, hl⟩ := E
  have hret : ∀ (pc : Nat) (H : Heap) (locs : List Loc) (ls : Array Slot) (u : Int32), u = res → va_P D vwCl (flat [WX10 cy h0 a0 s0, WX0 cy (a0 0) a1 s1]) H → va_D A (flat [WX10 cy h0 a0 s0, WX0 cy (a0 0) a1 s1]) → va_S A s.heap H locs → isb u = true → decode cX10_noDay pc = .ok (.ireturn, 1) → W p l e rmX10_noDay s m args below meth c H locs 0 0 QQ (F0 m pc ls [.int u]) := by
    intro pc H locs ls u hu hP hD hS hz hd; subst hu; exact hr pc H locs ls _ rfl hP hD hS hz hd
  clear hr
  have hl : lv_has ls 2 [(0, .ref h0), (1, .int p1)] := hl
  have hinX0 : ∀ w ∈ wsX00, w ∈ wsX10_noDay := fun _ h => List.mem_cons_of_mem _ (List.mem_append_right _ h)
  have hinX10 : ∀ w ∈ wsX100, w ∈ wsX10_noDay := fun _ h => List.mem_cons_of_mem _ (List.mem_append_left _ (List.mem_append_right _ h))
  unfold fX10_noDay at h
  suffices key : ∀ (H : Heap) (locs : List Loc), va_P D vwCl (flat [WX10 cy h0 a0 s0, WX0 cy (a0 0) a1 s1]) H → va_S A s.heap H locs → W p l e rmX10_noDay s m args below meth c H locs 0 0 QQ (F0 m 0 ls []) from key _ _ hP va_S.rf
  clear hP
  intro H locs hP hS
  refine lv_iload_n hx hb dX10_noDay_0 rfl (lv_at hl 1 rfl) ?_
  refine lv_if_lt (tgt := 15) hx hb dX10_noDay_1 (by decide) (fun c1 => ?_) (fun c1 => ?_)
  · replace h := (if_pos c1).symm.trans h
    refine lv_iconst (v := 1) hx hb dX10_noDay_15 (by decide) ?_
    refine lv_goto (tgt := 20) hx hb dX10_noDay_16 (by decide) ?_
    exact hret 20 H locs ls (1 : Int32) h hP hD hS (show isb (1 : Int32) = true by decide) dX10_noDay_20
  · replace h := (if_neg c1).symm.trans h
    refine lv_iload_n hx hb dX10_noDay_4 rfl (lv_at hl 1 rfl) ?_
    refine lv_aload_n hx hb dX10_noDay_5 rfl (lv_at hl 0 rfl) ?_
    refine va_get (D := D) (ci := 10) (v := .ref (a0 0)) (C := RX10) (T := TX10) (N := 19) hx hb hts hinX10 hown hK hP 0 rfl rfl 0 (by decide) (hts (.fieldLink RX10 10 "KneeBench" "bench" "LKneeBench$Bench;") (List.mem_of_getElem? (i := 1) rfl)) (fun _ h9 => h9) rfl dX10_noDay_6 ?_
    refine va_getN (D := D) (ci := 0) (v := .int (gi s1 9)) (C := RX0) (T := TX0) (N := 14) hx hb hts hinX0 hown hK hP 1 rfl rfl 9 (by decide) (NW.fld hN 19 rfl _) (fun _ h9 => h9) rfl dX10_noDay_9 ?_
    refine lv_icmp_lt (tgt := 19) hx hb dX10_noDay_12 (by decide) (fun c2 => ?_) (fun c2 => ?_)
    · replace h := (if_pos c2).symm.trans h
      refine lv_iconst (v := 0) hx hb dX10_noDay_19 (by decide) ?_
      exact hret 20 H locs ls (0 : Int32) h hP hD hS (show isb (0 : Int32) = true by decide) dX10_noDay_20
    · replace h := (if_neg c2).symm.trans h
      refine lv_iconst (v := 1) hx hb dX10_noDay_15 (by decide) ?_
      refine lv_goto (tgt := 20) hx hb dX10_noDay_16 (by decide) ?_
      exact hret 20 H locs ls (1 : Int32) h hP hD hS (show isb (1 : Int32) = true by decide) dX10_noDay_20
set_option maxRecDepth 20000 in
theorem ggX10_learn_X10_noDay : GoodIn wsX10_learn wsX10_noDay := goodIn_r _ [6, 1, 54, 55, 56, 57, 58, 59, 60, 61, 62, 63, 64, 65, 66, 67, 68, 69, 70, 71, 72, 73, 74, 75, 76, 77, 78, 79, 80, 81, 82, 83, 84, 85, 86] (by decide +kernel) (by decide +kernel)
set_option maxRecDepth 20000 in
theorem gX10_learn_X10_noDay : GoodIn wsX10_learn (wsV RX10 247 RX10 yX10_noDay wsX10_noDay) := goodIn_app (goodIn_of _ (by decide +kernel)) ggX10_learn_X10_noDay
set_option maxRecDepth 20000 in
theorem ggX10_learn_X10_refuse : GoodIn wsX10_learn wsX10_refuse := goodIn_r _ [10, 11, 54, 55, 56, 57, 58, 59, 60, 61, 62, 63, 64, 65, 66, 67, 68, 69, 70, 71, 72] (by decide +kernel) (by decide +kernel)
set_option maxRecDepth 20000 in
theorem gX10_learn_X10_refuse : GoodIn wsX10_learn (wsV RX10 139 RX10 yX10_refuse wsX10_refuse) := goodIn_app (goodIn_of _ (by decide +kernel)) ggX10_learn_X10_refuse
set_option maxRecDepth 20000 in
theorem ggX10_learn_X0_learnOf : GoodIn wsX10_learn wsX0_learnOf := goodIn_r _ [16, 17, 18, 19, 20, 21, 22, 23, 24, 25, 15, 26, 27, 28, 29, 30, 31, 32, 33, 34, 35, 36, 37, 38, 39, 40, 41, 42, 43, 44, 45, 46, 47, 48, 49, 73, 74, 75, 76, 77, 78, 79, 80, 81, 82, 83, 84, 85, 86] (by decide +kernel) (by decide +kernel)
set_option maxRecDepth 20000 in
theorem gX10_learn_X0_learnOf : GoodIn wsX10_learn (wsV RX10 318 RX0 yX0_learnOf wsX0_learnOf) := goodIn_app (goodIn_of _ (by decide +kernel)) ggX10_learn_X0_learnOf
set_option maxRecDepth 20000 in
theorem ggX10_learn_X10_answer : GoodIn wsX10_learn wsX10_answer := goodIn_r _ [53, 11, 54, 55, 56, 57, 58, 59, 60, 61, 62, 63, 64, 65, 66, 67, 68, 69, 70, 71, 72] (by decide +kernel) (by decide +kernel)
set_option maxRecDepth 20000 in
theorem gX10_learn_X10_answer : GoodIn wsX10_learn (wsV RX10 181 RX10 yX10_answer wsX10_answer) := goodIn_app (goodIn_of _ (by decide +kernel)) ggX10_learn_X10_answer
theorem dX10_learn_0 : decode cX10_learn 0 = .ok (.aload_n 0, 1) := by decide +kernel
theorem dX10_learn_1 : decode cX10_learn 1 = .ok (.iload_n 1, 1) := by decide +kernel
theorem dX10_learn_2 : decode cX10_learn 2 = .ok (.invokevirtual 247, 3) := by decide +kernel
theorem dX10_learn_5 : decode cX10_learn 5 = .ok (.ifCond .eq 9, 3) := by decide +kernel
theorem dX10_learn_8 : decode cX10_learn 8 = .ok (.aload_n 0, 1) := by decide +kernel
theorem dX10_learn_9 : decode cX10_learn 9 = .ok (.iconst 1, 1) := by decide +kernel
theorem dX10_learn_10 : decode cX10_learn 10 = .ok (.invokevirtual 139, 3) := by decide +kernel
theorem dX10_learn_13 : decode cX10_learn 13 = .ok (.ireturn, 1) := by decide +kernel
theorem dX10_learn_14 : decode cX10_learn 14 = .ok (.aload_n 0, 1) := by decide +kernel
theorem dX10_learn_15 : decode cX10_learn 15 = .ok (.aload_n 0, 1) := by decide +kernel
theorem dX10_learn_16 : decode cX10_learn 16 = .ok (.getfield 10, 3) := by decide +kernel
theorem dX10_learn_19 : decode cX10_learn 19 = .ok (.iload_n 1, 1) := by decide +kernel
theorem dX10_learn_20 : decode cX10_learn 20 = .ok (.invokevirtual 318, 3) := by decide +kernel
theorem dX10_learn_23 : decode cX10_learn 23 = .ok (.invokevirtual 181, 3) := by decide +kernel
theorem dX10_learn_26 : decode cX10_learn 26 = .ok (.ireturn, 1) := by decide +kernel
abbrev rmX10_learn : Room := { frames := 3, cells := 0, slots := 0, locals := 69 }
set_option maxHeartbeats 4000000 in
set_option maxRecDepth 100000 in
theorem kX10_learn (l : Launch) (D : va_G) (cy : Nat → ClassId) (h0 : Nat) (a0 : Nat → Nat) (a1 : Nat → Nat) (s0 : Rc) (s1 : Rc) (p1 : Int32) (res : Int32 × Rc × Rc) (h : fX10_learn p1 s0 s1 = some res) : CI l D cy yX10_learn wsX10_learn rmX10_learn [.ref h0, .int p1] (flat [WX10 cy h0 a0 s0, WX0 cy (a0 0) a1 s1]) (flat [WX10 cy h0 a0 res.2.1, WX0 cy (a0 0) a1 res.2.2]) res.1 := by
  refine CI.of (cc := cX10_learn) (maxL := 2) (by decide) rfl (Nat.le_of_ble_eq_true rfl) ?_
  intro p e s m args below meth c A QQ ls E hr
  obtain ⟨hx, hb, hml, hown, hts, hK, hN, hP, hD, hA, hl⟩ := E
  have hret : ∀ (pc : Nat) (H : Heap) (locs : List Loc) (ls : Array Slot) (u : Int32 × Rc × Rc), u = res → va_P D vwCl (flat [WX10 cy h0 a0 u.2.1, WX0 cy (a0 0) a1 u.2.2]) H → va_D A (flat [WX10 cy h0 a0 u.2.1, WX0 cy (a0 0) a1 u.2.2]) → va_S A s.heap H locs → decode cX10_learn pc = .ok (.ireturn, 1) → W p l e rmX10_learn s m args below meth c H locs 0 0 QQ (F0 m pc ls [.int u.1]) := by
    intro pc H locs ls u hu hP hD hS hd; subst hu; exact hr pc H locs ls _ rfl hP hD hS hd
  clear hr
  have hl : lv_has ls 2 [(0, .ref h0), (1, .int p1)] := hl
  have hinX10 : ∀ w ∈ wsX100, w ∈ wsX10_learn := fun _ h => List.mem_cons_of_mem _ (List.mem_append_left _ (List.mem_append_right _ h))
  unfold fX10_learn at h
  suffices key : ∀ (H : Heap) (locs : List Loc), va_P D vwCl (flat [WX10 cy h0 a0 s0, WX0 cy (a0 0) a1 s1]) H → va_S A s.heap H locs → W p l e rmX10_learn s m args below meth c H locs 0 0 QQ (F0 m 0 ls []) from key _ _ hP va_S.rf
  clear hP
  intro H locs hP hS
  refine lv_aload_n hx hb dX10_learn_0 rfl (lv_at hl 0 rfl) ?_
  refine lv_iload_n hx hb dX10_learn_1 rfl (lv_at hl 1 rfl) ?_
  refine ca_z (w' := [WX10 cy h0 a0 s0, WX0 cy (a0 0) a1 s1]) (rn_V (As := [.int p1]) (rest := []) ⟨hx, hb, hml, hown, hts⟩ (kX10_noDay l D cy h0 a0 a1 s0 s1 p1 _ rfl H.size) (cwV 1 hts gX10_learn_X10_noDay rfl rfl rfl (by decide +kernel) ⟨Nat.le_of_ble_eq_true rfl, Nat.le_of_ble_eq_true rfl⟩) hK hN hP hD [0, 1] rfl rfl (ci := 10) (q0 := 0) rfl rfl rfl rfl hl.1 rfl (Nat.le_of_ble_eq_true rfl) dX10_learn_2 ⟨Nat.le_refl 0, Nat.le_refl 0⟩) hP hD hS hA [0, 1] ⟨rfl, rfl, rfl, rfl⟩ (fun b1 H locs hP hD hS => ?_)
  refine lv_if_eq (tgt := 14) hx hb dX10_learn_5 (by decide) (fun c2 => ?_) (fun c2 => ?_)
  · replace h := (if_pos c2).symm.trans h
    refine lv_aload_n hx hb dX10_learn_14 rfl (lv_at hl 0 rfl) ?_
    refine lv_aload_n hx hb dX10_learn_15 rfl (lv_at hl 0 rfl) ?_
    refine va_get (D := D) (ci := 10) (v := .ref (a0 0)) (C := RX10) (T := TX10) (N := 19) hx hb hts hinX10 hown hK hP 0 rfl rfl 0 (by decide) (hts (.fieldLink RX10 10 "KneeBench" "bench" "LKneeBench$Bench;") (List.mem_of_getElem? (i := 1) rfl)) (fun _ h9 => h9) rfl dX10_learn_16 ?_
    refine lv_iload_n hx hb dX10_learn_19 rfl (lv_at hl 1 rfl) ?_
    obtain ⟨r3, hr3, h⟩ := bd_elim h
    refine ca_i (w' := [WX10 cy h0 a0 s0, WX0 cy (a0 0) a1 r3.2]) (rn_V (As := [.int p1]) (rest := [.ref h0]) ⟨hx, hb, hml, hown, hts⟩ (kX0_learnOf l D cy (a0 0) a1 s1 p1 r3 hr3 H.size) (cwV 1 hts gX10_learn_X0_learnOf rfl rfl rfl (by decide +kernel) ⟨Nat.le_of_ble_eq_true rfl, Nat.le_of_ble_eq_true rfl⟩) hK hN hP hD [1] rfl rfl (ci := 0) (q0 := 1) rfl rfl rfl rfl hl.1 rfl (Nat.le_of_ble_eq_true rfl) dX10_learn_20 ⟨Nat.le_refl 0, Nat.le_refl 0⟩) hP hD hS hA [1] ⟨rfl, rfl, rfl, rfl⟩ (fun H locs hP hD hS => ?_)
    obtain ⟨r4, hr4, h⟩ := lt_elim h
    refine ca_i (w' := [WX10 cy h0 a0 r4.2, WX0 cy (a0 0) a1 r3.2]) (rn_V (As := [.int r3.1]) (rest := []) ⟨hx, hb, hml, hown, hts⟩ (kX10_answer l D cy h0 a0 s0 r3.1 r4 hr4.symm H.size) (cwV 1 hts gX10_learn_X10_answer rfl rfl rfl (by decide +kernel) ⟨Nat.le_of_ble_eq_true rfl, Nat.le_of_ble_eq_true rfl⟩) hK hN hP hD [0] rfl rfl (ci := 10) (q0 := 0) rfl rfl rfl rfl hl.1 rfl (Nat.le_of_ble_eq_true rfl) dX10_learn_23 ⟨Nat.le_refl 0, Nat.le_refl 0⟩) hP hD hS hA [0] ⟨rfl, rfl, rfl, rfl⟩ (fun H locs hP hD hS => ?_)
    exact hret 26 H locs ls (r4.1, r4.2, r3.2) (Option.some.inj h) hP hD hS dX10_learn_26
  · replace h := (if_neg c2).symm.trans h
    refine lv_aload_n hx hb dX10_learn_8 rfl (lv_at hl 0 rfl) ?_
    refine lv_iconst (v := 1) hx hb dX10_learn_9 (by decide) ?_
    obtain ⟨r5, hr5, h⟩ := lt_elim h
    refine ca_i (w' := [WX10 cy h0 a0 r5.2, WX0 cy (a0 0) a1 s1]) (rn_V (As := [.int (1 : Int32)]) (rest := []) ⟨hx, hb, hml, hown, hts⟩ (kX10_refuse l D cy h0 a0 s0 (1 : Int32) r5 hr5.symm H.size) (cwV 1 hts gX10_learn_X10_refuse rfl rfl rfl (by decide +kernel) ⟨Nat.le_of_ble_eq_true rfl, Nat.le_of_ble_eq_true rfl⟩) hK hN hP hD [0] rfl rfl (ci := 10) (q0 := 0) rfl rfl rfl rfl hl.1 rfl (Nat.le_of_ble_eq_true rfl) dX10_learn_10 ⟨Nat.le_refl 0, Nat.le_refl 0⟩) hP hD hS hA [0] ⟨rfl, rfl, rfl, rfl⟩ (fun H locs hP hD hS => ?_)
    exact hret 13 H locs ls (r5.1, r5.2, s1) (Option.some.inj h) hP hD hS dX10_learn_13
set_option maxRecDepth 20000 in
theorem ggX10_lie_X10_noFarmer : GoodIn wsX10_lie wsX10_noFarmer := goodIn_r _ [6, 1, 30, 31, 32, 33, 34, 35, 36, 37, 38, 39, 40, 41, 42, 43, 44, 45, 46, 47, 48, 49, 50, 51, 52, 53, 54, 55, 56, 57, 58, 59, 60, 61, 62] (by decide +kernel) (by decide +kernel)
set_option maxRecDepth 20000 in
theorem gX10_lie_X10_noFarmer : GoodIn wsX10_lie (wsV RX10 215 RX10 yX10_noFarmer wsX10_noFarmer) := goodIn_app (goodIn_of _ (by decide +kernel)) ggX10_lie_X10_noFarmer
set_option maxRecDepth 20000 in
theorem ggX10_lie_X10_noDay : GoodIn wsX10_lie wsX10_noDay := goodIn_r _ [10, 1, 30, 31, 32, 33, 34, 35, 36, 37, 38, 39, 40, 41, 42, 43, 44, 45, 46, 47, 48, 49, 50, 51, 52, 53, 54, 55, 56, 57, 58, 59, 60, 61, 62] (by decide +kernel) (by decide +kernel)
set_option maxRecDepth 20000 in
theorem gX10_lie_X10_noDay : GoodIn wsX10_lie (wsV RX10 247 RX10 yX10_noDay wsX10_noDay) := goodIn_app (goodIn_of _ (by decide +kernel)) ggX10_lie_X10_noDay
set_option maxRecDepth 20000 in
theorem ggX10_lie_X10_refuse : GoodIn wsX10_lie wsX10_refuse := goodIn_r _ [14, 15, 30, 31, 32, 33, 34, 35, 36, 37, 38, 39, 40, 41, 42, 43, 44, 45, 46, 47, 48] (by decide +kernel) (by decide +kernel)
set_option maxRecDepth 20000 in
theorem gX10_lie_X10_refuse : GoodIn wsX10_lie (wsV RX10 139 RX10 yX10_refuse wsX10_refuse) := goodIn_app (goodIn_of _ (by decide +kernel)) ggX10_lie_X10_refuse
set_option maxRecDepth 20000 in
theorem ggX10_lie_X0_turn : GoodIn wsX10_lie wsX0_turn := goodIn_r _ [20, 21, 49, 50, 51, 52, 53, 54, 55, 56, 57, 58, 59, 60, 61, 62] (by decide +kernel) (by decide +kernel)
set_option maxRecDepth 20000 in
theorem gX10_lie_X0_turn : GoodIn wsX10_lie (wsV RX10 260 RX0 yX0_turn wsX0_turn) := goodIn_app (goodIn_of _ (by decide +kernel)) ggX10_lie_X0_turn
set_option maxRecDepth 20000 in
theorem ggX10_lie_X0_feltOn : GoodIn wsX10_lie wsX0_feltOn := goodIn_r _ [25, 21, 49, 50, 51, 52, 53, 54, 55, 56, 57, 58, 59, 60, 61, 62] (by decide +kernel) (by decide +kernel)
set_option maxRecDepth 20000 in
theorem gX10_lie_X0_feltOn : GoodIn wsX10_lie (wsV RX10 257 RX0 yX0_feltOn wsX0_feltOn) := goodIn_app (goodIn_of _ (by decide +kernel)) ggX10_lie_X0_feltOn
set_option maxRecDepth 20000 in
theorem ggX10_lie_X10_answer : GoodIn wsX10_lie wsX10_answer := goodIn_r _ [29, 15, 30, 31, 32, 33, 34, 35, 36, 37, 38, 39, 40, 41, 42, 43, 44, 45, 46, 47, 48] (by decide +kernel) (by decide +kernel)
set_option maxRecDepth 20000 in
theorem gX10_lie_X10_answer : GoodIn wsX10_lie (wsV RX10 181 RX10 yX10_answer wsX10_answer) := goodIn_app (goodIn_of _ (by decide +kernel)) ggX10_lie_X10_answer
theorem dX10_lie_0 : decode cX10_lie 0 = .ok (.aload_n 0, 1) := by decide +kernel
theorem dX10_lie_1 : decode cX10_lie 1 = .ok (.iload_n 1, 1) := by decide +kernel
theorem dX10_lie_2 : decode cX10_lie 2 = .ok (.invokevirtual 215, 3) := by decide +kernel
theorem dX10_lie_5 : decode cX10_lie 5 = .ok (.ifCond .ne 11, 3) := by decide +kernel
theorem dX10_lie_8 : decode cX10_lie 8 = .ok (.aload_n 0, 1) := by decide +kernel
theorem dX10_lie_9 : decode cX10_lie 9 = .ok (.iload_n 2, 1) := by decide +kernel
theorem dX10_lie_10 : decode cX10_lie 10 = .ok (.invokevirtual 247, 3) := by decide +kernel
theorem dX10_lie_13 : decode cX10_lie 13 = .ok (.ifCond .eq 9, 3) := by decide +kernel
theorem dX10_lie_16 : decode cX10_lie 16 = .ok (.aload_n 0, 1) := by decide +kernel
theorem dX10_lie_17 : decode cX10_lie 17 = .ok (.iconst 1, 1) := by decide +kernel
theorem dX10_lie_18 : decode cX10_lie 18 = .ok (.invokevirtual 139, 3) := by decide +kernel
theorem dX10_lie_21 : decode cX10_lie 21 = .ok (.ireturn, 1) := by decide +kernel
theorem dX10_lie_22 : decode cX10_lie 22 = .ok (.aload_n 0, 1) := by decide +kernel
theorem dX10_lie_23 : decode cX10_lie 23 = .ok (.getfield 10, 3) := by decide +kernel
theorem dX10_lie_26 : decode cX10_lie 26 = .ok (.iload_n 1, 1) := by decide +kernel
theorem dX10_lie_27 : decode cX10_lie 27 = .ok (.iload_n 2, 1) := by decide +kernel
theorem dX10_lie_28 : decode cX10_lie 28 = .ok (.invokevirtual 260, 3) := by decide +kernel
theorem dX10_lie_31 : decode cX10_lie 31 = .ok (.aload_n 0, 1) := by decide +kernel
theorem dX10_lie_32 : decode cX10_lie 32 = .ok (.aload_n 0, 1) := by decide +kernel
theorem dX10_lie_33 : decode cX10_lie 33 = .ok (.getfield 10, 3) := by decide +kernel
theorem dX10_lie_36 : decode cX10_lie 36 = .ok (.iload_n 1, 1) := by decide +kernel
theorem dX10_lie_37 : decode cX10_lie 37 = .ok (.iload_n 2, 1) := by decide +kernel
theorem dX10_lie_38 : decode cX10_lie 38 = .ok (.invokevirtual 257, 3) := by decide +kernel
theorem dX10_lie_41 : decode cX10_lie 41 = .ok (.invokevirtual 181, 3) := by decide +kernel
theorem dX10_lie_44 : decode cX10_lie 44 = .ok (.ireturn, 1) := by decide +kernel
abbrev rmX10_lie : Room := { frames := 1, cells := 0, slots := 0, locals := 22 }
set_option maxHeartbeats 4000000 in
set_option maxRecDepth 100000 in
theorem kX10_lie (l : Launch) (D : va_G) (cy : Nat → ClassId) (h0 : Nat) (a0 : Nat → Nat) (a1 : Nat → Nat) (s0 : Rc) (s1 : Rc) (p1 : Int32) (p2 : Int32) (res : Int32 × Rc × Rc) (h : fX10_lie p1 p2 s0 s1 = some res) : CI l D cy yX10_lie wsX10_lie rmX10_lie [.ref h0, .int p1, .int p2] (flat [WX10 cy h0 a0 s0, WX0 cy (a0 0) a1 s1]) (flat [WX10 cy h0 a0 res.2.1, WX0 cy (a0 0) a1 res.2.2]) res.1 := by
  refine CI.of (cc := cX10_lie) (maxL := 3) (by decide) rfl (Nat.le_of_ble_eq_true rfl) ?_
  intro p e s m args below meth c A QQ ls E hr
  obtain ⟨hx, hb, hml, hown, hts, hK, hN, hP, hD, hA, hl⟩ := E
  have hret : ∀ (pc : Nat) (H : Heap) (locs : List Loc) (ls : Array Slot) (u : Int32 × Rc × Rc), u = res → va_P D vwCl (flat [WX10 cy h0 a0 u.2.1, WX0 cy (a0 0) a1 u.2.2]) H → va_D A (flat [WX10 cy h0 a0 u.2.1, WX0 cy (a0 0) a1 u.2.2]) → va_S A s.heap H locs → decode cX10_lie pc = .ok (.ireturn, 1) → W p l e rmX10_lie s m args below meth c H locs 0 0 QQ (F0 m pc ls [.int u.1]) := by
    intro pc H locs ls u hu hP hD hS hd; subst hu; exact hr pc H locs ls _ rfl hP hD hS hd
  clear hr
  have hl : lv_has ls 3 [(0, .ref h0), (1, .int p1), (2, .int p2)] := hl
  have hinX10 : ∀ w ∈ wsX100, w ∈ wsX10_lie := fun _ h => List.mem_cons_of_mem _ (List.mem_append_left _ (List.mem_append_right _ h))
  unfold fX10_lie at h
  suffices key : ∀ (H : Heap) (locs : List Loc), va_P D vwCl (flat [WX10 cy h0 a0 s0, WX0 cy (a0 0) a1 s1]) H → va_S A s.heap H locs → W p l e rmX10_lie s m args below meth c H locs 0 0 QQ (F0 m 0 ls []) from key _ _ hP va_S.rf
  clear hP
  intro H locs hP hS
  refine lv_aload_n hx hb dX10_lie_0 rfl (lv_at hl 0 rfl) ?_
  refine lv_iload_n hx hb dX10_lie_1 rfl (lv_at hl 1 rfl) ?_
  refine ca_z (w' := [WX10 cy h0 a0 s0, WX0 cy (a0 0) a1 s1]) (rn_V (As := [.int p1]) (rest := []) ⟨hx, hb, hml, hown, hts⟩ (kX10_noFarmer l D cy h0 a0 a1 s0 s1 p1 _ rfl H.size) (cwV 1 hts gX10_lie_X10_noFarmer rfl rfl rfl (by decide +kernel) ⟨Nat.le_of_ble_eq_true rfl, Nat.le_of_ble_eq_true rfl⟩) hK hN hP hD [0, 1] rfl rfl (ci := 10) (q0 := 0) rfl rfl rfl rfl hl.1 rfl (Nat.le_of_ble_eq_true rfl) dX10_lie_2 ⟨Nat.le_refl 0, Nat.le_refl 0⟩) hP hD hS hA [0, 1] ⟨rfl, rfl, rfl, rfl⟩ (fun b1 H locs hP hD hS => ?_)
  refine lv_if_ne (tgt := 16) hx hb dX10_lie_5 (by decide) (fun c2 => ?_) (fun c2 => ?_)
  · replace h := (if_neg c2).symm.trans h
    refine lv_aload_n hx hb dX10_lie_16 rfl (lv_at hl 0 rfl) ?_
    refine lv_iconst (v := 1) hx hb dX10_lie_17 (by decide) ?_
    obtain ⟨r3, hr3, h⟩ := lt_elim h
    refine ca_i (w' := [WX10 cy h0 a0 r3.2, WX0 cy (a0 0) a1 s1]) (rn_V (As := [.int (1 : Int32)]) (rest := []) ⟨hx, hb, hml, hown, hts⟩ (kX10_refuse l D cy h0 a0 s0 (1 : Int32) r3 hr3.symm H.size) (cwV 1 hts gX10_lie_X10_refuse rfl rfl rfl (by decide +kernel) ⟨Nat.le_of_ble_eq_true rfl, Nat.le_of_ble_eq_true rfl⟩) hK hN hP hD [0] rfl rfl (ci := 10) (q0 := 0) rfl rfl rfl rfl hl.1 rfl (Nat.le_of_ble_eq_true rfl) dX10_lie_18 ⟨Nat.le_refl 0, Nat.le_refl 0⟩) hP hD hS hA [0] ⟨rfl, rfl, rfl, rfl⟩ (fun H locs hP hD hS => ?_)
    exact hret 21 H locs ls (r3.1, r3.2, s1) (Option.some.inj h) hP hD hS dX10_lie_21
  · replace h := (if_pos c2).symm.trans h
    refine lv_aload_n hx hb dX10_lie_8 rfl (lv_at hl 0 rfl) ?_
    refine lv_iload_n hx hb dX10_lie_9 rfl (lv_at hl 2 rfl) ?_
    refine ca_z (w' := [WX10 cy h0 a0 s0, WX0 cy (a0 0) a1 s1]) (rn_V (As := [.int p2]) (rest := []) ⟨hx, hb, hml, hown, hts⟩ (kX10_noDay l D cy h0 a0 a1 s0 s1 p2 _ rfl H.size) (cwV 1 hts gX10_lie_X10_noDay rfl rfl rfl (by decide +kernel) ⟨Nat.le_of_ble_eq_true rfl, Nat.le_of_ble_eq_true rfl⟩) hK hN hP hD [0, 1] rfl rfl (ci := 10) (q0 := 0) rfl rfl rfl rfl hl.1 rfl (Nat.le_of_ble_eq_true rfl) dX10_lie_10 ⟨Nat.le_refl 0, Nat.le_refl 0⟩) hP hD hS hA [0, 1] ⟨rfl, rfl, rfl, rfl⟩ (fun b4 H locs hP hD hS => ?_)
    refine lv_if_eq (tgt := 22) hx hb dX10_lie_13 (by decide) (fun c5 => ?_) (fun c5 => ?_)
    · replace h := (if_pos c5).symm.trans h
      refine lv_aload_n hx hb dX10_lie_22 rfl (lv_at hl 0 rfl) ?_
      refine va_get (D := D) (ci := 10) (v := .ref (a0 0)) (C := RX10) (T := TX10) (N := 19) hx hb hts hinX10 hown hK hP 0 rfl rfl 0 (by decide) (hts (.fieldLink RX10 10 "KneeBench" "bench" "LKneeBench$Bench;") (List.mem_of_getElem? (i := 1) rfl)) (fun _ h9 => h9) rfl dX10_lie_23 ?_
      refine lv_iload_n hx hb dX10_lie_26 rfl (lv_at hl 1 rfl) ?_
      refine lv_iload_n hx hb dX10_lie_27 rfl (lv_at hl 2 rfl) ?_
      obtain ⟨r6, hr6, h⟩ := bd_elim h
      refine ca_v (w' := [WX10 cy h0 a0 s0, WX0 cy (a0 0) a1 r6]) (rn_V (As := [.int p1, .int p2]) (rest := []) ⟨hx, hb, hml, hown, hts⟩ (kX0_turn l D cy (a0 0) a1 s1 p1 p2 r6 hr6 H.size) (cwV 2 hts gX10_lie_X0_turn rfl rfl rfl (by decide +kernel) ⟨Nat.le_of_ble_eq_true rfl, Nat.le_of_ble_eq_true rfl⟩) hK hN hP hD [1] rfl rfl (ci := 0) (q0 := 1) rfl rfl rfl rfl hl.1 rfl (Nat.le_of_ble_eq_true rfl) dX10_lie_28 ⟨Nat.le_refl 0, Nat.le_refl 0⟩) hP hD hS hA [1] ⟨rfl, rfl, rfl, rfl⟩ (fun H locs hP hD hS => ?_)
      refine lv_aload_n hx hb dX10_lie_31 rfl (lv_at hl 0 rfl) ?_
      refine lv_aload_n hx hb dX10_lie_32 rfl (lv_at hl 0 rfl) ?_
      refine va_get (D := D) (ci := 10) (v := .ref (a0 0)) (C := RX10) (T := TX10) (N := 19) hx hb hts hinX10 hown hK hP 0 rfl rfl 0 (by decide) (hts (.fieldLink RX10 10 "KneeBench" "bench" "LKneeBench$Bench;") (List.mem_of_getElem? (i := 1) rfl)) (fun _ h9 => h9) rfl dX10_lie_33 ?_
      refine lv_iload_n hx hb dX10_lie_36 rfl (lv_at hl 1 rfl) ?_
      refine lv_iload_n hx hb dX10_lie_37 rfl (lv_at hl 2 rfl) ?_
      obtain ⟨r7, hr7, h⟩ := bd_elim h
      refine ca_i (w' := [WX10 cy h0 a0 s0, WX0 cy (a0 0) a1 r6]) (rn_V (As := [.int p1, .int p2]) (rest := [.ref h0]) ⟨hx, hb, hml, hown, hts⟩ (kX0_feltOn l D cy (a0 0) a1 r6 p1 p2 r7 hr7 H.size) (cwV 2 hts gX10_lie_X0_feltOn rfl rfl rfl (by decide +kernel) ⟨Nat.le_of_ble_eq_true rfl, Nat.le_of_ble_eq_true rfl⟩) hK hN hP hD [1] rfl rfl (ci := 0) (q0 := 1) rfl rfl rfl rfl hl.1 rfl (Nat.le_of_ble_eq_true rfl) dX10_lie_38 ⟨Nat.le_refl 0, Nat.le_refl 0⟩) hP hD hS hA [1] ⟨rfl, rfl, rfl, rfl⟩ (fun H locs hP hD hS => ?_)
      obtain ⟨r8, hr8, h⟩ := lt_elim h
      refine ca_i (w' := [WX10 cy h0 a0 r8.2, WX0 cy (a0 0) a1 r6]) (rn_V (As := [.int r7]) (rest := []) ⟨hx, hb, hml, hown, hts⟩ (kX10_answer l D cy h0 a0 s0 r7 r8 hr8.symm H.size) (cwV 1 hts gX10_lie_X10_answer rfl rfl rfl (by decide +kernel) ⟨Nat.le_of_ble_eq_true rfl, Nat.le_of_ble_eq_true rfl⟩) hK hN hP hD [0] rfl rfl (ci := 10) (q0 := 0) rfl rfl rfl rfl hl.1 rfl (Nat.le_of_ble_eq_true rfl) dX10_lie_41 ⟨Nat.le_refl 0, Nat.le_refl 0⟩) hP hD hS hA [0] ⟨rfl, rfl, rfl, rfl⟩ (fun H locs hP hD hS => ?_)
      exact hret 44 H locs ls (r8.1, r8.2, r6) (Option.some.inj h) hP hD hS dX10_lie_44
    · replace h := (if_neg c5).symm.trans h
      refine lv_aload_n hx hb dX10_lie_16 rfl (lv_at hl 0 rfl) ?_
      refine lv_iconst (v := 1) hx hb dX10_lie_17 (by decide) ?_
      obtain ⟨r9, hr9, h⟩ := lt_elim h
      refine ca_i (w' := [WX10 cy h0 a0 r9.2, WX0 cy (a0 0) a1 s1]) (rn_V (As := [.int (1 : Int32)]) (rest := []) ⟨hx, hb, hml, hown, hts⟩ (kX10_refuse l D cy h0 a0 s0 (1 : Int32) r9 hr9.symm H.size) (cwV 1 hts gX10_lie_X10_refuse rfl rfl rfl (by decide +kernel) ⟨Nat.le_of_ble_eq_true rfl, Nat.le_of_ble_eq_true rfl⟩) hK hN hP hD [0] rfl rfl (ci := 10) (q0 := 0) rfl rfl rfl rfl hl.1 rfl (Nat.le_of_ble_eq_true rfl) dX10_lie_18 ⟨Nat.le_refl 0, Nat.le_refl 0⟩) hP hD hS hA [0] ⟨rfl, rfl, rfl, rfl⟩ (fun H locs hP hD hS => ?_)
      exact hret 21 H locs ls (r9.1, r9.2, s1) (Option.some.inj h) hP hD hS dX10_lie_21
set_option maxRecDepth 20000 in
theorem ggX10_lies_X10_outside : GoodIn wsX10_lies wsX10_outside := goodIn_r _ [5] (by decide +kernel) (by decide +kernel)
set_option maxRecDepth 20000 in
theorem gX10_lies_X10_outside : GoodIn wsX10_lies (va_wsS RX10 116 yX10_outside wsX10_outside) := goodIn_app (goodIn_of _ (by decide +kernel)) ggX10_lies_X10_outside
set_option maxRecDepth 20000 in
theorem ggX10_lies_X10_refuse : GoodIn wsX10_lies wsX10_refuse := goodIn_r _ [9, 10, 74, 75, 76, 77, 78, 79, 80, 81, 82, 83, 84, 85, 86, 87, 88, 89, 90, 91, 92] (by decide +kernel) (by decide +kernel)
set_option maxRecDepth 20000 in
theorem gX10_lies_X10_refuse : GoodIn wsX10_lies (wsV RX10 139 RX10 yX10_refuse wsX10_refuse) := goodIn_app (goodIn_of _ (by decide +kernel)) ggX10_lies_X10_refuse
set_option maxRecDepth 20000 in
theorem ggX10_lies_X0_verdictOf : GoodIn wsX10_lies wsX0_verdictOf := goodIn_r _ [15, 16, 17, 18, 19, 14, 20, 21, 22, 23, 24, 25, 26, 27, 28, 29, 30, 31, 32, 33, 34, 35, 36, 37, 38, 39, 40, 41, 42, 43, 44, 45, 46, 47, 48, 49, 50, 51, 52, 53, 4, 54, 55, 56, 57, 58, 59, 93, 94, 95, 96, 97, 98, 99, 100, 101, 102, 103, 104, 105, 106] (by decide +kernel) (by decide +kernel)
set_option maxRecDepth 20000 in
theorem gX10_lies_X0_verdictOf : GoodIn wsX10_lies (wsV RX10 293 RX0 yX0_verdictOf wsX0_verdictOf) := goodIn_app (goodIn_of _ (by decide +kernel)) ggX10_lies_X0_verdictOf
set_option maxRecDepth 20000 in
theorem ggX10_lies_X0_wetOn : GoodIn wsX10_lies wsX0_wetOn := goodIn_r _ [63, 64, 93, 94, 95, 96, 97, 98, 99, 100, 101, 102, 103, 104, 105, 106] (by decide +kernel) (by decide +kernel)
set_option maxRecDepth 20000 in
theorem gX10_lies_X0_wetOn : GoodIn wsX10_lies (wsV RX10 250 RX0 yX0_wetOn wsX0_wetOn) := goodIn_app (goodIn_of _ (by decide +kernel)) ggX10_lies_X0_wetOn
set_option maxRecDepth 20000 in
theorem ggX10_lies_X0_tippersOf : GoodIn wsX10_lies wsX0_tippersOf := goodIn_r _ [68, 16, 21, 17, 18, 19, 14, 20, 22, 23, 24, 25, 26, 27, 28, 29, 30, 31, 32, 33, 34, 35, 36, 37, 38, 39, 40, 41, 42, 43, 44, 45, 46, 47, 48, 49, 50, 51, 52, 53, 4, 54, 55, 56, 57, 58, 59, 93, 94, 95, 96, 97, 98, 99, 100, 101, 102, 103, 104, 105, 106] (by decide +kernel) (by decide +kernel)
set_option maxRecDepth 20000 in
theorem gX10_lies_X0_tippersOf : GoodIn wsX10_lies (wsV RX10 302 RX0 yX0_tippersOf wsX0_tippersOf) := goodIn_app (goodIn_of _ (by decide +kernel)) ggX10_lies_X0_tippersOf
set_option maxRecDepth 20000 in
theorem ggX10_lies_J6_bitCount_0f7a4 : GoodIn wsX10_lies wsJ6_bitCount_0f7a4 := goodIn_r _ [49, 50, 51, 52] (by decide +kernel) (by decide +kernel)
set_option maxRecDepth 20000 in
theorem gX10_lies_J6_bitCount_0f7a4 : GoodIn wsX10_lies (va_wsS RX10 384 yJ6_bitCount_0f7a4 wsJ6_bitCount_0f7a4) := goodIn_app (goodIn_of _ (by decide +kernel)) ggX10_lies_J6_bitCount_0f7a4
set_option maxRecDepth 20000 in
theorem ggX10_lies_X10_answer : GoodIn wsX10_lies wsX10_answer := goodIn_r _ [73, 10, 74, 75, 76, 77, 78, 79, 80, 81, 82, 83, 84, 85, 86, 87, 88, 89, 90, 91, 92] (by decide +kernel) (by decide +kernel)
set_option maxRecDepth 20000 in
theorem gX10_lies_X10_answer : GoodIn wsX10_lies (wsV RX10 181 RX10 yX10_answer wsX10_answer) := goodIn_app (goodIn_of _ (by decide +kernel)) ggX10_lies_X10_answer
theorem dX10_lies_0 : decode cX10_lies 0 = .ok (.iload_n 1, 1) := by decide +kernel
theorem dX10_lies_1 : decode cX10_lies 1 = .ok (.iconst 0, 1) := by decide +kernel
theorem dX10_lies_2 : decode cX10_lies 2 = .ok (.iconst 1, 1) := by decide +kernel
theorem dX10_lies_3 : decode cX10_lies 3 = .ok (.invokestatic 116, 3) := by decide +kernel
theorem dX10_lies_6 : decode cX10_lies 6 = .ok (.ifCond .eq 9, 3) := by decide +kernel
theorem dX10_lies_9 : decode cX10_lies 9 = .ok (.aload_n 0, 1) := by decide +kernel
theorem dX10_lies_10 : decode cX10_lies 10 = .ok (.iconst 1, 1) := by decide +kernel
theorem dX10_lies_11 : decode cX10_lies 11 = .ok (.invokevirtual 139, 3) := by decide +kernel
theorem dX10_lies_14 : decode cX10_lies 14 = .ok (.ireturn, 1) := by decide +kernel
theorem dX10_lies_15 : decode cX10_lies 15 = .ok (.iconst 0, 1) := by decide +kernel
theorem dX10_lies_16 : decode cX10_lies 16 = .ok (.istore_n 2, 1) := by decide +kernel
theorem dX10_lies_17 : decode cX10_lies 17 = .ok (.iconst 0, 1) := by decide +kernel
theorem dX10_lies_18 : decode cX10_lies 18 = .ok (.istore_n 3, 1) := by decide +kernel
theorem dX10_lies_19 : decode cX10_lies 19 = .ok (.iload_n 3, 1) := by decide +kernel
theorem dX10_lies_20 : decode cX10_lies 20 = .ok (.aload_n 0, 1) := by decide +kernel
theorem dX10_lies_21 : decode cX10_lies 21 = .ok (.getfield 10, 3) := by decide +kernel
theorem dX10_lies_24 : decode cX10_lies 24 = .ok (.getfield 197, 3) := by decide +kernel
theorem dX10_lies_27 : decode cX10_lies 27 = .ok (.if_icmp .ge 63, 3) := by decide +kernel
theorem dX10_lies_30 : decode cX10_lies 30 = .ok (.aload_n 0, 1) := by decide +kernel
theorem dX10_lies_31 : decode cX10_lies 31 = .ok (.getfield 10, 3) := by decide +kernel
theorem dX10_lies_34 : decode cX10_lies 34 = .ok (.iload_n 3, 1) := by decide +kernel
theorem dX10_lies_35 : decode cX10_lies 35 = .ok (.invokevirtual 293, 3) := by decide +kernel
theorem dX10_lies_38 : decode cX10_lies 38 = .ok (.aload_n 0, 1) := by decide +kernel
theorem dX10_lies_39 : decode cX10_lies 39 = .ok (.getfield 10, 3) := by decide +kernel
theorem dX10_lies_42 : decode cX10_lies 42 = .ok (.iload_n 3, 1) := by decide +kernel
theorem dX10_lies_43 : decode cX10_lies 43 = .ok (.invokevirtual 250, 3) := by decide +kernel
theorem dX10_lies_46 : decode cX10_lies 46 = .ok (.if_icmp .ne 7, 3) := by decide +kernel
theorem dX10_lies_49 : decode cX10_lies 49 = .ok (.iconst 1, 1) := by decide +kernel
theorem dX10_lies_50 : decode cX10_lies 50 = .ok (.goto 4, 3) := by decide +kernel
theorem dX10_lies_53 : decode cX10_lies 53 = .ok (.iconst 0, 1) := by decide +kernel
theorem dX10_lies_54 : decode cX10_lies 54 = .ok (.istore 4, 2) := by decide +kernel
theorem dX10_lies_56 : decode cX10_lies 56 = .ok (.iload 4, 2) := by decide +kernel
theorem dX10_lies_58 : decode cX10_lies 58 = .ok (.iload_n 1, 1) := by decide +kernel
theorem dX10_lies_59 : decode cX10_lies 59 = .ok (.ifCond .ne 7, 3) := by decide +kernel
theorem dX10_lies_62 : decode cX10_lies 62 = .ok (.iconst 1, 1) := by decide +kernel
theorem dX10_lies_63 : decode cX10_lies 63 = .ok (.goto 4, 3) := by decide +kernel
theorem dX10_lies_66 : decode cX10_lies 66 = .ok (.iconst 0, 1) := by decide +kernel
theorem dX10_lies_67 : decode cX10_lies 67 = .ok (.if_icmp .ne 17, 3) := by decide +kernel
theorem dX10_lies_70 : decode cX10_lies 70 = .ok (.iload_n 2, 1) := by decide +kernel
theorem dX10_lies_71 : decode cX10_lies 71 = .ok (.aload_n 0, 1) := by decide +kernel
theorem dX10_lies_72 : decode cX10_lies 72 = .ok (.getfield 10, 3) := by decide +kernel
theorem dX10_lies_75 : decode cX10_lies 75 = .ok (.iload_n 3, 1) := by decide +kernel
theorem dX10_lies_76 : decode cX10_lies 76 = .ok (.invokevirtual 302, 3) := by decide +kernel
theorem dX10_lies_79 : decode cX10_lies 79 = .ok (.invokestatic 384, 3) := by decide +kernel
theorem dX10_lies_82 : decode cX10_lies 82 = .ok (.iadd, 1) := by decide +kernel
theorem dX10_lies_83 : decode cX10_lies 83 = .ok (.istore_n 2, 1) := by decide +kernel
theorem dX10_lies_84 : decode cX10_lies 84 = .ok (.iinc 3 1, 3) := by decide +kernel
theorem dX10_lies_87 : decode cX10_lies 87 = .ok (.goto (-68), 3) := by decide +kernel
theorem dX10_lies_90 : decode cX10_lies 90 = .ok (.aload_n 0, 1) := by decide +kernel
theorem dX10_lies_91 : decode cX10_lies 91 = .ok (.iload_n 2, 1) := by decide +kernel
theorem dX10_lies_92 : decode cX10_lies 92 = .ok (.invokevirtual 181, 3) := by decide +kernel
theorem dX10_lies_95 : decode cX10_lies 95 = .ok (.ireturn, 1) := by decide +kernel
abbrev rmX10_lies : Room := { frames := 4, cells := 0, slots := 0, locals := 95 }
set_option maxHeartbeats 4000000 in
set_option maxRecDepth 100000 in
theorem kX10_lies (l : Launch) (D : va_G) (cy : Nat → ClassId) (h0 : Nat) (a0 : Nat → Nat) (a1 : Nat → Nat) (s0 : Rc) (s1 : Rc) (p1 : Int32) (res : Int32 × Rc) (h : fX10_lies p1 s0 s1 = some res) : CI l D cy yX10_lies wsX10_lies rmX10_lies [.ref h0, .int p1] (flat [WX10 cy h0 a0 s0, WX0 cy (a0 0) a1 s1]) (flat [WX10 cy h0 a0 res.2, WX0 cy (a0 0) a1 s1]) res.1 := by
  refine CI.of (cc := cX10_lies) (maxL := 5) (by decide) rfl (Nat.le_of_ble_eq_true rfl) ?_
  intro p e s m args below meth c A QQ ls E hr
  obtain ⟨hx, hb, hml, hown, hts, hK, hN, hP, hD, hA, hl⟩ := E
  have hret : ∀ (pc : Nat) (H : Heap) (locs : List Loc) (ls : Array Slot) (u : Int32 × Rc), u = res → va_P D vwCl (flat [WX10 cy h0 a0 u.2, WX0 cy (a0 0) a1 s1]) H → va_D A (flat [WX10 cy h0 a0 u.2, WX0 cy (a0 0) a1 s1]) → va_S A s.heap H locs → decode cX10_lies pc = .ok (.ireturn, 1) → W p l e rmX10_lies s m args below meth c H locs 0 0 QQ (F0 m pc ls [.int u.1]) := by
    intro pc H locs ls u hu hP hD hS hd; subst hu; exact hr pc H locs ls _ rfl hP hD hS hd
  clear hr
  have hl : lv_has ls 5 [(0, .ref h0), (1, .int p1)] := hl
  have hinX0 : ∀ w ∈ wsX00, w ∈ wsX10_lies := fun _ h => List.mem_cons_of_mem _ (List.mem_append_right _ h)
  have hinX10 : ∀ w ∈ wsX100, w ∈ wsX10_lies := fun _ h => List.mem_cons_of_mem _ (List.mem_append_left _ (List.mem_append_right _ h))
  unfold fX10_lies at h
  suffices key : ∀ (H : Heap) (locs : List Loc), va_P D vwCl (flat [WX10 cy h0 a0 s0, WX0 cy (a0 0) a1 s1]) H → va_S A s.heap H locs → W p l e rmX10_lies s m args below meth c H locs 0 0 QQ (F0 m 0 ls []) from key _ _ hP va_S.rf
  clear hP
  intro H locs hP hS
  refine lv_iload_n hx hb dX10_lies_0 rfl (lv_at hl 1 rfl) ?_
  refine lv_iconst (v := 0) hx hb dX10_lies_1 (by decide) ?_
  refine lv_iconst (v := 1) hx hb dX10_lies_2 (by decide) ?_
  refine ca_z (w' := [WX10 cy h0 a0 s0, WX0 cy (a0 0) a1 s1]) (rn_S (As := [.int p1, .int (0 : Int32), .int (1 : Int32)]) (rest := []) ⟨hx, hb, hml, hown, hts⟩ (kX10_outside l D cy p1 (0 : Int32) (1 : Int32) _ rfl H.size) (va_cwS 3 hts gX10_lies_X10_outside rfl rfl rfl (by decide +kernel) ⟨Nat.le_of_ble_eq_true rfl, Nat.le_of_ble_eq_true rfl⟩) hK hN hP hD [] rfl rfl rfl hl.1 rfl (Nat.le_of_ble_eq_true rfl) dX10_lies_3 ⟨Nat.le_refl 0, Nat.le_refl 0⟩) hP hD hS hA [] ⟨rfl, rfl, rfl, rfl⟩ (fun b1 H locs hP hD hS => ?_)
  refine lv_if_eq (tgt := 15) hx hb dX10_lies_6 (by decide) (fun c2 => ?_) (fun c2 => ?_)
  · replace h := (if_pos c2).symm.trans h
    refine lv_iconst (v := 0) hx hb dX10_lies_15 (by decide) ?_
    refine lv_istore_n (lv' := [(2, .int (0 : Int32)), (0, .ref h0), (1, .int p1)]) hx hb dX10_lies_16 rfl hl (by decide) rfl (fun ls hl => ?_)
    refine lv_iconst (v := 0) hx hb dX10_lies_17 (by decide) ?_
    refine lv_istore_n (lv' := [(3, .int (0 : Int32)), (2, .int (0 : Int32)), (0, .ref h0), (1, .int p1)]) hx hb dX10_lies_18 rfl hl (by decide) rfl (fun ls hl => ?_)
    have L19 : ∀ (n : Nat) (q19 : Int32 × Int32) (o : Int32), loopO (fX10_lies_L19 p1 s1) n q19 = some o → ∀ (H : Heap) (locs : List Loc) (ls : Array Slot), lv_has ls 5 [(0, .ref h0), (1, .int p1), (2, .int q19.1), (3, .int q19.2)] → va_P D vwCl (flat [WX10 cy h0 a0 s0, WX0 cy (a0 0) a1 s1]) H → va_D A (flat [WX10 cy h0 a0 s0, WX0 cy (a0 0) a1 s1]) → va_S A s.heap H locs → ∀ (kk90 : ∀ (H : Heap) (locs : List Loc) (ls : Array Slot), lv_has ls 5 [(0, .ref h0), (2, .int o)] → va_P D vwCl (flat [WX10 cy h0 a0 s0, WX0 cy (a0 0) a1 s1]) H → va_D A (flat [WX10 cy h0 a0 s0, WX0 cy (a0 0) a1 s1]) → va_S A s.heap H locs → W p l e rmX10_lies s m args below meth c H locs 0 0 QQ (F0 m 90 ls [])), W p l e rmX10_lies s m args below meth c H locs 0 0 QQ (F0 m 19 ls []) := by
      intro n
      induction n with
      | zero => intro q19 o h; exact absurd h (by rw [loopO_zero]; intro z; cases z)
      | succ n ih =>
        intro q19 o h H locs ls hl hP hD hS kk90
        obtain ⟨w, h, hgo, hst⟩ := loopO_elim h
        unfold fX10_lies_L19 at h
        have J67 : ∀ (z67_0 : Int32) (z67_1 : Int32) (H : Heap) (locs : List Loc) (ls : Array Slot), lv_has ls 5 [(0, .ref h0), (1, .int p1), (2, .int q19.1), (3, .int q19.2)] → va_P D vwCl (flat [WX10 cy h0 a0 s0, WX0 cy (a0 0) a1 s1]) H → va_D A (flat [WX10 cy h0 a0 s0, WX0 cy (a0 0) a1 s1]) → va_S A s.heap H locs → fX10_lies_J67 s1 q19 z67_0 z67_1 = some w → W p l e rmX10_lies s m args below meth c H locs 0 0 QQ (F0 m 67 ls [.int z67_0, .int z67_1]) := by
          intro z67_0 z67_1 H locs ls hl hP hD hS h
          unfold fX10_lies_J67 at h
          refine lv_icmp_ne (tgt := 84) hx hb dX10_lies_67 (by decide) (fun c3 => ?_) (fun c3 => ?_)
          · replace h := (if_neg c3).symm.trans h
            refine lv_iinc (v := (q19.2 + (1 : Int32))) (lv' := [(3, .int (q19.2 + (1 : Int32))), (0, .ref h0), (1, .int p1), (2, .int q19.1)]) hx hb dX10_lies_84 hl (k := 3) rfl rfl (by decide) rfl (fun ls hl => ?_)
            refine lv_goto (tgt := 19) hx hb dX10_lies_87 (by decide) ?_
            exact ih _ o (hgo _ (Option.some.inj h).symm) H locs ls (lv_sub hl [1, 2, 3, 0] rfl) hP hD hS kk90
          · replace h := (if_pos c3).symm.trans h
            refine lv_iload_n hx hb dX10_lies_70 rfl (lv_at hl 2 rfl) ?_
            refine lv_aload_n hx hb dX10_lies_71 rfl (lv_at hl 0 rfl) ?_
            refine va_get (D := D) (ci := 10) (v := .ref (a0 0)) (C := RX10) (T := TX10) (N := 19) hx hb hts hinX10 hown hK hP 0 rfl rfl 0 (by decide) (hts (.fieldLink RX10 10 "KneeBench" "bench" "LKneeBench$Bench;") (List.mem_of_getElem? (i := 1) rfl)) (fun _ h9 => h9) rfl dX10_lies_72 ?_
            refine lv_iload_n hx hb dX10_lies_75 rfl (lv_at hl 3 rfl) ?_
            obtain ⟨r4, hr4, h⟩ := bd_elim h
            refine ca_i (w' := [WX10 cy h0 a0 s0, WX0 cy (a0 0) a1 s1]) (rn_V (As := [.int q19.2]) (rest := [.int q19.1]) ⟨hx, hb, hml, hown, hts⟩ (kX0_tippersOf l D cy (a0 0) a1 s1 q19.2 r4 hr4 H.size) (cwV 1 hts gX10_lies_X0_tippersOf rfl rfl rfl (by decide +kernel) ⟨Nat.le_of_ble_eq_true rfl, Nat.le_of_ble_eq_true rfl⟩) hK hN hP hD [1] rfl rfl (ci := 0) (q0 := 1) rfl rfl rfl rfl hl.1 rfl (Nat.le_of_ble_eq_true rfl) dX10_lies_76 ⟨Nat.le_refl 0, Nat.le_refl 0⟩) hP hD hS hA [1] ⟨rfl, rfl, rfl, rfl⟩ (fun H locs hP hD hS => ?_)
            refine ca_i (w' := [WX10 cy h0 a0 s0, WX0 cy (a0 0) a1 s1]) (rn_S (As := [.int r4]) (rest := [.int q19.1]) ⟨hx, hb, hml, hown, hts⟩ (kJ6_bitCount_0f7a4 l D cy r4 _ rfl H.size) (va_cwS 1 hts gX10_lies_J6_bitCount_0f7a4 rfl rfl rfl (by decide +kernel) ⟨Nat.le_of_ble_eq_true rfl, Nat.le_of_ble_eq_true rfl⟩) hK hN hP hD [] rfl rfl rfl hl.1 rfl (Nat.le_of_ble_eq_true rfl) dX10_lies_79 ⟨Nat.le_refl 0, Nat.le_refl 0⟩) hP hD hS hA [] ⟨rfl, rfl, rfl, rfl⟩ (fun H locs hP hD hS => ?_)
            refine lv_iadd hx hb dX10_lies_82 ?_
            refine lv_topi (fun x5 ex5 => ?_)
            replace h := lt_use h x5 ex5
            refine lv_istore_n (lv' := [(2, .int x5), (0, .ref h0), (1, .int p1), (3, .int q19.2)]) hx hb dX10_lies_83 rfl hl (by decide) rfl (fun ls hl => ?_)
            refine lv_iinc (v := (q19.2 + (1 : Int32))) (lv' := [(3, .int (q19.2 + (1 : Int32))), (2, .int x5), (0, .ref h0), (1, .int p1)]) hx hb dX10_lies_84 hl (k := 3) rfl rfl (by decide) rfl (fun ls hl => ?_)
            refine lv_goto (tgt := 19) hx hb dX10_lies_87 (by decide) ?_
            exact ih _ o (hgo _ (Option.some.inj h).symm) H locs ls (lv_sub hl [2, 3, 1, 0] rfl) hP hD hS kk90
        have J54 : ∀ (z54_0 : Int32) (H : Heap) (locs : List Loc) (ls : Array Slot), lv_has ls 5 [(0, .ref h0), (1, .int p1), (2, .int q19.1), (3, .int q19.2)] → va_P D vwCl (flat [WX10 cy h0 a0 s0, WX0 cy (a0 0) a1 s1]) H → va_D A (flat [WX10 cy h0 a0 s0, WX0 cy (a0 0) a1 s1]) → va_S A s.heap H locs → fX10_lies_J54 p1 s1 q19 z54_0 = some w → W p l e rmX10_lies s m args below meth c H locs 0 0 QQ (F0 m 54 ls [.int z54_0]) := by
          intro z54_0 H locs ls hl hP hD hS h
          unfold fX10_lies_J54 at h
          refine lv_istore (lv' := [(4, .int z54_0), (0, .ref h0), (1, .int p1), (2, .int q19.1), (3, .int q19.2)]) hx hb dX10_lies_54 hl (by decide) rfl (fun ls hl => ?_)
          refine lv_iload hx hb dX10_lies_56 (lv_at hl 0 rfl) ?_
          refine lv_iload_n hx hb dX10_lies_58 rfl (lv_at hl 2 rfl) ?_
          refine lv_if_ne (tgt := 66) hx hb dX10_lies_59 (by decide) (fun c6 => ?_) (fun c6 => ?_)
          · replace h := (if_neg c6).symm.trans h
            refine lv_iconst (v := 0) hx hb dX10_lies_66 (by decide) ?_
            exact J67 (0 : Int32) z54_0 H locs ls (lv_sub hl [1, 2, 3, 4] rfl) hP hD hS h
          · replace h := (if_pos c6).symm.trans h
            refine lv_iconst (v := 1) hx hb dX10_lies_62 (by decide) ?_
            refine lv_goto (tgt := 67) hx hb dX10_lies_63 (by decide) ?_
            exact J67 (1 : Int32) z54_0 H locs ls (lv_sub hl [1, 2, 3, 4] rfl) hP hD hS h
        refine lv_iload_n hx hb dX10_lies_19 rfl (lv_at hl 3 rfl) ?_
        refine lv_aload_n hx hb dX10_lies_20 rfl (lv_at hl 0 rfl) ?_
        refine va_get (D := D) (ci := 10) (v := .ref (a0 0)) (C := RX10) (T := TX10) (N := 19) hx hb hts hinX10 hown hK hP 0 rfl rfl 0 (by decide) (hts (.fieldLink RX10 10 "KneeBench" "bench" "LKneeBench$Bench;") (List.mem_of_getElem? (i := 1) rfl)) (fun _ h9 => h9) rfl dX10_lies_21 ?_
        refine va_getN (D := D) (ci := 0) (v := .int (gi s1 9)) (C := RX0) (T := TX0) (N := 14) hx hb hts hinX0 hown hK hP 1 rfl rfl 9 (by decide) (NW.fld hN 19 rfl _) (fun _ h9 => h9) rfl dX10_lies_24 ?_
        refine lv_icmp_ge (tgt := 90) hx hb dX10_lies_27 (by decide) (fun c7 => ?_) (fun c7 => ?_)
        · replace h := (if_pos c7).symm.trans h
          have eo := hst _ (Option.some.inj h).symm
          subst eo
          exact kk90 H locs ls (lv_sub hl [0, 2] rfl) hP hD hS
        · replace h := (if_neg c7).symm.trans h
          refine lv_aload_n hx hb dX10_lies_30 rfl (lv_at hl 0 rfl) ?_
          refine va_get (D := D) (ci := 10) (v := .ref (a0 0)) (C := RX10) (T := TX10) (N := 19) hx hb hts hinX10 hown hK hP 0 rfl rfl 0 (by decide) (hts (.fieldLink RX10 10 "KneeBench" "bench" "LKneeBench$Bench;") (List.mem_of_getElem? (i := 1) rfl)) (fun _ h9 => h9) rfl dX10_lies_31 ?_
          refine lv_iload_n hx hb dX10_lies_34 rfl (lv_at hl 3 rfl) ?_
          obtain ⟨r8, hr8, h⟩ := bd_elim h
          refine ca_i (w' := [WX10 cy h0 a0 s0, WX0 cy (a0 0) a1 s1]) (rn_V (As := [.int q19.2]) (rest := []) ⟨hx, hb, hml, hown, hts⟩ (kX0_verdictOf l D cy (a0 0) a1 s1 q19.2 r8 hr8 H.size) (cwV 1 hts gX10_lies_X0_verdictOf rfl rfl rfl (by decide +kernel) ⟨Nat.le_of_ble_eq_true rfl, Nat.le_of_ble_eq_true rfl⟩) hK hN hP hD [1] rfl rfl (ci := 0) (q0 := 1) rfl rfl rfl rfl hl.1 rfl (Nat.le_of_ble_eq_true rfl) dX10_lies_35 ⟨Nat.le_refl 0, Nat.le_refl 0⟩) hP hD hS hA [1] ⟨rfl, rfl, rfl, rfl⟩ (fun H locs hP hD hS => ?_)
          refine lv_aload_n hx hb dX10_lies_38 rfl (lv_at hl 0 rfl) ?_
          refine va_get (D := D) (ci := 10) (v := .ref (a0 0)) (C := RX10) (T := TX10) (N := 19) hx hb hts hinX10 hown hK hP 0 rfl rfl 0 (by decide) (hts (.fieldLink RX10 10 "KneeBench" "bench" "LKneeBench$Bench;") (List.mem_of_getElem? (i := 1) rfl)) (fun _ h9 => h9) rfl dX10_lies_39 ?_
          refine lv_iload_n hx hb dX10_lies_42 rfl (lv_at hl 3 rfl) ?_
          refine ca_i (w' := [WX10 cy h0 a0 s0, WX0 cy (a0 0) a1 s1]) (rn_V (As := [.int q19.2]) (rest := [.int r8]) ⟨hx, hb, hml, hown, hts⟩ (kX0_wetOn l D cy (a0 0) a1 s1 q19.2 _ rfl H.size) (cwV 1 hts gX10_lies_X0_wetOn rfl rfl rfl (by decide +kernel) ⟨Nat.le_of_ble_eq_true rfl, Nat.le_of_ble_eq_true rfl⟩) hK hN hP hD [1] rfl rfl (ci := 0) (q0 := 1) rfl rfl rfl rfl hl.1 rfl (Nat.le_of_ble_eq_true rfl) dX10_lies_43 ⟨Nat.le_refl 0, Nat.le_refl 0⟩) hP hD hS hA [1] ⟨rfl, rfl, rfl, rfl⟩ (fun H locs hP hD hS => ?_)
          refine lv_icmp_ne (tgt := 53) hx hb dX10_lies_46 (by decide) (fun c9 => ?_) (fun c9 => ?_)
          · replace h := (if_neg c9).symm.trans h
            refine lv_iconst (v := 0) hx hb dX10_lies_53 (by decide) ?_
            exact J54 (0 : Int32) H locs ls (lv_sub hl [0, 1, 2, 3] rfl) hP hD hS h
          · replace h := (if_pos c9).symm.trans h
            refine lv_iconst (v := 1) hx hb dX10_lies_49 (by decide) ?_
            refine lv_goto (tgt := 54) hx hb dX10_lies_50 (by decide) ?_
            exact J54 (1 : Int32) H locs ls (lv_sub hl [0, 1, 2, 3] rfl) hP hD hS h
    obtain ⟨o19, ho19, h⟩ := bd_elim h
    obtain ⟨n19, hn19⟩ := loopF_some ho19
    refine L19 n19 _ o19 hn19 H locs ls (lv_sub hl [2, 3, 1, 0] rfl) hP hD hS (fun H locs ls hl hP hD hS => ?_)
    refine lv_aload_n hx hb dX10_lies_90 rfl (lv_at hl 0 rfl) ?_
    refine lv_iload_n hx hb dX10_lies_91 rfl (lv_at hl 1 rfl) ?_
    obtain ⟨r10, hr10, h⟩ := lt_elim h
    refine ca_i (w' := [WX10 cy h0 a0 r10.2, WX0 cy (a0 0) a1 s1]) (rn_V (As := [.int o19]) (rest := []) ⟨hx, hb, hml, hown, hts⟩ (kX10_answer l D cy h0 a0 s0 o19 r10 hr10.symm H.size) (cwV 1 hts gX10_lies_X10_answer rfl rfl rfl (by decide +kernel) ⟨Nat.le_of_ble_eq_true rfl, Nat.le_of_ble_eq_true rfl⟩) hK hN hP hD [0] rfl rfl (ci := 10) (q0 := 0) rfl rfl rfl rfl hl.1 rfl (Nat.le_of_ble_eq_true rfl) dX10_lies_92 ⟨Nat.le_refl 0, Nat.le_refl 0⟩) hP hD hS hA [0] ⟨rfl, rfl, rfl, rfl⟩ (fun H locs hP hD hS => ?_)
    exact hret 95 H locs ls (r10.1, r10.2) (Option.some.inj h) hP hD hS dX10_lies_95
  · replace h := (if_neg c2).symm.trans h
    refine lv_aload_n hx hb dX10_lies_9 rfl (lv_at hl 0 rfl) ?_
    refine lv_iconst (v := 1) hx hb dX10_lies_10 (by decide) ?_
    obtain ⟨r11, hr11, h⟩ := lt_elim h
    refine ca_i (w' := [WX10 cy h0 a0 r11.2, WX0 cy (a0 0) a1 s1]) (rn_V (As := [.int (1 : Int32)]) (rest := []) ⟨hx, hb, hml, hown, hts⟩ (kX10_refuse l D cy h0 a0 s0 (1 : Int32) r11 hr11.symm H.size) (cwV 1 hts gX10_lies_X10_refuse rfl rfl rfl (by decide +kernel) ⟨Nat.le_of_ble_eq_true rfl, Nat.le_of_ble_eq_true rfl⟩) hK hN hP hD [0] rfl rfl (ci := 10) (q0 := 0) rfl rfl rfl rfl hl.1 rfl (Nat.le_of_ble_eq_true rfl) dX10_lies_11 ⟨Nat.le_refl 0, Nat.le_refl 0⟩) hP hD hS hA [0] ⟨rfl, rfl, rfl, rfl⟩ (fun H locs hP hD hS => ?_)
    exact hret 14 H locs ls (r11.1, r11.2) (Option.some.inj h) hP hD hS dX10_lies_14
set_option maxRecDepth 20000 in
theorem ggX10_live_X10_outside : GoodIn wsX10_live wsX10_outside := goodIn_r _ [7] (by decide +kernel) (by decide +kernel)
set_option maxRecDepth 20000 in
theorem gX10_live_X10_outside : GoodIn wsX10_live (va_wsS RX10 116 yX10_outside wsX10_outside) := goodIn_app (goodIn_of _ (by decide +kernel)) ggX10_live_X10_outside
set_option maxRecDepth 20000 in
theorem ggX10_live_X10_refuse : GoodIn wsX10_live wsX10_refuse := goodIn_r _ [11, 12, 170, 171, 172, 173, 174, 175, 176, 177, 178, 179, 180, 181, 182, 183, 184, 185, 186, 187, 188] (by decide +kernel) (by decide +kernel)
set_option maxRecDepth 20000 in
theorem gX10_live_X10_refuse : GoodIn wsX10_live (wsV RX10 139 RX10 yX10_refuse wsX10_refuse) := goodIn_app (goodIn_of _ (by decide +kernel)) ggX10_live_X10_refuse
set_option maxRecDepth 20000 in
theorem ggX10_live_X3_run : GoodIn wsX10_live wsX3_run := goodIn_r _ [17, 18, 19, 20, 21, 22, 23, 24, 25, 26, 27, 28, 29, 30, 31, 6, 32, 33, 34, 35, 16, 36, 37, 38, 39, 40, 41, 42, 43, 44, 45, 46, 47, 48, 49, 50, 51, 52, 53, 54, 55, 56, 57, 58, 59, 60, 61, 62, 63, 64, 65, 66, 67, 68, 69, 70, 71, 72, 73, 74, 75, 76, 77, 78, 79, 80, 81, 82, 83, 84, 85, 86, 87, 88, 89, 90, 91, 92, 93, 94, 95, 96, 97, 98, 99, 100, 101, 102, 103, 104, 105, 106, 107, 108, 109, 110, 111, 112, 113, 114, 115, 116, 117, 118, 119, 120, 121, 122, 123, 124, 125, 126, 127, 128, 129, 130, 131, 132, 133, 134, 135, 136, 137, 138, 139, 140, 141, 142, 143, 144, 145, 146, 147, 148, 149, 150, 151, 152, 153, 154, 155, 156, 157, 158, 159, 160, 161, 162, 163, 164, 165, 197, 198, 199, 200, 201, 202, 203, 189, 190, 191, 192, 193, 194, 195, 196, 204, 205, 206, 207, 208, 209, 210, 211, 212, 213, 214, 215, 216, 217, 218] (by decide +kernel) (by decide +kernel)
set_option maxRecDepth 20000 in
theorem gX10_live_X3_run : GoodIn wsX10_live (wsV RX10 395 RX3 yX3_run wsX3_run) := goodIn_app (goodIn_of _ (by decide +kernel)) ggX10_live_X3_run
set_option maxRecDepth 20000 in
theorem ggX10_live_X10_answer : GoodIn wsX10_live wsX10_answer := goodIn_r _ [169, 12, 170, 171, 172, 173, 174, 175, 176, 177, 178, 179, 180, 181, 182, 183, 184, 185, 186, 187, 188] (by decide +kernel) (by decide +kernel)
set_option maxRecDepth 20000 in
theorem gX10_live_X10_answer : GoodIn wsX10_live (wsV RX10 181 RX10 yX10_answer wsX10_answer) := goodIn_app (goodIn_of _ (by decide +kernel)) ggX10_live_X10_answer
theorem dX10_live_0 : decode cX10_live 0 = .ok (.iload_n 1, 1) := by decide +kernel
theorem dX10_live_1 : decode cX10_live 1 = .ok (.iconst 0, 1) := by decide +kernel
theorem dX10_live_2 : decode cX10_live 2 = .ok (.sipush 9999, 3) := by decide +kernel
theorem dX10_live_5 : decode cX10_live 5 = .ok (.invokestatic 116, 3) := by decide +kernel
theorem dX10_live_8 : decode cX10_live 8 = .ok (.ifCond .eq 9, 3) := by decide +kernel
theorem dX10_live_11 : decode cX10_live 11 = .ok (.aload_n 0, 1) := by decide +kernel
theorem dX10_live_12 : decode cX10_live 12 = .ok (.iconst 1, 1) := by decide +kernel
theorem dX10_live_13 : decode cX10_live 13 = .ok (.invokevirtual 139, 3) := by decide +kernel
theorem dX10_live_16 : decode cX10_live 16 = .ok (.ireturn, 1) := by decide +kernel
theorem dX10_live_17 : decode cX10_live 17 = .ok (.aload_n 0, 1) := by decide +kernel
theorem dX10_live_18 : decode cX10_live 18 = .ok (.getfield 19, 3) := by decide +kernel
theorem dX10_live_21 : decode cX10_live 21 = .ok (.getfield 391, 3) := by decide +kernel
theorem dX10_live_24 : decode cX10_live 24 = .ok (.ifCond .ne 10, 3) := by decide +kernel
theorem dX10_live_27 : decode cX10_live 27 = .ok (.aload_n 0, 1) := by decide +kernel
theorem dX10_live_28 : decode cX10_live 28 = .ok (.bipush 6, 2) := by decide +kernel
theorem dX10_live_30 : decode cX10_live 30 = .ok (.invokevirtual 139, 3) := by decide +kernel
theorem dX10_live_33 : decode cX10_live 33 = .ok (.ireturn, 1) := by decide +kernel
theorem dX10_live_34 : decode cX10_live 34 = .ok (.aload_n 0, 1) := by decide +kernel
theorem dX10_live_35 : decode cX10_live 35 = .ok (.getfield 77, 3) := by decide +kernel
theorem dX10_live_38 : decode cX10_live 38 = .ok (.aload_n 0, 1) := by decide +kernel
theorem dX10_live_39 : decode cX10_live 39 = .ok (.getfield 10, 3) := by decide +kernel
theorem dX10_live_42 : decode cX10_live 42 = .ok (.aload_n 0, 1) := by decide +kernel
theorem dX10_live_43 : decode cX10_live 43 = .ok (.getfield 19, 3) := by decide +kernel
theorem dX10_live_46 : decode cX10_live 46 = .ok (.iload_n 1, 1) := by decide +kernel
theorem dX10_live_47 : decode cX10_live 47 = .ok (.invokevirtual 395, 3) := by decide +kernel
theorem dX10_live_50 : decode cX10_live 50 = .ok (.aload_n 0, 1) := by decide +kernel
theorem dX10_live_51 : decode cX10_live 51 = .ok (.aload_n 0, 1) := by decide +kernel
theorem dX10_live_52 : decode cX10_live 52 = .ok (.getfield 77, 3) := by decide +kernel
theorem dX10_live_55 : decode cX10_live 55 = .ok (.getfield 399, 3) := by decide +kernel
theorem dX10_live_58 : decode cX10_live 58 = .ok (.invokevirtual 181, 3) := by decide +kernel
theorem dX10_live_61 : decode cX10_live 61 = .ok (.ireturn, 1) := by decide +kernel
abbrev rmX10_live : Room := { frames := 7, cells := 0, slots := 0, locals := 167 }
set_option maxHeartbeats 4000000 in
set_option maxRecDepth 100000 in
theorem kX10_live (l : Launch) (D : va_G) (cy : Nat → ClassId) (h0 : Nat) (a0 : Nat → Nat) (a1 : Nat → Nat) (a2 : Nat → Nat) (a3 : Nat → Nat) (a4 : Nat → Nat) (s0 : Rc) (s1 : Rc) (s2 : Rc) (s3 : Rc) (s4 : Rc) (p1 : Int32) (res : Int32 × Rc × Rc × Rc × Rc) (h : fX10_live p1 s0 s1 s2 s3 s4 = some res) : CI l D cy yX10_live wsX10_live rmX10_live [.ref h0, .int p1] (flat [WX10 cy h0 a0 s0, WX0 cy (a0 0) a1 s1, WX5 cy (a0 1) a2 s2, WX3 cy (a0 11) a3 s3, WX2 cy (a3 0) a4 s4]) (flat [WX10 cy h0 a0 res.2.1, WX0 cy (a0 0) a1 res.2.2.1, WX5 cy (a0 1) a2 s2, WX3 cy (a0 11) a3 res.2.2.2.1, WX2 cy (a3 0) a4 res.2.2.2.2]) res.1 := by
  refine CI.of (cc := cX10_live) (maxL := 2) (by decide) rfl (Nat.le_of_ble_eq_true rfl) ?_
  intro p e s m args below meth c A QQ ls E hr
  obtain ⟨hx, hb, hml, hown, hts, hK, hN, hP, hD, hA, hl⟩ := E
  have hret : ∀ (pc : Nat) (H : Heap) (locs : List Loc) (ls : Array Slot) (u : Int32 × Rc × Rc × Rc × Rc), u = res → va_P D vwCl (flat [WX10 cy h0 a0 u.2.1, WX0 cy (a0 0) a1 u.2.2.1, WX5 cy (a0 1) a2 s2, WX3 cy (a0 11) a3 u.2.2.2.1, WX2 cy (a3 0) a4 u.2.2.2.2]) H → va_D A (flat [WX10 cy h0 a0 u.2.1, WX0 cy (a0 0) a1 u.2.2.1, WX5 cy (a0 1) a2 s2, WX3 cy (a0 11) a3 u.2.2.2.1, WX2 cy (a3 0) a4 u.2.2.2.2]) → va_S A s.heap H locs → decode cX10_live pc = .ok (.ireturn, 1) → W p l e rmX10_live s m args below meth c H locs 0 0 QQ (F0 m pc ls [.int u.1]) := by
    intro pc H locs ls u hu hP hD hS hd; subst hu; exact hr pc H locs ls _ rfl hP hD hS hd
  clear hr
  have hl : lv_has ls 2 [(0, .ref h0), (1, .int p1)] := hl
  have hinX10 : ∀ w ∈ wsX100, w ∈ wsX10_live := fun _ h => List.mem_cons_of_mem _ (List.mem_append_left _ (List.mem_append_left _ (List.mem_append_left _ (List.mem_append_left _ (List.mem_append_right _ h)))))
  have hinX3 : ∀ w ∈ wsX30, w ∈ wsX10_live := fun _ h => List.mem_cons_of_mem _ (List.mem_append_left _ (List.mem_append_left _ (List.mem_append_right _ h)))
  have hinX5 : ∀ w ∈ wsX50, w ∈ wsX10_live := fun _ h => List.mem_cons_of_mem _ (List.mem_append_left _ (List.mem_append_left _ (List.mem_append_left _ (List.mem_append_right _ h))))
  unfold fX10_live at h
  suffices key : ∀ (H : Heap) (locs : List Loc), va_P D vwCl (flat [WX10 cy h0 a0 s0, WX0 cy (a0 0) a1 s1, WX5 cy (a0 1) a2 s2, WX3 cy (a0 11) a3 s3, WX2 cy (a3 0) a4 s4]) H → va_S A s.heap H locs → W p l e rmX10_live s m args below meth c H locs 0 0 QQ (F0 m 0 ls []) from key _ _ hP va_S.rf
  clear hP
  intro H locs hP hS
  refine lv_iload_n hx hb dX10_live_0 rfl (lv_at hl 1 rfl) ?_
  refine lv_iconst (v := 0) hx hb dX10_live_1 (by decide) ?_
  refine lv_sipush (v := 9999) hx hb dX10_live_2 (by decide) ?_
  refine ca_z (w' := [WX10 cy h0 a0 s0, WX0 cy (a0 0) a1 s1, WX5 cy (a0 1) a2 s2, WX3 cy (a0 11) a3 s3, WX2 cy (a3 0) a4 s4]) (rn_S (As := [.int p1, .int (0 : Int32), .int (9999 : Int32)]) (rest := []) ⟨hx, hb, hml, hown, hts⟩ (kX10_outside l D cy p1 (0 : Int32) (9999 : Int32) _ rfl H.size) (va_cwS 3 hts gX10_live_X10_outside rfl rfl rfl (by decide +kernel) ⟨Nat.le_of_ble_eq_true rfl, Nat.le_of_ble_eq_true rfl⟩) hK hN hP hD [] rfl rfl rfl hl.1 rfl (Nat.le_of_ble_eq_true rfl) dX10_live_5 ⟨Nat.le_refl 0, Nat.le_refl 0⟩) hP hD hS hA [] ⟨rfl, rfl, rfl, rfl⟩ (fun b1 H locs hP hD hS => ?_)
  refine lv_if_eq (tgt := 17) hx hb dX10_live_8 (by decide) (fun c2 => ?_) (fun c2 => ?_)
  · replace h := (if_pos c2).symm.trans h
    refine lv_aload_n hx hb dX10_live_17 rfl (lv_at hl 0 rfl) ?_
    refine va_get (D := D) (ci := 10) (v := .ref (a0 1)) (C := RX10) (T := TX10) (N := 19) hx hb hts hinX10 hown hK hP 0 rfl rfl 1 (by decide) (hts (.fieldLink RX10 19 "KneeBench" "season" "LKneeBench$Season;") (List.mem_of_getElem? (i := 1) rfl)) (fun _ h9 => h9) rfl dX10_live_18 ?_
    refine va_getN (D := D) (ci := 5) (v := .int (gi s2 7)) (C := RX5) (T := TX5) (N := 8) hx hb hts hinX5 hown hK hP 10 rfl rfl 7 (by decide) (NW.fld hN 40 rfl _) (fun _ h9 => h9) rfl dX10_live_21 ?_
    refine lv_if_ne (tgt := 34) hx hb dX10_live_24 (by decide) (fun c3 => ?_) (fun c3 => ?_)
    · replace h := (if_neg c3).symm.trans h
      refine lv_aload_n hx hb dX10_live_34 rfl (lv_at hl 0 rfl) ?_
      refine va_get (D := D) (ci := 10) (v := .ref (a0 11)) (C := RX10) (T := TX10) (N := 19) hx hb hts hinX10 hown hK hP 0 rfl rfl 11 (by decide) (hts (.fieldLink RX10 77 "KneeBench" "life" "LKneeBench$Life;") (List.mem_of_getElem? (i := 2) rfl)) (fun _ h9 => h9) rfl dX10_live_35 ?_
      refine lv_aload_n hx hb dX10_live_38 rfl (lv_at hl 0 rfl) ?_
      refine va_get (D := D) (ci := 10) (v := .ref (a0 0)) (C := RX10) (T := TX10) (N := 19) hx hb hts hinX10 hown hK hP 0 rfl rfl 0 (by decide) (hts (.fieldLink RX10 10 "KneeBench" "bench" "LKneeBench$Bench;") (List.mem_of_getElem? (i := 3) rfl)) (fun _ h9 => h9) rfl dX10_live_39 ?_
      refine lv_aload_n hx hb dX10_live_42 rfl (lv_at hl 0 rfl) ?_
      refine va_get (D := D) (ci := 10) (v := .ref (a0 1)) (C := RX10) (T := TX10) (N := 19) hx hb hts hinX10 hown hK hP 0 rfl rfl 1 (by decide) (hts (.fieldLink RX10 19 "KneeBench" "season" "LKneeBench$Season;") (List.mem_of_getElem? (i := 1) rfl)) (fun _ h9 => h9) rfl dX10_live_43 ?_
      refine lv_iload_n hx hb dX10_live_46 rfl (lv_at hl 1 rfl) ?_
      obtain ⟨r4, hr4, h⟩ := bd_elim h
      refine ca_v (w' := [WX10 cy h0 a0 s0, WX0 cy (a0 0) a1 r4.2.2, WX5 cy (a0 1) a2 s2, WX3 cy (a0 11) a3 r4.1, WX2 cy (a3 0) a4 r4.2.1]) (rn_V (As := [.ref (a0 0), .ref (a0 1), .int p1]) (rest := []) ⟨hx, hb, hml, hown, hts⟩ (kX3_run l D cy (a0 11) (a0 0) (a0 1) a3 a4 a1 a2 s3 s4 s1 s2 p1 r4 hr4 H.size) (cwV 3 hts gX10_live_X3_run rfl rfl rfl (by decide +kernel) ⟨Nat.le_of_ble_eq_true rfl, Nat.le_of_ble_eq_true rfl⟩) hK hN hP hD [3, 4, 1, 2] rfl rfl (ci := 3) (q0 := 16) rfl rfl rfl rfl hl.1 rfl (Nat.le_of_ble_eq_true rfl) dX10_live_47 ⟨Nat.le_refl 0, Nat.le_refl 0⟩) hP hD hS hA [3, 4, 1, 2] ⟨rfl, rfl, rfl, rfl⟩ (fun H locs hP hD hS => ?_)
      refine lv_aload_n hx hb dX10_live_50 rfl (lv_at hl 0 rfl) ?_
      refine lv_aload_n hx hb dX10_live_51 rfl (lv_at hl 0 rfl) ?_
      refine va_get (D := D) (ci := 10) (v := .ref (a0 11)) (C := RX10) (T := TX10) (N := 19) hx hb hts hinX10 hown hK hP 0 rfl rfl 11 (by decide) (hts (.fieldLink RX10 77 "KneeBench" "life" "LKneeBench$Life;") (List.mem_of_getElem? (i := 2) rfl)) (fun _ h9 => h9) rfl dX10_live_52 ?_
      refine va_getN (D := D) (ci := 3) (v := .int (gi r4.1 2)) (C := RX3) (T := TX3) (N := 7) hx hb hts hinX3 hown hK hP 16 rfl rfl 2 (by decide) (NW.fld hN 55 rfl _) (fun _ h9 => h9) rfl dX10_live_55 ?_
      obtain ⟨r5, hr5, h⟩ := lt_elim h
      refine ca_i (w' := [WX10 cy h0 a0 r5.2, WX0 cy (a0 0) a1 r4.2.2, WX5 cy (a0 1) a2 s2, WX3 cy (a0 11) a3 r4.1, WX2 cy (a3 0) a4 r4.2.1]) (rn_V (As := [.int (gi r4.1 2)]) (rest := []) ⟨hx, hb, hml, hown, hts⟩ (kX10_answer l D cy h0 a0 s0 (gi r4.1 2) r5 hr5.symm H.size) (cwV 1 hts gX10_live_X10_answer rfl rfl rfl (by decide +kernel) ⟨Nat.le_of_ble_eq_true rfl, Nat.le_of_ble_eq_true rfl⟩) hK hN hP hD [0] rfl rfl (ci := 10) (q0 := 0) rfl rfl rfl rfl hl.1 rfl (Nat.le_of_ble_eq_true rfl) dX10_live_58 ⟨Nat.le_refl 0, Nat.le_refl 0⟩) hP hD hS hA [0] ⟨rfl, rfl, rfl, rfl⟩ (fun H locs hP hD hS => ?_)
      exact hret 61 H locs ls (r5.1, r5.2, r4.2.2, r4.1, r4.2.1) (Option.some.inj h) hP hD hS dX10_live_61
    · replace h := (if_pos c3).symm.trans h
      refine lv_aload_n hx hb dX10_live_27 rfl (lv_at hl 0 rfl) ?_
      refine lv_bipush (v := 6) hx hb dX10_live_28 (by decide) ?_
      obtain ⟨r6, hr6, h⟩ := lt_elim h
      refine ca_i (w' := [WX10 cy h0 a0 r6.2, WX0 cy (a0 0) a1 s1, WX5 cy (a0 1) a2 s2, WX3 cy (a0 11) a3 s3, WX2 cy (a3 0) a4 s4]) (rn_V (As := [.int (6 : Int32)]) (rest := []) ⟨hx, hb, hml, hown, hts⟩ (kX10_refuse l D cy h0 a0 s0 (6 : Int32) r6 hr6.symm H.size) (cwV 1 hts gX10_live_X10_refuse rfl rfl rfl (by decide +kernel) ⟨Nat.le_of_ble_eq_true rfl, Nat.le_of_ble_eq_true rfl⟩) hK hN hP hD [0] rfl rfl (ci := 10) (q0 := 0) rfl rfl rfl rfl hl.1 rfl (Nat.le_of_ble_eq_true rfl) dX10_live_30 ⟨Nat.le_refl 0, Nat.le_refl 0⟩) hP hD hS hA [0] ⟨rfl, rfl, rfl, rfl⟩ (fun H locs hP hD hS => ?_)
      exact hret 33 H locs ls (r6.1, r6.2, s1, s3, s4) (Option.some.inj h) hP hD hS dX10_live_33
  · replace h := (if_neg c2).symm.trans h
    refine lv_aload_n hx hb dX10_live_11 rfl (lv_at hl 0 rfl) ?_
    refine lv_iconst (v := 1) hx hb dX10_live_12 (by decide) ?_
    obtain ⟨r7, hr7, h⟩ := lt_elim h
    refine ca_i (w' := [WX10 cy h0 a0 r7.2, WX0 cy (a0 0) a1 s1, WX5 cy (a0 1) a2 s2, WX3 cy (a0 11) a3 s3, WX2 cy (a3 0) a4 s4]) (rn_V (As := [.int (1 : Int32)]) (rest := []) ⟨hx, hb, hml, hown, hts⟩ (kX10_refuse l D cy h0 a0 s0 (1 : Int32) r7 hr7.symm H.size) (cwV 1 hts gX10_live_X10_refuse rfl rfl rfl (by decide +kernel) ⟨Nat.le_of_ble_eq_true rfl, Nat.le_of_ble_eq_true rfl⟩) hK hN hP hD [0] rfl rfl (ci := 10) (q0 := 0) rfl rfl rfl rfl hl.1 rfl (Nat.le_of_ble_eq_true rfl) dX10_live_13 ⟨Nat.le_refl 0, Nat.le_refl 0⟩) hP hD hS hA [0] ⟨rfl, rfl, rfl, rfl⟩ (fun H locs hP hD hS => ?_)
    exact hret 16 H locs ls (r7.1, r7.2, s1, s3, s4) (Option.some.inj h) hP hD hS dX10_live_16
set_option maxRecDepth 20000 in
theorem ggX10_lived_X10_outside : GoodIn wsX10_lived wsX10_outside := goodIn_r _ [5] (by decide +kernel) (by decide +kernel)
set_option maxRecDepth 20000 in
theorem gX10_lived_X10_outside : GoodIn wsX10_lived (va_wsS RX10 116 yX10_outside wsX10_outside) := goodIn_app (goodIn_of _ (by decide +kernel)) ggX10_lived_X10_outside
set_option maxRecDepth 20000 in
theorem ggX10_lived_X10_refuse : GoodIn wsX10_lived wsX10_refuse := goodIn_r _ [9, 10, 18, 19, 20, 21, 22, 23, 24, 25, 26, 27, 28, 29, 30, 31, 32, 33, 34, 35, 36] (by decide +kernel) (by decide +kernel)
set_option maxRecDepth 20000 in
theorem gX10_lived_X10_refuse : GoodIn wsX10_lived (wsV RX10 139 RX10 yX10_refuse wsX10_refuse) := goodIn_app (goodIn_of _ (by decide +kernel)) ggX10_lived_X10_refuse
set_option maxRecDepth 20000 in
theorem ggX10_lived_X10_answer : GoodIn wsX10_lived wsX10_answer := goodIn_r _ [14, 10, 18, 19, 20, 21, 22, 23, 24, 25, 26, 27, 28, 29, 30, 31, 32, 33, 34, 35, 36] (by decide +kernel) (by decide +kernel)
set_option maxRecDepth 20000 in
theorem gX10_lived_X10_answer : GoodIn wsX10_lived (wsV RX10 181 RX10 yX10_answer wsX10_answer) := goodIn_app (goodIn_of _ (by decide +kernel)) ggX10_lived_X10_answer
set_option maxRecDepth 20000 in
theorem ggX10_lived_X10_bit : GoodIn wsX10_lived wsX10_bit := goodIn_r _ [17] (by decide +kernel) (by decide +kernel)
set_option maxRecDepth 20000 in
theorem gX10_lived_X10_bit : GoodIn wsX10_lived (va_wsS RX10 230 yX10_bit wsX10_bit) := goodIn_app (goodIn_of _ (by decide +kernel)) ggX10_lived_X10_bit
theorem dX10_lived_0 : decode cX10_lived 0 = .ok (.iload_n 1, 1) := by decide +kernel
theorem dX10_lived_1 : decode cX10_lived 1 = .ok (.iconst 0, 1) := by decide +kernel
theorem dX10_lived_2 : decode cX10_lived 2 = .ok (.iconst 3, 1) := by decide +kernel
theorem dX10_lived_3 : decode cX10_lived 3 = .ok (.invokestatic 116, 3) := by decide +kernel
theorem dX10_lived_6 : decode cX10_lived 6 = .ok (.ifCond .eq 9, 3) := by decide +kernel
theorem dX10_lived_9 : decode cX10_lived 9 = .ok (.aload_n 0, 1) := by decide +kernel
theorem dX10_lived_10 : decode cX10_lived 10 = .ok (.iconst 1, 1) := by decide +kernel
theorem dX10_lived_11 : decode cX10_lived 11 = .ok (.invokevirtual 139, 3) := by decide +kernel
theorem dX10_lived_14 : decode cX10_lived 14 = .ok (.ireturn, 1) := by decide +kernel
theorem dX10_lived_15 : decode cX10_lived 15 = .ok (.aload_n 0, 1) := by decide +kernel
theorem dX10_lived_16 : decode cX10_lived 16 = .ok (.getfield 77, 3) := by decide +kernel
theorem dX10_lived_19 : decode cX10_lived 19 = .ok (.getfield 399, 3) := by decide +kernel
theorem dX10_lived_22 : decode cX10_lived 22 = .ok (.iconst (-1), 1) := by decide +kernel
theorem dX10_lived_23 : decode cX10_lived 23 = .ok (.if_icmp .ne 10, 3) := by decide +kernel
theorem dX10_lived_26 : decode cX10_lived 26 = .ok (.aload_n 0, 1) := by decide +kernel
theorem dX10_lived_27 : decode cX10_lived 27 = .ok (.bipush 6, 2) := by decide +kernel
theorem dX10_lived_29 : decode cX10_lived 29 = .ok (.invokevirtual 139, 3) := by decide +kernel
theorem dX10_lived_32 : decode cX10_lived 32 = .ok (.ireturn, 1) := by decide +kernel
theorem dX10_lived_33 : decode cX10_lived 33 = .ok (.iload_n 1, 1) := by decide +kernel
theorem dX10_lived_34 : decode cX10_lived 34 = .ok (.tableswitch 62 0 2 #[26, 38, 50], 26) := by decide +kernel
theorem dX10_lived_60 : decode cX10_lived 60 = .ok (.aload_n 0, 1) := by decide +kernel
theorem dX10_lived_61 : decode cX10_lived 61 = .ok (.aload_n 0, 1) := by decide +kernel
theorem dX10_lived_62 : decode cX10_lived 62 = .ok (.getfield 77, 3) := by decide +kernel
theorem dX10_lived_65 : decode cX10_lived 65 = .ok (.getfield 400, 3) := by decide +kernel
theorem dX10_lived_68 : decode cX10_lived 68 = .ok (.invokevirtual 181, 3) := by decide +kernel
theorem dX10_lived_71 : decode cX10_lived 71 = .ok (.ireturn, 1) := by decide +kernel
theorem dX10_lived_72 : decode cX10_lived 72 = .ok (.aload_n 0, 1) := by decide +kernel
theorem dX10_lived_73 : decode cX10_lived 73 = .ok (.aload_n 0, 1) := by decide +kernel
theorem dX10_lived_74 : decode cX10_lived 74 = .ok (.getfield 77, 3) := by decide +kernel
theorem dX10_lived_77 : decode cX10_lived 77 = .ok (.getfield 403, 3) := by decide +kernel
theorem dX10_lived_80 : decode cX10_lived 80 = .ok (.invokevirtual 181, 3) := by decide +kernel
theorem dX10_lived_83 : decode cX10_lived 83 = .ok (.ireturn, 1) := by decide +kernel
theorem dX10_lived_84 : decode cX10_lived 84 = .ok (.aload_n 0, 1) := by decide +kernel
theorem dX10_lived_85 : decode cX10_lived 85 = .ok (.aload_n 0, 1) := by decide +kernel
theorem dX10_lived_86 : decode cX10_lived 86 = .ok (.getfield 77, 3) := by decide +kernel
theorem dX10_lived_89 : decode cX10_lived 89 = .ok (.getfield 406, 3) := by decide +kernel
theorem dX10_lived_92 : decode cX10_lived 92 = .ok (.invokevirtual 181, 3) := by decide +kernel
theorem dX10_lived_95 : decode cX10_lived 95 = .ok (.ireturn, 1) := by decide +kernel
theorem dX10_lived_96 : decode cX10_lived 96 = .ok (.aload_n 0, 1) := by decide +kernel
theorem dX10_lived_97 : decode cX10_lived 97 = .ok (.aload_n 0, 1) := by decide +kernel
theorem dX10_lived_98 : decode cX10_lived 98 = .ok (.getfield 77, 3) := by decide +kernel
theorem dX10_lived_101 : decode cX10_lived 101 = .ok (.getfield 409, 3) := by decide +kernel
theorem dX10_lived_104 : decode cX10_lived 104 = .ok (.invokestatic 230, 3) := by decide +kernel
theorem dX10_lived_107 : decode cX10_lived 107 = .ok (.invokevirtual 181, 3) := by decide +kernel
theorem dX10_lived_110 : decode cX10_lived 110 = .ok (.ireturn, 1) := by decide +kernel
abbrev rmX10_lived : Room := { frames := 1, cells := 0, slots := 0, locals := 22 }
set_option maxHeartbeats 4000000 in
set_option maxRecDepth 100000 in
theorem kX10_lived (l : Launch) (D : va_G) (cy : Nat → ClassId) (h0 : Nat) (a0 : Nat → Nat) (a1 : Nat → Nat) (s0 : Rc) (s1 : Rc) (p1 : Int32) (res : Int32 × Rc) (h : fX10_lived p1 s0 s1 = res) : CI l D cy yX10_lived wsX10_lived rmX10_lived [.ref h0, .int p1] (flat [WX10 cy h0 a0 s0, WX3 cy (a0 11) a1 s1]) (flat [WX10 cy h0 a0 res.2, WX3 cy (a0 11) a1 s1]) res.1 := by
  refine CI.of (cc := cX10_lived) (maxL := 2) (by decide) rfl (Nat.le_of_ble_eq_true rfl) ?_
  intro p e s m args below meth c A QQ ls E hr
  obtain ⟨hx, hb, hml, hown, hts, hK, hN, hP, hD, hA, hl⟩ := E
  have hret : ∀ (pc : Nat) (H : Heap) (locs : List Loc) (ls : Array Slot) (u : Int32 × Rc), u = res → va_P D vwCl (flat [WX10 cy h0 a0 u.2, WX3 cy (a0 11) a1 s1]) H → va_D A (flat [WX10 cy h0 a0 u.2, WX3 cy (a0 11) a1 s1]) → va_S A s.heap H locs → decode cX10_lived pc = .ok (.ireturn, 1) → W p l e rmX10_lived s m args below meth c H locs 0 0 QQ (F0 m pc ls [.int u.1]) := by
    intro pc H locs ls u hu hP hD hS hd; subst hu; exact hr pc H locs ls _ rfl hP hD hS hd
  clear hr
  have hl : lv_has ls 2 [(0, .ref h0), (1, .int p1)] := hl
  have hinX10 : ∀ w ∈ wsX100, w ∈ wsX10_lived := fun _ h => List.mem_cons_of_mem _ (List.mem_append_left _ (List.mem_append_right _ h))
  have hinX3 : ∀ w ∈ wsX30, w ∈ wsX10_lived := fun _ h => List.mem_cons_of_mem _ (List.mem_append_right _ h)
  unfold fX10_lived at h
  suffices key : ∀ (H : Heap) (locs : List Loc), va_P D vwCl (flat [WX10 cy h0 a0 s0, WX3 cy (a0 11) a1 s1]) H → va_S A s.heap H locs → W p l e rmX10_lived s m args below meth c H locs 0 0 QQ (F0 m 0 ls []) from key _ _ hP va_S.rf
  clear hP
  intro H locs hP hS
  refine lv_iload_n hx hb dX10_lived_0 rfl (lv_at hl 1 rfl) ?_
  refine lv_iconst (v := 0) hx hb dX10_lived_1 (by decide) ?_
  refine lv_iconst (v := 3) hx hb dX10_lived_2 (by decide) ?_
  refine ca_z (w' := [WX10 cy h0 a0 s0, WX3 cy (a0 11) a1 s1]) (rn_S (As := [.int p1, .int (0 : Int32), .int (3 : Int32)]) (rest := []) ⟨hx, hb, hml, hown, hts⟩ (kX10_outside l D cy p1 (0 : Int32) (3 : Int32) _ rfl H.size) (va_cwS 3 hts gX10_lived_X10_outside rfl rfl rfl (by decide +kernel) ⟨Nat.le_of_ble_eq_true rfl, Nat.le_of_ble_eq_true rfl⟩) hK hN hP hD [] rfl rfl rfl hl.1 rfl (Nat.le_of_ble_eq_true rfl) dX10_lived_3 ⟨Nat.le_refl 0, Nat.le_refl 0⟩) hP hD hS hA [] ⟨rfl, rfl, rfl, rfl⟩ (fun b1 H locs hP hD hS => ?_)
  refine lv_if_eq (tgt := 15) hx hb dX10_lived_6 (by decide) (fun c2 => ?_) (fun c2 => ?_)
  · replace h := (if_pos c2).symm.trans h
    refine lv_aload_n hx hb dX10_lived_15 rfl (lv_at hl 0 rfl) ?_
    refine va_get (D := D) (ci := 10) (v := .ref (a0 11)) (C := RX10) (T := TX10) (N := 19) hx hb hts hinX10 hown hK hP 0 rfl rfl 11 (by decide) (hts (.fieldLink RX10 77 "KneeBench" "life" "LKneeBench$Life;") (List.mem_of_getElem? (i := 1) rfl)) (fun _ h9 => h9) rfl dX10_lived_16 ?_
    refine va_getN (D := D) (ci := 3) (v := .int (gi s1 2)) (C := RX3) (T := TX3) (N := 7) hx hb hts hinX3 hown hK hP 1 rfl rfl 2 (by decide) (NW.fld hN 55 rfl _) (fun _ h9 => h9) rfl dX10_lived_19 ?_
    refine lv_iconst (v := -1) hx hb dX10_lived_22 (by decide) ?_
    refine lv_icmp_ne (tgt := 33) hx hb dX10_lived_23 (by decide) (fun c3 => ?_) (fun c3 => ?_)
    · replace h := (if_neg c3).symm.trans h
      refine lv_iload_n hx hb dX10_lived_33 rfl (lv_at hl 1 rfl) ?_
      by_cases c4 : p1 = (0 : Int32)
      · replace h := (if_pos c4).symm.trans h
        refine lv_tableIn (tgt := 60) hx hb dX10_lived_34 (by rw [c4]; decide) (by rw [c4]; decide) (by rw [c4]; rfl) (by decide) ?_
        refine lv_aload_n hx hb dX10_lived_60 rfl (lv_at hl 0 rfl) ?_
        refine lv_aload_n hx hb dX10_lived_61 rfl (lv_at hl 0 rfl) ?_
        refine va_get (D := D) (ci := 10) (v := .ref (a0 11)) (C := RX10) (T := TX10) (N := 19) hx hb hts hinX10 hown hK hP 0 rfl rfl 11 (by decide) (hts (.fieldLink RX10 77 "KneeBench" "life" "LKneeBench$Life;") (List.mem_of_getElem? (i := 1) rfl)) (fun _ h9 => h9) rfl dX10_lived_62 ?_
        refine va_getN (D := D) (ci := 3) (v := .int (gi s1 3)) (C := RX3) (T := TX3) (N := 7) hx hb hts hinX3 hown hK hP 1 rfl rfl 3 (by decide) (NW.fld hN 56 rfl _) (fun _ h9 => h9) rfl dX10_lived_65 ?_
        obtain ⟨r5, hr5, h⟩ := lt_elim h
        refine ca_i (w' := [WX10 cy h0 a0 r5.2, WX3 cy (a0 11) a1 s1]) (rn_V (As := [.int (gi s1 3)]) (rest := []) ⟨hx, hb, hml, hown, hts⟩ (kX10_answer l D cy h0 a0 s0 (gi s1 3) r5 hr5.symm H.size) (cwV 1 hts gX10_lived_X10_answer rfl rfl rfl (by decide +kernel) ⟨Nat.le_of_ble_eq_true rfl, Nat.le_of_ble_eq_true rfl⟩) hK hN hP hD [0] rfl rfl (ci := 10) (q0 := 0) rfl rfl rfl rfl hl.1 rfl (Nat.le_of_ble_eq_true rfl) dX10_lived_68 ⟨Nat.le_refl 0, Nat.le_refl 0⟩) hP hD hS hA [0] ⟨rfl, rfl, rfl, rfl⟩ (fun H locs hP hD hS => ?_)
        exact hret 71 H locs ls (r5.1, r5.2) h hP hD hS dX10_lived_71
      replace h := (if_neg c4).symm.trans h
      by_cases c6 : p1 = (1 : Int32)
      · replace h := (if_pos c6).symm.trans h
        refine lv_tableIn (tgt := 72) hx hb dX10_lived_34 (by rw [c6]; decide) (by rw [c6]; decide) (by rw [c6]; rfl) (by decide) ?_
        refine lv_aload_n hx hb dX10_lived_72 rfl (lv_at hl 0 rfl) ?_
        refine lv_aload_n hx hb dX10_lived_73 rfl (lv_at hl 0 rfl) ?_
        refine va_get (D := D) (ci := 10) (v := .ref (a0 11)) (C := RX10) (T := TX10) (N := 19) hx hb hts hinX10 hown hK hP 0 rfl rfl 11 (by decide) (hts (.fieldLink RX10 77 "KneeBench" "life" "LKneeBench$Life;") (List.mem_of_getElem? (i := 1) rfl)) (fun _ h9 => h9) rfl dX10_lived_74 ?_
        refine va_getN (D := D) (ci := 3) (v := .int (gi s1 4)) (C := RX3) (T := TX3) (N := 7) hx hb hts hinX3 hown hK hP 1 rfl rfl 4 (by decide) (NW.fld hN 57 rfl _) (fun _ h9 => h9) rfl dX10_lived_77 ?_
        obtain ⟨r7, hr7, h⟩ := lt_elim h
        refine ca_i (w' := [WX10 cy h0 a0 r7.2, WX3 cy (a0 11) a1 s1]) (rn_V (As := [.int (gi s1 4)]) (rest := []) ⟨hx, hb, hml, hown, hts⟩ (kX10_answer l D cy h0 a0 s0 (gi s1 4) r7 hr7.symm H.size) (cwV 1 hts gX10_lived_X10_answer rfl rfl rfl (by decide +kernel) ⟨Nat.le_of_ble_eq_true rfl, Nat.le_of_ble_eq_true rfl⟩) hK hN hP hD [0] rfl rfl (ci := 10) (q0 := 0) rfl rfl rfl rfl hl.1 rfl (Nat.le_of_ble_eq_true rfl) dX10_lived_80 ⟨Nat.le_refl 0, Nat.le_refl 0⟩) hP hD hS hA [0] ⟨rfl, rfl, rfl, rfl⟩ (fun H locs hP hD hS => ?_)
        exact hret 83 H locs ls (r7.1, r7.2) h hP hD hS dX10_lived_83
      replace h := (if_neg c6).symm.trans h
      by_cases c8 : p1 = (2 : Int32)
      · replace h := (if_pos c8).symm.trans h
        refine lv_tableIn (tgt := 84) hx hb dX10_lived_34 (by rw [c8]; decide) (by rw [c8]; decide) (by rw [c8]; rfl) (by decide) ?_
        refine lv_aload_n hx hb dX10_lived_84 rfl (lv_at hl 0 rfl) ?_
        refine lv_aload_n hx hb dX10_lived_85 rfl (lv_at hl 0 rfl) ?_
        refine va_get (D := D) (ci := 10) (v := .ref (a0 11)) (C := RX10) (T := TX10) (N := 19) hx hb hts hinX10 hown hK hP 0 rfl rfl 11 (by decide) (hts (.fieldLink RX10 77 "KneeBench" "life" "LKneeBench$Life;") (List.mem_of_getElem? (i := 1) rfl)) (fun _ h9 => h9) rfl dX10_lived_86 ?_
        refine va_getN (D := D) (ci := 3) (v := .int (gi s1 5)) (C := RX3) (T := TX3) (N := 7) hx hb hts hinX3 hown hK hP 1 rfl rfl 5 (by decide) (NW.fld hN 58 rfl _) (fun _ h9 => h9) rfl dX10_lived_89 ?_
        obtain ⟨r9, hr9, h⟩ := lt_elim h
        refine ca_i (w' := [WX10 cy h0 a0 r9.2, WX3 cy (a0 11) a1 s1]) (rn_V (As := [.int (gi s1 5)]) (rest := []) ⟨hx, hb, hml, hown, hts⟩ (kX10_answer l D cy h0 a0 s0 (gi s1 5) r9 hr9.symm H.size) (cwV 1 hts gX10_lived_X10_answer rfl rfl rfl (by decide +kernel) ⟨Nat.le_of_ble_eq_true rfl, Nat.le_of_ble_eq_true rfl⟩) hK hN hP hD [0] rfl rfl (ci := 10) (q0 := 0) rfl rfl rfl rfl hl.1 rfl (Nat.le_of_ble_eq_true rfl) dX10_lived_92 ⟨Nat.le_refl 0, Nat.le_refl 0⟩) hP hD hS hA [0] ⟨rfl, rfl, rfl, rfl⟩ (fun H locs hP hD hS => ?_)
        exact hret 95 H locs ls (r9.1, r9.2) h hP hD hS dX10_lived_95
      replace h := (if_neg c8).symm.trans h
      have ic4 : p1.toInt ≠ 0 := fun z => c4 (Int32.toInt_inj.mp (z.trans (by decide)))
      have ic6 : p1.toInt ≠ 1 := fun z => c6 (Int32.toInt_inj.mp (z.trans (by decide)))
      have ic8 : p1.toInt ≠ 2 := fun z => c8 (Int32.toInt_inj.mp (z.trans (by decide)))
      have hsw : p1.toInt < 0 ∨ 2 < p1.toInt := by omega
      refine lv_tdf (tgt := 96) hx hb dX10_lived_34 ?_ (by decide) ?_
      · rcases hsw with z | z
        · exact Or.inl z
        · exact Or.inr (Or.inl z)
      refine lv_aload_n hx hb dX10_lived_96 rfl (lv_at hl 0 rfl) ?_
      refine lv_aload_n hx hb dX10_lived_97 rfl (lv_at hl 0 rfl) ?_
      refine va_get (D := D) (ci := 10) (v := .ref (a0 11)) (C := RX10) (T := TX10) (N := 19) hx hb hts hinX10 hown hK hP 0 rfl rfl 11 (by decide) (hts (.fieldLink RX10 77 "KneeBench" "life" "LKneeBench$Life;") (List.mem_of_getElem? (i := 1) rfl)) (fun _ h9 => h9) rfl dX10_lived_98 ?_
      refine va_getN (D := D) (ci := 3) (v := .int (gi s1 6)) (C := RX3) (T := TX3) (N := 7) hx hb hts hinX3 hown hK hP 1 rfl rfl 6 (by decide) (NW.fld hN 59 rfl _) (fun _ h9 => h9) rfl dX10_lived_101 ?_
      refine ca_i (w' := [WX10 cy h0 a0 s0, WX3 cy (a0 11) a1 s1]) (rn_S (As := [.int (gi s1 6)]) (rest := [.ref h0]) ⟨hx, hb, hml, hown, hts⟩ (kX10_bit l D cy (gi s1 6) _ rfl H.size) (va_cwS 1 hts gX10_lived_X10_bit rfl rfl rfl (by decide +kernel) ⟨Nat.le_of_ble_eq_true rfl, Nat.le_of_ble_eq_true rfl⟩) hK hN hP hD [] rfl rfl rfl hl.1 rfl (Nat.le_of_ble_eq_true rfl) dX10_lived_104 ⟨Nat.le_refl 0, Nat.le_refl 0⟩) hP hD hS hA [] ⟨rfl, rfl, rfl, rfl⟩ (fun H locs hP hD hS => ?_)
      obtain ⟨r10, hr10, h⟩ := lt_elim h
      refine ca_i (w' := [WX10 cy h0 a0 r10.2, WX3 cy (a0 11) a1 s1]) (rn_V (As := [.int (fX10_bit (gi s1 6))]) (rest := []) ⟨hx, hb, hml, hown, hts⟩ (kX10_answer l D cy h0 a0 s0 (fX10_bit (gi s1 6)) r10 hr10.symm H.size) (cwV 1 hts gX10_lived_X10_answer rfl rfl rfl (by decide +kernel) ⟨Nat.le_of_ble_eq_true rfl, Nat.le_of_ble_eq_true rfl⟩) hK hN hP hD [0] rfl rfl (ci := 10) (q0 := 0) rfl rfl rfl rfl hl.1 rfl (Nat.le_of_ble_eq_true rfl) dX10_lived_107 ⟨Nat.le_refl 0, Nat.le_refl 0⟩) hP hD hS hA [0] ⟨rfl, rfl, rfl, rfl⟩ (fun H locs hP hD hS => ?_)
      exact hret 110 H locs ls (r10.1, r10.2) h hP hD hS dX10_lived_110
    · replace h := (if_pos c3).symm.trans h
      refine lv_aload_n hx hb dX10_lived_26 rfl (lv_at hl 0 rfl) ?_
      refine lv_bipush (v := 6) hx hb dX10_lived_27 (by decide) ?_
      obtain ⟨r11, hr11, h⟩ := lt_elim h
      refine ca_i (w' := [WX10 cy h0 a0 r11.2, WX3 cy (a0 11) a1 s1]) (rn_V (As := [.int (6 : Int32)]) (rest := []) ⟨hx, hb, hml, hown, hts⟩ (kX10_refuse l D cy h0 a0 s0 (6 : Int32) r11 hr11.symm H.size) (cwV 1 hts gX10_lived_X10_refuse rfl rfl rfl (by decide +kernel) ⟨Nat.le_of_ble_eq_true rfl, Nat.le_of_ble_eq_true rfl⟩) hK hN hP hD [0] rfl rfl (ci := 10) (q0 := 0) rfl rfl rfl rfl hl.1 rfl (Nat.le_of_ble_eq_true rfl) dX10_lived_29 ⟨Nat.le_refl 0, Nat.le_refl 0⟩) hP hD hS hA [0] ⟨rfl, rfl, rfl, rfl⟩ (fun H locs hP hD hS => ?_)
      exact hret 32 H locs ls (r11.1, r11.2) h hP hD hS dX10_lived_32
  · replace h := (if_neg c2).symm.trans h
    refine lv_aload_n hx hb dX10_lived_9 rfl (lv_at hl 0 rfl) ?_
    refine lv_iconst (v := 1) hx hb dX10_lived_10 (by decide) ?_
    obtain ⟨r12, hr12, h⟩ := lt_elim h
    refine ca_i (w' := [WX10 cy h0 a0 r12.2, WX3 cy (a0 11) a1 s1]) (rn_V (As := [.int (1 : Int32)]) (rest := []) ⟨hx, hb, hml, hown, hts⟩ (kX10_refuse l D cy h0 a0 s0 (1 : Int32) r12 hr12.symm H.size) (cwV 1 hts gX10_lived_X10_refuse rfl rfl rfl (by decide +kernel) ⟨Nat.le_of_ble_eq_true rfl, Nat.le_of_ble_eq_true rfl⟩) hK hN hP hD [0] rfl rfl (ci := 10) (q0 := 0) rfl rfl rfl rfl hl.1 rfl (Nat.le_of_ble_eq_true rfl) dX10_lived_11 ⟨Nat.le_refl 0, Nat.le_refl 0⟩) hP hD hS hA [0] ⟨rfl, rfl, rfl, rfl⟩ (fun H locs hP hD hS => ?_)
    exact hret 14 H locs ls (r12.1, r12.2) h hP hD hS dX10_lived_14
theorem dX10_longestRow_0 : decode cX10_longestRow 0 = .ok (.iconst 0, 1) := by decide +kernel
theorem dX10_longestRow_1 : decode cX10_longestRow 1 = .ok (.istore_n 2, 1) := by decide +kernel
theorem dX10_longestRow_2 : decode cX10_longestRow 2 = .ok (.lload_n 0, 1) := by decide +kernel
theorem dX10_longestRow_3 : decode cX10_longestRow 3 = .ok (.lconst 0, 1) := by decide +kernel
theorem dX10_longestRow_4 : decode cX10_longestRow 4 = .ok (.lcmp, 1) := by decide +kernel
theorem dX10_longestRow_5 : decode cX10_longestRow 5 = .ok (.ifCond .eq 21, 3) := by decide +kernel
theorem dX10_longestRow_8 : decode cX10_longestRow 8 = .ok (.iload_n 2, 1) := by decide +kernel
theorem dX10_longestRow_9 : decode cX10_longestRow 9 = .ok (.bipush 64, 2) := by decide +kernel
theorem dX10_longestRow_11 : decode cX10_longestRow 11 = .ok (.if_icmp .ge 15, 3) := by decide +kernel
theorem dX10_longestRow_14 : decode cX10_longestRow 14 = .ok (.lload_n 0, 1) := by decide +kernel
theorem dX10_longestRow_15 : decode cX10_longestRow 15 = .ok (.lload_n 0, 1) := by decide +kernel
theorem dX10_longestRow_16 : decode cX10_longestRow 16 = .ok (.iconst 1, 1) := by decide +kernel
theorem dX10_longestRow_17 : decode cX10_longestRow 17 = .ok (.lushr, 1) := by decide +kernel
theorem dX10_longestRow_18 : decode cX10_longestRow 18 = .ok (.land, 1) := by decide +kernel
theorem dX10_longestRow_19 : decode cX10_longestRow 19 = .ok (.lstore_n 0, 1) := by decide +kernel
theorem dX10_longestRow_20 : decode cX10_longestRow 20 = .ok (.iinc 2 1, 3) := by decide +kernel
theorem dX10_longestRow_23 : decode cX10_longestRow 23 = .ok (.goto (-21), 3) := by decide +kernel
theorem dX10_longestRow_26 : decode cX10_longestRow 26 = .ok (.iload_n 2, 1) := by decide +kernel
theorem dX10_longestRow_27 : decode cX10_longestRow 27 = .ok (.ireturn, 1) := by decide +kernel
abbrev rmX10_longestRow : Room := { frames := 0, cells := 0, slots := 0, locals := 0 }
set_option maxHeartbeats 4000000 in
set_option maxRecDepth 100000 in
theorem kX10_longestRow (l : Launch) (D : va_G) (cy : Nat → ClassId) (p1 : Int64) (res : Int32) (h : fX10_longestRow p1 = some res) : CI l D cy yX10_longestRow wsX10_longestRow rmX10_longestRow [.long p1] (flat []) (flat []) res := by
  refine CI.of (cc := cX10_longestRow) (maxL := 3) (by decide) rfl (Nat.le_of_ble_eq_true rfl) ?_
  intro p e s m args below meth c A QQ ls E hr
  obtain ⟨hx, hb, hml, hown, hts, hK, hN, hP, hD, hA, hl⟩ := E
  have hret : ∀ (pc : Nat) (H : Heap) (locs : List Loc) (ls : Array Slot) (u : Int32), u = res → va_P D vwCl (flat []) H → va_D A (flat []) → va_S A s.heap H locs → decode cX10_longestRow pc = .ok (.ireturn, 1) → W p l e rmX10_longestRow s m args below meth c H locs 0 0 QQ (F0 m pc ls [.int u]) := by
    intro pc H locs ls u hu hP hD hS hd; subst hu; exact hr pc H locs ls _ rfl hP hD hS hd
  clear hr
  have hl : lv_has ls 3 [(0, .long p1)] := hl
  unfold fX10_longestRow at h
  suffices key : ∀ (H : Heap) (locs : List Loc), va_P D vwCl (flat []) H → va_S A s.heap H locs → W p l e rmX10_longestRow s m args below meth c H locs 0 0 QQ (F0 m 0 ls []) from key _ _ hP va_S.rf
  clear hP
  intro H locs hP hS
  refine lv_iconst (v := 0) hx hb dX10_longestRow_0 (by decide) ?_
  refine lv_istore_n (lv' := [(2, .int (0 : Int32)), (0, .long p1)]) hx hb dX10_longestRow_1 rfl hl (by decide) rfl (fun ls hl => ?_)
  have L2 : ∀ (n : Nat) (q2 : Int64 × Int32) (o : Int32), loopO (fX10_longestRow_L2) n q2 = some o → ∀ (H : Heap) (locs : List Loc) (ls : Array Slot), lv_has ls 3 [(0, .long q2.1), (2, .int q2.2)] → va_P D vwCl (flat []) H → va_D A (flat []) → va_S A s.heap H locs → ∀ (kk26 : ∀ (H : Heap) (locs : List Loc) (ls : Array Slot), lv_has ls 3 [(2, .int o)] → va_P D vwCl (flat []) H → va_D A (flat []) → va_S A s.heap H locs → W p l e rmX10_longestRow s m args below meth c H locs 0 0 QQ (F0 m 26 ls [])), W p l e rmX10_longestRow s m args below meth c H locs 0 0 QQ (F0 m 2 ls []) := by
    intro n
    induction n with
    | zero => intro q2 o h; exact absurd h (by rw [loopO_zero]; intro z; cases z)
    | succ n ih =>
      intro q2 o h H locs ls hl hP hD hS kk26
      obtain ⟨w, h, hgo, hst⟩ := loopO_elim h
      unfold fX10_longestRow_L2 at h
      refine lv_lload_n hx hb dX10_longestRow_2 rfl (lv_at hl 0 rfl) ?_
      refine lv_lconst (v := 0) hx hb dX10_longestRow_3 (by decide) ?_
      refine W.lcmp hx hb dX10_longestRow_4 ?_
      refine lv_if_eq (tgt := 26) hx hb dX10_longestRow_5 (by decide) (fun c1 => ?_) (fun c1 => ?_)
      · replace h := (if_pos (lg_ceq.mp c1)).symm.trans h
        have eo := hst _ (Option.some.inj h).symm
        subst eo
        exact kk26 H locs ls (lv_sub hl [1] rfl) hP hD hS
      · replace h := (if_neg (fun z => c1 (lg_ceq.mpr z))).symm.trans h
        refine lv_iload_n hx hb dX10_longestRow_8 rfl (lv_at hl 1 rfl) ?_
        refine lv_bipush (v := 64) hx hb dX10_longestRow_9 (by decide) ?_
        refine lv_icmp_ge (tgt := 26) hx hb dX10_longestRow_11 (by decide) (fun c2 => ?_) (fun c2 => ?_)
        · replace h := (if_pos c2).symm.trans h
          have eo := hst _ (Option.some.inj h).symm
          subst eo
          exact kk26 H locs ls (lv_sub hl [1] rfl) hP hD hS
        · replace h := (if_neg c2).symm.trans h
          refine lv_lload_n hx hb dX10_longestRow_14 rfl (lv_at hl 0 rfl) ?_
          refine lv_lload_n hx hb dX10_longestRow_15 rfl (lv_at hl 0 rfl) ?_
          refine lv_iconst (v := 1) hx hb dX10_longestRow_16 (by decide) ?_
          refine lv_lushr hx hb dX10_longestRow_17 rfl ?_
          refine lv_land hx hb dX10_longestRow_18 ?_
          refine lv_topl (fun x3 ex3 => ?_)
          replace h := lt_use h x3 ex3
          refine lv_lstore_n (lv' := [(0, .long x3), (2, .int q2.2)]) hx hb dX10_longestRow_19 rfl hl (by decide) rfl (fun ls hl => ?_)
          refine lv_iinc (v := (q2.2 + (1 : Int32))) (lv' := [(2, .int (q2.2 + (1 : Int32))), (0, .long x3)]) hx hb dX10_longestRow_20 hl (k := 1) rfl rfl (by decide) rfl (fun ls hl => ?_)
          refine lv_goto (tgt := 2) hx hb dX10_longestRow_23 (by decide) ?_
          exact ih _ o (hgo _ (Option.some.inj h).symm) H locs ls (lv_sub hl [1, 0] rfl) hP hD hS kk26
  obtain ⟨o2, ho2, h⟩ := bd_elim h
  obtain ⟨n2, hn2⟩ := loopF_some ho2
  refine L2 n2 _ o2 hn2 H locs ls (lv_sub hl [1, 0] rfl) hP hD hS (fun H locs ls hl hP hD hS => ?_)
  refine lv_iload_n hx hb dX10_longestRow_26 rfl (lv_at hl 0 rfl) ?_
  exact hret 27 H locs ls o2 (Option.some.inj h) hP hD hS dX10_longestRow_27
