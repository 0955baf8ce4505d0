set_option maxRecDepth 20000 in
theorem ggX1_readNewcomer_X8_fail : GoodIn wsX1_readNewcomer wsX8_fail := goodIn_r _ [8, 9, 10, 11, 69, 70, 71, 72, 73, 74, 75, 76, 77, 78, 79, 80, 81, 82] (by decide +kernel) (by decide +kernel)
set_option maxRecDepth 20000 in
theorem gX1_readNewcomer_X8_fail : GoodIn wsX1_readNewcomer (wsV RX1 75 RX8 yX8_fail wsX8_fail) := goodIn_app (goodIn_of _ (by decide +kernel)) ggX1_readNewcomer_X8_fail
set_option maxRecDepth 20000 in
theorem ggX1_readNewcomer_X8_advance : GoodIn wsX1_readNewcomer wsX8_advance := goodIn_r _ [15, 16, 10, 17, 18, 19, 20, 21, 22, 23, 24, 25, 7, 26, 27, 28, 29, 30, 31, 32, 33, 34, 35, 36, 37, 38, 39, 5, 6, 8, 9, 11, 69, 70, 71, 72, 73, 74, 75, 76, 77, 78, 79, 80, 81, 82] (by decide +kernel) (by decide +kernel)
set_option maxRecDepth 20000 in
theorem gX1_readNewcomer_X8_advance : GoodIn wsX1_readNewcomer (wsV RX1 81 RX8 yX8_advance wsX8_advance) := goodIn_app (goodIn_of _ (by decide +kernel)) ggX1_readNewcomer_X8_advance
set_option maxRecDepth 20000 in
theorem ggX1_readNewcomer_X8_mustBeName : GoodIn wsX1_readNewcomer wsX8_mustBeName := goodIn_r _ [43, 19, 21, 20, 22, 39, 5, 6, 7, 8, 9, 10, 11, 69, 70, 71, 72, 73, 74, 75, 76, 77, 78, 79, 80, 81, 82] (by decide +kernel) (by decide +kernel)
set_option maxRecDepth 20000 in
theorem gX1_readNewcomer_X8_mustBeName : GoodIn wsX1_readNewcomer (wsV RX1 84 RX8 yX8_mustBeName wsX8_mustBeName) := goodIn_app (goodIn_of _ (by decide +kernel)) ggX1_readNewcomer_X8_mustBeName
set_option maxRecDepth 20000 in
theorem ggX1_readNewcomer_X0_farmerNamed : GoodIn wsX1_readNewcomer wsX0_farmerNamed := goodIn_r _ [48, 49, 50, 55, 56, 57, 58, 59, 60, 61, 62, 63, 64, 65, 66, 67, 68] (by decide +kernel) (by decide +kernel)
set_option maxRecDepth 20000 in
theorem gX1_readNewcomer_X0_farmerNamed : GoodIn wsX1_readNewcomer (wsV RX1 91 RX0 yX0_farmerNamed wsX0_farmerNamed) := goodIn_app (goodIn_of _ (by decide +kernel)) ggX1_readNewcomer_X0_farmerNamed
theorem dX1_readNewcomer_0 : decode cX1_readNewcomer 0 = .ok (.aload_n 0, 1) := by decide +kernel
theorem dX1_readNewcomer_1 : decode cX1_readNewcomer 1 = .ok (.getfield 23, 3) := by decide +kernel
theorem dX1_readNewcomer_4 : decode cX1_readNewcomer 4 = .ok (.getfield 78, 3) := by decide +kernel
theorem dX1_readNewcomer_7 : decode cX1_readNewcomer 7 = .ok (.bipush 8, 2) := by decide +kernel
theorem dX1_readNewcomer_9 : decode cX1_readNewcomer 9 = .ok (.if_icmp .lt 13, 3) := by decide +kernel
theorem dX1_readNewcomer_12 : decode cX1_readNewcomer 12 = .ok (.aload_n 0, 1) := by decide +kernel
theorem dX1_readNewcomer_13 : decode cX1_readNewcomer 13 = .ok (.getfield 19, 3) := by decide +kernel
theorem dX1_readNewcomer_16 : decode cX1_readNewcomer 16 = .ok (.bipush 6, 2) := by decide +kernel
theorem dX1_readNewcomer_18 : decode cX1_readNewcomer 18 = .ok (.invokevirtual 75, 3) := by decide +kernel
theorem dX1_readNewcomer_21 : decode cX1_readNewcomer 21 = .ok (.ireturn, 1) := by decide +kernel
theorem dX1_readNewcomer_22 : decode cX1_readNewcomer 22 = .ok (.aload_n 0, 1) := by decide +kernel
theorem dX1_readNewcomer_23 : decode cX1_readNewcomer 23 = .ok (.getfield 19, 3) := by decide +kernel
theorem dX1_readNewcomer_26 : decode cX1_readNewcomer 26 = .ok (.invokevirtual 81, 3) := by decide +kernel
theorem dX1_readNewcomer_29 : decode cX1_readNewcomer 29 = .ok (.ifCond .eq 13, 3) := by decide +kernel
theorem dX1_readNewcomer_32 : decode cX1_readNewcomer 32 = .ok (.aload_n 0, 1) := by decide +kernel
theorem dX1_readNewcomer_33 : decode cX1_readNewcomer 33 = .ok (.getfield 19, 3) := by decide +kernel
theorem dX1_readNewcomer_36 : decode cX1_readNewcomer 36 = .ok (.invokevirtual 84, 3) := by decide +kernel
theorem dX1_readNewcomer_39 : decode cX1_readNewcomer 39 = .ok (.ifCond .ne 5, 3) := by decide +kernel
theorem dX1_readNewcomer_42 : decode cX1_readNewcomer 42 = .ok (.iconst 0, 1) := by decide +kernel
theorem dX1_readNewcomer_43 : decode cX1_readNewcomer 43 = .ok (.ireturn, 1) := by decide +kernel
theorem dX1_readNewcomer_44 : decode cX1_readNewcomer 44 = .ok (.aload_n 0, 1) := by decide +kernel
theorem dX1_readNewcomer_45 : decode cX1_readNewcomer 45 = .ok (.getfield 23, 3) := by decide +kernel
theorem dX1_readNewcomer_48 : decode cX1_readNewcomer 48 = .ok (.aload_n 0, 1) := by decide +kernel
theorem dX1_readNewcomer_49 : decode cX1_readNewcomer 49 = .ok (.getfield 19, 3) := by decide +kernel
theorem dX1_readNewcomer_52 : decode cX1_readNewcomer 52 = .ok (.getfield 87, 3) := by decide +kernel
theorem dX1_readNewcomer_55 : decode cX1_readNewcomer 55 = .ok (.invokevirtual 91, 3) := by decide +kernel
theorem dX1_readNewcomer_58 : decode cX1_readNewcomer 58 = .ok (.iconst (-1), 1) := by decide +kernel
theorem dX1_readNewcomer_59 : decode cX1_readNewcomer 59 = .ok (.if_icmp .eq 12, 3) := by decide +kernel
theorem dX1_readNewcomer_62 : decode cX1_readNewcomer 62 = .ok (.aload_n 0, 1) := by decide +kernel
theorem dX1_readNewcomer_63 : decode cX1_readNewcomer 63 = .ok (.getfield 19, 3) := by decide +kernel
theorem dX1_readNewcomer_66 : decode cX1_readNewcomer 66 = .ok (.iconst 3, 1) := by decide +kernel
theorem dX1_readNewcomer_67 : decode cX1_readNewcomer 67 = .ok (.invokevirtual 75, 3) := by decide +kernel
theorem dX1_readNewcomer_70 : decode cX1_readNewcomer 70 = .ok (.ireturn, 1) := by decide +kernel
theorem dX1_readNewcomer_71 : decode cX1_readNewcomer 71 = .ok (.aload_n 0, 1) := by decide +kernel
theorem dX1_readNewcomer_72 : decode cX1_readNewcomer 72 = .ok (.aload_n 0, 1) := by decide +kernel
theorem dX1_readNewcomer_73 : decode cX1_readNewcomer 73 = .ok (.getfield 23, 3) := by decide +kernel
theorem dX1_readNewcomer_76 : decode cX1_readNewcomer 76 = .ok (.getfield 78, 3) := by decide +kernel
theorem dX1_readNewcomer_79 : decode cX1_readNewcomer 79 = .ok (.putfield 9, 3) := by decide +kernel
theorem dX1_readNewcomer_82 : decode cX1_readNewcomer 82 = .ok (.aload_n 0, 1) := by decide +kernel
theorem dX1_readNewcomer_83 : decode cX1_readNewcomer 83 = .ok (.getfield 23, 3) := by decide +kernel
theorem dX1_readNewcomer_86 : decode cX1_readNewcomer 86 = .ok (.getfield 95, 3) := by decide +kernel
theorem dX1_readNewcomer_89 : decode cX1_readNewcomer 89 = .ok (.aload_n 0, 1) := by decide +kernel
theorem dX1_readNewcomer_90 : decode cX1_readNewcomer 90 = .ok (.getfield 9, 3) := by decide +kernel
theorem dX1_readNewcomer_93 : decode cX1_readNewcomer 93 = .ok (.aload_n 0, 1) := by decide +kernel
theorem dX1_readNewcomer_94 : decode cX1_readNewcomer 94 = .ok (.getfield 19, 3) := by decide +kernel
theorem dX1_readNewcomer_97 : decode cX1_readNewcomer 97 = .ok (.getfield 87, 3) := by decide +kernel
theorem dX1_readNewcomer_100 : decode cX1_readNewcomer 100 = .ok (.lastore, 1) := by decide +kernel
theorem dX1_readNewcomer_101 : decode cX1_readNewcomer 101 = .ok (.aload_n 0, 1) := by decide +kernel
theorem dX1_readNewcomer_102 : decode cX1_readNewcomer 102 = .ok (.getfield 23, 3) := by decide +kernel
theorem dX1_readNewcomer_105 : decode cX1_readNewcomer 105 = .ok (.dup, 1) := by decide +kernel
theorem dX1_readNewcomer_106 : decode cX1_readNewcomer 106 = .ok (.getfield 78, 3) := by decide +kernel
theorem dX1_readNewcomer_109 : decode cX1_readNewcomer 109 = .ok (.iconst 1, 1) := by decide +kernel
theorem dX1_readNewcomer_110 : decode cX1_readNewcomer 110 = .ok (.iadd, 1) := by decide +kernel
theorem dX1_readNewcomer_111 : decode cX1_readNewcomer 111 = .ok (.putfield 78, 3) := by decide +kernel
theorem dX1_readNewcomer_114 : decode cX1_readNewcomer 114 = .ok (.aload_n 0, 1) := by decide +kernel
theorem dX1_readNewcomer_115 : decode cX1_readNewcomer 115 = .ok (.getfield 19, 3) := by decide +kernel
theorem dX1_readNewcomer_118 : decode cX1_readNewcomer 118 = .ok (.invokevirtual 81, 3) := by decide +kernel
theorem dX1_readNewcomer_121 : decode cX1_readNewcomer 121 = .ok (.ireturn, 1) := by decide +kernel
abbrev rmX1_readNewcomer : Room := { frames := 3, cells := 0, slots := 0, locals := 65 }
set_option maxHeartbeats 4000000 in
set_option maxRecDepth 100000 in
theorem kX1_readNewcomer (l : Launch) (D : va_G) (cy : Nat → ClassId) (h0 : Nat) (a0 : Nat → Nat) (a1 : Nat → Nat) (a2 : Nat → Nat) (s0 : Rc) (s1 : Rc) (s2 : Rc) (res : Int32 × Rc × Rc × Rc) (h : fX1_readNewcomer s0 s1 s2 = some res) : CZ l D cy yX1_readNewcomer wsX1_readNewcomer rmX1_readNewcomer [.ref h0] (flat [WX1 cy h0 a0 s0, WX8 cy (a0 0) a1 s1, WX0 cy (a0 1) a2 s2]) (flat [WX1 cy h0 a0 res.2.1, WX8 cy (a0 0) a1 res.2.2.1, WX0 cy (a0 1) a2 res.2.2.2]) res.1 := by
  refine CZ.of (cc := cX1_readNewcomer) (maxL := 1) (by decide) rfl (Nat.le_of_ble_eq_true rfl) ?_
  intro p e s m args below meth c A QQ ls E hr
  obtain ⟨hx, hb, hml, hown, hts, hK, hN, hP, hD, hA, hl⟩ := E
  have hret : ∀ (pc : Nat) (H : Heap) (locs : List Loc) (ls : Array Slot) (u : Int32 × Rc × Rc × Rc), u = res → va_P D vwCl (flat [WX1 cy h0 a0 u.2.1, WX8 cy (a0 0) a1 u.2.2.1, WX0 cy (a0 1) a2 u.2.2.2]) H → va_D A (flat [WX1 cy h0 a0 u.2.1, WX8 cy (a0 0) a1 u.2.2.1, WX0 cy (a0 1) a2 u.2.2.2]) → va_S A s.heap H locs → isb u.1 = true → decode cX1_readNewcomer pc = .ok (.ireturn, 1) → W p l e rmX1_readNewcomer s m args below meth c H locs 0 0 QQ (F0 m pc ls [.int u.1]) := by
    intro pc H locs ls u hu hP hD hS hz hd; subst hu; exact hr pc H locs ls _ rfl hP hD hS hz hd
  clear hr
  have hl : lv_has ls 1 [(0, .ref h0)] := hl
  have hinX0 : ∀ w ∈ wsX00, w ∈ wsX1_readNewcomer := fun _ h => List.mem_cons_of_mem _ (List.mem_append_left _ (List.mem_append_right _ h))
  have hinX1 : ∀ w ∈ wsX10, w ∈ wsX1_readNewcomer := fun _ h => List.mem_cons_of_mem _ (List.mem_append_left _ (List.mem_append_left _ (List.mem_append_right _ h)))
  have hinX8 : ∀ w ∈ wsX80, w ∈ wsX1_readNewcomer := fun _ h => List.mem_cons_of_mem _ (List.mem_append_right _ h)
  unfold fX1_readNewcomer at h
  suffices key : ∀ (H : Heap) (locs : List Loc), va_P D vwCl (flat [WX1 cy h0 a0 s0, WX8 cy (a0 0) a1 s1, WX0 cy (a0 1) a2 s2]) H → va_S A s.heap H locs → W p l e rmX1_readNewcomer s m args below meth c H locs 0 0 QQ (F0 m 0 ls []) from key _ _ hP va_S.rf
  clear hP
  intro H locs hP hS
  refine lv_aload_n hx hb dX1_readNewcomer_0 rfl (lv_at hl 0 rfl) ?_
  refine va_get (D := D) (ci := 1) (v := .ref (a0 1)) (C := RX1) (T := TX1) (N := 4) hx hb hts hinX1 hown hK hP 0 rfl rfl 1 (by decide) (hts (.fieldLink RX1 23 "KneeBench$BenchText" "draft" "LKneeBench$Bench;") (List.mem_of_getElem? (i := 1) rfl)) (fun _ h9 => h9) rfl dX1_readNewcomer_1 ?_
  refine va_getN (D := D) (ci := 0) (v := .int (gi s2 8)) (C := RX0) (T := TX0) (N := 14) hx hb hts hinX0 hown hK hP 4 rfl rfl 8 (by decide) (NW.fld hN 15 rfl _) (fun _ h9 => h9) rfl dX1_readNewcomer_4 ?_
  refine lv_bipush (v := 8) hx hb dX1_readNewcomer_7 (by decide) ?_
  refine lv_icmp_lt (tgt := 22) hx hb dX1_readNewcomer_9 (by decide) (fun c1 => ?_) (fun c1 => ?_)
  · replace h := (if_pos c1).symm.trans h
    refine lv_aload_n hx hb dX1_readNewcomer_22 rfl (lv_at hl 0 rfl) ?_
    refine va_get (D := D) (ci := 1) (v := .ref (a0 0)) (C := RX1) (T := TX1) (N := 4) hx hb hts hinX1 hown hK hP 0 rfl rfl 0 (by decide) (hts (.fieldLink RX1 19 "KneeBench$BenchText" "tokens" "LKneeBench$Tokens;") (List.mem_of_getElem? (i := 2) rfl)) (fun _ h9 => h9) rfl dX1_readNewcomer_23 ?_
    obtain ⟨r2, hr2, h⟩ := bd_elim h
    refine ca_z (w' := [WX1 cy h0 a0 s0, WX8 cy (a0 0) a1 r2.2, WX0 cy (a0 1) a2 s2]) (rn_V (As := []) (rest := []) ⟨hx, hb, hml, hown, hts⟩ (kX8_advance l D cy (a0 0) a1 s1 r2 hr2 H.size) (cwV 0 hts gX1_readNewcomer_X8_advance rfl rfl rfl (by decide +kernel) ⟨Nat.le_of_ble_eq_true rfl, Nat.le_of_ble_eq_true rfl⟩) hK hN hP hD [1] rfl rfl (ci := 8) (q0 := 1) rfl rfl rfl rfl hl.1 rfl (Nat.le_of_ble_eq_true rfl) dX1_readNewcomer_26 ⟨Nat.le_refl 0, Nat.le_refl 0⟩) hP hD hS hA [1] ⟨rfl, rfl, rfl, rfl⟩ (fun b3 H locs hP hD hS => ?_)
    refine lv_if_eq (tgt := 42) hx hb dX1_readNewcomer_29 (by decide) (fun c4 => ?_) (fun c4 => ?_)
    · replace h := (if_pos c4).symm.trans h
      refine lv_iconst (v := 0) hx hb dX1_readNewcomer_42 (by decide) ?_
      exact hret 43 H locs ls ((0 : Int32), s0, r2.2, s2) (Option.some.inj h) hP hD hS (show isb (0 : Int32) = true by decide) dX1_readNewcomer_43
    · replace h := (if_neg c4).symm.trans h
      refine lv_aload_n hx hb dX1_readNewcomer_32 rfl (lv_at hl 0 rfl) ?_
      refine va_get (D := D) (ci := 1) (v := .ref (a0 0)) (C := RX1) (T := TX1) (N := 4) hx hb hts hinX1 hown hK hP 0 rfl rfl 0 (by decide) (hts (.fieldLink RX1 19 "KneeBench$BenchText" "tokens" "LKneeBench$Tokens;") (List.mem_of_getElem? (i := 2) rfl)) (fun _ h9 => h9) rfl dX1_readNewcomer_33 ?_
      obtain ⟨r5, hr5, h⟩ := lt_elim h
      refine ca_z (w' := [WX1 cy h0 a0 s0, WX8 cy (a0 0) a1 r5.2, WX0 cy (a0 1) a2 s2]) (rn_V (As := []) (rest := []) ⟨hx, hb, hml, hown, hts⟩ (kX8_mustBeName l D cy (a0 0) a1 r2.2 r5 hr5.symm H.size) (cwV 0 hts gX1_readNewcomer_X8_mustBeName rfl rfl rfl (by decide +kernel) ⟨Nat.le_of_ble_eq_true rfl, Nat.le_of_ble_eq_true rfl⟩) hK hN hP hD [1] rfl rfl (ci := 8) (q0 := 1) rfl rfl rfl rfl hl.1 rfl (Nat.le_of_ble_eq_true rfl) dX1_readNewcomer_36 ⟨Nat.le_refl 0, Nat.le_refl 0⟩) hP hD hS hA [1] ⟨rfl, rfl, rfl, rfl⟩ (fun b6 H locs hP hD hS => ?_)
      refine lv_if_ne (tgt := 44) hx hb dX1_readNewcomer_39 (by decide) (fun c7 => ?_) (fun c7 => ?_)
      · replace h := (if_neg c7).symm.trans h
        refine lv_aload_n hx hb dX1_readNewcomer_44 rfl (lv_at hl 0 rfl) ?_
        refine va_get (D := D) (ci := 1) (v := .ref (a0 1)) (C := RX1) (T := TX1) (N := 4) hx hb hts hinX1 hown hK hP 0 rfl rfl 1 (by decide) (hts (.fieldLink RX1 23 "KneeBench$BenchText" "draft" "LKneeBench$Bench;") (List.mem_of_getElem? (i := 1) rfl)) (fun _ h9 => h9) rfl dX1_readNewcomer_45 ?_
        refine lv_aload_n hx hb dX1_readNewcomer_48 rfl (lv_at hl 0 rfl) ?_
        refine va_get (D := D) (ci := 1) (v := .ref (a0 0)) (C := RX1) (T := TX1) (N := 4) hx hb hts hinX1 hown hK hP 0 rfl rfl 0 (by decide) (hts (.fieldLink RX1 19 "KneeBench$BenchText" "tokens" "LKneeBench$Tokens;") (List.mem_of_getElem? (i := 2) rfl)) (fun _ h9 => h9) rfl dX1_readNewcomer_49 ?_
        refine va_getN (D := D) (ci := 8) (v := .long (gl r5.2 7)) (C := RX8) (T := TX8) (N := 14) hx hb hts hinX8 hown hK hP 1 rfl rfl 7 (by decide) (NW.fld hN 45 rfl _) (fun _ h9 => h9) rfl dX1_readNewcomer_52 ?_
        obtain ⟨r8, hr8, h⟩ := bd_elim h
        refine ca_i (w' := [WX1 cy h0 a0 s0, WX8 cy (a0 0) a1 r5.2, WX0 cy (a0 1) a2 s2]) (rn_V (As := [.long (gl r5.2 7)]) (rest := []) ⟨hx, hb, hml, hown, hts⟩ (kX0_farmerNamed l D cy (a0 1) a2 s2 (gl r5.2 7) r8 hr8 H.size) (cwV 1 hts gX1_readNewcomer_X0_farmerNamed rfl rfl rfl (by decide +kernel) ⟨Nat.le_of_ble_eq_true rfl, Nat.le_of_ble_eq_true rfl⟩) hK hN hP hD [2] rfl rfl (ci := 0) (q0 := 4) rfl rfl rfl rfl hl.1 rfl (Nat.le_of_ble_eq_true rfl) dX1_readNewcomer_55 ⟨Nat.le_refl 0, Nat.le_refl 0⟩) hP hD hS hA [2] ⟨rfl, rfl, rfl, rfl⟩ (fun H locs hP hD hS => ?_)
        refine lv_iconst (v := -1) hx hb dX1_readNewcomer_58 (by decide) ?_
        refine lv_icmp_eq (tgt := 71) hx hb dX1_readNewcomer_59 (by decide) (fun c9 => ?_) (fun c9 => ?_)
        · replace h := (if_pos c9).symm.trans h
          refine lv_aload_n hx hb dX1_readNewcomer_71 rfl (lv_at hl 0 rfl) ?_
          refine lv_aload_n hx hb dX1_readNewcomer_72 rfl (lv_at hl 0 rfl) ?_
          refine va_get (D := D) (ci := 1) (v := .ref (a0 1)) (C := RX1) (T := TX1) (N := 4) hx hb hts hinX1 hown hK hP 0 rfl rfl 1 (by decide) (hts (.fieldLink RX1 23 "KneeBench$BenchText" "draft" "LKneeBench$Bench;") (List.mem_of_getElem? (i := 1) rfl)) (fun _ h9 => h9) rfl dX1_readNewcomer_73 ?_
          refine va_getN (D := D) (ci := 0) (v := .int (gi s2 8)) (C := RX0) (T := TX0) (N := 14) hx hb hts hinX0 hown hK hP 4 rfl rfl 8 (by decide) (NW.fld hN 15 rfl _) (fun _ h9 => h9) rfl dX1_readNewcomer_76 ?_
          obtain ⟨s0_10, es, h⟩ := lt_elim h
          refine va_put (D := D) (ci := 1) (v := .int (gi s2 8)) (ty := .int) (C := RX1) (T := TX1) (N := 4) hx hb hts hinX1 tyX1 tyX1_ok nmX1 hown hK hP hD hS 0 rfl rfl 2 (by decide) (hts (.fieldLink RX1 9 "KneeBench$BenchText" "newcomer" "I") (List.mem_of_getElem? (i := 3) rfl)) (fun _ h9 => h9) rfl (by decide +kernel) rfl rfl (Nat.le_of_ble_eq_true rfl) dX1_readNewcomer_79 (fun H locs hP hD hS => ?_)
          have hP : va_P D vwCl (flat [WX1 cy h0 a0 s0_10, WX8 cy (a0 0) a1 r5.2, WX0 cy (a0 1) a2 s2]) H := by rw [es]; exact hP
          have hD : va_D A (flat [WX1 cy h0 a0 s0_10, WX8 cy (a0 0) a1 r5.2, WX0 cy (a0 1) a2 s2]) := by rw [es]; exact hD
          clear es
          refine lv_aload_n hx hb dX1_readNewcomer_82 rfl (lv_at hl 0 rfl) ?_
          refine va_get (D := D) (ci := 1) (v := .ref (a0 1)) (C := RX1) (T := TX1) (N := 4) hx hb hts hinX1 hown hK hP 0 rfl rfl 1 (by decide) (hts (.fieldLink RX1 23 "KneeBench$BenchText" "draft" "LKneeBench$Bench;") (List.mem_of_getElem? (i := 1) rfl)) (fun _ h9 => h9) rfl dX1_readNewcomer_83 ?_
          refine va_getN (D := D) (ci := 0) (v := .ref (a2 0)) (C := RX0) (T := TX0) (N := 14) hx hb hts hinX0 hown hK hP 4 rfl rfl 0 (by decide) (NW.fld hN 0 rfl _) (fun _ h9 => h9) rfl dX1_readNewcomer_86 ?_
          refine lv_aload_n hx hb dX1_readNewcomer_89 rfl (lv_at hl 0 rfl) ?_
          refine va_get (D := D) (ci := 1) (v := .int (gi s0_10 2)) (C := RX1) (T := TX1) (N := 4) hx hb hts hinX1 hown hK hP 0 rfl rfl 2 (by decide) (hts (.fieldLink RX1 9 "KneeBench$BenchText" "newcomer" "I") (List.mem_of_getElem? (i := 3) rfl)) (fun _ h9 => h9) rfl dX1_readNewcomer_90 ?_
          refine lv_aload_n hx hb dX1_readNewcomer_93 rfl (lv_at hl 0 rfl) ?_
          refine va_get (D := D) (ci := 1) (v := .ref (a0 0)) (C := RX1) (T := TX1) (N := 4) hx hb hts hinX1 hown hK hP 0 rfl rfl 0 (by decide) (hts (.fieldLink RX1 19 "KneeBench$BenchText" "tokens" "LKneeBench$Tokens;") (List.mem_of_getElem? (i := 2) rfl)) (fun _ h9 => h9) rfl dX1_readNewcomer_94 ?_
          refine va_getN (D := D) (ci := 8) (v := .long (gl r5.2 7)) (C := RX8) (T := TX8) (N := 14) hx hb hts hinX8 hown hK hP 1 rfl rfl 7 (by decide) (NW.fld hN 45 rfl _) (fun _ h9 => h9) rfl dX1_readNewcomer_97 ?_
          obtain ⟨g11, h⟩ := gd_elim h
          obtain ⟨s2_12, es, h⟩ := lt_elim h
          refine va_last hx hb hK hP hD hS 5 2 rfl rfl (inb_in g11) dX1_readNewcomer_100 (fun H locs hP hD hS => ?_)
          have hP : va_P D vwCl (flat [WX1 cy h0 a0 s0_10, WX8 cy (a0 0) a1 r5.2, WX0 cy (a0 1) a2 s2_12]) H := by rw [es]; exact hP
          have hD : va_D A (flat [WX1 cy h0 a0 s0_10, WX8 cy (a0 0) a1 r5.2, WX0 cy (a0 1) a2 s2_12]) := by rw [es]; exact hD
          clear es
          refine lv_aload_n hx hb dX1_readNewcomer_101 rfl (lv_at hl 0 rfl) ?_
          refine va_get (D := D) (ci := 1) (v := .ref (a0 1)) (C := RX1) (T := TX1) (N := 4) hx hb hts hinX1 hown hK hP 0 rfl rfl 1 (by decide) (hts (.fieldLink RX1 23 "KneeBench$BenchText" "draft" "LKneeBench$Bench;") (List.mem_of_getElem? (i := 1) rfl)) (fun _ h9 => h9) rfl dX1_readNewcomer_102 ?_
          refine lv_dup hx hb dX1_readNewcomer_105 rfl ?_
          refine va_getN (D := D) (ci := 0) (v := .int (gi s2_12 8)) (C := RX0) (T := TX0) (N := 14) hx hb hts hinX0 hown hK hP 4 rfl rfl 8 (by decide) (NW.fld hN 15 rfl _) (fun _ h9 => h9) rfl dX1_readNewcomer_106 ?_
          refine lv_iconst (v := 1) hx hb dX1_readNewcomer_109 (by decide) ?_
          refine lv_iadd hx hb dX1_readNewcomer_110 ?_
          obtain ⟨s2_13, es, h⟩ := lt_elim h
          refine va_putN (D := D) (ci := 0) (v := .int ((gi s2_12 8) + (1 : Int32))) (ty := .int) (C := RX0) (T := TX0) (N := 14) hx hb hts hinX0 tyX0 tyX0_ok nmX0 hown hK hP hD hS 4 rfl rfl 8 (by decide) (NW.fld hN 15 rfl _) (fun _ h9 => h9) rfl (by decide +kernel) rfl rfl (Nat.le_of_ble_eq_true rfl) dX1_readNewcomer_111 (fun H locs hP hD hS => ?_)
          have hP : va_P D vwCl (flat [WX1 cy h0 a0 s0_10, WX8 cy (a0 0) a1 r5.2, WX0 cy (a0 1) a2 s2_13]) H := by rw [es]; exact hP
          have hD : va_D A (flat [WX1 cy h0 a0 s0_10, WX8 cy (a0 0) a1 r5.2, WX0 cy (a0 1) a2 s2_13]) := by rw [es]; exact hD
          clear es
          refine lv_aload_n hx hb dX1_readNewcomer_114 rfl (lv_at hl 0 rfl) ?_
          refine va_get (D := D) (ci := 1) (v := .ref (a0 0)) (C := RX1) (T := TX1) (N := 4) hx hb hts hinX1 hown hK hP 0 rfl rfl 0 (by decide) (hts (.fieldLink RX1 19 "KneeBench$BenchText" "tokens" "LKneeBench$Tokens;") (List.mem_of_getElem? (i := 2) rfl)) (fun _ h9 => h9) rfl dX1_readNewcomer_115 ?_
          obtain ⟨r14, hr14, h⟩ := bd_elim h
          refine ca_z (w' := [WX1 cy h0 a0 s0_10, WX8 cy (a0 0) a1 r14.2, WX0 cy (a0 1) a2 s2_13]) (rn_V (As := []) (rest := []) ⟨hx, hb, hml, hown, hts⟩ (kX8_advance l D cy (a0 0) a1 r5.2 r14 hr14 H.size) (cwV 0 hts gX1_readNewcomer_X8_advance rfl rfl rfl (by decide +kernel) ⟨Nat.le_of_ble_eq_true rfl, Nat.le_of_ble_eq_true rfl⟩) hK hN hP hD [1] rfl rfl (ci := 8) (q0 := 1) rfl rfl rfl rfl hl.1 rfl (Nat.le_of_ble_eq_true rfl) dX1_readNewcomer_118 ⟨Nat.le_refl 0, Nat.le_refl 0⟩) hP hD hS hA [1] ⟨rfl, rfl, rfl, rfl⟩ (fun b15 H locs hP hD hS => ?_)
          exact hret 121 H locs ls (r14.1, s0_10, r14.2, s2_13) (Option.some.inj h) hP hD hS b15 dX1_readNewcomer_121
        · replace h := (if_neg c9).symm.trans h
          refine lv_aload_n hx hb dX1_readNewcomer_62 rfl (lv_at hl 0 rfl) ?_
          refine va_get (D := D) (ci := 1) (v := .ref (a0 0)) (C := RX1) (T := TX1) (N := 4) hx hb hts hinX1 hown hK hP 0 rfl rfl 0 (by decide) (hts (.fieldLink RX1 19 "KneeBench$BenchText" "tokens" "LKneeBench$Tokens;") (List.mem_of_getElem? (i := 2) rfl)) (fun _ h9 => h9) rfl dX1_readNewcomer_63 ?_
          refine lv_iconst (v := 3) hx hb dX1_readNewcomer_66 (by decide) ?_
          obtain ⟨r16, hr16, h⟩ := lt_elim h
          refine ca_z (w' := [WX1 cy h0 a0 s0, WX8 cy (a0 0) a1 r16.2, WX0 cy (a0 1) a2 s2]) (rn_V (As := [.int (3 : Int32)]) (rest := []) ⟨hx, hb, hml, hown, hts⟩ (kX8_fail l D cy (a0 0) a1 r5.2 (3 : Int32) r16 hr16.symm H.size) (cwV 1 hts gX1_readNewcomer_X8_fail rfl rfl rfl (by decide +kernel) ⟨Nat.le_of_ble_eq_true rfl, Nat.le_of_ble_eq_true rfl⟩) hK hN hP hD [1] rfl rfl (ci := 8) (q0 := 1) rfl rfl rfl rfl hl.1 rfl (Nat.le_of_ble_eq_true rfl) dX1_readNewcomer_67 ⟨Nat.le_refl 0, Nat.le_refl 0⟩) hP hD hS hA [1] ⟨rfl, rfl, rfl, rfl⟩ (fun b17 H locs hP hD hS => ?_)
          exact hret 70 H locs ls (r16.1, s0, r16.2, s2) (Option.some.inj h) hP hD hS b17 dX1_readNewcomer_70
      · replace h := (if_pos c7).symm.trans h
        refine lv_iconst (v := 0) hx hb dX1_readNewcomer_42 (by decide) ?_
        exact hret 43 H locs ls ((0 : Int32), s0, r5.2, s2) (Option.some.inj h) hP hD hS (show isb (0 : Int32) = true by decide) dX1_readNewcomer_43
  · replace h := (if_neg c1).symm.trans h
    refine lv_aload_n hx hb dX1_readNewcomer_12 rfl (lv_at hl 0 rfl) ?_
    refine va_get (D := D) (ci := 1) (v := .ref (a0 0)) (C := RX1) (T := TX1) (N := 4) hx hb hts hinX1 hown hK hP 0 rfl rfl 0 (by decide) (hts (.fieldLink RX1 19 "KneeBench$BenchText" "tokens" "LKneeBench$Tokens;") (List.mem_of_getElem? (i := 2) rfl)) (fun _ h9 => h9) rfl dX1_readNewcomer_13 ?_
    refine lv_bipush (v := 6) hx hb dX1_readNewcomer_16 (by decide) ?_
    obtain ⟨r18, hr18, h⟩ := lt_elim h
    refine ca_z (w' := [WX1 cy h0 a0 s0, WX8 cy (a0 0) a1 r18.2, WX0 cy (a0 1) a2 s2]) (rn_V (As := [.int (6 : Int32)]) (rest := []) ⟨hx, hb, hml, hown, hts⟩ (kX8_fail l D cy (a0 0) a1 s1 (6 : Int32) r18 hr18.symm H.size) (cwV 1 hts gX1_readNewcomer_X8_fail rfl rfl rfl (by decide +kernel) ⟨Nat.le_of_ble_eq_true rfl, Nat.le_of_ble_eq_true rfl⟩) hK hN hP hD [1] rfl rfl (ci := 8) (q0 := 1) rfl rfl rfl rfl hl.1 rfl (Nat.le_of_ble_eq_true rfl) dX1_readNewcomer_18 ⟨Nat.le_refl 0, Nat.le_refl 0⟩) hP hD hS hA [1] ⟨rfl, rfl, rfl, rfl⟩ (fun b19 H locs hP hD hS => ?_)
    exact hret 21 H locs ls (r18.1, s0, r18.2, s2) (Option.some.inj h) hP hD hS b19 dX1_readNewcomer_21
set_option maxRecDepth 20000 in
theorem ggX8_passWord_X8_advance : GoodIn wsX8_passWord wsX8_advance := goodIn_r _ [6, 7, 8, 9, 10, 11, 12, 13, 1, 14, 15, 16, 5, 17, 18, 19, 20, 21, 22, 23, 24, 25, 26, 27, 28, 29, 30, 31, 32, 33, 34, 35, 36, 37, 38, 39, 40, 41, 42, 43, 44, 45, 46, 47, 48, 49] (by decide +kernel) (by decide +kernel)
set_option maxRecDepth 20000 in
theorem gX8_passWord_X8_advance : GoodIn wsX8_passWord (wsV RX8 74 RX8 yX8_advance wsX8_advance) := goodIn_app (goodIn_of _ (by decide +kernel)) ggX8_passWord_X8_advance
set_option maxRecDepth 20000 in
theorem ggX8_passWord_X8_fail : GoodIn wsX8_passWord wsX8_fail := goodIn_r _ [33, 34, 8, 35, 36, 37, 38, 39, 40, 41, 42, 43, 44, 45, 46, 47, 48, 49] (by decide +kernel) (by decide +kernel)
set_option maxRecDepth 20000 in
theorem gX8_passWord_X8_fail : GoodIn wsX8_passWord (wsV RX8 88 RX8 yX8_fail wsX8_fail) := goodIn_app (goodIn_of _ (by decide +kernel)) ggX8_passWord_X8_fail
theorem dX8_passWord_0 : decode cX8_passWord 0 = .ok (.aload_n 0, 1) := by decide +kernel
theorem dX8_passWord_1 : decode cX8_passWord 1 = .ok (.getfield 41, 3) := by decide +kernel
theorem dX8_passWord_4 : decode cX8_passWord 4 = .ok (.iload_n 1, 1) := by decide +kernel
theorem dX8_passWord_5 : decode cX8_passWord 5 = .ok (.if_icmp .ne 10, 3) := by decide +kernel
theorem dX8_passWord_8 : decode cX8_passWord 8 = .ok (.aload_n 0, 1) := by decide +kernel
theorem dX8_passWord_9 : decode cX8_passWord 9 = .ok (.invokevirtual 74, 3) := by decide +kernel
theorem dX8_passWord_12 : decode cX8_passWord 12 = .ok (.goto 8, 3) := by decide +kernel
theorem dX8_passWord_15 : decode cX8_passWord 15 = .ok (.aload_n 0, 1) := by decide +kernel
theorem dX8_passWord_16 : decode cX8_passWord 16 = .ok (.iconst 2, 1) := by decide +kernel
theorem dX8_passWord_17 : decode cX8_passWord 17 = .ok (.invokevirtual 88, 3) := by decide +kernel
theorem dX8_passWord_20 : decode cX8_passWord 20 = .ok (.ireturn, 1) := by decide +kernel
abbrev rmX8_passWord : Room := { frames := 3, cells := 0, slots := 0, locals := 65 }
set_option maxHeartbeats 4000000 in
set_option maxRecDepth 100000 in
theorem kX8_passWord (l : Launch) (D : va_G) (cy : Nat → ClassId) (h0 : Nat) (a0 : Nat → Nat) (s0 : Rc) (p1 : Int32) (res : Int32 × Rc) (h : fX8_passWord p1 s0 = some res) : CZ l D cy yX8_passWord wsX8_passWord rmX8_passWord [.ref h0, .int p1] (flat [WX8 cy h0 a0 s0]) (flat [WX8 cy h0 a0 res.2]) res.1 := by
  refine CZ.of (cc := cX8_passWord) (maxL := 2) (by decide) rfl (Nat.le_of_ble_eq_true rfl) ?_
  intro p e s m args below meth c A QQ ls E hr
  obtain ⟨hx, hb, hml, hown, hts, hK, hN, hP, hD, hA, hl⟩ := E
  have hret : ∀ (pc : Nat) (H : Heap) (locs : List Loc) (ls : Array Slot) (u : Int32 × Rc), u = res → va_P D vwCl (flat [WX8 cy h0 a0 u.2]) H → va_D A (flat [WX8 cy h0 a0 u.2]) → va_S A s.heap H locs → isb u.1 = true → decode cX8_passWord pc = .ok (.ireturn, 1) → W p l e rmX8_passWord s m args below meth c H locs 0 0 QQ (F0 m pc ls [.int u.1]) := by
    intro pc H locs ls u hu hP hD hS hz hd; subst hu; exact hr pc H locs ls _ rfl hP hD hS hz hd
  clear hr
  have hl : lv_has ls 2 [(0, .ref h0), (1, .int p1)] := hl
  have hinX8 : ∀ w ∈ wsX80, w ∈ wsX8_passWord := fun _ h => List.mem_cons_of_mem _ (List.mem_append_right _ h)
  unfold fX8_passWord at h
  suffices key : ∀ (H : Heap) (locs : List Loc), va_P D vwCl (flat [WX8 cy h0 a0 s0]) H → va_S A s.heap H locs → W p l e rmX8_passWord s m args below meth c H locs 0 0 QQ (F0 m 0 ls []) from key _ _ hP va_S.rf
  clear hP
  intro H locs hP hS
  refine lv_aload_n hx hb dX8_passWord_0 rfl (lv_at hl 0 rfl) ?_
  refine va_get (D := D) (ci := 8) (v := .int (gi s0 8)) (C := RX8) (T := TX8) (N := 14) hx hb hts hinX8 hown hK hP 0 rfl rfl 8 (by decide) (hts (.fieldLink RX8 41 "KneeBench$Tokens" "keyword" "I") (List.mem_of_getElem? (i := 1) rfl)) (fun _ h9 => h9) rfl dX8_passWord_1 ?_
  refine lv_iload_n hx hb dX8_passWord_4 rfl (lv_at hl 1 rfl) ?_
  refine lv_icmp_ne (tgt := 15) hx hb dX8_passWord_5 (by decide) (fun c1 => ?_) (fun c1 => ?_)
  · replace h := (if_neg c1).symm.trans h
    refine lv_aload_n hx hb dX8_passWord_15 rfl (lv_at hl 0 rfl) ?_
    refine lv_iconst (v := 2) hx hb dX8_passWord_16 (by decide) ?_
    obtain ⟨r2, hr2, h⟩ := lt_elim h
    refine ca_z (w' := [WX8 cy h0 a0 r2.2]) (rn_V (As := [.int (2 : Int32)]) (rest := []) ⟨hx, hb, hml, hown, hts⟩ (kX8_fail l D cy h0 a0 s0 (2 : Int32) r2 hr2.symm H.size) (cwV 1 hts gX8_passWord_X8_fail rfl rfl rfl (by decide +kernel) ⟨Nat.le_of_ble_eq_true rfl, Nat.le_of_ble_eq_true rfl⟩) hK hN hP hD [0] rfl rfl (ci := 8) (q0 := 0) rfl rfl rfl rfl hl.1 rfl (Nat.le_of_ble_eq_true rfl) dX8_passWord_17 ⟨Nat.le_refl 0, Nat.le_refl 0⟩) hP hD hS hA [0] ⟨rfl, rfl, rfl, rfl⟩ (fun b3 H locs hP hD hS => ?_)
    exact hret 20 H locs ls (r2.1, r2.2) (Option.some.inj h) hP hD hS b3 dX8_passWord_20
  · replace h := (if_pos c1).symm.trans h
    refine lv_aload_n hx hb dX8_passWord_8 rfl (lv_at hl 0 rfl) ?_
    obtain ⟨r4, hr4, h⟩ := bd_elim h
    refine ca_z (w' := [WX8 cy h0 a0 r4.2]) (rn_V (As := []) (rest := []) ⟨hx, hb, hml, hown, hts⟩ (kX8_advance l D cy h0 a0 s0 r4 hr4 H.size) (cwV 0 hts gX8_passWord_X8_advance rfl rfl rfl (by decide +kernel) ⟨Nat.le_of_ble_eq_true rfl, Nat.le_of_ble_eq_true rfl⟩) hK hN hP hD [0] rfl rfl (ci := 8) (q0 := 0) rfl rfl rfl rfl hl.1 rfl (Nat.le_of_ble_eq_true rfl) dX8_passWord_9 ⟨Nat.le_refl 0, Nat.le_refl 0⟩) hP hD hS hA [0] ⟨rfl, rfl, rfl, rfl⟩ (fun b5 H locs hP hD hS => ?_)
    refine lv_goto (tgt := 20) hx hb dX8_passWord_12 (by decide) ?_
    exact hret 20 H locs ls (r4.1, r4.2) (Option.some.inj h) hP hD hS b5 dX8_passWord_20
theorem dX10_outside_0 : decode cX10_outside 0 = .ok (.iload_n 0, 1) := by decide +kernel
theorem dX10_outside_1 : decode cX10_outside 1 = .ok (.iload_n 1, 1) := by decide +kernel
theorem dX10_outside_2 : decode cX10_outside 2 = .ok (.if_icmp .lt 8, 3) := by decide +kernel
theorem dX10_outside_5 : decode cX10_outside 5 = .ok (.iload_n 0, 1) := by decide +kernel
theorem dX10_outside_6 : decode cX10_outside 6 = .ok (.iload_n 2, 1) := by decide +kernel
theorem dX10_outside_7 : decode cX10_outside 7 = .ok (.if_icmp .le 7, 3) := by decide +kernel
theorem dX10_outside_10 : decode cX10_outside 10 = .ok (.iconst 1, 1) := by decide +kernel
theorem dX10_outside_11 : decode cX10_outside 11 = .ok (.goto 4, 3) := by decide +kernel
theorem dX10_outside_14 : decode cX10_outside 14 = .ok (.iconst 0, 1) := by decide +kernel
theorem dX10_outside_15 : decode cX10_outside 15 = .ok (.ireturn, 1) := by decide +kernel
abbrev rmX10_outside : Room := { frames := 0, cells := 0, slots := 0, locals := 0 }
set_option maxHeartbeats 4000000 in
set_option maxRecDepth 100000 in
theorem kX10_outside (l : Launch) (D : va_G) (cy : Nat → ClassId) (p1 : Int32) (p2 : Int32) (p3 : Int32) (res : Int32) (h : fX10_outside p1 p2 p3 = res) : CZ l D cy yX10_outside wsX10_outside rmX10_outside [.int p1, .int p2, .int p3] (flat []) (flat []) res := by
  refine CZ.of (cc := cX10_outside) (maxL := 3) (by decide) rfl (Nat.le_of_ble_eq_true rfl) ?_
  intro p e s m args below meth c A QQ ls E hr
  obtain ⟨hx, hb, hml, hown, hts, hK, hN, hP, hD, hA, hl⟩ := E
  have hret : ∀ (pc : Nat) (H : Heap) (locs : List Loc) (ls : Array Slot) (u : Int32), u = res → va_P D vwCl (flat []) H → va_D A (flat []) → va_S A s.heap H locs → isb u = true → decode cX10_outside pc = .ok (.ireturn, 1) → W p l e rmX10_outside s m args below meth c H locs 0 0 QQ (F0 m pc ls [.int u]) := by
    intro pc H locs ls u hu hP hD hS hz hd; subst hu; exact hr pc H locs ls _ rfl hP hD hS hz hd
  clear hr
  have hl : lv_has ls 3 [(0, .int p1), (1, .int p2), (2, .int p3)] := hl
  unfold fX10_outside at h
  suffices key : ∀ (H : Heap) (locs : List Loc), va_P D vwCl (flat []) H → va_S A s.heap H locs → W p l e rmX10_outside s m args below meth c H locs 0 0 QQ (F0 m 0 ls []) from key _ _ hP va_S.rf
  clear hP
  intro H locs hP hS
  refine lv_iload_n hx hb dX10_outside_0 rfl (lv_at hl 0 rfl) ?_
  refine lv_iload_n hx hb dX10_outside_1 rfl (lv_at hl 1 rfl) ?_
  refine lv_icmp_lt (tgt := 10) hx hb dX10_outside_2 (by decide) (fun c1 => ?_) (fun c1 => ?_)
  · replace h := (if_pos c1).symm.trans h
    refine lv_iconst (v := 1) hx hb dX10_outside_10 (by decide) ?_
    refine lv_goto (tgt := 15) hx hb dX10_outside_11 (by decide) ?_
    exact hret 15 H locs ls (1 : Int32) h hP hD hS (show isb (1 : Int32) = true by decide) dX10_outside_15
  · replace h := (if_neg c1).symm.trans h
    refine lv_iload_n hx hb dX10_outside_5 rfl (lv_at hl 0 rfl) ?_
    refine lv_iload_n hx hb dX10_outside_6 rfl (lv_at hl 2 rfl) ?_
    refine lv_icmp_le (tgt := 14) hx hb dX10_outside_7 (by decide) (fun c2 => ?_) (fun c2 => ?_)
    · replace h := (if_pos c2).symm.trans h
      refine lv_iconst (v := 0) hx hb dX10_outside_14 (by decide) ?_
      exact hret 15 H locs ls (0 : Int32) h hP hD hS (show isb (0 : Int32) = true by decide) dX10_outside_15
    · replace h := (if_neg c2).symm.trans h
      refine lv_iconst (v := 1) hx hb dX10_outside_10 (by decide) ?_
      refine lv_goto (tgt := 15) hx hb dX10_outside_11 (by decide) ?_
      exact hret 15 H locs ls (1 : Int32) h hP hD hS (show isb (1 : Int32) = true by decide) dX10_outside_15
set_option maxRecDepth 20000 in
theorem ggX8_passNumber_X8_fail : GoodIn wsX8_passNumber wsX8_fail := goodIn_r _ [8, 9, 10, 11, 40, 41, 42, 43, 44, 45, 46, 47, 48, 49, 50, 51, 52, 53] (by decide +kernel) (by decide +kernel)
set_option maxRecDepth 20000 in
theorem gX8_passNumber_X8_fail : GoodIn wsX8_passNumber (wsV RX8 88 RX8 yX8_fail wsX8_fail) := goodIn_app (goodIn_of _ (by decide +kernel)) ggX8_passNumber_X8_fail
set_option maxRecDepth 20000 in
theorem ggX8_passNumber_X10_outside : GoodIn wsX8_passNumber wsX10_outside := goodIn_r _ [14] (by decide +kernel) (by decide +kernel)
set_option maxRecDepth 20000 in
theorem gX8_passNumber_X10_outside_n95 : GoodIn wsX8_passNumber (wsX10_outside) := ggX8_passNumber_X10_outside
set_option maxRecDepth 20000 in
theorem ggX8_passNumber_X8_advance : GoodIn wsX8_passNumber wsX8_advance := goodIn_r _ [18, 19, 10, 20, 21, 1, 22, 23, 24, 2, 25, 26, 7, 27, 28, 29, 30, 31, 32, 33, 34, 35, 36, 37, 38, 39, 4, 5, 6, 8, 9, 11, 40, 41, 42, 43, 44, 45, 46, 47, 48, 49, 50, 51, 52, 53] (by decide +kernel) (by decide +kernel)
set_option maxRecDepth 20000 in
theorem gX8_passNumber_X8_advance : GoodIn wsX8_passNumber (wsV RX8 74 RX8 yX8_advance wsX8_advance) := goodIn_app (goodIn_of _ (by decide +kernel)) ggX8_passNumber_X8_advance
theorem dX8_passNumber_0 : decode cX8_passNumber 0 = .ok (.aload_n 0, 1) := by decide +kernel
theorem dX8_passNumber_1 : decode cX8_passNumber 1 = .ok (.getfield 32, 3) := by decide +kernel
theorem dX8_passNumber_4 : decode cX8_passNumber 4 = .ok (.iconst 2, 1) := by decide +kernel
theorem dX8_passNumber_5 : decode cX8_passNumber 5 = .ok (.if_icmp .eq 9, 3) := by decide +kernel
theorem dX8_passNumber_8 : decode cX8_passNumber 8 = .ok (.aload_n 0, 1) := by decide +kernel
theorem dX8_passNumber_9 : decode cX8_passNumber 9 = .ok (.iconst 2, 1) := by decide +kernel
theorem dX8_passNumber_10 : decode cX8_passNumber 10 = .ok (.invokevirtual 88, 3) := by decide +kernel
theorem dX8_passNumber_13 : decode cX8_passNumber 13 = .ok (.ireturn, 1) := by decide +kernel
theorem dX8_passNumber_14 : decode cX8_passNumber 14 = .ok (.aload_n 0, 1) := by decide +kernel
theorem dX8_passNumber_15 : decode cX8_passNumber 15 = .ok (.getfield 44, 3) := by decide +kernel
theorem dX8_passNumber_18 : decode cX8_passNumber 18 = .ok (.iload_n 1, 1) := by decide +kernel
theorem dX8_passNumber_19 : decode cX8_passNumber 19 = .ok (.iload_n 2, 1) := by decide +kernel
theorem dX8_passNumber_20 : decode cX8_passNumber 20 = .ok (.invokestatic 95, 3) := by decide +kernel
theorem dX8_passNumber_23 : decode cX8_passNumber 23 = .ok (.ifCond .eq 9, 3) := by decide +kernel
theorem dX8_passNumber_26 : decode cX8_passNumber 26 = .ok (.aload_n 0, 1) := by decide +kernel
theorem dX8_passNumber_27 : decode cX8_passNumber 27 = .ok (.iconst 4, 1) := by decide +kernel
theorem dX8_passNumber_28 : decode cX8_passNumber 28 = .ok (.invokevirtual 88, 3) := by decide +kernel
theorem dX8_passNumber_31 : decode cX8_passNumber 31 = .ok (.ireturn, 1) := by decide +kernel
theorem dX8_passNumber_32 : decode cX8_passNumber 32 = .ok (.aload_n 0, 1) := by decide +kernel
theorem dX8_passNumber_33 : decode cX8_passNumber 33 = .ok (.aload_n 0, 1) := by decide +kernel
theorem dX8_passNumber_34 : decode cX8_passNumber 34 = .ok (.getfield 44, 3) := by decide +kernel
theorem dX8_passNumber_37 : decode cX8_passNumber 37 = .ok (.putfield 47, 3) := by decide +kernel
theorem dX8_passNumber_40 : decode cX8_passNumber 40 = .ok (.aload_n 0, 1) := by decide +kernel
theorem dX8_passNumber_41 : decode cX8_passNumber 41 = .ok (.invokevirtual 74, 3) := by decide +kernel
theorem dX8_passNumber_44 : decode cX8_passNumber 44 = .ok (.ireturn, 1) := by decide +kernel
abbrev rmX8_passNumber : Room := { frames := 3, cells := 0, slots := 0, locals := 65 }
set_option maxHeartbeats 4000000 in
set_option maxRecDepth 100000 in
theorem kX8_passNumber (l : Launch) (D : va_G) (cy : Nat → ClassId) (h0 : Nat) (a0 : Nat → Nat) (s0 : Rc) (p1 : Int32) (p2 : Int32) (res : Int32 × Rc) (h : fX8_passNumber p1 p2 s0 = some res) : CZ l D cy yX8_passNumber wsX8_passNumber rmX8_passNumber [.ref h0, .int p1, .int p2] (flat [WX8 cy h0 a0 s0]) (flat [WX8 cy h0 a0 res.2]) res.1 := by
  refine CZ.of (cc := cX8_passNumber) (maxL := 3) (by decide) rfl (Nat.le_of_ble_eq_true rfl) ?_
  intro p e s m args below meth c A QQ ls E hr
  obtain ⟨hx, hb, hml, hown, hts, hK, hN, hP, hD, hA, hl⟩ := E
  have hret : ∀ (pc : Nat) (H : Heap) (locs : List Loc) (ls : Array Slot) (u : Int32 × Rc), u = res → va_P D vwCl (flat [WX8 cy h0 a0 u.2]) H → va_D A (flat [WX8 cy h0 a0 u.2]) → va_S A s.heap H locs → isb u.1 = true → decode cX8_passNumber pc = .ok (.ireturn, 1) → W p l e rmX8_passNumber s m args below meth c H locs 0 0 QQ (F0 m pc ls [.int u.1]) := by
    intro pc H locs ls u hu hP hD hS hz hd; subst hu; exact hr pc H locs ls _ rfl hP hD hS hz hd
  clear hr
  have hl : lv_has ls 3 [(0, .ref h0), (1, .int p1), (2, .int p2)] := hl
  have hinX8 : ∀ w ∈ wsX80, w ∈ wsX8_passNumber := fun _ h => List.mem_cons_of_mem _ (List.mem_append_right _ h)
  unfold fX8_passNumber at h
  suffices key : ∀ (H : Heap) (locs : List Loc), va_P D vwCl (flat [WX8 cy h0 a0 s0]) H → va_S A s.heap H locs → W p l e rmX8_passNumber s m args below meth c H locs 0 0 QQ (F0 m 0 ls []) from key _ _ hP va_S.rf
  clear hP
  intro H locs hP hS
  refine lv_aload_n hx hb dX8_passNumber_0 rfl (lv_at hl 0 rfl) ?_
  refine va_get (D := D) (ci := 8) (v := .int (gi s0 6)) (C := RX8) (T := TX8) (N := 14) hx hb hts hinX8 hown hK hP 0 rfl rfl 6 (by decide) (hts (.fieldLink RX8 32 "KneeBench$Tokens" "kind" "I") (List.mem_of_getElem? (i := 1) rfl)) (fun _ h9 => h9) rfl dX8_passNumber_1 ?_
  refine lv_iconst (v := 2) hx hb dX8_passNumber_4 (by decide) ?_
  refine lv_icmp_eq (tgt := 14) hx hb dX8_passNumber_5 (by decide) (fun c1 => ?_) (fun c1 => ?_)
  · replace h := (if_pos c1).symm.trans h
    refine lv_aload_n hx hb dX8_passNumber_14 rfl (lv_at hl 0 rfl) ?_
    refine va_get (D := D) (ci := 8) (v := .int (gi s0 9)) (C := RX8) (T := TX8) (N := 14) hx hb hts hinX8 hown hK hP 0 rfl rfl 9 (by decide) (hts (.fieldLink RX8 44 "KneeBench$Tokens" "value" "I") (List.mem_of_getElem? (i := 2) rfl)) (fun _ h9 => h9) rfl dX8_passNumber_15 ?_
    refine lv_iload_n hx hb dX8_passNumber_18 rfl (lv_at hl 1 rfl) ?_
    refine lv_iload_n hx hb dX8_passNumber_19 rfl (lv_at hl 2 rfl) ?_
    refine ca_z (w' := [WX8 cy h0 a0 s0]) (rn_SN (As := [.int (gi s0 9), .int p1, .int p2]) (rest := []) ⟨hx, hb, hml, hown, hts⟩ (kX10_outside l D cy (gi s0 9) p1 p2 _ rfl H.size) ⟨va_cnB 3 hts gX8_passNumber_X10_outside_n95 rfl rfl rfl (NW.met hN 10 rfl) (hts (.initialized RX10) (List.mem_of_getElem? (i := 13) rfl)) (by decide +kernel) ⟨Nat.le_of_ble_eq_true rfl, Nat.le_of_ble_eq_true rfl⟩, hts (.static yX10_outside) (List.mem_of_getElem? (i := 12) rfl), trivial⟩ hK hN hP hD [] rfl rfl rfl hl.1 rfl (Nat.le_of_ble_eq_true rfl) dX8_passNumber_20 ⟨Nat.le_refl 0, Nat.le_refl 0⟩) hP hD hS hA [] ⟨rfl, rfl, rfl, rfl⟩ (fun b2 H locs hP hD hS => ?_)
    refine lv_if_eq (tgt := 32) hx hb dX8_passNumber_23 (by decide) (fun c3 => ?_) (fun c3 => ?_)
    · replace h := (if_pos c3).symm.trans h
      refine lv_aload_n hx hb dX8_passNumber_32 rfl (lv_at hl 0 rfl) ?_
      refine lv_aload_n hx hb dX8_passNumber_33 rfl (lv_at hl 0 rfl) ?_
      refine va_get (D := D) (ci := 8) (v := .int (gi s0 9)) (C := RX8) (T := TX8) (N := 14) hx hb hts hinX8 hown hK hP 0 rfl rfl 9 (by decide) (hts (.fieldLink RX8 44 "KneeBench$Tokens" "value" "I") (List.mem_of_getElem? (i := 2) rfl)) (fun _ h9 => h9) rfl dX8_passNumber_34 ?_
      obtain ⟨s0_4, es, h⟩ := lt_elim h
      refine va_put (D := D) (ci := 8) (v := .int (gi s0 9)) (ty := .int) (C := RX8) (T := TX8) (N := 14) hx hb hts hinX8 tyX8 tyX8_ok nmX8 hown hK hP hD hS 0 rfl rfl 10 (by decide) (hts (.fieldLink RX8 47 "KneeBench$Tokens" "number" "I") (List.mem_of_getElem? (i := 3) rfl)) (fun _ h9 => h9) rfl (by decide +kernel) rfl rfl (Nat.le_of_ble_eq_true rfl) dX8_passNumber_37 (fun H locs hP hD hS => ?_)
      have hP : va_P D vwCl (flat [WX8 cy h0 a0 s0_4]) H := by rw [es]; exact hP
      have hD : va_D A (flat [WX8 cy h0 a0 s0_4]) := by rw [es]; exact hD
      clear es
      refine lv_aload_n hx hb dX8_passNumber_40 rfl (lv_at hl 0 rfl) ?_
      obtain ⟨r5, hr5, h⟩ := bd_elim h
      refine ca_z (w' := [WX8 cy h0 a0 r5.2]) (rn_V (As := []) (rest := []) ⟨hx, hb, hml, hown, hts⟩ (kX8_advance l D cy h0 a0 s0_4 r5 hr5 H.size) (cwV 0 hts gX8_passNumber_X8_advance rfl rfl rfl (by decide +kernel) ⟨Nat.le_of_ble_eq_true rfl, Nat.le_of_ble_eq_true rfl⟩) hK hN hP hD [0] rfl rfl (ci := 8) (q0 := 0) rfl rfl rfl rfl hl.1 rfl (Nat.le_of_ble_eq_true rfl) dX8_passNumber_41 ⟨Nat.le_refl 0, Nat.le_refl 0⟩) hP hD hS hA [0] ⟨rfl, rfl, rfl, rfl⟩ (fun b6 H locs hP hD hS => ?_)
      exact hret 44 H locs ls (r5.1, r5.2) (Option.some.inj h) hP hD hS b6 dX8_passNumber_44
    · replace h := (if_neg c3).symm.trans h
      refine lv_aload_n hx hb dX8_passNumber_26 rfl (lv_at hl 0 rfl) ?_
      refine lv_iconst (v := 4) hx hb dX8_passNumber_27 (by decide) ?_
      obtain ⟨r7, hr7, h⟩ := lt_elim h
      refine ca_z (w' := [WX8 cy h0 a0 r7.2]) (rn_V (As := [.int (4 : Int32)]) (rest := []) ⟨hx, hb, hml, hown, hts⟩ (kX8_fail l D cy h0 a0 s0 (4 : Int32) r7 hr7.symm H.size) (cwV 1 hts gX8_passNumber_X8_fail rfl rfl rfl (by decide +kernel) ⟨Nat.le_of_ble_eq_true rfl, Nat.le_of_ble_eq_true rfl⟩) hK hN hP hD [0] rfl rfl (ci := 8) (q0 := 0) rfl rfl rfl rfl hl.1 rfl (Nat.le_of_ble_eq_true rfl) dX8_passNumber_28 ⟨Nat.le_refl 0, Nat.le_refl 0⟩) hP hD hS hA [0] ⟨rfl, rfl, rfl, rfl⟩ (fun b8 H locs hP hD hS => ?_)
      exact hret 31 H locs ls (r7.1, r7.2) (Option.some.inj h) hP hD hS b8 dX8_passNumber_31
  · replace h := (if_neg c1).symm.trans h
    refine lv_aload_n hx hb dX8_passNumber_8 rfl (lv_at hl 0 rfl) ?_
    refine lv_iconst (v := 2) hx hb dX8_passNumber_9 (by decide) ?_
    obtain ⟨r9, hr9, h⟩ := lt_elim h
    refine ca_z (w' := [WX8 cy h0 a0 r9.2]) (rn_V (As := [.int (2 : Int32)]) (rest := []) ⟨hx, hb, hml, hown, hts⟩ (kX8_fail l D cy h0 a0 s0 (2 : Int32) r9 hr9.symm H.size) (cwV 1 hts gX8_passNumber_X8_fail rfl rfl rfl (by decide +kernel) ⟨Nat.le_of_ble_eq_true rfl, Nat.le_of_ble_eq_true rfl⟩) hK hN hP hD [0] rfl rfl (ci := 8) (q0 := 0) rfl rfl rfl rfl hl.1 rfl (Nat.le_of_ble_eq_true rfl) dX8_passNumber_10 ⟨Nat.le_refl 0, Nat.le_refl 0⟩) hP hD hS hA [0] ⟨rfl, rfl, rfl, rfl⟩ (fun b10 H locs hP hD hS => ?_)
    exact hret 13 H locs ls (r9.1, r9.2) (Option.some.inj h) hP hD hS b10 dX8_passNumber_13
set_option maxRecDepth 20000 in
theorem ggX1_readLag_X8_passWord : GoodIn wsX1_readLag wsX8_passWord := goodIn_r _ [8, 9, 10, 11, 12, 7, 13, 14, 15, 16, 17, 18, 19, 20, 21, 22, 23, 24, 25, 26, 27, 28, 29, 30, 31, 32, 33, 34, 35, 36, 37, 38, 39, 40, 41, 42, 57, 58, 59, 60, 61, 62, 63, 64, 65, 66, 67, 68, 69, 70] (by decide +kernel) (by decide +kernel)
set_option maxRecDepth 20000 in
theorem gX1_readLag_X8_passWord : GoodIn wsX1_readLag (wsV RX1 99 RX8 yX8_passWord wsX8_passWord) := goodIn_app (goodIn_of _ (by decide +kernel)) ggX1_readLag_X8_passWord
set_option maxRecDepth 20000 in
theorem ggX1_readLag_X10_bit : GoodIn wsX1_readLag wsX10_bit := goodIn_r _ [45] (by decide +kernel) (by decide +kernel)
set_option maxRecDepth 20000 in
theorem gX1_readLag_X10_bit_n102 : GoodIn wsX1_readLag (wsX10_bit) := ggX1_readLag_X10_bit
set_option maxRecDepth 20000 in
theorem ggX1_readLag_X8_passNumber : GoodIn wsX1_readLag wsX8_passNumber := goodIn_r _ [49, 18, 21, 50, 37, 38, 39, 7, 40, 41, 15, 42, 51, 44, 52, 10, 11, 12, 13, 14, 16, 17, 19, 20, 9, 22, 23, 24, 25, 26, 27, 28, 29, 30, 31, 32, 33, 34, 35, 36, 57, 58, 59, 60, 61, 62, 63, 64, 65, 66, 67, 68, 69, 70] (by decide +kernel) (by decide +kernel)
set_option maxRecDepth 20000 in
theorem gX1_readLag_X8_passNumber : GoodIn wsX1_readLag (wsV RX1 106 RX8 yX8_passNumber wsX8_passNumber) := goodIn_app (goodIn_of _ (by decide +kernel)) ggX1_readLag_X8_passNumber
theorem dX1_readLag_0 : decode cX1_readLag 0 = .ok (.aload_n 0, 1) := by decide +kernel
theorem dX1_readLag_1 : decode cX1_readLag 1 = .ok (.getfield 19, 3) := by decide +kernel
theorem dX1_readLag_4 : decode cX1_readLag 4 = .ok (.getfield 51, 3) := by decide +kernel
theorem dX1_readLag_7 : decode cX1_readLag 7 = .ok (.iconst 2, 1) := by decide +kernel
theorem dX1_readLag_8 : decode cX1_readLag 8 = .ok (.if_icmp .ne 7, 3) := by decide +kernel
theorem dX1_readLag_11 : decode cX1_readLag 11 = .ok (.iconst 1, 1) := by decide +kernel
theorem dX1_readLag_12 : decode cX1_readLag 12 = .ok (.goto 4, 3) := by decide +kernel
theorem dX1_readLag_15 : decode cX1_readLag 15 = .ok (.iconst 0, 1) := by decide +kernel
theorem dX1_readLag_16 : decode cX1_readLag 16 = .ok (.istore_n 1, 1) := by decide +kernel
theorem dX1_readLag_17 : decode cX1_readLag 17 = .ok (.aload_n 0, 1) := by decide +kernel
theorem dX1_readLag_18 : decode cX1_readLag 18 = .ok (.getfield 19, 3) := by decide +kernel
theorem dX1_readLag_21 : decode cX1_readLag 21 = .ok (.iload_n 1, 1) := by decide +kernel
theorem dX1_readLag_22 : decode cX1_readLag 22 = .ok (.ifCond .eq 7, 3) := by decide +kernel
theorem dX1_readLag_25 : decode cX1_readLag 25 = .ok (.iconst 2, 1) := by decide +kernel
theorem dX1_readLag_26 : decode cX1_readLag 26 = .ok (.goto 4, 3) := by decide +kernel
theorem dX1_readLag_29 : decode cX1_readLag 29 = .ok (.iconst 1, 1) := by decide +kernel
theorem dX1_readLag_30 : decode cX1_readLag 30 = .ok (.invokevirtual 99, 3) := by decide +kernel
theorem dX1_readLag_33 : decode cX1_readLag 33 = .ok (.ifCond .eq 18, 3) := by decide +kernel
theorem dX1_readLag_36 : decode cX1_readLag 36 = .ok (.aload_n 0, 1) := by decide +kernel
theorem dX1_readLag_37 : decode cX1_readLag 37 = .ok (.getfield 19, 3) := by decide +kernel
theorem dX1_readLag_40 : decode cX1_readLag 40 = .ok (.iload_n 1, 1) := by decide +kernel
theorem dX1_readLag_41 : decode cX1_readLag 41 = .ok (.invokestatic 102, 3) := by decide +kernel
theorem dX1_readLag_44 : decode cX1_readLag 44 = .ok (.iconst 3, 1) := by decide +kernel
theorem dX1_readLag_45 : decode cX1_readLag 45 = .ok (.invokevirtual 106, 3) := by decide +kernel
theorem dX1_readLag_48 : decode cX1_readLag 48 = .ok (.ifCond .ne 5, 3) := by decide +kernel
theorem dX1_readLag_51 : decode cX1_readLag 51 = .ok (.iconst 0, 1) := by decide +kernel
theorem dX1_readLag_52 : decode cX1_readLag 52 = .ok (.ireturn, 1) := by decide +kernel
theorem dX1_readLag_53 : decode cX1_readLag 53 = .ok (.aload_n 0, 1) := by decide +kernel
theorem dX1_readLag_54 : decode cX1_readLag 54 = .ok (.getfield 23, 3) := by decide +kernel
theorem dX1_readLag_57 : decode cX1_readLag 57 = .ok (.getfield 110, 3) := by decide +kernel
theorem dX1_readLag_60 : decode cX1_readLag 60 = .ok (.aload_n 0, 1) := by decide +kernel
theorem dX1_readLag_61 : decode cX1_readLag 61 = .ok (.getfield 9, 3) := by decide +kernel
theorem dX1_readLag_64 : decode cX1_readLag 64 = .ok (.iload_n 1, 1) := by decide +kernel
theorem dX1_readLag_65 : decode cX1_readLag 65 = .ok (.ifCond .eq 14, 3) := by decide +kernel
theorem dX1_readLag_68 : decode cX1_readLag 68 = .ok (.aload_n 0, 1) := by decide +kernel
theorem dX1_readLag_69 : decode cX1_readLag 69 = .ok (.getfield 19, 3) := by decide +kernel
theorem dX1_readLag_72 : decode cX1_readLag 72 = .ok (.getfield 114, 3) := by decide +kernel
theorem dX1_readLag_75 : decode cX1_readLag 75 = .ok (.ineg, 1) := by decide +kernel
theorem dX1_readLag_76 : decode cX1_readLag 76 = .ok (.goto 10, 3) := by decide +kernel
theorem dX1_readLag_79 : decode cX1_readLag 79 = .ok (.aload_n 0, 1) := by decide +kernel
theorem dX1_readLag_80 : decode cX1_readLag 80 = .ok (.getfield 19, 3) := by decide +kernel
theorem dX1_readLag_83 : decode cX1_readLag 83 = .ok (.getfield 114, 3) := by decide +kernel
theorem dX1_readLag_86 : decode cX1_readLag 86 = .ok (.iastore, 1) := by decide +kernel
theorem dX1_readLag_87 : decode cX1_readLag 87 = .ok (.iconst 1, 1) := by decide +kernel
theorem dX1_readLag_88 : decode cX1_readLag 88 = .ok (.ireturn, 1) := by decide +kernel
abbrev rmX1_readLag : Room := { frames := 4, cells := 0, slots := 0, locals := 87 }
set_option maxHeartbeats 4000000 in
set_option maxRecDepth 100000 in
theorem kX1_readLag (l : Launch) (D : va_G) (cy : Nat → ClassId) (h0 : Nat) (a0 : Nat → Nat) (a1 : Nat → Nat) (a2 : Nat → Nat) (s0 : Rc) (s1 : Rc) (s2 : Rc) (res : Int32 × Rc × Rc) (h : fX1_readLag s0 s1 s2 = some res) : CZ l D cy yX1_readLag wsX1_readLag rmX1_readLag [.ref h0] (flat [WX1 cy h0 a0 s0, WX8 cy (a0 0) a1 s1, WX0 cy (a0 1) a2 s2]) (flat [WX1 cy h0 a0 s0, WX8 cy (a0 0) a1 res.2.1, WX0 cy (a0 1) a2 res.2.2]) res.1 := by
  refine CZ.of (cc := cX1_readLag) (maxL := 2) (by decide) rfl (Nat.le_of_ble_eq_true rfl) ?_
  intro p e s m args below meth c A QQ ls E hr
  obtain ⟨hx, hb, hml, hown, hts, hK, hN, hP, hD, hA, hl⟩ := E
  have hret : ∀ (pc : Nat) (H : Heap) (locs : List Loc) (ls : Array Slot) (u : Int32 × Rc × Rc), u = res → va_P D vwCl (flat [WX1 cy h0 a0 s0, WX8 cy (a0 0) a1 u.2.1, WX0 cy (a0 1) a2 u.2.2]) H → va_D A (flat [WX1 cy h0 a0 s0, WX8 cy (a0 0) a1 u.2.1, WX0 cy (a0 1) a2 u.2.2]) → va_S A s.heap H locs → isb u.1 = true → decode cX1_readLag pc = .ok (.ireturn, 1) → W p l e rmX1_readLag s m args below meth c H locs 0 0 QQ (F0 m pc ls [.int u.1]) := by
    intro pc H locs ls u hu hP hD hS hz hd; subst hu; exact hr pc H locs ls _ rfl hP hD hS hz hd
  clear hr
  have hl : lv_has ls 2 [(0, .ref h0)] := hl
  have hinX0 : ∀ w ∈ wsX00, w ∈ wsX1_readLag := fun _ h => List.mem_cons_of_mem _ (List.mem_append_right _ h)
  have hinX1 : ∀ w ∈ wsX10, w ∈ wsX1_readLag := fun _ h => List.mem_cons_of_mem _ (List.mem_append_left _ (List.mem_append_left _ (List.mem_append_right _ h)))
  have hinX8 : ∀ w ∈ wsX80, w ∈ wsX1_readLag := fun _ h => List.mem_cons_of_mem _ (List.mem_append_left _ (List.mem_append_right _ h))
  unfold fX1_readLag at h
  suffices key : ∀ (H : Heap) (locs : List Loc), va_P D vwCl (flat [WX1 cy h0 a0 s0, WX8 cy (a0 0) a1 s1, WX0 cy (a0 1) a2 s2]) H → va_S A s.heap H locs → W p l e rmX1_readLag s m args below meth c H locs 0 0 QQ (F0 m 0 ls []) from key _ _ hP va_S.rf
  clear hP
  intro H locs hP hS
  have J30 : ∀ (y30_1 : Int32) (z30_0 : Int32) (H : Heap) (locs : List Loc) (ls : Array Slot), lv_has ls 2 [(0, .ref h0), (1, .int y30_1)] → va_P D vwCl (flat [WX1 cy h0 a0 s0, WX8 cy (a0 0) a1 s1, WX0 cy (a0 1) a2 s2]) H → va_D A (flat [WX1 cy h0 a0 s0, WX8 cy (a0 0) a1 s1, WX0 cy (a0 1) a2 s2]) → va_S A s.heap H locs → fX1_readLag_J30 s0 s1 s2 y30_1 z30_0 = some res → W p l e rmX1_readLag s m args below meth c H locs 0 0 QQ (F0 m 30 ls [.int z30_0, .ref (a0 0)]) := by
    intro y30_1 z30_0 H locs ls hl hP hD hS h
    unfold fX1_readLag_J30 at h
    obtain ⟨r1, hr1, h⟩ := bd_elim h
    refine ca_z (w' := [WX1 cy h0 a0 s0, WX8 cy (a0 0) a1 r1.2, WX0 cy (a0 1) a2 s2]) (rn_V (As := [.int z30_0]) (rest := []) ⟨hx, hb, hml, hown, hts⟩ (kX8_passWord l D cy (a0 0) a1 s1 z30_0 r1 hr1 H.size) (cwV 1 hts gX1_readLag_X8_passWord rfl rfl rfl (by decide +kernel) ⟨Nat.le_of_ble_eq_true rfl, Nat.le_of_ble_eq_true rfl⟩) hK hN hP hD [1] rfl rfl (ci := 8) (q0 := 1) rfl rfl rfl rfl hl.1 rfl (Nat.le_of_ble_eq_true rfl) dX1_readLag_30 ⟨Nat.le_refl 0, Nat.le_refl 0⟩) hP hD hS hA [1] ⟨rfl, rfl, rfl, rfl⟩ (fun b2 H locs hP hD hS => ?_)
    refine lv_if_eq (tgt := 51) hx hb dX1_readLag_33 (by decide) (fun c3 => ?_) (fun c3 => ?_)
    · replace h := (if_pos c3).symm.trans h
      refine lv_iconst (v := 0) hx hb dX1_readLag_51 (by decide) ?_
      exact hret 52 H locs ls ((0 : Int32), r1.2, s2) (Option.some.inj h) hP hD hS (show isb (0 : Int32) = true by decide) dX1_readLag_52
    · replace h := (if_neg c3).symm.trans h
      refine lv_aload_n hx hb dX1_readLag_36 rfl (lv_at hl 0 rfl) ?_
      refine va_get (D := D) (ci := 1) (v := .ref (a0 0)) (C := RX1) (T := TX1) (N := 4) hx hb hts hinX1 hown hK hP 0 rfl rfl 0 (by decide) (hts (.fieldLink RX1 19 "KneeBench$BenchText" "tokens" "LKneeBench$Tokens;") (List.mem_of_getElem? (i := 1) rfl)) (fun _ h9 => h9) rfl dX1_readLag_37 ?_
      refine lv_iload_n hx hb dX1_readLag_40 rfl (lv_at hl 1 rfl) ?_
      refine ca_i (w' := [WX1 cy h0 a0 s0, WX8 cy (a0 0) a1 r1.2, WX0 cy (a0 1) a2 s2]) (rn_SN (As := [.int y30_1]) (rest := [.ref (a0 0)]) ⟨hx, hb, hml, hown, hts⟩ (kX10_bit l D cy y30_1 _ rfl H.size) ⟨va_cnB 1 hts gX1_readLag_X10_bit_n102 rfl rfl rfl (NW.met hN 9 rfl) (hts (.initialized RX10) (List.mem_of_getElem? (i := 44) rfl)) (by decide +kernel) ⟨Nat.le_of_ble_eq_true rfl, Nat.le_of_ble_eq_true rfl⟩, hts (.static yX10_bit) (List.mem_of_getElem? (i := 43) rfl), trivial⟩ hK hN hP hD [] rfl rfl rfl hl.1 rfl (Nat.le_of_ble_eq_true rfl) dX1_readLag_41 ⟨Nat.le_refl 0, Nat.le_refl 0⟩) hP hD hS hA [] ⟨rfl, rfl, rfl, rfl⟩ (fun H locs hP hD hS => ?_)
      refine lv_iconst (v := 3) hx hb dX1_readLag_44 (by decide) ?_
      obtain ⟨r4, hr4, h⟩ := bd_elim h
      refine ca_z (w' := [WX1 cy h0 a0 s0, WX8 cy (a0 0) a1 r4.2, WX0 cy (a0 1) a2 s2]) (rn_V (As := [.int (fX10_bit y30_1), .int (3 : Int32)]) (rest := []) ⟨hx, hb, hml, hown, hts⟩ (kX8_passNumber l D cy (a0 0) a1 r1.2 (fX10_bit y30_1) (3 : Int32) r4 hr4 H.size) (cwV 2 hts gX1_readLag_X8_passNumber rfl rfl rfl (by decide +kernel) ⟨Nat.le_of_ble_eq_true rfl, Nat.le_of_ble_eq_true rfl⟩) hK hN hP hD [1] rfl rfl (ci := 8) (q0 := 1) rfl rfl rfl rfl hl.1 rfl (Nat.le_of_ble_eq_true rfl) dX1_readLag_45 ⟨Nat.le_refl 0, Nat.le_refl 0⟩) hP hD hS hA [1] ⟨rfl, rfl, rfl, rfl⟩ (fun b5 H locs hP hD hS => ?_)
      refine lv_if_ne (tgt := 53) hx hb dX1_readLag_48 (by decide) (fun c6 => ?_) (fun c6 => ?_)
      · replace h := (if_neg c6).symm.trans h
        refine lv_aload_n hx hb dX1_readLag_53 rfl (lv_at hl 0 rfl) ?_
        refine va_get (D := D) (ci := 1) (v := .ref (a0 1)) (C := RX1) (T := TX1) (N := 4) hx hb hts hinX1 hown hK hP 0 rfl rfl 1 (by decide) (hts (.fieldLink RX1 23 "KneeBench$BenchText" "draft" "LKneeBench$Bench;") (List.mem_of_getElem? (i := 2) rfl)) (fun _ h9 => h9) rfl dX1_readLag_54 ?_
        refine va_getN (D := D) (ci := 0) (v := .ref (a2 1)) (C := RX0) (T := TX0) (N := 14) hx hb hts hinX0 hown hK hP 4 rfl rfl 1 (by decide) (NW.fld hN 1 rfl _) (fun _ h9 => h9) rfl dX1_readLag_57 ?_
        refine lv_aload_n hx hb dX1_readLag_60 rfl (lv_at hl 0 rfl) ?_
        refine va_get (D := D) (ci := 1) (v := .int (gi s0 2)) (C := RX1) (T := TX1) (N := 4) hx hb hts hinX1 hown hK hP 0 rfl rfl 2 (by decide) (hts (.fieldLink RX1 9 "KneeBench$BenchText" "newcomer" "I") (List.mem_of_getElem? (i := 3) rfl)) (fun _ h9 => h9) rfl dX1_readLag_61 ?_
        refine lv_iload_n hx hb dX1_readLag_64 rfl (lv_at hl 1 rfl) ?_
        refine lv_if_eq (tgt := 79) hx hb dX1_readLag_65 (by decide) (fun c7 => ?_) (fun c7 => ?_)
        · replace h := (if_pos c7).symm.trans h
          refine lv_aload_n hx hb dX1_readLag_79 rfl (lv_at hl 0 rfl) ?_
          refine va_get (D := D) (ci := 1) (v := .ref (a0 0)) (C := RX1) (T := TX1) (N := 4) hx hb hts hinX1 hown hK hP 0 rfl rfl 0 (by decide) (hts (.fieldLink RX1 19 "KneeBench$BenchText" "tokens" "LKneeBench$Tokens;") (List.mem_of_getElem? (i := 1) rfl)) (fun _ h9 => h9) rfl dX1_readLag_80 ?_
          refine va_getN (D := D) (ci := 8) (v := .int (gi r4.2 10)) (C := RX8) (T := TX8) (N := 14) hx hb hts hinX8 hown hK hP 1 rfl rfl 10 (by decide) (NW.fld hN 49 rfl _) (fun _ h9 => h9) rfl dX1_readLag_83 ?_
          obtain ⟨g8, h⟩ := gd_elim h
          obtain ⟨s2_9, es, h⟩ := lt_elim h
          refine va_iast hx hb hK hP hD hS 6 1 rfl rfl (inb_in g8) dX1_readLag_86 (fun H locs hP hD hS => ?_)
          have hP : va_P D vwCl (flat [WX1 cy h0 a0 s0, WX8 cy (a0 0) a1 r4.2, WX0 cy (a0 1) a2 s2_9]) H := by rw [es]; exact hP
          have hD : va_D A (flat [WX1 cy h0 a0 s0, WX8 cy (a0 0) a1 r4.2, WX0 cy (a0 1) a2 s2_9]) := by rw [es]; exact hD
          clear es
          refine lv_iconst (v := 1) hx hb dX1_readLag_87 (by decide) ?_
          exact hret 88 H locs ls ((1 : Int32), r4.2, s2_9) (Option.some.inj h) hP hD hS (show isb (1 : Int32) = true by decide) dX1_readLag_88
        · replace h := (if_neg c7).symm.trans h
          refine lv_aload_n hx hb dX1_readLag_68 rfl (lv_at hl 0 rfl) ?_
          refine va_get (D := D) (ci := 1) (v := .ref (a0 0)) (C := RX1) (T := TX1) (N := 4) hx hb hts hinX1 hown hK hP 0 rfl rfl 0 (by decide) (hts (.fieldLink RX1 19 "KneeBench$BenchText" "tokens" "LKneeBench$Tokens;") (List.mem_of_getElem? (i := 1) rfl)) (fun _ h9 => h9) rfl dX1_readLag_69 ?_
          refine va_getN (D := D) (ci := 8) (v := .int (gi r4.2 10)) (C := RX8) (T := TX8) (N := 14) hx hb hts hinX8 hown hK hP 1 rfl rfl 10 (by decide) (NW.fld hN 49 rfl _) (fun _ h9 => h9) rfl dX1_readLag_72 ?_
          refine lv_ineg hx hb dX1_readLag_75 ?_
          refine lv_goto (tgt := 86) hx hb dX1_readLag_76 (by decide) ?_
          obtain ⟨g10, h⟩ := gd_elim h
          obtain ⟨s2_11, es, h⟩ := lt_elim h
          refine va_iast hx hb hK hP hD hS 6 1 rfl rfl (inb_in g10) dX1_readLag_86 (fun H locs hP hD hS => ?_)
          have hP : va_P D vwCl (flat [WX1 cy h0 a0 s0, WX8 cy (a0 0) a1 r4.2, WX0 cy (a0 1) a2 s2_11]) H := by rw [es]; exact hP
          have hD : va_D A (flat [WX1 cy h0 a0 s0, WX8 cy (a0 0) a1 r4.2, WX0 cy (a0 1) a2 s2_11]) := by rw [es]; exact hD
          clear es
          refine lv_iconst (v := 1) hx hb dX1_readLag_87 (by decide) ?_
          exact hret 88 H locs ls ((1 : Int32), r4.2, s2_11) (Option.some.inj h) hP hD hS (show isb (1 : Int32) = true by decide) dX1_readLag_88
      · replace h := (if_pos c6).symm.trans h
        refine lv_iconst (v := 0) hx hb dX1_readLag_51 (by decide) ?_
        exact hret 52 H locs ls ((0 : Int32), r4.2, s2) (Option.some.inj h) hP hD hS (show isb (0 : Int32) = true by decide) dX1_readLag_52
  have J16 : ∀ (z16_0 : Int32) (H : Heap) (locs : List Loc) (ls : Array Slot), lv_has ls 2 [(0, .ref h0)] → va_P D vwCl (flat [WX1 cy h0 a0 s0, WX8 cy (a0 0) a1 s1, WX0 cy (a0 1) a2 s2]) H → va_D A (flat [WX1 cy h0 a0 s0, WX8 cy (a0 0) a1 s1, WX0 cy (a0 1) a2 s2]) → va_S A s.heap H locs → fX1_readLag_J16 s0 s1 s2 z16_0 = some res → W p l e rmX1_readLag s m args below meth c H locs 0 0 QQ (F0 m 16 ls [.int z16_0]) := by
    intro z16_0 H locs ls hl hP hD hS h
    unfold fX1_readLag_J16 at h
    refine lv_istore_n (lv' := [(1, .int z16_0), (0, .ref h0)]) hx hb dX1_readLag_16 rfl hl (by decide) rfl (fun ls hl => ?_)
    refine lv_aload_n hx hb dX1_readLag_17 rfl (lv_at hl 1 rfl) ?_
    refine va_get (D := D) (ci := 1) (v := .ref (a0 0)) (C := RX1) (T := TX1) (N := 4) hx hb hts hinX1 hown hK hP 0 rfl rfl 0 (by decide) (hts (.fieldLink RX1 19 "KneeBench$BenchText" "tokens" "LKneeBench$Tokens;") (List.mem_of_getElem? (i := 1) rfl)) (fun _ h9 => h9) rfl dX1_readLag_18 ?_
    refine lv_iload_n hx hb dX1_readLag_21 rfl (lv_at hl 0 rfl) ?_
    refine lv_if_eq (tgt := 29) hx hb dX1_readLag_22 (by decide) (fun c12 => ?_) (fun c12 => ?_)
    · replace h := (if_pos c12).symm.trans h
      refine lv_iconst (v := 1) hx hb dX1_readLag_29 (by decide) ?_
      exact J30 z16_0 (1 : Int32) H locs ls (lv_sub hl [1, 0] rfl) hP hD hS h
    · replace h := (if_neg c12).symm.trans h
      refine lv_iconst (v := 2) hx hb dX1_readLag_25 (by decide) ?_
      refine lv_goto (tgt := 30) hx hb dX1_readLag_26 (by decide) ?_
      exact J30 z16_0 (2 : Int32) H locs ls (lv_sub hl [1, 0] rfl) hP hD hS h
  refine lv_aload_n hx hb dX1_readLag_0 rfl (lv_at hl 0 rfl) ?_
  refine va_get (D := D) (ci := 1) (v := .ref (a0 0)) (C := RX1) (T := TX1) (N := 4) hx hb hts hinX1 hown hK hP 0 rfl rfl 0 (by decide) (hts (.fieldLink RX1 19 "KneeBench$BenchText" "tokens" "LKneeBench$Tokens;") (List.mem_of_getElem? (i := 1) rfl)) (fun _ h9 => h9) rfl dX1_readLag_1 ?_
  refine va_getN (D := D) (ci := 8) (v := .int (gi s1 8)) (C := RX8) (T := TX8) (N := 14) hx hb hts hinX8 hown hK hP 1 rfl rfl 8 (by decide) (NW.fld hN 47 rfl _) (fun _ h9 => h9) rfl dX1_readLag_4 ?_
  refine lv_iconst (v := 2) hx hb dX1_readLag_7 (by decide) ?_
  refine lv_icmp_ne (tgt := 15) hx hb dX1_readLag_8 (by decide) (fun c13 => ?_) (fun c13 => ?_)
  · replace h := (if_neg c13).symm.trans h
    refine lv_iconst (v := 0) hx hb dX1_readLag_15 (by decide) ?_
    exact J16 (0 : Int32) H locs ls (lv_sub hl [0] rfl) hP hD hS h
  · replace h := (if_pos c13).symm.trans h
    refine lv_iconst (v := 1) hx hb dX1_readLag_11 (by decide) ?_
    refine lv_goto (tgt := 16) hx hb dX1_readLag_12 (by decide) ?_
    exact J16 (1 : Int32) H locs ls (lv_sub hl [0] rfl) hP hD hS h
set_option maxRecDepth 20000 in
theorem ggX1_readKnee_X8_passWord : GoodIn wsX1_readKnee wsX8_passWord := goodIn_r _ [8, 9, 10, 11, 12, 7, 13, 14, 15, 16, 17, 18, 19, 20, 21, 22, 23, 24, 25, 26, 27, 28, 29, 30, 31, 32, 33, 34, 35, 36, 37, 38, 39, 40, 41, 42, 70, 71, 72, 73, 74, 75, 76, 77, 78, 79, 80, 81, 82, 83] (by decide +kernel) (by decide +kernel)
set_option maxRecDepth 20000 in
theorem gX1_readKnee_X8_passWord : GoodIn wsX1_readKnee (wsV RX1 99 RX8 yX8_passWord wsX8_passWord) := goodIn_app (goodIn_of _ (by decide +kernel)) ggX1_readKnee_X8_passWord
set_option maxRecDepth 20000 in
theorem ggX1_readKnee_X8_passNumber : GoodIn wsX1_readKnee wsX8_passNumber := goodIn_r _ [46, 18, 21, 47, 37, 38, 39, 7, 40, 41, 15, 42, 48, 49, 50, 10, 11, 12, 13, 14, 16, 17, 19, 20, 9, 22, 23, 24, 25, 26, 27, 28, 29, 30, 31, 32, 33, 34, 35, 36, 70, 71, 72, 73, 74, 75, 76, 77, 78, 79, 80, 81, 82, 83] (by decide +kernel) (by decide +kernel)
set_option maxRecDepth 20000 in
theorem gX1_readKnee_X8_passNumber : GoodIn wsX1_readKnee (wsV RX1 106 RX8 yX8_passNumber wsX8_passNumber) := goodIn_app (goodIn_of _ (by decide +kernel)) ggX1_readKnee_X8_passNumber
set_option maxRecDepth 20000 in
theorem ggX1_readKnee_X8_advance : GoodIn wsX1_readKnee wsX8_advance := goodIn_r _ [13, 14, 15, 16, 17, 18, 19, 20, 9, 21, 22, 23, 7, 24, 25, 26, 27, 28, 29, 30, 31, 32, 33, 34, 35, 36, 37, 38, 39, 40, 41, 42, 70, 71, 72, 73, 74, 75, 76, 77, 78, 79, 80, 81, 82, 83] (by decide +kernel) (by decide +kernel)
set_option maxRecDepth 20000 in
theorem gX1_readKnee_X8_advance : GoodIn wsX1_readKnee (wsV RX1 81 RX8 yX8_advance wsX8_advance) := goodIn_app (goodIn_of _ (by decide +kernel)) ggX1_readKnee_X8_advance
theorem dX1_readKnee_0 : decode cX1_readKnee 0 = .ok (.aload_n 0, 1) := by decide +kernel
theorem dX1_readKnee_1 : decode cX1_readKnee 1 = .ok (.getfield 19, 3) := by decide +kernel
theorem dX1_readKnee_4 : decode cX1_readKnee 4 = .ok (.iconst 3, 1) := by decide +kernel
theorem dX1_readKnee_5 : decode cX1_readKnee 5 = .ok (.invokevirtual 99, 3) := by decide +kernel
theorem dX1_readKnee_8 : decode cX1_readKnee 8 = .ok (.ifCond .eq 16, 3) := by decide +kernel
theorem dX1_readKnee_11 : decode cX1_readKnee 11 = .ok (.aload_n 0, 1) := by decide +kernel
theorem dX1_readKnee_12 : decode cX1_readKnee 12 = .ok (.getfield 19, 3) := by decide +kernel
theorem dX1_readKnee_15 : decode cX1_readKnee 15 = .ok (.iconst 0, 1) := by decide +kernel
theorem dX1_readKnee_16 : decode cX1_readKnee 16 = .ok (.bipush 16, 2) := by decide +kernel
theorem dX1_readKnee_18 : decode cX1_readKnee 18 = .ok (.invokevirtual 106, 3) := by decide +kernel
theorem dX1_readKnee_21 : decode cX1_readKnee 21 = .ok (.ifCond .ne 5, 3) := by decide +kernel
theorem dX1_readKnee_24 : decode cX1_readKnee 24 = .ok (.iconst 0, 1) := by decide +kernel
theorem dX1_readKnee_25 : decode cX1_readKnee 25 = .ok (.ireturn, 1) := by decide +kernel
theorem dX1_readKnee_26 : decode cX1_readKnee 26 = .ok (.aload_n 0, 1) := by decide +kernel
theorem dX1_readKnee_27 : decode cX1_readKnee 27 = .ok (.getfield 23, 3) := by decide +kernel
theorem dX1_readKnee_30 : decode cX1_readKnee 30 = .ok (.getfield 117, 3) := by decide +kernel
theorem dX1_readKnee_33 : decode cX1_readKnee 33 = .ok (.aload_n 0, 1) := by decide +kernel
theorem dX1_readKnee_34 : decode cX1_readKnee 34 = .ok (.getfield 9, 3) := by decide +kernel
theorem dX1_readKnee_37 : decode cX1_readKnee 37 = .ok (.aload_n 0, 1) := by decide +kernel
theorem dX1_readKnee_38 : decode cX1_readKnee 38 = .ok (.getfield 19, 3) := by decide +kernel
theorem dX1_readKnee_41 : decode cX1_readKnee 41 = .ok (.getfield 114, 3) := by decide +kernel
theorem dX1_readKnee_44 : decode cX1_readKnee 44 = .ok (.iastore, 1) := by decide +kernel
theorem dX1_readKnee_45 : decode cX1_readKnee 45 = .ok (.aload_n 0, 1) := by decide +kernel
theorem dX1_readKnee_46 : decode cX1_readKnee 46 = .ok (.getfield 19, 3) := by decide +kernel
theorem dX1_readKnee_49 : decode cX1_readKnee 49 = .ok (.iconst 4, 1) := by decide +kernel
theorem dX1_readKnee_50 : decode cX1_readKnee 50 = .ok (.invokevirtual 99, 3) := by decide +kernel
theorem dX1_readKnee_53 : decode cX1_readKnee 53 = .ok (.ifCond .eq 16, 3) := by decide +kernel
theorem dX1_readKnee_56 : decode cX1_readKnee 56 = .ok (.aload_n 0, 1) := by decide +kernel
theorem dX1_readKnee_57 : decode cX1_readKnee 57 = .ok (.getfield 19, 3) := by decide +kernel
theorem dX1_readKnee_60 : decode cX1_readKnee 60 = .ok (.iconst 0, 1) := by decide +kernel
theorem dX1_readKnee_61 : decode cX1_readKnee 61 = .ok (.bipush 16, 2) := by decide +kernel
theorem dX1_readKnee_63 : decode cX1_readKnee 63 = .ok (.invokevirtual 106, 3) := by decide +kernel
theorem dX1_readKnee_66 : decode cX1_readKnee 66 = .ok (.ifCond .ne 5, 3) := by decide +kernel
theorem dX1_readKnee_69 : decode cX1_readKnee 69 = .ok (.iconst 0, 1) := by decide +kernel
theorem dX1_readKnee_70 : decode cX1_readKnee 70 = .ok (.ireturn, 1) := by decide +kernel
theorem dX1_readKnee_71 : decode cX1_readKnee 71 = .ok (.aload_n 0, 1) := by decide +kernel
theorem dX1_readKnee_72 : decode cX1_readKnee 72 = .ok (.getfield 23, 3) := by decide +kernel
theorem dX1_readKnee_75 : decode cX1_readKnee 75 = .ok (.getfield 120, 3) := by decide +kernel
theorem dX1_readKnee_78 : decode cX1_readKnee 78 = .ok (.aload_n 0, 1) := by decide +kernel
theorem dX1_readKnee_79 : decode cX1_readKnee 79 = .ok (.getfield 9, 3) := by decide +kernel
theorem dX1_readKnee_82 : decode cX1_readKnee 82 = .ok (.aload_n 0, 1) := by decide +kernel
theorem dX1_readKnee_83 : decode cX1_readKnee 83 = .ok (.getfield 19, 3) := by decide +kernel
theorem dX1_readKnee_86 : decode cX1_readKnee 86 = .ok (.getfield 114, 3) := by decide +kernel
theorem dX1_readKnee_89 : decode cX1_readKnee 89 = .ok (.iastore, 1) := by decide +kernel
theorem dX1_readKnee_90 : decode cX1_readKnee 90 = .ok (.aload_n 0, 1) := by decide +kernel
theorem dX1_readKnee_91 : decode cX1_readKnee 91 = .ok (.getfield 19, 3) := by decide +kernel
theorem dX1_readKnee_94 : decode cX1_readKnee 94 = .ok (.getfield 51, 3) := by decide +kernel
theorem dX1_readKnee_97 : decode cX1_readKnee 97 = .ok (.iconst 5, 1) := by decide +kernel
theorem dX1_readKnee_98 : decode cX1_readKnee 98 = .ok (.if_icmp .eq 5, 3) := by decide +kernel
theorem dX1_readKnee_101 : decode cX1_readKnee 101 = .ok (.iconst 1, 1) := by decide +kernel
theorem dX1_readKnee_102 : decode cX1_readKnee 102 = .ok (.ireturn, 1) := by decide +kernel
theorem dX1_readKnee_103 : decode cX1_readKnee 103 = .ok (.aload_n 0, 1) := by decide +kernel
theorem dX1_readKnee_104 : decode cX1_readKnee 104 = .ok (.getfield 23, 3) := by decide +kernel
theorem dX1_readKnee_107 : decode cX1_readKnee 107 = .ok (.dup, 1) := by decide +kernel
theorem dX1_readKnee_108 : decode cX1_readKnee 108 = .ok (.getfield 123, 3) := by decide +kernel
theorem dX1_readKnee_111 : decode cX1_readKnee 111 = .ok (.iconst 1, 1) := by decide +kernel
theorem dX1_readKnee_112 : decode cX1_readKnee 112 = .ok (.aload_n 0, 1) := by decide +kernel
theorem dX1_readKnee_113 : decode cX1_readKnee 113 = .ok (.getfield 9, 3) := by decide +kernel
theorem dX1_readKnee_116 : decode cX1_readKnee 116 = .ok (.ishl, 1) := by decide +kernel
theorem dX1_readKnee_117 : decode cX1_readKnee 117 = .ok (.ior, 1) := by decide +kernel
theorem dX1_readKnee_118 : decode cX1_readKnee 118 = .ok (.putfield 123, 3) := by decide +kernel
theorem dX1_readKnee_121 : decode cX1_readKnee 121 = .ok (.aload_n 0, 1) := by decide +kernel
theorem dX1_readKnee_122 : decode cX1_readKnee 122 = .ok (.getfield 19, 3) := by decide +kernel
theorem dX1_readKnee_125 : decode cX1_readKnee 125 = .ok (.invokevirtual 81, 3) := by decide +kernel
theorem dX1_readKnee_128 : decode cX1_readKnee 128 = .ok (.ireturn, 1) := by decide +kernel
abbrev rmX1_readKnee : Room := { frames := 4, cells := 0, slots := 0, locals := 87 }
set_option maxHeartbeats 4000000 in
set_option maxRecDepth 100000 in
theorem kX1_readKnee (l : Launch) (D : va_G) (cy : Nat → ClassId) (h0 : Nat) (a0 : Nat → Nat) (a1 : Nat → Nat) (a2 : Nat → Nat) (s0 : Rc) (s1 : Rc) (s2 : Rc) (res : Int32 × Rc × Rc) (h : fX1_readKnee s0 s1 s2 = some res) : CZ l D cy yX1_readKnee wsX1_readKnee rmX1_readKnee [.ref h0] (flat [WX1 cy h0 a0 s0, WX8 cy (a0 0) a1 s1, WX0 cy (a0 1) a2 s2]) (flat [WX1 cy h0 a0 s0, WX8 cy (a0 0) a1 res.2.1, WX0 cy (a0 1) a2 res.2.2]) res.1 := by
  refine CZ.of (cc := cX1_readKnee) (maxL := 1) (by decide) rfl (Nat.le_of_ble_eq_true rfl) ?_
  intro p e s m args below meth c A QQ ls E hr
  obtain ⟨hx, hb, hml, hown, hts, hK, hN, hP, hD, hA, hl⟩ := E
  have hret : ∀ (pc : Nat) (H : Heap) (locs : List Loc) (ls : Array Slot) (u : Int32 × Rc × Rc), u = res → va_P D vwCl (flat [WX1 cy h0 a0 s0, WX8 cy (a0 0) a1 u.2.1, WX0 cy (a0 1) a2 u.2.2]) H → va_D A (flat [WX1 cy h0 a0 s0, WX8 cy (a0 0) a1 u.2.1, WX0 cy (a0 1) a2 u.2.2]) → va_S A s.heap H locs → isb u.1 = true → decode cX1_readKnee pc = .ok (.ireturn, 1) → W p l e rmX1_readKnee s m args below meth c H locs 0 0 QQ (F0 m pc ls [.int u.1]) := by
    intro pc H locs ls u hu hP hD hS hz hd; subst hu; exact hr pc H locs ls _ rfl hP hD hS hz hd
  clear hr
  have hl : lv_has ls 1 [(0, .ref h0)] := hl
  have hinX0 : ∀ w ∈ wsX00, w ∈ wsX1_readKnee := fun _ h => List.mem_cons_of_mem _ (List.mem_append_left _ (List.mem_append_right _ h))
  have hinX1 : ∀ w ∈ wsX10, w ∈ wsX1_readKnee := fun _ h => List.mem_cons_of_mem _ (List.mem_append_left _ (List.mem_append_left _ (List.mem_append_right _ h)))
  have hinX8 : ∀ w ∈ wsX80, w ∈ wsX1_readKnee := fun _ h => List.mem_cons_of_mem _ (List.mem_append_right _ h)
  unfold fX1_readKnee at h
  suffices key : ∀ (H : Heap) (locs : List Loc), va_P D vwCl (flat [WX1 cy h0 a0 s0, WX8 cy (a0 0) a1 s1, WX0 cy (a0 1) a2 s2]) H → va_S A s.heap H locs → W p l e rmX1_readKnee s m args below meth c H locs 0 0 QQ (F0 m 0 ls []) from key _ _ hP va_S.rf
  clear hP
  intro H locs hP hS
  refine lv_aload_n hx hb dX1_readKnee_0 rfl (lv_at hl 0 rfl) ?_
  refine va_get (D := D) (ci := 1) (v := .ref (a0 0)) (C := RX1) (T := TX1) (N := 4) hx hb hts hinX1 hown hK hP 0 rfl rfl 0 (by decide) (hts (.fieldLink RX1 19 "KneeBench$BenchText" "tokens" "LKneeBench$Tokens;") (List.mem_of_getElem? (i := 1) rfl)) (fun _ h9 => h9) rfl dX1_readKnee_1 ?_
  refine lv_iconst (v := 3) hx hb dX1_readKnee_4 (by decide) ?_
  obtain ⟨r1, hr1, h⟩ := bd_elim h
  refine ca_z (w' := [WX1 cy h0 a0 s0, WX8 cy (a0 0) a1 r1.2, WX0 cy (a0 1) a2 s2]) (rn_V (As := [.int (3 : Int32)]) (rest := []) ⟨hx, hb, hml, hown, hts⟩ (kX8_passWord l D cy (a0 0) a1 s1 (3 : Int32) r1 hr1 H.size) (cwV 1 hts gX1_readKnee_X8_passWord rfl rfl rfl (by decide +kernel) ⟨Nat.le_of_ble_eq_true rfl, Nat.le_of_ble_eq_true rfl⟩) hK hN hP hD [1] rfl rfl (ci := 8) (q0 := 1) rfl rfl rfl rfl hl.1 rfl (Nat.le_of_ble_eq_true rfl) dX1_readKnee_5 ⟨Nat.le_refl 0, Nat.le_refl 0⟩) hP hD hS hA [1] ⟨rfl, rfl, rfl, rfl⟩ (fun b2 H locs hP hD hS => ?_)
  refine lv_if_eq (tgt := 24) hx hb dX1_readKnee_8 (by decide) (fun c3 => ?_) (fun c3 => ?_)
  · replace h := (if_pos c3).symm.trans h
    refine lv_iconst (v := 0) hx hb dX1_readKnee_24 (by decide) ?_
    exact hret 25 H locs ls ((0 : Int32), r1.2, s2) (Option.some.inj h) hP hD hS (show isb (0 : Int32) = true by decide) dX1_readKnee_25
  · replace h := (if_neg c3).symm.trans h
    refine lv_aload_n hx hb dX1_readKnee_11 rfl (lv_at hl 0 rfl) ?_
    refine va_get (D := D) (ci := 1) (v := .ref (a0 0)) (C := RX1) (T := TX1) (N := 4) hx hb hts hinX1 hown hK hP 0 rfl rfl 0 (by decide) (hts (.fieldLink RX1 19 "KneeBench$BenchText" "tokens" "LKneeBench$Tokens;") (List.mem_of_getElem? (i := 1) rfl)) (fun _ h9 => h9) rfl dX1_readKnee_12 ?_
    refine lv_iconst (v := 0) hx hb dX1_readKnee_15 (by decide) ?_
    refine lv_bipush (v := 16) hx hb dX1_readKnee_16 (by decide) ?_
    obtain ⟨r4, hr4, h⟩ := bd_elim h
    refine ca_z (w' := [WX1 cy h0 a0 s0, WX8 cy (a0 0) a1 r4.2, WX0 cy (a0 1) a2 s2]) (rn_V (As := [.int (0 : Int32), .int (16 : Int32)]) (rest := []) ⟨hx, hb, hml, hown, hts⟩ (kX8_passNumber l D cy (a0 0) a1 r1.2 (0 : Int32) (16 : Int32) r4 hr4 H.size) (cwV 2 hts gX1_readKnee_X8_passNumber rfl rfl rfl (by decide +kernel) ⟨Nat.le_of_ble_eq_true rfl, Nat.le_of_ble_eq_true rfl⟩) hK hN hP hD [1] rfl rfl (ci := 8) (q0 := 1) rfl rfl rfl rfl hl.1 rfl (Nat.le_of_ble_eq_true rfl) dX1_readKnee_18 ⟨Nat.le_refl 0, Nat.le_refl 0⟩) hP hD hS hA [1] ⟨rfl, rfl, rfl, rfl⟩ (fun b5 H locs hP hD hS => ?_)
    refine lv_if_ne (tgt := 26) hx hb dX1_readKnee_21 (by decide) (fun c6 => ?_) (fun c6 => ?_)
    · replace h := (if_neg c6).symm.trans h
      refine lv_aload_n hx hb dX1_readKnee_26 rfl (lv_at hl 0 rfl) ?_
      refine va_get (D := D) (ci := 1) (v := .ref (a0 1)) (C := RX1) (T := TX1) (N := 4) hx hb hts hinX1 hown hK hP 0 rfl rfl 1 (by decide) (hts (.fieldLink RX1 23 "KneeBench$BenchText" "draft" "LKneeBench$Bench;") (List.mem_of_getElem? (i := 2) rfl)) (fun _ h9 => h9) rfl dX1_readKnee_27 ?_
      refine va_getN (D := D) (ci := 0) (v := .ref (a2 2)) (C := RX0) (T := TX0) (N := 14) hx hb hts hinX0 hown hK hP 4 rfl rfl 2 (by decide) (NW.fld hN 3 rfl _) (fun _ h9 => h9) rfl dX1_readKnee_30 ?_
      refine lv_aload_n hx hb dX1_readKnee_33 rfl (lv_at hl 0 rfl) ?_
      refine va_get (D := D) (ci := 1) (v := .int (gi s0 2)) (C := RX1) (T := TX1) (N := 4) hx hb hts hinX1 hown hK hP 0 rfl rfl 2 (by decide) (hts (.fieldLink RX1 9 "KneeBench$BenchText" "newcomer" "I") (List.mem_of_getElem? (i := 3) rfl)) (fun _ h9 => h9) rfl dX1_readKnee_34 ?_
      refine lv_aload_n hx hb dX1_readKnee_37 rfl (lv_at hl 0 rfl) ?_
      refine va_get (D := D) (ci := 1) (v := .ref (a0 0)) (C := RX1) (T := TX1) (N := 4) hx hb hts hinX1 hown hK hP 0 rfl rfl 0 (by decide) (hts (.fieldLink RX1 19 "KneeBench$BenchText" "tokens" "LKneeBench$Tokens;") (List.mem_of_getElem? (i := 1) rfl)) (fun _ h9 => h9) rfl dX1_readKnee_38 ?_
      refine va_getN (D := D) (ci := 8) (v := .int (gi r4.2 10)) (C := RX8) (T := TX8) (N := 14) hx hb hts hinX8 hown hK hP 1 rfl rfl 10 (by decide) (NW.fld hN 49 rfl _) (fun _ h9 => h9) rfl dX1_readKnee_41 ?_
      obtain ⟨g7, h⟩ := gd_elim h
      obtain ⟨s2_8, es, h⟩ := lt_elim h
      refine va_iast hx hb hK hP hD hS 7 1 rfl rfl (inb_in g7) dX1_readKnee_44 (fun H locs hP hD hS => ?_)
      have hP : va_P D vwCl (flat [WX1 cy h0 a0 s0, WX8 cy (a0 0) a1 r4.2, WX0 cy (a0 1) a2 s2_8]) H := by rw [es]; exact hP
      have hD : va_D A (flat [WX1 cy h0 a0 s0, WX8 cy (a0 0) a1 r4.2, WX0 cy (a0 1) a2 s2_8]) := by rw [es]; exact hD
      clear es
      refine lv_aload_n hx hb dX1_readKnee_45 rfl (lv_at hl 0 rfl) ?_
      refine va_get (D := D) (ci := 1) (v := .ref (a0 0)) (C := RX1) (T := TX1) (N := 4) hx hb hts hinX1 hown hK hP 0 rfl rfl 0 (by decide) (hts (.fieldLink RX1 19 "KneeBench$BenchText" "tokens" "LKneeBench$Tokens;") (List.mem_of_getElem? (i := 1) rfl)) (fun _ h9 => h9) rfl dX1_readKnee_46 ?_
      refine lv_iconst (v := 4) hx hb dX1_readKnee_49 (by decide) ?_
      obtain ⟨r9, hr9, h⟩ := bd_elim h
      refine ca_z (w' := [WX1 cy h0 a0 s0, WX8 cy (a0 0) a1 r9.2, WX0 cy (a0 1) a2 s2_8]) (rn_V (As := [.int (4 : Int32)]) (rest := []) ⟨hx, hb, hml, hown, hts⟩ (kX8_passWord l D cy (a0 0) a1 r4.2 (4 : Int32) r9 hr9 H.size) (cwV 1 hts gX1_readKnee_X8_passWord rfl rfl rfl (by decide +kernel) ⟨Nat.le_of_ble_eq_true rfl, Nat.le_of_ble_eq_true rfl⟩) hK hN hP hD [1] rfl rfl (ci := 8) (q0 := 1) rfl rfl rfl rfl hl.1 rfl (Nat.le_of_ble_eq_true rfl) dX1_readKnee_50 ⟨Nat.le_refl 0, Nat.le_refl 0⟩) hP hD hS hA [1] ⟨rfl, rfl, rfl, rfl⟩ (fun b10 H locs hP hD hS => ?_)
      refine lv_if_eq (tgt := 69) hx hb dX1_readKnee_53 (by decide) (fun c11 => ?_) (fun c11 => ?_)
      · replace h := (if_pos c11).symm.trans h
        refine lv_iconst (v := 0) hx hb dX1_readKnee_69 (by decide) ?_
        exact hret 70 H locs ls ((0 : Int32), r9.2, s2_8) (Option.some.inj h) hP hD hS (show isb (0 : Int32) = true by decide) dX1_readKnee_70
      · replace h := (if_neg c11).symm.trans h
        refine lv_aload_n hx hb dX1_readKnee_56 rfl (lv_at hl 0 rfl) ?_
        refine va_get (D := D) (ci := 1) (v := .ref (a0 0)) (C := RX1) (T := TX1) (N := 4) hx hb hts hinX1 hown hK hP 0 rfl rfl 0 (by decide) (hts (.fieldLink RX1 19 "KneeBench$BenchText" "tokens" "LKneeBench$Tokens;") (List.mem_of_getElem? (i := 1) rfl)) (fun _ h9 => h9) rfl dX1_readKnee_57 ?_
        refine lv_iconst (v := 0) hx hb dX1_readKnee_60 (by decide) ?_
        refine lv_bipush (v := 16) hx hb dX1_readKnee_61 (by decide) ?_
        obtain ⟨r12, hr12, h⟩ := bd_elim h
        refine ca_z (w' := [WX1 cy h0 a0 s0, WX8 cy (a0 0) a1 r12.2, WX0 cy (a0 1) a2 s2_8]) (rn_V (As := [.int (0 : Int32), .int (16 : Int32)]) (rest := []) ⟨hx, hb, hml, hown, hts⟩ (kX8_passNumber l D cy (a0 0) a1 r9.2 (0 : Int32) (16 : Int32) r12 hr12 H.size) (cwV 2 hts gX1_readKnee_X8_passNumber rfl rfl rfl (by decide +kernel) ⟨Nat.le_of_ble_eq_true rfl, Nat.le_of_ble_eq_true rfl⟩) hK hN hP hD [1] rfl rfl (ci := 8) (q0 := 1) rfl rfl rfl rfl hl.1 rfl (Nat.le_of_ble_eq_true rfl) dX1_readKnee_63 ⟨Nat.le_refl 0, Nat.le_refl 0⟩) hP hD hS hA [1] ⟨rfl, rfl, rfl, rfl⟩ (fun b13 H locs hP hD hS => ?_)
        refine lv_if_ne (tgt := 71) hx hb dX1_readKnee_66 (by decide) (fun c14 => ?_) (fun c14 => ?_)
        · replace h := (if_neg c14).symm.trans h
          refine lv_aload_n hx hb dX1_readKnee_71 rfl (lv_at hl 0 rfl) ?_
          refine va_get (D := D) (ci := 1) (v := .ref (a0 1)) (C := RX1) (T := TX1) (N := 4) hx hb hts hinX1 hown hK hP 0 rfl rfl 1 (by decide) (hts (.fieldLink RX1 23 "KneeBench$BenchText" "draft" "LKneeBench$Bench;") (List.mem_of_getElem? (i := 2) rfl)) (fun _ h9 => h9) rfl dX1_readKnee_72 ?_
          refine va_getN (D := D) (ci := 0) (v := .ref (a2 3)) (C := RX0) (T := TX0) (N := 14) hx hb hts hinX0 hown hK hP 4 rfl rfl 3 (by decide) (NW.fld hN 5 rfl _) (fun _ h9 => h9) rfl dX1_readKnee_75 ?_
          refine lv_aload_n hx hb dX1_readKnee_78 rfl (lv_at hl 0 rfl) ?_
          refine va_get (D := D) (ci := 1) (v := .int (gi s0 2)) (C := RX1) (T := TX1) (N := 4) hx hb hts hinX1 hown hK hP 0 rfl rfl 2 (by decide) (hts (.fieldLink RX1 9 "KneeBench$BenchText" "newcomer" "I") (List.mem_of_getElem? (i := 3) rfl)) (fun _ h9 => h9) rfl dX1_readKnee_79 ?_
          refine lv_aload_n hx hb dX1_readKnee_82 rfl (lv_at hl 0 rfl) ?_
          refine va_get (D := D) (ci := 1) (v := .ref (a0 0)) (C := RX1) (T := TX1) (N := 4) hx hb hts hinX1 hown hK hP 0 rfl rfl 0 (by decide) (hts (.fieldLink RX1 19 "KneeBench$BenchText" "tokens" "LKneeBench$Tokens;") (List.mem_of_getElem? (i := 1) rfl)) (fun _ h9 => h9) rfl dX1_readKnee_83 ?_
          refine va_getN (D := D) (ci := 8) (v := .int (gi r12.2 10)) (C := RX8) (T := TX8) (N := 14) hx hb hts hinX8 hown hK hP 1 rfl rfl 10 (by decide) (NW.fld hN 49 rfl _) (fun _ h9 => h9) rfl dX1_readKnee_86 ?_
          obtain ⟨s2_15, es, h⟩ := lt_elim h
          refine va_iast hx hb hK hP hD hS 8 1 rfl rfl (inb_in g7) dX1_readKnee_89 (fun H locs hP hD hS => ?_)
          have hP : va_P D vwCl (flat [WX1 cy h0 a0 s0, WX8 cy (a0 0) a1 r12.2, WX0 cy (a0 1) a2 s2_15]) H := by rw [es]; exact hP
          have hD : va_D A (flat [WX1 cy h0 a0 s0, WX8 cy (a0 0) a1 r12.2, WX0 cy (a0 1) a2 s2_15]) := by rw [es]; exact hD
          clear es
          refine lv_aload_n hx hb dX1_readKnee_90 rfl (lv_at hl 0 rfl) ?_
          refine va_get (D := D) (ci := 1) (v := .ref (a0 0)) (C := RX1) (T := TX1) (N := 4) hx hb hts hinX1 hown hK hP 0 rfl rfl 0 (by decide) (hts (.fieldLink RX1 19 "KneeBench$BenchText" "tokens" "LKneeBench$Tokens;") (List.mem_of_getElem? (i := 1) rfl)) (fun _ h9 => h9) rfl dX1_readKnee_91 ?_
          refine va_getN (D := D) (ci := 8) (v := .int (gi r12.2 8)) (C := RX8) (T := TX8) (N := 14) hx hb hts hinX8 hown hK hP 1 rfl rfl 8 (by decide) (NW.fld hN 47 rfl _) (fun _ h9 => h9) rfl dX1_readKnee_94 ?_
          refine lv_iconst (v := 5) hx hb dX1_readKnee_97 (by decide) ?_
          refine lv_icmp_eq (tgt := 103) hx hb dX1_readKnee_98 (by decide) (fun c16 => ?_) (fun c16 => ?_)
          · replace h := (if_pos c16).symm.trans h
            refine lv_aload_n hx hb dX1_readKnee_103 rfl (lv_at hl 0 rfl) ?_
            refine va_get (D := D) (ci := 1) (v := .ref (a0 1)) (C := RX1) (T := TX1) (N := 4) hx hb hts hinX1 hown hK hP 0 rfl rfl 1 (by decide) (hts (.fieldLink RX1 23 "KneeBench$BenchText" "draft" "LKneeBench$Bench;") (List.mem_of_getElem? (i := 2) rfl)) (fun _ h9 => h9) rfl dX1_readKnee_104 ?_
            refine lv_dup hx hb dX1_readKnee_107 rfl ?_
            refine va_getN (D := D) (ci := 0) (v := .int (gi s2_15 13)) (C := RX0) (T := TX0) (N := 14) hx hb hts hinX0 hown hK hP 4 rfl rfl 13 (by decide) (NW.fld hN 24 rfl _) (fun _ h9 => h9) rfl dX1_readKnee_108 ?_
            refine lv_iconst (v := 1) hx hb dX1_readKnee_111 (by decide) ?_
            refine lv_aload_n hx hb dX1_readKnee_112 rfl (lv_at hl 0 rfl) ?_
            refine va_get (D := D) (ci := 1) (v := .int (gi s0 2)) (C := RX1) (T := TX1) (N := 4) hx hb hts hinX1 hown hK hP 0 rfl rfl 2 (by decide) (hts (.fieldLink RX1 9 "KneeBench$BenchText" "newcomer" "I") (List.mem_of_getElem? (i := 3) rfl)) (fun _ h9 => h9) rfl dX1_readKnee_113 ?_
            refine lv_ishl hx hb dX1_readKnee_116 ?_
            refine lv_ior hx hb dX1_readKnee_117 ?_
            obtain ⟨s2_17, es, h⟩ := lt_elim h
            refine va_putN (D := D) (ci := 0) (v := .int ((gi s2_15 13) ||| ((1 : Int32) <<< ((gi s0 2) &&& 31)))) (ty := .int) (C := RX0) (T := TX0) (N := 14) hx hb hts hinX0 tyX0 tyX0_ok nmX0 hown hK hP hD hS 4 rfl rfl 13 (by decide) (NW.fld hN 24 rfl _) (fun _ h9 => h9) rfl (by decide +kernel) rfl rfl (Nat.le_of_ble_eq_true rfl) dX1_readKnee_118 (fun H locs hP hD hS => ?_)
            have hP : va_P D vwCl (flat [WX1 cy h0 a0 s0, WX8 cy (a0 0) a1 r12.2, WX0 cy (a0 1) a2 s2_17]) H := by rw [es]; exact hP
            have hD : va_D A (flat [WX1 cy h0 a0 s0, WX8 cy (a0 0) a1 r12.2, WX0 cy (a0 1) a2 s2_17]) := by rw [es]; exact hD
            clear es
            refine lv_aload_n hx hb dX1_readKnee_121 rfl (lv_at hl 0 rfl) ?_
            refine va_get (D := D) (ci := 1) (v := .ref (a0 0)) (C := RX1) (T := TX1) (N := 4) hx hb hts hinX1 hown hK hP 0 rfl rfl 0 (by decide) (hts (.fieldLink RX1 19 "KneeBench$BenchText" "tokens" "LKneeBench$Tokens;") (List.mem_of_getElem? (i := 1) rfl)) (fun _ h9 => h9) rfl dX1_readKnee_122 ?_
            obtain ⟨r18, hr18, h⟩ := bd_elim h
            refine ca_z (w' := [WX1 cy h0 a0 s0, WX8 cy (a0 0) a1 r18.2, WX0 cy (a0 1) a2 s2_17]) (rn_V (As := []) (rest := []) ⟨hx, hb, hml, hown, hts⟩ (kX8_advance l D cy (a0 0) a1 r12.2 r18 hr18 H.size) (cwV 0 hts gX1_readKnee_X8_advance rfl rfl rfl (by decide +kernel) ⟨Nat.le_of_ble_eq_true rfl, Nat.le_of_ble_eq_true rfl⟩) hK hN hP hD [1] rfl rfl (ci := 8) (q0 := 1) rfl rfl rfl rfl hl.1 rfl (Nat.le_of_ble_eq_true rfl) dX1_readKnee_125 ⟨Nat.le_refl 0, Nat.le_refl 0⟩) hP hD hS hA [1] ⟨rfl, rfl, rfl, rfl⟩ (fun b19 H locs hP hD hS => ?_)
            exact hret 128 H locs ls (r18.1, r18.2, s2_17) (Option.some.inj h) hP hD hS b19 dX1_readKnee_128
          · replace h := (if_neg c16).symm.trans h
            refine lv_iconst (v := 1) hx hb dX1_readKnee_101 (by decide) ?_
            exact hret 102 H locs ls ((1 : Int32), r12.2, s2_15) (Option.some.inj h) hP hD hS (show isb (1 : Int32) = true by decide) dX1_readKnee_102
        · replace h := (if_pos c14).symm.trans h
          refine lv_iconst (v := 0) hx hb dX1_readKnee_69 (by decide) ?_
          exact hret 70 H locs ls ((0 : Int32), r12.2, s2_8) (Option.some.inj h) hP hD hS (show isb (0 : Int32) = true by decide) dX1_readKnee_70
    · replace h := (if_pos c6).symm.trans h
      refine lv_iconst (v := 0) hx hb dX1_readKnee_24 (by decide) ?_
      exact hret 25 H locs ls ((0 : Int32), r4.2, s2) (Option.some.inj h) hP hD hS (show isb (0 : Int32) = true by decide) dX1_readKnee_25
set_option maxRecDepth 20000 in
theorem ggX1_readCure_X8_passWord : GoodIn wsX1_readCure wsX8_passWord := goodIn_r _ [8, 9, 10, 11, 12, 7, 13, 14, 15, 16, 17, 18, 19, 20, 21, 22, 23, 24, 25, 26, 27, 28, 29, 30, 31, 32, 33, 34, 35, 36, 37, 38, 39, 40, 41, 42, 69, 70, 71, 72, 73, 74, 75, 76, 77, 78, 79, 80, 81, 82] (by decide +kernel) (by decide +kernel)
set_option maxRecDepth 20000 in
theorem gX1_readCure_X8_passWord : GoodIn wsX1_readCure (wsV RX1 99 RX8 yX8_passWord wsX8_passWord) := goodIn_app (goodIn_of _ (by decide +kernel)) ggX1_readCure_X8_passWord
set_option maxRecDepth 20000 in
theorem ggX1_readCure_X8_passNumber : GoodIn wsX1_readCure wsX8_passNumber := goodIn_r _ [46, 18, 21, 47, 37, 38, 39, 7, 40, 41, 15, 42, 48, 49, 50, 10, 11, 12, 13, 14, 16, 17, 19, 20, 9, 22, 23, 24, 25, 26, 27, 28, 29, 30, 31, 32, 33, 34, 35, 36, 69, 70, 71, 72, 73, 74, 75, 76, 77, 78, 79, 80, 81, 82] (by decide +kernel) (by decide +kernel)
set_option maxRecDepth 20000 in
theorem gX1_readCure_X8_passNumber : GoodIn wsX1_readCure (wsV RX1 106 RX8 yX8_passNumber wsX8_passNumber) := goodIn_app (goodIn_of _ (by decide +kernel)) ggX1_readCure_X8_passNumber
theorem dX1_readCure_0 : decode cX1_readCure 0 = .ok (.aload_n 0, 1) := by decide +kernel
theorem dX1_readCure_1 : decode cX1_readCure 1 = .ok (.getfield 23, 3) := by decide +kernel
theorem dX1_readCure_4 : decode cX1_readCure 4 = .ok (.getfield 126, 3) := by decide +kernel
theorem dX1_readCure_7 : decode cX1_readCure 7 = .ok (.aload_n 0, 1) := by decide +kernel
theorem dX1_readCure_8 : decode cX1_readCure 8 = .ok (.getfield 9, 3) := by decide +kernel
theorem dX1_readCure_11 : decode cX1_readCure 11 = .ok (.bipush 61, 2) := by decide +kernel
theorem dX1_readCure_13 : decode cX1_readCure 13 = .ok (.iastore, 1) := by decide +kernel
theorem dX1_readCure_14 : decode cX1_readCure 14 = .ok (.aload_n 0, 1) := by decide +kernel
theorem dX1_readCure_15 : decode cX1_readCure 15 = .ok (.getfield 19, 3) := by decide +kernel
theorem dX1_readCure_18 : decode cX1_readCure 18 = .ok (.getfield 51, 3) := by decide +kernel
theorem dX1_readCure_21 : decode cX1_readCure 21 = .ok (.bipush 6, 2) := by decide +kernel
theorem dX1_readCure_23 : decode cX1_readCure 23 = .ok (.if_icmp .eq 5, 3) := by decide +kernel
theorem dX1_readCure_26 : decode cX1_readCure 26 = .ok (.iconst 1, 1) := by decide +kernel
theorem dX1_readCure_27 : decode cX1_readCure 27 = .ok (.ireturn, 1) := by decide +kernel
theorem dX1_readCure_28 : decode cX1_readCure 28 = .ok (.aload_n 0, 1) := by decide +kernel
theorem dX1_readCure_29 : decode cX1_readCure 29 = .ok (.getfield 19, 3) := by decide +kernel
theorem dX1_readCure_32 : decode cX1_readCure 32 = .ok (.bipush 6, 2) := by decide +kernel
theorem dX1_readCure_34 : decode cX1_readCure 34 = .ok (.invokevirtual 99, 3) := by decide +kernel
theorem dX1_readCure_37 : decode cX1_readCure 37 = .ok (.ifCond .eq 16, 3) := by decide +kernel
theorem dX1_readCure_40 : decode cX1_readCure 40 = .ok (.aload_n 0, 1) := by decide +kernel
theorem dX1_readCure_41 : decode cX1_readCure 41 = .ok (.getfield 19, 3) := by decide +kernel
theorem dX1_readCure_44 : decode cX1_readCure 44 = .ok (.iconst 0, 1) := by decide +kernel
theorem dX1_readCure_45 : decode cX1_readCure 45 = .ok (.bipush 60, 2) := by decide +kernel
theorem dX1_readCure_47 : decode cX1_readCure 47 = .ok (.invokevirtual 106, 3) := by decide +kernel
theorem dX1_readCure_50 : decode cX1_readCure 50 = .ok (.ifCond .ne 5, 3) := by decide +kernel
theorem dX1_readCure_53 : decode cX1_readCure 53 = .ok (.iconst 0, 1) := by decide +kernel
theorem dX1_readCure_54 : decode cX1_readCure 54 = .ok (.ireturn, 1) := by decide +kernel
theorem dX1_readCure_55 : decode cX1_readCure 55 = .ok (.aload_n 0, 1) := by decide +kernel
theorem dX1_readCure_56 : decode cX1_readCure 56 = .ok (.getfield 23, 3) := by decide +kernel
theorem dX1_readCure_59 : decode cX1_readCure 59 = .ok (.getfield 126, 3) := by decide +kernel
theorem dX1_readCure_62 : decode cX1_readCure 62 = .ok (.aload_n 0, 1) := by decide +kernel
theorem dX1_readCure_63 : decode cX1_readCure 63 = .ok (.getfield 9, 3) := by decide +kernel
theorem dX1_readCure_66 : decode cX1_readCure 66 = .ok (.aload_n 0, 1) := by decide +kernel
theorem dX1_readCure_67 : decode cX1_readCure 67 = .ok (.getfield 19, 3) := by decide +kernel
theorem dX1_readCure_70 : decode cX1_readCure 70 = .ok (.getfield 114, 3) := by decide +kernel
theorem dX1_readCure_73 : decode cX1_readCure 73 = .ok (.iastore, 1) := by decide +kernel
theorem dX1_readCure_74 : decode cX1_readCure 74 = .ok (.iconst 1, 1) := by decide +kernel
theorem dX1_readCure_75 : decode cX1_readCure 75 = .ok (.ireturn, 1) := by decide +kernel
abbrev rmX1_readCure : Room := { frames := 4, cells := 0, slots := 0, locals := 87 }
set_option maxHeartbeats 4000000 in
set_option maxRecDepth 100000 in
theorem kX1_readCure (l : Launch) (D : va_G) (cy : Nat → ClassId) (h0 : Nat) (a0 : Nat → Nat) (a1 : Nat → Nat) (a2 : Nat → Nat) (s0 : Rc) (s1 : Rc) (s2 : Rc) (res : Int32 × Rc × Rc) (h : fX1_readCure s0 s1 s2 = some res) : CZ l D cy yX1_readCure wsX1_readCure rmX1_readCure [.ref h0] (flat [WX1 cy h0 a0 s0, WX8 cy (a0 0) a1 s1, WX0 cy (a0 1) a2 s2]) (flat [WX1 cy h0 a0 s0, WX8 cy (a0 0) a1 res.2.1, WX0 cy (a0 1) a2 res.2.2]) res.1 := by
  refine CZ.of (cc := cX1_readCure) (maxL := 1) (by decide) rfl (Nat.le_of_ble_eq_true rfl) ?_
  intro p e s m args below meth c A QQ ls E hr
  obtain ⟨hx, hb, hml, hown, hts, hK, hN, hP, hD, hA, hl⟩ := E
  have hret : ∀ (pc : Nat) (H : Heap) (locs : List Loc) (ls : Array Slot) (u : Int32 × Rc × Rc), u = res → va_P D vwCl (flat [WX1 cy h0 a0 s0, WX8 cy (a0 0) a1 u.2.1, WX0 cy (a0 1) a2 u.2.2]) H → va_D A (flat [WX1 cy h0 a0 s0, WX8 cy (a0 0) a1 u.2.1, WX0 cy (a0 1) a2 u.2.2]) → va_S A s.heap H locs → isb u.1 = true → decode cX1_readCure pc = .ok (.ireturn, 1) → W p l e rmX1_readCure s m args below meth c H locs 0 0 QQ (F0 m pc ls [.int u.1]) := by
    intro pc H locs ls u hu hP hD hS hz hd; subst hu; exact hr pc H locs ls _ rfl hP hD hS hz hd
  clear hr
  have hl : lv_has ls 1 [(0, .ref h0)] := hl
  have hinX0 : ∀ w ∈ wsX00, w ∈ wsX1_readCure := fun _ h => List.mem_cons_of_mem _ (List.mem_append_left _ (List.mem_append_right _ h))
  have hinX1 : ∀ w ∈ wsX10, w ∈ wsX1_readCure := fun _ h => List.mem_cons_of_mem _ (List.mem_append_left _ (List.mem_append_left _ (List.mem_append_right _ h)))
  have hinX8 : ∀ w ∈ wsX80, w ∈ wsX1_readCure := fun _ h => List.mem_cons_of_mem _ (List.mem_append_right _ h)
  unfold fX1_readCure at h
  suffices key : ∀ (H : Heap) (locs : List Loc), va_P D vwCl (flat [WX1 cy h0 a0 s0, WX8 cy (a0 0) a1 s1, WX0 cy (a0 1) a2 s2]) H → va_S A s.heap H locs → W p l e rmX1_readCure s m args below meth c H locs 0 0 QQ (F0 m 0 ls []) from key _ _ hP va_S.rf
  clear hP
  intro H locs hP hS
  refine lv_aload_n hx hb dX1_readCure_0 rfl (lv_at hl 0 rfl) ?_
  refine va_get (D := D) (ci := 1) (v := .ref (a0 1)) (C := RX1) (T := TX1) (N := 4) hx hb hts hinX1 hown hK hP 0 rfl rfl 1 (by decide) (hts (.fieldLink RX1 23 "KneeBench$BenchText" "draft" "LKneeBench$Bench;") (List.mem_of_getElem? (i := 1) rfl)) (fun _ h9 => h9) rfl dX1_readCure_1 ?_
  refine va_getN (D := D) (ci := 0) (v := .ref (a2 4)) (C := RX0) (T := TX0) (N := 14) hx hb hts hinX0 hown hK hP 4 rfl rfl 4 (by decide) (NW.fld hN 8 rfl _) (fun _ h9 => h9) rfl dX1_readCure_4 ?_
  refine lv_aload_n hx hb dX1_readCure_7 rfl (lv_at hl 0 rfl) ?_
  refine va_get (D := D) (ci := 1) (v := .int (gi s0 2)) (C := RX1) (T := TX1) (N := 4) hx hb hts hinX1 hown hK hP 0 rfl rfl 2 (by decide) (hts (.fieldLink RX1 9 "KneeBench$BenchText" "newcomer" "I") (List.mem_of_getElem? (i := 2) rfl)) (fun _ h9 => h9) rfl dX1_readCure_8 ?_
  refine lv_bipush (v := 61) hx hb dX1_readCure_11 (by decide) ?_
  obtain ⟨g1, h⟩ := gd_elim h
  obtain ⟨s2_2, es, h⟩ := lt_elim h
  refine va_iast hx hb hK hP hD hS 9 1 rfl rfl (inb_in g1) dX1_readCure_13 (fun H locs hP hD hS => ?_)
  have hP : va_P D vwCl (flat [WX1 cy h0 a0 s0, WX8 cy (a0 0) a1 s1, WX0 cy (a0 1) a2 s2_2]) H := by rw [es]; exact hP
  have hD : va_D A (flat [WX1 cy h0 a0 s0, WX8 cy (a0 0) a1 s1, WX0 cy (a0 1) a2 s2_2]) := by rw [es]; exact hD
  clear es
  refine lv_aload_n hx hb dX1_readCure_14 rfl (lv_at hl 0 rfl) ?_
  refine va_get (D := D) (ci := 1) (v := .ref (a0 0)) (C := RX1) (T := TX1) (N := 4) hx hb hts hinX1 hown hK hP 0 rfl rfl 0 (by decide) (hts (.fieldLink RX1 19 "KneeBench$BenchText" "tokens" "LKneeBench$Tokens;") (List.mem_of_getElem? (i := 3) rfl)) (fun _ h9 => h9) rfl dX1_readCure_15 ?_
  refine va_getN (D := D) (ci := 8) (v := .int (gi s1 8)) (C := RX8) (T := TX8) (N := 14) hx hb hts hinX8 hown hK hP 1 rfl rfl 8 (by decide) (NW.fld hN 47 rfl _) (fun _ h9 => h9) rfl dX1_readCure_18 ?_
  refine lv_bipush (v := 6) hx hb dX1_readCure_21 (by decide) ?_
  refine lv_icmp_eq (tgt := 28) hx hb dX1_readCure_23 (by decide) (fun c3 => ?_) (fun c3 => ?_)
  · replace h := (if_pos c3).symm.trans h
    refine lv_aload_n hx hb dX1_readCure_28 rfl (lv_at hl 0 rfl) ?_
    refine va_get (D := D) (ci := 1) (v := .ref (a0 0)) (C := RX1) (T := TX1) (N := 4) hx hb hts hinX1 hown hK hP 0 rfl rfl 0 (by decide) (hts (.fieldLink RX1 19 "KneeBench$BenchText" "tokens" "LKneeBench$Tokens;") (List.mem_of_getElem? (i := 3) rfl)) (fun _ h9 => h9) rfl dX1_readCure_29 ?_
    refine lv_bipush (v := 6) hx hb dX1_readCure_32 (by decide) ?_
    obtain ⟨r4, hr4, h⟩ := bd_elim h
    refine ca_z (w' := [WX1 cy h0 a0 s0, WX8 cy (a0 0) a1 r4.2, WX0 cy (a0 1) a2 s2_2]) (rn_V (As := [.int (6 : Int32)]) (rest := []) ⟨hx, hb, hml, hown, hts⟩ (kX8_passWord l D cy (a0 0) a1 s1 (6 : Int32) r4 hr4 H.size) (cwV 1 hts gX1_readCure_X8_passWord rfl rfl rfl (by decide +kernel) ⟨Nat.le_of_ble_eq_true rfl, Nat.le_of_ble_eq_true rfl⟩) hK hN hP hD [1] rfl rfl (ci := 8) (q0 := 1) rfl rfl rfl rfl hl.1 rfl (Nat.le_of_ble_eq_true rfl) dX1_readCure_34 ⟨Nat.le_refl 0, Nat.le_refl 0⟩) hP hD hS hA [1] ⟨rfl, rfl, rfl, rfl⟩ (fun b5 H locs hP hD hS => ?_)
    refine lv_if_eq (tgt := 53) hx hb dX1_readCure_37 (by decide) (fun c6 => ?_) (fun c6 => ?_)
    · replace h := (if_pos c6).symm.trans h
      refine lv_iconst (v := 0) hx hb dX1_readCure_53 (by decide) ?_
      exact hret 54 H locs ls ((0 : Int32), r4.2, s2_2) (Option.some.inj h) hP hD hS (show isb (0 : Int32) = true by decide) dX1_readCure_54
    · replace h := (if_neg c6).symm.trans h
      refine lv_aload_n hx hb dX1_readCure_40 rfl (lv_at hl 0 rfl) ?_
      refine va_get (D := D) (ci := 1) (v := .ref (a0 0)) (C := RX1) (T := TX1) (N := 4) hx hb hts hinX1 hown hK hP 0 rfl rfl 0 (by decide) (hts (.fieldLink RX1 19 "KneeBench$BenchText" "tokens" "LKneeBench$Tokens;") (List.mem_of_getElem? (i := 3) rfl)) (fun _ h9 => h9) rfl dX1_readCure_41 ?_
      refine lv_iconst (v := 0) hx hb dX1_readCure_44 (by decide) ?_
      refine lv_bipush (v := 60) hx hb dX1_readCure_45 (by decide) ?_
      obtain ⟨r7, hr7, h⟩ := bd_elim h
      refine ca_z (w' := [WX1 cy h0 a0 s0, WX8 cy (a0 0) a1 r7.2, WX0 cy (a0 1) a2 s2_2]) (rn_V (As := [.int (0 : Int32), .int (60 : Int32)]) (rest := []) ⟨hx, hb, hml, hown, hts⟩ (kX8_passNumber l D cy (a0 0) a1 r4.2 (0 : Int32) (60 : Int32) r7 hr7 H.size) (cwV 2 hts gX1_readCure_X8_passNumber rfl rfl rfl (by decide +kernel) ⟨Nat.le_of_ble_eq_true rfl, Nat.le_of_ble_eq_true rfl⟩) hK hN hP hD [1] rfl rfl (ci := 8) (q0 := 1) rfl rfl rfl rfl hl.1 rfl (Nat.le_of_ble_eq_true rfl) dX1_readCure_47 ⟨Nat.le_refl 0, Nat.le_refl 0⟩) hP hD hS hA [1] ⟨rfl, rfl, rfl, rfl⟩ (fun b8 H locs hP hD hS => ?_)
      refine lv_if_ne (tgt := 55) hx hb dX1_readCure_50 (by decide) (fun c9 => ?_) (fun c9 => ?_)
      · replace h := (if_neg c9).symm.trans h
        refine lv_aload_n hx hb dX1_readCure_55 rfl (lv_at hl 0 rfl) ?_
        refine va_get (D := D) (ci := 1) (v := .ref (a0 1)) (C := RX1) (T := TX1) (N := 4) hx hb hts hinX1 hown hK hP 0 rfl rfl 1 (by decide) (hts (.fieldLink RX1 23 "KneeBench$BenchText" "draft" "LKneeBench$Bench;") (List.mem_of_getElem? (i := 1) rfl)) (fun _ h9 => h9) rfl dX1_readCure_56 ?_
        refine va_getN (D := D) (ci := 0) (v := .ref (a2 4)) (C := RX0) (T := TX0) (N := 14) hx hb hts hinX0 hown hK hP 4 rfl rfl 4 (by decide) (NW.fld hN 8 rfl _) (fun _ h9 => h9) rfl dX1_readCure_59 ?_
        refine lv_aload_n hx hb dX1_readCure_62 rfl (lv_at hl 0 rfl) ?_
        refine va_get (D := D) (ci := 1) (v := .int (gi s0 2)) (C := RX1) (T := TX1) (N := 4) hx hb hts hinX1 hown hK hP 0 rfl rfl 2 (by decide) (hts (.fieldLink RX1 9 "KneeBench$BenchText" "newcomer" "I") (List.mem_of_getElem? (i := 2) rfl)) (fun _ h9 => h9) rfl dX1_readCure_63 ?_
        refine lv_aload_n hx hb dX1_readCure_66 rfl (lv_at hl 0 rfl) ?_
        refine va_get (D := D) (ci := 1) (v := .ref (a0 0)) (C := RX1) (T := TX1) (N := 4) hx hb hts hinX1 hown hK hP 0 rfl rfl 0 (by decide) (hts (.fieldLink RX1 19 "KneeBench$BenchText" "tokens" "LKneeBench$Tokens;") (List.mem_of_getElem? (i := 3) rfl)) (fun _ h9 => h9) rfl dX1_readCure_67 ?_
        refine va_getN (D := D) (ci := 8) (v := .int (gi r7.2 10)) (C := RX8) (T := TX8) (N := 14) hx hb hts hinX8 hown hK hP 1 rfl rfl 10 (by decide) (NW.fld hN 49 rfl _) (fun _ h9 => h9) rfl dX1_readCure_70 ?_
        obtain ⟨s2_10, es, h⟩ := lt_elim h
        refine va_iast hx hb hK hP hD hS 9 1 rfl rfl (inb_in g1) dX1_readCure_73 (fun H locs hP hD hS => ?_)
        have hP : va_P D vwCl (flat [WX1 cy h0 a0 s0, WX8 cy (a0 0) a1 r7.2, WX0 cy (a0 1) a2 s2_10]) H := by rw [es]; exact hP
        have hD : va_D A (flat [WX1 cy h0 a0 s0, WX8 cy (a0 0) a1 r7.2, WX0 cy (a0 1) a2 s2_10]) := by rw [es]; exact hD
        clear es
        refine lv_iconst (v := 1) hx hb dX1_readCure_74 (by decide) ?_
        exact hret 75 H locs ls ((1 : Int32), r7.2, s2_10) (Option.some.inj h) hP hD hS (show isb (1 : Int32) = true by decide) dX1_readCure_75
      · replace h := (if_pos c9).symm.trans h
        refine lv_iconst (v := 0) hx hb dX1_readCure_53 (by decide) ?_
        exact hret 54 H locs ls ((0 : Int32), r7.2, s2_2) (Option.some.inj h) hP hD hS (show isb (0 : Int32) = true by decide) dX1_readCure_54
  · replace h := (if_neg c3).symm.trans h
    refine lv_iconst (v := 1) hx hb dX1_readCure_26 (by decide) ?_
    exact hret 27 H locs ls ((1 : Int32), s1, s2_2) (Option.some.inj h) hP hD hS (show isb (1 : Int32) = true by decide) dX1_readCure_27
set_option maxRecDepth 20000 in
theorem ggX8_mustBeFarmer_X8_mustBeName : GoodIn wsX8_mustBeFarmer wsX8_mustBeName := goodIn_r _ [7, 8, 1, 9, 10, 11, 12, 13, 6, 14, 15, 16, 17, 25, 26, 27, 28, 29, 30, 31, 32, 33, 34, 35, 36, 37, 38] (by decide +kernel) (by decide +kernel)
set_option maxRecDepth 20000 in
theorem gX8_mustBeFarmer_X8_mustBeName : GoodIn wsX8_mustBeFarmer (wsV RX8 99 RX8 yX8_mustBeName wsX8_mustBeName) := goodIn_app (goodIn_of _ (by decide +kernel)) ggX8_mustBeFarmer_X8_mustBeName
set_option maxRecDepth 20000 in
theorem ggX8_mustBeFarmer_X0_farmerNamed : GoodIn wsX8_mustBeFarmer wsX0_farmerNamed := goodIn_r _ [22, 23, 24, 39, 40, 41, 42, 43, 44, 45, 46, 47, 48, 49, 50, 51, 52] (by decide +kernel) (by decide +kernel)
set_option maxRecDepth 20000 in
theorem gX8_mustBeFarmer_X0_farmerNamed : GoodIn wsX8_mustBeFarmer (wsV RX8 102 RX0 yX0_farmerNamed wsX0_farmerNamed) := goodIn_app (goodIn_of _ (by decide +kernel)) ggX8_mustBeFarmer_X0_farmerNamed
set_option maxRecDepth 20000 in
theorem ggX8_mustBeFarmer_X8_fail : GoodIn wsX8_mustBeFarmer wsX8_fail := goodIn_r _ [14, 15, 16, 17, 25, 26, 27, 28, 29, 30, 31, 32, 33, 34, 35, 36, 37, 38] (by decide +kernel) (by decide +kernel)
set_option maxRecDepth 20000 in
theorem gX8_mustBeFarmer_X8_fail : GoodIn wsX8_mustBeFarmer (wsV RX8 88 RX8 yX8_fail wsX8_fail) := goodIn_app (goodIn_of _ (by decide +kernel)) ggX8_mustBeFarmer_X8_fail
theorem dX8_mustBeFarmer_0 : decode cX8_mustBeFarmer 0 = .ok (.aload_n 0, 1) := by decide +kernel
theorem dX8_mustBeFarmer_1 : decode cX8_mustBeFarmer 1 = .ok (.invokevirtual 99, 3) := by decide +kernel
theorem dX8_mustBeFarmer_4 : decode cX8_mustBeFarmer 4 = .ok (.ifCond .ne 5, 3) := by decide +kernel
theorem dX8_mustBeFarmer_7 : decode cX8_mustBeFarmer 7 = .ok (.iconst 0, 1) := by decide +kernel
theorem dX8_mustBeFarmer_8 : decode cX8_mustBeFarmer 8 = .ok (.ireturn, 1) := by decide +kernel
theorem dX8_mustBeFarmer_9 : decode cX8_mustBeFarmer 9 = .ok (.aload_n 0, 1) := by decide +kernel
theorem dX8_mustBeFarmer_10 : decode cX8_mustBeFarmer 10 = .ok (.aload_n 1, 1) := by decide +kernel
theorem dX8_mustBeFarmer_11 : decode cX8_mustBeFarmer 11 = .ok (.aload_n 0, 1) := by decide +kernel
theorem dX8_mustBeFarmer_12 : decode cX8_mustBeFarmer 12 = .ok (.getfield 37, 3) := by decide +kernel
theorem dX8_mustBeFarmer_15 : decode cX8_mustBeFarmer 15 = .ok (.invokevirtual 102, 3) := by decide +kernel
theorem dX8_mustBeFarmer_18 : decode cX8_mustBeFarmer 18 = .ok (.putfield 50, 3) := by decide +kernel
theorem dX8_mustBeFarmer_21 : decode cX8_mustBeFarmer 21 = .ok (.aload_n 0, 1) := by decide +kernel
theorem dX8_mustBeFarmer_22 : decode cX8_mustBeFarmer 22 = .ok (.getfield 50, 3) := by decide +kernel
theorem dX8_mustBeFarmer_25 : decode cX8_mustBeFarmer 25 = .ok (.iconst (-1), 1) := by decide +kernel
theorem dX8_mustBeFarmer_26 : decode cX8_mustBeFarmer 26 = .ok (.if_icmp .ne 11, 3) := by decide +kernel
theorem dX8_mustBeFarmer_29 : decode cX8_mustBeFarmer 29 = .ok (.aload_n 0, 1) := by decide +kernel
theorem dX8_mustBeFarmer_30 : decode cX8_mustBeFarmer 30 = .ok (.iconst 3, 1) := by decide +kernel
theorem dX8_mustBeFarmer_31 : decode cX8_mustBeFarmer 31 = .ok (.invokevirtual 88, 3) := by decide +kernel
theorem dX8_mustBeFarmer_34 : decode cX8_mustBeFarmer 34 = .ok (.ifCond .eq 7, 3) := by decide +kernel
theorem dX8_mustBeFarmer_37 : decode cX8_mustBeFarmer 37 = .ok (.iconst 1, 1) := by decide +kernel
theorem dX8_mustBeFarmer_38 : decode cX8_mustBeFarmer 38 = .ok (.goto 4, 3) := by decide +kernel
theorem dX8_mustBeFarmer_41 : decode cX8_mustBeFarmer 41 = .ok (.iconst 0, 1) := by decide +kernel
theorem dX8_mustBeFarmer_42 : decode cX8_mustBeFarmer 42 = .ok (.ireturn, 1) := by decide +kernel
abbrev rmX8_mustBeFarmer : Room := { frames := 2, cells := 0, slots := 0, locals := 41 }
set_option maxHeartbeats 4000000 in
set_option maxRecDepth 100000 in
theorem kX8_mustBeFarmer (l : Launch) (D : va_G) (cy : Nat → ClassId) (h0 : Nat) (h_p1 : Nat) (a0 : Nat → Nat) (a1 : Nat → Nat) (s0 : Rc) (s1 : Rc) (res : Int32 × Rc) (h : fX8_mustBeFarmer s0 s1 = some res) : CZ l D cy yX8_mustBeFarmer wsX8_mustBeFarmer rmX8_mustBeFarmer [.ref h0, .ref h_p1] (flat [WX8 cy h0 a0 s0, WX0 cy h_p1 a1 s1]) (flat [WX8 cy h0 a0 res.2, WX0 cy h_p1 a1 s1]) res.1 := by
  refine CZ.of (cc := cX8_mustBeFarmer) (maxL := 2) (by decide) rfl (Nat.le_of_ble_eq_true rfl) ?_
  intro p e s m args below meth c A QQ ls E hr
  obtain ⟨hx, hb, hml, hown, hts, hK, hN, hP, hD, hA, hl⟩ := E
  have hret : ∀ (pc : Nat) (H : Heap) (locs : List Loc) (ls : Array Slot) (u : Int32 × Rc), u = res → va_P D vwCl (flat [WX8 cy h0 a0 u.2, WX0 cy h_p1 a1 s1]) H → va_D A (flat [WX8 cy h0 a0 u.2, WX0 cy h_p1 a1 s1]) → va_S A s.heap H locs → isb u.1 = true → decode cX8_mustBeFarmer pc = .ok (.ireturn, 1) → W p l e rmX8_mustBeFarmer s m args below meth c H locs 0 0 QQ (F0 m pc ls [.int u.1]) := by
    intro pc H locs ls u hu hP hD hS hz hd; subst hu; exact hr pc H locs ls _ rfl hP hD hS hz hd
  clear hr
  have hl : lv_has ls 2 [(0, .ref h0), (1, .ref h_p1)] := hl
  have hinX8 : ∀ w ∈ wsX80, w ∈ wsX8_mustBeFarmer := fun _ h => List.mem_cons_of_mem _ (List.mem_append_left _ (List.mem_append_right _ h))
  unfold fX8_mustBeFarmer at h
  suffices key : ∀ (H : Heap) (locs : List Loc), va_P D vwCl (flat [WX8 cy h0 a0 s0, WX0 cy h_p1 a1 s1]) H → va_S A s.heap H locs → W p l e rmX8_mustBeFarmer s m args below meth c H locs 0 0 QQ (F0 m 0 ls []) from key _ _ hP va_S.rf
  clear hP
  intro H locs hP hS
  refine lv_aload_n hx hb dX8_mustBeFarmer_0 rfl (lv_at hl 0 rfl) ?_
  obtain ⟨r1, hr1, h⟩ := lt_elim h
  refine ca_z (w' := [WX8 cy h0 a0 r1.2, WX0 cy h_p1 a1 s1]) (rn_V (As := []) (rest := []) ⟨hx, hb, hml, hown, hts⟩ (kX8_mustBeName l D cy h0 a0 s0 r1 hr1.symm H.size) (cwV 0 hts gX8_mustBeFarmer_X8_mustBeName rfl rfl rfl (by decide +kernel) ⟨Nat.le_of_ble_eq_true rfl, Nat.le_of_ble_eq_true rfl⟩) hK hN hP hD [0] rfl rfl (ci := 8) (q0 := 0) rfl rfl rfl rfl hl.1 rfl (Nat.le_of_ble_eq_true rfl) dX8_mustBeFarmer_1 ⟨Nat.le_refl 0, Nat.le_refl 0⟩) hP hD hS hA [0] ⟨rfl, rfl, rfl, rfl⟩ (fun b2 H locs hP hD hS => ?_)
  refine lv_if_ne (tgt := 9) hx hb dX8_mustBeFarmer_4 (by decide) (fun c3 => ?_) (fun c3 => ?_)
  · replace h := (if_neg c3).symm.trans h
    refine lv_aload_n hx hb dX8_mustBeFarmer_9 rfl (lv_at hl 0 rfl) ?_
    refine lv_aload_n hx hb dX8_mustBeFarmer_10 rfl (lv_at hl 1 rfl) ?_
    refine lv_aload_n hx hb dX8_mustBeFarmer_11 rfl (lv_at hl 0 rfl) ?_
    refine va_get (D := D) (ci := 8) (v := .long (gl r1.2 7)) (C := RX8) (T := TX8) (N := 14) hx hb hts hinX8 hown hK hP 0 rfl rfl 7 (by decide) (hts (.fieldLink RX8 37 "KneeBench$Tokens" "word" "J") (List.mem_of_getElem? (i := 1) rfl)) (fun _ h9 => h9) rfl dX8_mustBeFarmer_12 ?_
    obtain ⟨r4, hr4, h⟩ := bd_elim h
    refine ca_i (w' := [WX8 cy h0 a0 r1.2, WX0 cy h_p1 a1 s1]) (rn_V (As := [.long (gl r1.2 7)]) (rest := [.ref h0]) ⟨hx, hb, hml, hown, hts⟩ (kX0_farmerNamed l D cy h_p1 a1 s1 (gl r1.2 7) r4 hr4 H.size) (cwV 1 hts gX8_mustBeFarmer_X0_farmerNamed rfl rfl rfl (by decide +kernel) ⟨Nat.le_of_ble_eq_true rfl, Nat.le_of_ble_eq_true rfl⟩) hK hN hP hD [1] rfl rfl (ci := 0) (q0 := 3) rfl rfl rfl rfl hl.1 rfl (Nat.le_of_ble_eq_true rfl) dX8_mustBeFarmer_15 ⟨Nat.le_refl 0, Nat.le_refl 0⟩) hP hD hS hA [1] ⟨rfl, rfl, rfl, rfl⟩ (fun H locs hP hD hS => ?_)
    obtain ⟨s0_5, es, h⟩ := lt_elim h
    refine va_put (D := D) (ci := 8) (v := .int r4) (ty := .int) (C := RX8) (T := TX8) (N := 14) hx hb hts hinX8 tyX8 tyX8_ok nmX8 hown hK hP hD hS 0 rfl rfl 11 (by decide) (hts (.fieldLink RX8 50 "KneeBench$Tokens" "farmer" "I") (List.mem_of_getElem? (i := 2) rfl)) (fun _ h9 => h9) rfl (by decide +kernel) rfl rfl (Nat.le_of_ble_eq_true rfl) dX8_mustBeFarmer_18 (fun H locs hP hD hS => ?_)
    have hP : va_P D vwCl (flat [WX8 cy h0 a0 s0_5, WX0 cy h_p1 a1 s1]) H := by rw [es]; exact hP
    have hD : va_D A (flat [WX8 cy h0 a0 s0_5, WX0 cy h_p1 a1 s1]) := by rw [es]; exact hD
    clear es
    refine lv_aload_n hx hb dX8_mustBeFarmer_21 rfl (lv_at hl 0 rfl) ?_
    refine va_get (D := D) (ci := 8) (v := .int (gi s0_5 11)) (C := RX8) (T := TX8) (N := 14) hx hb hts hinX8 hown hK hP 0 rfl rfl 11 (by decide) (hts (.fieldLink RX8 50 "KneeBench$Tokens" "farmer" "I") (List.mem_of_getElem? (i := 2) rfl)) (fun _ h9 => h9) rfl dX8_mustBeFarmer_22 ?_
    refine lv_iconst (v := -1) hx hb dX8_mustBeFarmer_25 (by decide) ?_
    refine lv_icmp_ne (tgt := 37) hx hb dX8_mustBeFarmer_26 (by decide) (fun c6 => ?_) (fun c6 => ?_)
    · replace h := (if_neg c6).symm.trans h
      refine lv_iconst (v := 1) hx hb dX8_mustBeFarmer_37 (by decide) ?_
      refine lv_goto (tgt := 42) hx hb dX8_mustBeFarmer_38 (by decide) ?_
      exact hret 42 H locs ls ((1 : Int32), s0_5) (Option.some.inj h) hP hD hS (show isb (1 : Int32) = true by decide) dX8_mustBeFarmer_42
    · replace h := (if_pos c6).symm.trans h
      refine lv_aload_n hx hb dX8_mustBeFarmer_29 rfl (lv_at hl 0 rfl) ?_
      refine lv_iconst (v := 3) hx hb dX8_mustBeFarmer_30 (by decide) ?_
      obtain ⟨r7, hr7, h⟩ := lt_elim h
      refine ca_z (w' := [WX8 cy h0 a0 r7.2, WX0 cy h_p1 a1 s1]) (rn_V (As := [.int (3 : Int32)]) (rest := []) ⟨hx, hb, hml, hown, hts⟩ (kX8_fail l D cy h0 a0 s0_5 (3 : Int32) r7 hr7.symm H.size) (cwV 1 hts gX8_mustBeFarmer_X8_fail rfl rfl rfl (by decide +kernel) ⟨Nat.le_of_ble_eq_true rfl, Nat.le_of_ble_eq_true rfl⟩) hK hN hP hD [0] rfl rfl (ci := 8) (q0 := 0) rfl rfl rfl rfl hl.1 rfl (Nat.le_of_ble_eq_true rfl) dX8_mustBeFarmer_31 ⟨Nat.le_refl 0, Nat.le_refl 0⟩) hP hD hS hA [0] ⟨rfl, rfl, rfl, rfl⟩ (fun b8 H locs hP hD hS => ?_)
      refine lv_if_eq (tgt := 41) hx hb dX8_mustBeFarmer_34 (by decide) (fun c9 => ?_) (fun c9 => ?_)
      · replace h := (if_pos c9).symm.trans h
        refine lv_iconst (v := 0) hx hb dX8_mustBeFarmer_41 (by decide) ?_
        exact hret 42 H locs ls ((0 : Int32), r7.2) (Option.some.inj h) hP hD hS (show isb (0 : Int32) = true by decide) dX8_mustBeFarmer_42
      · replace h := (if_neg c9).symm.trans h
        refine lv_iconst (v := 1) hx hb dX8_mustBeFarmer_37 (by decide) ?_
        refine lv_goto (tgt := 42) hx hb dX8_mustBeFarmer_38 (by decide) ?_
        exact hret 42 H locs ls ((1 : Int32), r7.2) (Option.some.inj h) hP hD hS (show isb (1 : Int32) = true by decide) dX8_mustBeFarmer_42
  · replace h := (if_pos c3).symm.trans h
    refine lv_iconst (v := 0) hx hb dX8_mustBeFarmer_7 (by decide) ?_
    exact hret 8 H locs ls ((0 : Int32), r1.2) (Option.some.inj h) hP hD hS (show isb (0 : Int32) = true by decide) dX8_mustBeFarmer_8
set_option maxRecDepth 20000 in
theorem ggX8_passFarmer_X8_mustBeFarmer : GoodIn wsX8_passFarmer wsX8_mustBeFarmer := goodIn_r _ [5, 6, 7, 8, 9, 10, 4, 11, 12, 13, 14, 15, 16, 17, 18, 19, 20, 21, 22, 23, 24, 25, 26, 27, 28, 52, 53, 54, 55, 56, 57, 58, 59, 60, 61, 62, 63, 64, 65, 66, 67, 68, 69, 70, 71, 72, 73, 74, 75, 76, 77, 78, 79] (by decide +kernel) (by decide +kernel)
set_option maxRecDepth 20000 in
theorem gX8_passFarmer_X8_mustBeFarmer : GoodIn wsX8_passFarmer (wsV RX8 108 RX8 yX8_mustBeFarmer wsX8_mustBeFarmer) := goodIn_app (goodIn_of _ (by decide +kernel)) ggX8_passFarmer_X8_mustBeFarmer
set_option maxRecDepth 20000 in
theorem ggX8_passFarmer_X8_advance : GoodIn wsX8_passFarmer wsX8_advance := goodIn_r _ [32, 33, 20, 34, 35, 12, 13, 6, 14, 36, 37, 38, 4, 39, 40, 41, 42, 43, 44, 45, 46, 47, 48, 49, 50, 51, 15, 16, 17, 18, 19, 21, 52, 53, 54, 55, 56, 57, 58, 59, 60, 61, 62, 63, 64, 65] (by decide +kernel) (by decide +kernel)
set_option maxRecDepth 20000 in
theorem gX8_passFarmer_X8_advance : GoodIn wsX8_passFarmer (wsV RX8 74 RX8 yX8_advance wsX8_advance) := goodIn_app (goodIn_of _ (by decide +kernel)) ggX8_passFarmer_X8_advance
theorem dX8_passFarmer_0 : decode cX8_passFarmer 0 = .ok (.aload_n 0, 1) := by decide +kernel
theorem dX8_passFarmer_1 : decode cX8_passFarmer 1 = .ok (.aload_n 1, 1) := by decide +kernel
theorem dX8_passFarmer_2 : decode cX8_passFarmer 2 = .ok (.invokevirtual 108, 3) := by decide +kernel
theorem dX8_passFarmer_5 : decode cX8_passFarmer 5 = .ok (.ifCond .eq 14, 3) := by decide +kernel
theorem dX8_passFarmer_8 : decode cX8_passFarmer 8 = .ok (.aload_n 0, 1) := by decide +kernel
theorem dX8_passFarmer_9 : decode cX8_passFarmer 9 = .ok (.invokevirtual 74, 3) := by decide +kernel
theorem dX8_passFarmer_12 : decode cX8_passFarmer 12 = .ok (.ifCond .eq 7, 3) := by decide +kernel
theorem dX8_passFarmer_15 : decode cX8_passFarmer 15 = .ok (.iconst 1, 1) := by decide +kernel
theorem dX8_passFarmer_16 : decode cX8_passFarmer 16 = .ok (.goto 4, 3) := by decide +kernel
theorem dX8_passFarmer_19 : decode cX8_passFarmer 19 = .ok (.iconst 0, 1) := by decide +kernel
theorem dX8_passFarmer_20 : decode cX8_passFarmer 20 = .ok (.ireturn, 1) := by decide +kernel
abbrev rmX8_passFarmer : Room := { frames := 3, cells := 0, slots := 0, locals := 65 }
set_option maxHeartbeats 4000000 in
set_option maxRecDepth 100000 in
theorem kX8_passFarmer (l : Launch) (D : va_G) (cy : Nat → ClassId) (h0 : Nat) (h_p1 : Nat) (a0 : Nat → Nat) (a1 : Nat → Nat) (s0 : Rc) (s1 : Rc) (res : Int32 × Rc) (h : fX8_passFarmer s0 s1 = some res) : CZ l D cy yX8_passFarmer wsX8_passFarmer rmX8_passFarmer [.ref h0, .ref h_p1] (flat [WX8 cy h0 a0 s0, WX0 cy h_p1 a1 s1]) (flat [WX8 cy h0 a0 res.2, WX0 cy h_p1 a1 s1]) res.1 := by
  refine CZ.of (cc := cX8_passFarmer) (maxL := 2) (by decide) rfl (Nat.le_of_ble_eq_true rfl) ?_
  intro p e s m args below meth c A QQ ls E hr
  obtain ⟨hx, hb, hml, hown, hts, hK, hN, hP, hD, hA, hl⟩ := E
  have hret : ∀ (pc : Nat) (H : Heap) (locs : List Loc) (ls : Array Slot) (u : Int32 × Rc), u = res → va_P D vwCl (flat [WX8 cy h0 a0 u.2, WX0 cy h_p1 a1 s1]) H → va_D A (flat [WX8 cy h0 a0 u.2, WX0 cy h_p1 a1 s1]) → va_S A s.heap H locs → isb u.1 = true → decode cX8_passFarmer pc = .ok (.ireturn, 1) → W p l e rmX8_passFarmer s m args below meth c H locs 0 0 QQ (F0 m pc ls [.int u.1]) := by
    intro pc H locs ls u hu hP hD hS hz hd; subst hu; exact hr pc H locs ls _ rfl hP hD hS hz hd
  clear hr
  have hl : lv_has ls 2 [(0, .ref h0), (1, .ref h_p1)] := hl
  unfold fX8_passFarmer at h
  suffices key : ∀ (H : Heap) (locs : List Loc), va_P D vwCl (flat [WX8 cy h0 a0 s0, WX0 cy h_p1 a1 s1]) H → va_S A s.heap H locs → W p l e rmX8_passFarmer s m args below meth c H locs 0 0 QQ (F0 m 0 ls []) from key _ _ hP va_S.rf
  clear hP
  intro H locs hP hS
  refine lv_aload_n hx hb dX8_passFarmer_0 rfl (lv_at hl 0 rfl) ?_
  refine lv_aload_n hx hb dX8_passFarmer_1 rfl (lv_at hl 1 rfl) ?_
  obtain ⟨r1, hr1, h⟩ := bd_elim h
  refine ca_z (w' := [WX8 cy h0 a0 r1.2, WX0 cy h_p1 a1 s1]) (rn_V (As := [.ref h_p1]) (rest := []) ⟨hx, hb, hml, hown, hts⟩ (kX8_mustBeFarmer l D cy h0 h_p1 a0 a1 s0 s1 r1 hr1 H.size) (cwV 1 hts gX8_passFarmer_X8_mustBeFarmer rfl rfl rfl (by decide +kernel) ⟨Nat.le_of_ble_eq_true rfl, Nat.le_of_ble_eq_true rfl⟩) hK hN hP hD [0, 1] rfl rfl (ci := 8) (q0 := 0) rfl rfl rfl rfl hl.1 rfl (Nat.le_of_ble_eq_true rfl) dX8_passFarmer_2 ⟨Nat.le_refl 0, Nat.le_refl 0⟩) hP hD hS hA [0, 1] ⟨rfl, rfl, rfl, rfl⟩ (fun b2 H locs hP hD hS => ?_)
  refine lv_if_eq (tgt := 19) hx hb dX8_passFarmer_5 (by decide) (fun c3 => ?_) (fun c3 => ?_)
  · replace h := (if_pos c3).symm.trans h
    refine lv_iconst (v := 0) hx hb dX8_passFarmer_19 (by decide) ?_
    exact hret 20 H locs ls ((0 : Int32), r1.2) (Option.some.inj h) hP hD hS (show isb (0 : Int32) = true by decide) dX8_passFarmer_20
  · replace h := (if_neg c3).symm.trans h
    refine lv_aload_n hx hb dX8_passFarmer_8 rfl (lv_at hl 0 rfl) ?_
    obtain ⟨r4, hr4, h⟩ := bd_elim h
    refine ca_z (w' := [WX8 cy h0 a0 r4.2, WX0 cy h_p1 a1 s1]) (rn_V (As := []) (rest := []) ⟨hx, hb, hml, hown, hts⟩ (kX8_advance l D cy h0 a0 r1.2 r4 hr4 H.size) (cwV 0 hts gX8_passFarmer_X8_advance rfl rfl rfl (by decide +kernel) ⟨Nat.le_of_ble_eq_true rfl, Nat.le_of_ble_eq_true rfl⟩) hK hN hP hD [0] rfl rfl (ci := 8) (q0 := 0) rfl rfl rfl rfl hl.1 rfl (Nat.le_of_ble_eq_true rfl) dX8_passFarmer_9 ⟨Nat.le_refl 0, Nat.le_refl 0⟩) hP hD hS hA [0] ⟨rfl, rfl, rfl, rfl⟩ (fun b5 H locs hP hD hS => ?_)
    refine lv_if_eq (tgt := 19) hx hb dX8_passFarmer_12 (by decide) (fun c6 => ?_) (fun c6 => ?_)
    · replace h := (if_pos c6).symm.trans h
      refine lv_iconst (v := 0) hx hb dX8_passFarmer_19 (by decide) ?_
      exact hret 20 H locs ls ((0 : Int32), r4.2) (Option.some.inj h) hP hD hS (show isb (0 : Int32) = true by decide) dX8_passFarmer_20
    · replace h := (if_neg c6).symm.trans h
      refine lv_iconst (v := 1) hx hb dX8_passFarmer_15 (by decide) ?_
      refine lv_goto (tgt := 20) hx hb dX8_passFarmer_16 (by decide) ?_
      exact hret 20 H locs ls ((1 : Int32), r4.2) (Option.some.inj h) hP hD hS (show isb (1 : Int32) = true by decide) dX8_passFarmer_20
set_option maxRecDepth 20000 in
theorem ggX1_readDislikes_X8_advance : GoodIn wsX1_readDislikes wsX8_advance := goodIn_r _ [7, 8, 9, 10, 11, 12, 13, 14, 15, 16, 17, 18, 6, 19, 20, 21, 22, 23, 24, 25, 26, 27, 28, 29, 30, 31, 32, 33, 34, 35, 36, 37, 78, 79, 80, 81, 82, 83, 84, 85, 86, 87, 88, 89, 90, 91] (by decide +kernel) (by decide +kernel)
set_option maxRecDepth 20000 in
theorem gX1_readDislikes_X8_advance : GoodIn wsX1_readDislikes (wsV RX1 81 RX8 yX8_advance wsX8_advance) := goodIn_app (goodIn_of _ (by decide +kernel)) ggX1_readDislikes_X8_advance
set_option maxRecDepth 20000 in
theorem ggX1_readDislikes_X8_passFarmer : GoodIn wsX1_readDislikes wsX8_passFarmer := goodIn_r _ [41, 42, 43, 44, 6, 45, 14, 46, 47, 48, 49, 50, 12, 13, 15, 32, 33, 34, 35, 36, 9, 37, 51, 52, 53, 54, 55, 56, 57, 58, 4, 5, 7, 8, 10, 11, 16, 17, 18, 19, 20, 21, 22, 23, 24, 25, 26, 27, 28, 29, 30, 31, 78, 79, 80, 81, 82, 83, 84, 85, 86, 87, 88, 89, 90, 91, 92, 93, 94, 95, 96, 97, 98, 99, 100, 101, 102, 103, 104, 105] (by decide +kernel) (by decide +kernel)
set_option maxRecDepth 20000 in
theorem gX1_readDislikes_X8_passFarmer : GoodIn wsX1_readDislikes (wsV RX1 129 RX8 yX8_passFarmer wsX8_passFarmer) := goodIn_app (goodIn_of _ (by decide +kernel)) ggX1_readDislikes_X8_passFarmer
set_option maxRecDepth 20000 in
theorem ggX1_readDislikes_X8_mustBeFarmer : GoodIn wsX1_readDislikes wsX8_mustBeFarmer := goodIn_r _ [45, 14, 46, 47, 48, 49, 6, 50, 12, 13, 15, 32, 33, 34, 35, 36, 9, 37, 51, 52, 53, 54, 55, 56, 57, 78, 79, 80, 81, 82, 83, 84, 85, 86, 87, 88, 89, 90, 91, 92, 93, 94, 95, 96, 97, 98, 99, 100, 101, 102, 103, 104, 105] (by decide +kernel) (by decide +kernel)
set_option maxRecDepth 20000 in
theorem gX1_readDislikes_X8_mustBeFarmer : GoodIn wsX1_readDislikes (wsV RX1 136 RX8 yX8_mustBeFarmer wsX8_mustBeFarmer) := goodIn_app (goodIn_of _ (by decide +kernel)) ggX1_readDislikes_X8_mustBeFarmer
set_option maxRecDepth 20000 in
theorem ggX1_readDislikes_X8_fail : GoodIn wsX1_readDislikes wsX8_fail := goodIn_r _ [35, 36, 9, 37, 78, 79, 80, 81, 82, 83, 84, 85, 86, 87, 88, 89, 90, 91] (by decide +kernel) (by decide +kernel)
set_option maxRecDepth 20000 in
theorem gX1_readDislikes_X8_fail : GoodIn wsX1_readDislikes (wsV RX1 75 RX8 yX8_fail wsX8_fail) := goodIn_app (goodIn_of _ (by decide +kernel)) ggX1_readDislikes_X8_fail
set_option maxRecDepth 20000 in
theorem ggX1_readDislikes_X8_passNumber : GoodIn wsX1_readDislikes wsX8_passNumber := goodIn_r _ [64, 12, 16, 65, 32, 33, 34, 6, 35, 36, 9, 37, 66, 67, 68, 58, 4, 5, 7, 8, 10, 11, 13, 14, 15, 17, 18, 19, 20, 21, 22, 23, 24, 25, 26, 27, 28, 29, 30, 31, 78, 79, 80, 81, 82, 83, 84, 85, 86, 87, 88, 89, 90, 91] (by decide +kernel) (by decide +kernel)
set_option maxRecDepth 20000 in
theorem gX1_readDislikes_X8_passNumber : GoodIn wsX1_readDislikes (wsV RX1 106 RX8 yX8_passNumber wsX8_passNumber) := goodIn_app (goodIn_of _ (by decide +kernel)) ggX1_readDislikes_X8_passNumber
set_option maxRecDepth 20000 in
theorem ggX1_readDislikes_X0_setDislike : GoodIn wsX1_readDislikes wsX0_setDislike := goodIn_r _ [72, 73, 92, 93, 94, 95, 96, 97, 98, 99, 100, 101, 102, 103, 104, 105] (by decide +kernel) (by decide +kernel)
set_option maxRecDepth 20000 in
theorem gX1_readDislikes_X0_setDislike : GoodIn wsX1_readDislikes (wsV RX1 139 RX0 yX0_setDislike wsX0_setDislike) := goodIn_app (goodIn_of _ (by decide +kernel)) ggX1_readDislikes_X0_setDislike
theorem dX1_readDislikes_0 : decode cX1_readDislikes 0 = .ok (.aload_n 0, 1) := by decide +kernel
theorem dX1_readDislikes_1 : decode cX1_readDislikes 1 = .ok (.getfield 19, 3) := by decide +kernel
theorem dX1_readDislikes_4 : decode cX1_readDislikes 4 = .ok (.invokevirtual 81, 3) := by decide +kernel
theorem dX1_readDislikes_7 : decode cX1_readDislikes 7 = .ok (.ifCond .eq 17, 3) := by decide +kernel
theorem dX1_readDislikes_10 : decode cX1_readDislikes 10 = .ok (.aload_n 0, 1) := by decide +kernel
theorem dX1_readDislikes_11 : decode cX1_readDislikes 11 = .ok (.getfield 19, 3) := by decide +kernel
theorem dX1_readDislikes_14 : decode cX1_readDislikes 14 = .ok (.aload_n 0, 1) := by decide +kernel
theorem dX1_readDislikes_15 : decode cX1_readDislikes 15 = .ok (.getfield 23, 3) := by decide +kernel
theorem dX1_readDislikes_18 : decode cX1_readDislikes 18 = .ok (.invokevirtual 129, 3) := by decide +kernel
theorem dX1_readDislikes_21 : decode cX1_readDislikes 21 = .ok (.ifCond .ne 5, 3) := by decide +kernel
theorem dX1_readDislikes_24 : decode cX1_readDislikes 24 = .ok (.iconst 0, 1) := by decide +kernel
theorem dX1_readDislikes_25 : decode cX1_readDislikes 25 = .ok (.ireturn, 1) := by decide +kernel
theorem dX1_readDislikes_26 : decode cX1_readDislikes 26 = .ok (.aload_n 0, 1) := by decide +kernel
theorem dX1_readDislikes_27 : decode cX1_readDislikes 27 = .ok (.getfield 19, 3) := by decide +kernel
theorem dX1_readDislikes_30 : decode cX1_readDislikes 30 = .ok (.getfield 133, 3) := by decide +kernel
theorem dX1_readDislikes_33 : decode cX1_readDislikes 33 = .ok (.istore_n 1, 1) := by decide +kernel
theorem dX1_readDislikes_34 : decode cX1_readDislikes 34 = .ok (.aload_n 0, 1) := by decide +kernel
theorem dX1_readDislikes_35 : decode cX1_readDislikes 35 = .ok (.getfield 19, 3) := by decide +kernel
theorem dX1_readDislikes_38 : decode cX1_readDislikes 38 = .ok (.aload_n 0, 1) := by decide +kernel
theorem dX1_readDislikes_39 : decode cX1_readDislikes 39 = .ok (.getfield 23, 3) := by decide +kernel
theorem dX1_readDislikes_42 : decode cX1_readDislikes 42 = .ok (.invokevirtual 136, 3) := by decide +kernel
theorem dX1_readDislikes_45 : decode cX1_readDislikes 45 = .ok (.ifCond .ne 5, 3) := by decide +kernel
theorem dX1_readDislikes_48 : decode cX1_readDislikes 48 = .ok (.iconst 0, 1) := by decide +kernel
theorem dX1_readDislikes_49 : decode cX1_readDislikes 49 = .ok (.ireturn, 1) := by decide +kernel
theorem dX1_readDislikes_50 : decode cX1_readDislikes 50 = .ok (.aload_n 0, 1) := by decide +kernel
theorem dX1_readDislikes_51 : decode cX1_readDislikes 51 = .ok (.getfield 19, 3) := by decide +kernel
theorem dX1_readDislikes_54 : decode cX1_readDislikes 54 = .ok (.getfield 133, 3) := by decide +kernel
theorem dX1_readDislikes_57 : decode cX1_readDislikes 57 = .ok (.iload_n 1, 1) := by decide +kernel
theorem dX1_readDislikes_58 : decode cX1_readDislikes 58 = .ok (.if_icmp .ne 12, 3) := by decide +kernel
theorem dX1_readDislikes_61 : decode cX1_readDislikes 61 = .ok (.aload_n 0, 1) := by decide +kernel
theorem dX1_readDislikes_62 : decode cX1_readDislikes 62 = .ok (.getfield 19, 3) := by decide +kernel
theorem dX1_readDislikes_65 : decode cX1_readDislikes 65 = .ok (.iconst 5, 1) := by decide +kernel
theorem dX1_readDislikes_66 : decode cX1_readDislikes 66 = .ok (.invokevirtual 75, 3) := by decide +kernel
theorem dX1_readDislikes_69 : decode cX1_readDislikes 69 = .ok (.ireturn, 1) := by decide +kernel
theorem dX1_readDislikes_70 : decode cX1_readDislikes 70 = .ok (.aload_n 0, 1) := by decide +kernel
theorem dX1_readDislikes_71 : decode cX1_readDislikes 71 = .ok (.getfield 19, 3) := by decide +kernel
theorem dX1_readDislikes_74 : decode cX1_readDislikes 74 = .ok (.invokevirtual 81, 3) := by decide +kernel
theorem dX1_readDislikes_77 : decode cX1_readDislikes 77 = .ok (.ifCond .eq 16, 3) := by decide +kernel
theorem dX1_readDislikes_80 : decode cX1_readDislikes 80 = .ok (.aload_n 0, 1) := by decide +kernel
theorem dX1_readDislikes_81 : decode cX1_readDislikes 81 = .ok (.getfield 19, 3) := by decide +kernel
theorem dX1_readDislikes_84 : decode cX1_readDislikes 84 = .ok (.iconst 0, 1) := by decide +kernel
theorem dX1_readDislikes_85 : decode cX1_readDislikes 85 = .ok (.bipush 99, 2) := by decide +kernel
theorem dX1_readDislikes_87 : decode cX1_readDislikes 87 = .ok (.invokevirtual 106, 3) := by decide +kernel
theorem dX1_readDislikes_90 : decode cX1_readDislikes 90 = .ok (.ifCond .ne 5, 3) := by decide +kernel
theorem dX1_readDislikes_93 : decode cX1_readDislikes 93 = .ok (.iconst 0, 1) := by decide +kernel
theorem dX1_readDislikes_94 : decode cX1_readDislikes 94 = .ok (.ireturn, 1) := by decide +kernel
theorem dX1_readDislikes_95 : decode cX1_readDislikes 95 = .ok (.aload_n 0, 1) := by decide +kernel
theorem dX1_readDislikes_96 : decode cX1_readDislikes 96 = .ok (.getfield 23, 3) := by decide +kernel
theorem dX1_readDislikes_99 : decode cX1_readDislikes 99 = .ok (.iload_n 1, 1) := by decide +kernel
theorem dX1_readDislikes_100 : decode cX1_readDislikes 100 = .ok (.aload_n 0, 1) := by decide +kernel
theorem dX1_readDislikes_101 : decode cX1_readDislikes 101 = .ok (.getfield 19, 3) := by decide +kernel
theorem dX1_readDislikes_104 : decode cX1_readDislikes 104 = .ok (.getfield 133, 3) := by decide +kernel
theorem dX1_readDislikes_107 : decode cX1_readDislikes 107 = .ok (.aload_n 0, 1) := by decide +kernel
theorem dX1_readDislikes_108 : decode cX1_readDislikes 108 = .ok (.getfield 19, 3) := by decide +kernel
theorem dX1_readDislikes_111 : decode cX1_readDislikes 111 = .ok (.getfield 114, 3) := by decide +kernel
theorem dX1_readDislikes_114 : decode cX1_readDislikes 114 = .ok (.invokevirtual 139, 3) := by decide +kernel
theorem dX1_readDislikes_117 : decode cX1_readDislikes 117 = .ok (.iconst 1, 1) := by decide +kernel
theorem dX1_readDislikes_118 : decode cX1_readDislikes 118 = .ok (.ireturn, 1) := by decide +kernel
abbrev rmX1_readDislikes : Room := { frames := 4, cells := 0, slots := 0, locals := 87 }
set_option maxHeartbeats 4000000 in
set_option maxRecDepth 100000 in
theorem kX1_readDislikes (l : Launch) (D : va_G) (cy : Nat → ClassId) (h0 : Nat) (a0 : Nat → Nat) (a1 : Nat → Nat) (a2 : Nat → Nat) (s0 : Rc) (s1 : Rc) (s2 : Rc) (res : Int32 × Rc × Rc) (h : fX1_readDislikes s0 s1 s2 = some res) : CZ l D cy yX1_readDislikes wsX1_readDislikes rmX1_readDislikes [.ref h0] (flat [WX1 cy h0 a0 s0, WX8 cy (a0 0) a1 s1, WX0 cy (a0 1) a2 s2]) (flat [WX1 cy h0 a0 s0, WX8 cy (a0 0) a1 res.2.1, WX0 cy (a0 1) a2 res.2.2]) res.1 := by
  refine CZ.of (cc := cX1_readDislikes) (maxL := 2) (by decide) rfl (Nat.le_of_ble_eq_true rfl) ?_
  intro p e s m args below meth c A QQ ls E hr
  obtain ⟨hx, hb, hml, hown, hts, hK, hN, hP, hD, hA, hl⟩ := E
  have hret : ∀ (pc : Nat) (H : Heap) (locs : List Loc) (ls : Array Slot) (u : Int32 × Rc × Rc), u = res → va_P D vwCl (flat [WX1 cy h0 a0 s0, WX8 cy (a0 0) a1 u.2.1, WX0 cy (a0 1) a2 u.2.2]) H → va_D A (flat [WX1 cy h0 a0 s0, WX8 cy (a0 0) a1 u.2.1, WX0 cy (a0 1) a2 u.2.2]) → va_S A s.heap H locs → isb u.1 = true → decode cX1_readDislikes pc = .ok (.ireturn, 1) → W p l e rmX1_readDislikes s m args below meth c H locs 0 0 QQ (F0 m pc ls [.int u.1]) := by
    intro pc H locs ls u hu hP hD hS hz hd; subst hu; exact hr pc H locs ls _ rfl hP hD hS hz hd
  clear hr
  have hl : lv_has ls 2 [(0, .ref h0)] := hl
  have hinX1 : ∀ w ∈ wsX10, w ∈ wsX1_readDislikes := fun _ h => List.mem_cons_of_mem _ (List.mem_append_left _ (List.mem_append_left _ (List.mem_append_right _ h)))
  have hinX8 : ∀ w ∈ wsX80, w ∈ wsX1_readDislikes := fun _ h => List.mem_cons_of_mem _ (List.mem_append_left _ (List.mem_append_right _ h))
  unfold fX1_readDislikes at h
  suffices key : ∀ (H : Heap) (locs : List Loc), va_P D vwCl (flat [WX1 cy h0 a0 s0, WX8 cy (a0 0) a1 s1, WX0 cy (a0 1) a2 s2]) H → va_S A s.heap H locs → W p l e rmX1_readDislikes s m args below meth c H locs 0 0 QQ (F0 m 0 ls []) from key _ _ hP va_S.rf
  clear hP
  intro H locs hP hS
  refine lv_aload_n hx hb dX1_readDislikes_0 rfl (lv_at hl 0 rfl) ?_
  refine va_get (D := D) (ci := 1) (v := .ref (a0 0)) (C := RX1) (T := TX1) (N := 4) hx hb hts hinX1 hown hK hP 0 rfl rfl 0 (by decide) (hts (.fieldLink RX1 19 "KneeBench$BenchText" "tokens" "LKneeBench$Tokens;") (List.mem_of_getElem? (i := 1) rfl)) (fun _ h9 => h9) rfl dX1_readDislikes_1 ?_
  obtain ⟨r1, hr1, h⟩ := bd_elim h
  refine ca_z (w' := [WX1 cy h0 a0 s0, WX8 cy (a0 0) a1 r1.2, WX0 cy (a0 1) a2 s2]) (rn_V (As := []) (rest := []) ⟨hx, hb, hml, hown, hts⟩ (kX8_advance l D cy (a0 0) a1 s1 r1 hr1 H.size) (cwV 0 hts gX1_readDislikes_X8_advance rfl rfl rfl (by decide +kernel) ⟨Nat.le_of_ble_eq_true rfl, Nat.le_of_ble_eq_true rfl⟩) hK hN hP hD [1] rfl rfl (ci := 8) (q0 := 1) rfl rfl rfl rfl hl.1 rfl (Nat.le_of_ble_eq_true rfl) dX1_readDislikes_4 ⟨Nat.le_refl 0, Nat.le_refl 0⟩) hP hD hS hA [1] ⟨rfl, rfl, rfl, rfl⟩ (fun b2 H locs hP hD hS => ?_)
  refine lv_if_eq (tgt := 24) hx hb dX1_readDislikes_7 (by decide) (fun c3 => ?_) (fun c3 => ?_)
  · replace h := (if_pos c3).symm.trans h
    refine lv_iconst (v := 0) hx hb dX1_readDislikes_24 (by decide) ?_
    exact hret 25 H locs ls ((0 : Int32), r1.2, s2) (Option.some.inj h) hP hD hS (show isb (0 : Int32) = true by decide) dX1_readDislikes_25
  · replace h := (if_neg c3).symm.trans h
    refine lv_aload_n hx hb dX1_readDislikes_10 rfl (lv_at hl 0 rfl) ?_
    refine va_get (D := D) (ci := 1) (v := .ref (a0 0)) (C := RX1) (T := TX1) (N := 4) hx hb hts hinX1 hown hK hP 0 rfl rfl 0 (by decide) (hts (.fieldLink RX1 19 "KneeBench$BenchText" "tokens" "LKneeBench$Tokens;") (List.mem_of_getElem? (i := 1) rfl)) (fun _ h9 => h9) rfl dX1_readDislikes_11 ?_
    refine lv_aload_n hx hb dX1_readDislikes_14 rfl (lv_at hl 0 rfl) ?_
    refine va_get (D := D) (ci := 1) (v := .ref (a0 1)) (C := RX1) (T := TX1) (N := 4) hx hb hts hinX1 hown hK hP 0 rfl rfl 1 (by decide) (hts (.fieldLink RX1 23 "KneeBench$BenchText" "draft" "LKneeBench$Bench;") (List.mem_of_getElem? (i := 2) rfl)) (fun _ h9 => h9) rfl dX1_readDislikes_15 ?_
    obtain ⟨r4, hr4, h⟩ := bd_elim h
    refine ca_z (w' := [WX1 cy h0 a0 s0, WX8 cy (a0 0) a1 r4.2, WX0 cy (a0 1) a2 s2]) (rn_V (As := [.ref (a0 1)]) (rest := []) ⟨hx, hb, hml, hown, hts⟩ (kX8_passFarmer l D cy (a0 0) (a0 1) a1 a2 r1.2 s2 r4 hr4 H.size) (cwV 1 hts gX1_readDislikes_X8_passFarmer rfl rfl rfl (by decide +kernel) ⟨Nat.le_of_ble_eq_true rfl, Nat.le_of_ble_eq_true rfl⟩) hK hN hP hD [1, 2] rfl rfl (ci := 8) (q0 := 1) rfl rfl rfl rfl hl.1 rfl (Nat.le_of_ble_eq_true rfl) dX1_readDislikes_18 ⟨Nat.le_refl 0, Nat.le_refl 0⟩) hP hD hS hA [1, 2] ⟨rfl, rfl, rfl, rfl⟩ (fun b5 H locs hP hD hS => ?_)
    refine lv_if_ne (tgt := 26) hx hb dX1_readDislikes_21 (by decide) (fun c6 => ?_) (fun c6 => ?_)
    · replace h := (if_neg c6).symm.trans h
      refine lv_aload_n hx hb dX1_readDislikes_26 rfl (lv_at hl 0 rfl) ?_
      refine va_get (D := D) (ci := 1) (v := .ref (a0 0)) (C := RX1) (T := TX1) (N := 4) hx hb hts hinX1 hown hK hP 0 rfl rfl 0 (by decide) (hts (.fieldLink RX1 19 "KneeBench$BenchText" "tokens" "LKneeBench$Tokens;") (List.mem_of_getElem? (i := 1) rfl)) (fun _ h9 => h9) rfl dX1_readDislikes_27 ?_
      refine va_getN (D := D) (ci := 8) (v := .int (gi r4.2 11)) (C := RX8) (T := TX8) (N := 14) hx hb hts hinX8 hown hK hP 1 rfl rfl 11 (by decide) (NW.fld hN 51 rfl _) (fun _ h9 => h9) rfl dX1_readDislikes_30 ?_
      refine lv_topi (fun x7 ex7 => ?_)
      replace h := lt_use h x7 ex7
      refine lv_istore_n (lv' := [(1, .int x7), (0, .ref h0)]) hx hb dX1_readDislikes_33 rfl hl (by decide) rfl (fun ls hl => ?_)
      refine lv_aload_n hx hb dX1_readDislikes_34 rfl (lv_at hl 1 rfl) ?_
      refine va_get (D := D) (ci := 1) (v := .ref (a0 0)) (C := RX1) (T := TX1) (N := 4) hx hb hts hinX1 hown hK hP 0 rfl rfl 0 (by decide) (hts (.fieldLink RX1 19 "KneeBench$BenchText" "tokens" "LKneeBench$Tokens;") (List.mem_of_getElem? (i := 1) rfl)) (fun _ h9 => h9) rfl dX1_readDislikes_35 ?_
      refine lv_aload_n hx hb dX1_readDislikes_38 rfl (lv_at hl 1 rfl) ?_
      refine va_get (D := D) (ci := 1) (v := .ref (a0 1)) (C := RX1) (T := TX1) (N := 4) hx hb hts hinX1 hown hK hP 0 rfl rfl 1 (by decide) (hts (.fieldLink RX1 23 "KneeBench$BenchText" "draft" "LKneeBench$Bench;") (List.mem_of_getElem? (i := 2) rfl)) (fun _ h9 => h9) rfl dX1_readDislikes_39 ?_
      obtain ⟨r8, hr8, h⟩ := bd_elim h
      refine ca_z (w' := [WX1 cy h0 a0 s0, WX8 cy (a0 0) a1 r8.2, WX0 cy (a0 1) a2 s2]) (rn_V (As := [.ref (a0 1)]) (rest := []) ⟨hx, hb, hml, hown, hts⟩ (kX8_mustBeFarmer l D cy (a0 0) (a0 1) a1 a2 r4.2 s2 r8 hr8 H.size) (cwV 1 hts gX1_readDislikes_X8_mustBeFarmer rfl rfl rfl (by decide +kernel) ⟨Nat.le_of_ble_eq_true rfl, Nat.le_of_ble_eq_true rfl⟩) hK hN hP hD [1, 2] rfl rfl (ci := 8) (q0 := 1) rfl rfl rfl rfl hl.1 rfl (Nat.le_of_ble_eq_true rfl) dX1_readDislikes_42 ⟨Nat.le_refl 0, Nat.le_refl 0⟩) hP hD hS hA [1, 2] ⟨rfl, rfl, rfl, rfl⟩ (fun b9 H locs hP hD hS => ?_)
      refine lv_if_ne (tgt := 50) hx hb dX1_readDislikes_45 (by decide) (fun c10 => ?_) (fun c10 => ?_)
      · replace h := (if_neg c10).symm.trans h
        refine lv_aload_n hx hb dX1_readDislikes_50 rfl (lv_at hl 1 rfl) ?_
        refine va_get (D := D) (ci := 1) (v := .ref (a0 0)) (C := RX1) (T := TX1) (N := 4) hx hb hts hinX1 hown hK hP 0 rfl rfl 0 (by decide) (hts (.fieldLink RX1 19 "KneeBench$BenchText" "tokens" "LKneeBench$Tokens;") (List.mem_of_getElem? (i := 1) rfl)) (fun _ h9 => h9) rfl dX1_readDislikes_51 ?_
        refine va_getN (D := D) (ci := 8) (v := .int (gi r8.2 11)) (C := RX8) (T := TX8) (N := 14) hx hb hts hinX8 hown hK hP 1 rfl rfl 11 (by decide) (NW.fld hN 51 rfl _) (fun _ h9 => h9) rfl dX1_readDislikes_54 ?_
        refine lv_iload_n hx hb dX1_readDislikes_57 rfl (lv_at hl 0 rfl) ?_
        refine lv_icmp_ne (tgt := 70) hx hb dX1_readDislikes_58 (by decide) (fun c11 => ?_) (fun c11 => ?_)
        · replace h := (if_neg c11).symm.trans h
          refine lv_aload_n hx hb dX1_readDislikes_70 rfl (lv_at hl 1 rfl) ?_
          refine va_get (D := D) (ci := 1) (v := .ref (a0 0)) (C := RX1) (T := TX1) (N := 4) hx hb hts hinX1 hown hK hP 0 rfl rfl 0 (by decide) (hts (.fieldLink RX1 19 "KneeBench$BenchText" "tokens" "LKneeBench$Tokens;") (List.mem_of_getElem? (i := 1) rfl)) (fun _ h9 => h9) rfl dX1_readDislikes_71 ?_
          obtain ⟨r12, hr12, h⟩ := bd_elim h
          refine ca_z (w' := [WX1 cy h0 a0 s0, WX8 cy (a0 0) a1 r12.2, WX0 cy (a0 1) a2 s2]) (rn_V (As := []) (rest := []) ⟨hx, hb, hml, hown, hts⟩ (kX8_advance l D cy (a0 0) a1 r8.2 r12 hr12 H.size) (cwV 0 hts gX1_readDislikes_X8_advance rfl rfl rfl (by decide +kernel) ⟨Nat.le_of_ble_eq_true rfl, Nat.le_of_ble_eq_true rfl⟩) hK hN hP hD [1] rfl rfl (ci := 8) (q0 := 1) rfl rfl rfl rfl hl.1 rfl (Nat.le_of_ble_eq_true rfl) dX1_readDislikes_74 ⟨Nat.le_refl 0, Nat.le_refl 0⟩) hP hD hS hA [1] ⟨rfl, rfl, rfl, rfl⟩ (fun b13 H locs hP hD hS => ?_)
          refine lv_if_eq (tgt := 93) hx hb dX1_readDislikes_77 (by decide) (fun c14 => ?_) (fun c14 => ?_)
          · replace h := (if_pos c14).symm.trans h
            refine lv_iconst (v := 0) hx hb dX1_readDislikes_93 (by decide) ?_
            exact hret 94 H locs ls ((0 : Int32), r12.2, s2) (Option.some.inj h) hP hD hS (show isb (0 : Int32) = true by decide) dX1_readDislikes_94
          · replace h := (if_neg c14).symm.trans h
            refine lv_aload_n hx hb dX1_readDislikes_80 rfl (lv_at hl 1 rfl) ?_
            refine va_get (D := D) (ci := 1) (v := .ref (a0 0)) (C := RX1) (T := TX1) (N := 4) hx hb hts hinX1 hown hK hP 0 rfl rfl 0 (by decide) (hts (.fieldLink RX1 19 "KneeBench$BenchText" "tokens" "LKneeBench$Tokens;") (List.mem_of_getElem? (i := 1) rfl)) (fun _ h9 => h9) rfl dX1_readDislikes_81 ?_
            refine lv_iconst (v := 0) hx hb dX1_readDislikes_84 (by decide) ?_
            refine lv_bipush (v := 99) hx hb dX1_readDislikes_85 (by decide) ?_
            obtain ⟨r15, hr15, h⟩ := bd_elim h
            refine ca_z (w' := [WX1 cy h0 a0 s0, WX8 cy (a0 0) a1 r15.2, WX0 cy (a0 1) a2 s2]) (rn_V (As := [.int (0 : Int32), .int (99 : Int32)]) (rest := []) ⟨hx, hb, hml, hown, hts⟩ (kX8_passNumber l D cy (a0 0) a1 r12.2 (0 : Int32) (99 : Int32) r15 hr15 H.size) (cwV 2 hts gX1_readDislikes_X8_passNumber rfl rfl rfl (by decide +kernel) ⟨Nat.le_of_ble_eq_true rfl, Nat.le_of_ble_eq_true rfl⟩) hK hN hP hD [1] rfl rfl (ci := 8) (q0 := 1) rfl rfl rfl rfl hl.1 rfl (Nat.le_of_ble_eq_true rfl) dX1_readDislikes_87 ⟨Nat.le_refl 0, Nat.le_refl 0⟩) hP hD hS hA [1] ⟨rfl, rfl, rfl, rfl⟩ (fun b16 H locs hP hD hS => ?_)
            refine lv_if_ne (tgt := 95) hx hb dX1_readDislikes_90 (by decide) (fun c17 => ?_) (fun c17 => ?_)
            · replace h := (if_neg c17).symm.trans h
              refine lv_aload_n hx hb dX1_readDislikes_95 rfl (lv_at hl 1 rfl) ?_
              refine va_get (D := D) (ci := 1) (v := .ref (a0 1)) (C := RX1) (T := TX1) (N := 4) hx hb hts hinX1 hown hK hP 0 rfl rfl 1 (by decide) (hts (.fieldLink RX1 23 "KneeBench$BenchText" "draft" "LKneeBench$Bench;") (List.mem_of_getElem? (i := 2) rfl)) (fun _ h9 => h9) rfl dX1_readDislikes_96 ?_
              refine lv_iload_n hx hb dX1_readDislikes_99 rfl (lv_at hl 0 rfl) ?_
              refine lv_aload_n hx hb dX1_readDislikes_100 rfl (lv_at hl 1 rfl) ?_
              refine va_get (D := D) (ci := 1) (v := .ref (a0 0)) (C := RX1) (T := TX1) (N := 4) hx hb hts hinX1 hown hK hP 0 rfl rfl 0 (by decide) (hts (.fieldLink RX1 19 "KneeBench$BenchText" "tokens" "LKneeBench$Tokens;") (List.mem_of_getElem? (i := 1) rfl)) (fun _ h9 => h9) rfl dX1_readDislikes_101 ?_
              refine va_getN (D := D) (ci := 8) (v := .int (gi r15.2 11)) (C := RX8) (T := TX8) (N := 14) hx hb hts hinX8 hown hK hP 1 rfl rfl 11 (by decide) (NW.fld hN 51 rfl _) (fun _ h9 => h9) rfl dX1_readDislikes_104 ?_
              refine lv_aload_n hx hb dX1_readDislikes_107 rfl (lv_at hl 1 rfl) ?_
              refine va_get (D := D) (ci := 1) (v := .ref (a0 0)) (C := RX1) (T := TX1) (N := 4) hx hb hts hinX1 hown hK hP 0 rfl rfl 0 (by decide) (hts (.fieldLink RX1 19 "KneeBench$BenchText" "tokens" "LKneeBench$Tokens;") (List.mem_of_getElem? (i := 1) rfl)) (fun _ h9 => h9) rfl dX1_readDislikes_108 ?_
              refine va_getN (D := D) (ci := 8) (v := .int (gi r15.2 10)) (C := RX8) (T := TX8) (N := 14) hx hb hts hinX8 hown hK hP 1 rfl rfl 10 (by decide) (NW.fld hN 49 rfl _) (fun _ h9 => h9) rfl dX1_readDislikes_111 ?_
              obtain ⟨r18, hr18, h⟩ := bd_elim h
              refine ca_v (w' := [WX1 cy h0 a0 s0, WX8 cy (a0 0) a1 r15.2, WX0 cy (a0 1) a2 r18]) (rn_V (As := [.int x7, .int (gi r15.2 11), .int (gi r15.2 10)]) (rest := []) ⟨hx, hb, hml, hown, hts⟩ (kX0_setDislike l D cy (a0 1) a2 s2 x7 (gi r15.2 11) (gi r15.2 10) r18 hr18 H.size) (cwV 3 hts gX1_readDislikes_X0_setDislike rfl rfl rfl (by decide +kernel) ⟨Nat.le_of_ble_eq_true rfl, Nat.le_of_ble_eq_true rfl⟩) hK hN hP hD [2] rfl rfl (ci := 0) (q0 := 4) rfl rfl rfl rfl hl.1 rfl (Nat.le_of_ble_eq_true rfl) dX1_readDislikes_114 ⟨Nat.le_refl 0, Nat.le_refl 0⟩) hP hD hS hA [2] ⟨rfl, rfl, rfl, rfl⟩ (fun H locs hP hD hS => ?_)
              refine lv_iconst (v := 1) hx hb dX1_readDislikes_117 (by decide) ?_
              exact hret 118 H locs ls ((1 : Int32), r15.2, r18) (Option.some.inj h) hP hD hS (show isb (1 : Int32) = true by decide) dX1_readDislikes_118
            · replace h := (if_pos c17).symm.trans h
              refine lv_iconst (v := 0) hx hb dX1_readDislikes_93 (by decide) ?_
              exact hret 94 H locs ls ((0 : Int32), r15.2, s2) (Option.some.inj h) hP hD hS (show isb (0 : Int32) = true by decide) dX1_readDislikes_94
        · replace h := (if_pos c11).symm.trans h
          refine lv_aload_n hx hb dX1_readDislikes_61 rfl (lv_at hl 1 rfl) ?_
          refine va_get (D := D) (ci := 1) (v := .ref (a0 0)) (C := RX1) (T := TX1) (N := 4) hx hb hts hinX1 hown hK hP 0 rfl rfl 0 (by decide) (hts (.fieldLink RX1 19 "KneeBench$BenchText" "tokens" "LKneeBench$Tokens;") (List.mem_of_getElem? (i := 1) rfl)) (fun _ h9 => h9) rfl dX1_readDislikes_62 ?_
          refine lv_iconst (v := 5) hx hb dX1_readDislikes_65 (by decide) ?_
          obtain ⟨r19, hr19, h⟩ := lt_elim h
          refine ca_z (w' := [WX1 cy h0 a0 s0, WX8 cy (a0 0) a1 r19.2, WX0 cy (a0 1) a2 s2]) (rn_V (As := [.int (5 : Int32)]) (rest := []) ⟨hx, hb, hml, hown, hts⟩ (kX8_fail l D cy (a0 0) a1 r8.2 (5 : Int32) r19 hr19.symm H.size) (cwV 1 hts gX1_readDislikes_X8_fail rfl rfl rfl (by decide +kernel) ⟨Nat.le_of_ble_eq_true rfl, Nat.le_of_ble_eq_true rfl⟩) hK hN hP hD [1] rfl rfl (ci := 8) (q0 := 1) rfl rfl rfl rfl hl.1 rfl (Nat.le_of_ble_eq_true rfl) dX1_readDislikes_66 ⟨Nat.le_refl 0, Nat.le_refl 0⟩) hP hD hS hA [1] ⟨rfl, rfl, rfl, rfl⟩ (fun b20 H locs hP hD hS => ?_)
          exact hret 69 H locs ls (r19.1, r19.2, s2) (Option.some.inj h) hP hD hS b20 dX1_readDislikes_69
      · replace h := (if_pos c10).symm.trans h
        refine lv_iconst (v := 0) hx hb dX1_readDislikes_48 (by decide) ?_
        exact hret 49 H locs ls ((0 : Int32), r8.2, s2) (Option.some.inj h) hP hD hS (show isb (0 : Int32) = true by decide) dX1_readDislikes_49
    · replace h := (if_pos c6).symm.trans h
      refine lv_iconst (v := 0) hx hb dX1_readDislikes_24 (by decide) ?_
      exact hret 25 H locs ls ((0 : Int32), r4.2, s2) (Option.some.inj h) hP hD hS (show isb (0 : Int32) = true by decide) dX1_readDislikes_25
theorem dX8_weatherAt_0 : decode cX8_weatherAt 0 = .ok (.iload_n 1, 1) := by decide +kernel
theorem dX8_weatherAt_1 : decode cX8_weatherAt 1 = .ok (.ifCond .lt 20, 3) := by decide +kernel
theorem dX8_weatherAt_4 : decode cX8_weatherAt 4 = .ok (.iload_n 1, 1) := by decide +kernel
theorem dX8_weatherAt_5 : decode cX8_weatherAt 5 = .ok (.aload_n 0, 1) := by decide +kernel
theorem dX8_weatherAt_6 : decode cX8_weatherAt 6 = .ok (.getfield 23, 3) := by decide +kernel
theorem dX8_weatherAt_9 : decode cX8_weatherAt 9 = .ok (.if_icmp .ge 12, 3) := by decide +kernel
theorem dX8_weatherAt_12 : decode cX8_weatherAt 12 = .ok (.aload_n 0, 1) := by decide +kernel
theorem dX8_weatherAt_13 : decode cX8_weatherAt 13 = .ok (.getfield 9, 3) := by decide +kernel
theorem dX8_weatherAt_16 : decode cX8_weatherAt 16 = .ok (.iload_n 1, 1) := by decide +kernel
theorem dX8_weatherAt_17 : decode cX8_weatherAt 17 = .ok (.baload, 1) := by decide +kernel
theorem dX8_weatherAt_18 : decode cX8_weatherAt 18 = .ok (.goto 4, 3) := by decide +kernel
theorem dX8_weatherAt_21 : decode cX8_weatherAt 21 = .ok (.iconst 0, 1) := by decide +kernel
theorem dX8_weatherAt_22 : decode cX8_weatherAt 22 = .ok (.istore_n 2, 1) := by decide +kernel
theorem dX8_weatherAt_23 : decode cX8_weatherAt 23 = .ok (.iload_n 2, 1) := by decide +kernel
theorem dX8_weatherAt_24 : decode cX8_weatherAt 24 = .ok (.lookupswitch 42 #[(100, 36), (104, 40), (114, 38)], 36) := by decide +kernel
theorem dX8_weatherAt_60 : decode cX8_weatherAt 60 = .ok (.iconst 0, 1) := by decide +kernel
theorem dX8_weatherAt_61 : decode cX8_weatherAt 61 = .ok (.ireturn, 1) := by decide +kernel
theorem dX8_weatherAt_62 : decode cX8_weatherAt 62 = .ok (.iconst 1, 1) := by decide +kernel
theorem dX8_weatherAt_63 : decode cX8_weatherAt 63 = .ok (.ireturn, 1) := by decide +kernel
theorem dX8_weatherAt_64 : decode cX8_weatherAt 64 = .ok (.iconst 2, 1) := by decide +kernel
theorem dX8_weatherAt_65 : decode cX8_weatherAt 65 = .ok (.ireturn, 1) := by decide +kernel
theorem dX8_weatherAt_66 : decode cX8_weatherAt 66 = .ok (.iconst (-1), 1) := by decide +kernel
theorem dX8_weatherAt_67 : decode cX8_weatherAt 67 = .ok (.ireturn, 1) := by decide +kernel
abbrev rmX8_weatherAt : Room := { frames := 0, cells := 0, slots := 0, locals := 0 }
set_option maxHeartbeats 4000000 in
set_option maxRecDepth 100000 in
theorem kX8_weatherAt (l : Launch) (D : va_G) (cy : Nat → ClassId) (h0 : Nat) (a0 : Nat → Nat) (s0 : Rc) (p1 : Int32) (res : Int32) (h : fX8_weatherAt p1 s0 = some res) : CI l D cy yX8_weatherAt wsX8_weatherAt rmX8_weatherAt [.ref h0, .int p1] (flat [WX8 cy h0 a0 s0]) (flat [WX8 cy h0 a0 s0]) res := by
  refine CI.of (cc := cX8_weatherAt) (maxL := 3) (by decide) rfl (Nat.le_of_ble_eq_true rfl) ?_
  intro p e s m args below meth c A QQ ls E hr
  obtain ⟨hx, hb, hml, hown, hts, hK, hN, hP, hD, hA, hl⟩ := E
  have hret : ∀ (pc : Nat) (H : Heap) (locs : List Loc) (ls : Array Slot) (u : Int32), u = res → va_P D vwCl (flat [WX8 cy h0 a0 s0]) H → va_D A (flat [WX8 cy h0 a0 s0]) → va_S A s.heap H locs → decode cX8_weatherAt pc = .ok (.ireturn, 1) → W p l e rmX8_weatherAt s m args below meth c H locs 0 0 QQ (F0 m pc ls [.int u]) := by
    intro pc H locs ls u hu hP hD hS hd; subst hu; exact hr pc H locs ls _ rfl hP hD hS hd
  clear hr
  have hl : lv_has ls 3 [(0, .ref h0), (1, .int p1)] := hl
  have hinX8 : ∀ w ∈ wsX80, w ∈ wsX8_weatherAt := fun _ h => List.mem_cons_of_mem _ (List.mem_append_right _ h)
  unfold fX8_weatherAt at h
  suffices key : ∀ (H : Heap) (locs : List Loc), va_P D vwCl (flat [WX8 cy h0 a0 s0]) H → va_S A s.heap H locs → W p l e rmX8_weatherAt s m args below meth c H locs 0 0 QQ (F0 m 0 ls []) from key _ _ hP va_S.rf
  clear hP
  intro H locs hP hS
  have J22 : ∀ (z22_0 : Int32) (H : Heap) (locs : List Loc) (ls : Array Slot), lv_has ls 3 [] → va_P D vwCl (flat [WX8 cy h0 a0 s0]) H → va_D A (flat [WX8 cy h0 a0 s0]) → va_S A s.heap H locs → fX8_weatherAt_J22 z22_0 = some res → W p l e rmX8_weatherAt s m args below meth c H locs 0 0 QQ (F0 m 22 ls [.int z22_0]) := by
    intro z22_0 H locs ls hl hP hD hS h
    unfold fX8_weatherAt_J22 at h
    refine lv_istore_n (lv' := [(2, .int z22_0)]) hx hb dX8_weatherAt_22 rfl hl (by decide) rfl (fun ls hl => ?_)
    refine lv_iload_n hx hb dX8_weatherAt_23 rfl (lv_at hl 0 rfl) ?_
    by_cases c1 : z22_0 = (100 : Int32)
    · replace h := (if_pos c1).symm.trans h
      refine lv_lookup (tgt := 60) (off := 36) hx hb dX8_weatherAt_24 (by decide) (by rw [c1]; rfl) (by decide) ?_
      refine lv_iconst (v := 0) hx hb dX8_weatherAt_60 (by decide) ?_
      exact hret 61 H locs ls (0 : Int32) (Option.some.inj h) hP hD hS dX8_weatherAt_61
    replace h := (if_neg c1).symm.trans h
    by_cases c2 : z22_0 = (104 : Int32)
    · replace h := (if_pos c2).symm.trans h
      refine lv_lookup (tgt := 64) (off := 40) hx hb dX8_weatherAt_24 (by decide) (by rw [c2]; rfl) (by decide) ?_
      refine lv_iconst (v := 2) hx hb dX8_weatherAt_64 (by decide) ?_
      exact hret 65 H locs ls (2 : Int32) (Option.some.inj h) hP hD hS dX8_weatherAt_65
    replace h := (if_neg c2).symm.trans h
    by_cases c3 : z22_0 = (114 : Int32)
    · replace h := (if_pos c3).symm.trans h
      refine lv_lookup (tgt := 62) (off := 38) hx hb dX8_weatherAt_24 (by decide) (by rw [c3]; rfl) (by decide) ?_
      refine lv_iconst (v := 1) hx hb dX8_weatherAt_62 (by decide) ?_
      exact hret 63 H locs ls (1 : Int32) (Option.some.inj h) hP hD hS dX8_weatherAt_63
    replace h := (if_neg c3).symm.trans h
    refine lv_lookup (tgt := 66) (off := 42) hx hb dX8_weatherAt_24 (by decide) ((if_neg (fun z => c1 (Int32.toInt_inj.mp (z.symm.trans (by decide))))).trans ((if_neg (fun z => c2 (Int32.toInt_inj.mp (z.symm.trans (by decide))))).trans ((if_neg (fun z => c3 (Int32.toInt_inj.mp (z.symm.trans (by decide))))).trans rfl))) (by decide) ?_
    refine lv_iconst (v := -1) hx hb dX8_weatherAt_66 (by decide) ?_
    exact hret 67 H locs ls (-1 : Int32) (Option.some.inj h) hP hD hS dX8_weatherAt_67
  have J21 : ∀  (H : Heap) (locs : List Loc) (ls : Array Slot), lv_has ls 3 [] → va_P D vwCl (flat [WX8 cy h0 a0 s0]) H → va_D A (flat [WX8 cy h0 a0 s0]) → va_S A s.heap H locs → fX8_weatherAt_J21  = some res → W p l e rmX8_weatherAt s m args below meth c H locs 0 0 QQ (F0 m 21 ls []) := by
    intro  H locs ls hl hP hD hS h
    unfold fX8_weatherAt_J21 at h
    refine lv_iconst (v := 0) hx hb dX8_weatherAt_21 (by decide) ?_
    exact J22 (0 : Int32) H locs ls (lv_sub hl [] rfl) hP hD hS h
  refine lv_iload_n hx hb dX8_weatherAt_0 rfl (lv_at hl 1 rfl) ?_
  refine lv_if_lt (tgt := 21) hx hb dX8_weatherAt_1 (by decide) (fun c4 => ?_) (fun c4 => ?_)
  · replace h := (if_pos c4).symm.trans h
    exact J21  H locs ls (lv_sub hl [] rfl) hP hD hS h
  · replace h := (if_neg c4).symm.trans h
    refine lv_iload_n hx hb dX8_weatherAt_4 rfl (lv_at hl 1 rfl) ?_
    refine lv_aload_n hx hb dX8_weatherAt_5 rfl (lv_at hl 0 rfl) ?_
    refine va_get (D := D) (ci := 8) (v := .int (gi s0 3)) (C := RX8) (T := TX8) (N := 14) hx hb hts hinX8 hown hK hP 0 rfl rfl 3 (by decide) (hts (.fieldLink RX8 23 "KneeBench$Tokens" "length" "I") (List.mem_of_getElem? (i := 1) rfl)) (fun _ h9 => h9) rfl dX8_weatherAt_6 ?_
    refine lv_icmp_ge (tgt := 21) hx hb dX8_weatherAt_9 (by decide) (fun c5 => ?_) (fun c5 => ?_)
    · replace h := (if_pos c5).symm.trans h
      exact J21  H locs ls (lv_sub hl [] rfl) hP hD hS h
    · replace h := (if_neg c5).symm.trans h
      refine lv_aload_n hx hb dX8_weatherAt_12 rfl (lv_at hl 0 rfl) ?_
      refine va_get (D := D) (ci := 8) (v := .ref (a0 0)) (C := RX8) (T := TX8) (N := 14) hx hb hts hinX8 hown hK hP 0 rfl rfl 0 (by decide) (hts (.fieldLink RX8 9 "KneeBench$Tokens" "tape" "[B") (List.mem_of_getElem? (i := 2) rfl)) (fun _ h9 => h9) rfl dX8_weatherAt_13 ?_
      refine lv_iload_n hx hb dX8_weatherAt_16 rfl (lv_at hl 1 rfl) ?_
      obtain ⟨g6, h⟩ := gd_elim h
      refine va_bald hx hb hK hP 1 0 rfl rfl (inb_in g6) dX8_weatherAt_17 ?_
      refine lv_goto (tgt := 22) hx hb dX8_weatherAt_18 (by decide) ?_
      exact J22 (ga s0 0 p1.toNatClampNeg) H locs ls (lv_sub hl [] rfl) hP hD hS h
