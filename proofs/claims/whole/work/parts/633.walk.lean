set_option maxRecDepth 20000 in
theorem ggX10_right_X10_noFarmer : GoodIn wsX10_right wsX10_noFarmer := goodIn_r _ [6, 1, 68, 69, 70, 71, 72, 73, 74, 75, 76, 77, 78, 79, 80, 81, 82, 83, 84, 85, 86, 87, 88, 89, 90, 91, 92, 93, 94, 95, 96, 97, 98, 99, 100] (by decide +kernel) (by decide +kernel)
set_option maxRecDepth 20000 in
theorem gX10_right_X10_noFarmer : GoodIn wsX10_right (wsV RX10 215 RX10 yX10_noFarmer wsX10_noFarmer) := goodIn_app (goodIn_of _ (by decide +kernel)) ggX10_right_X10_noFarmer
set_option maxRecDepth 20000 in
theorem ggX10_right_X10_refuse : GoodIn wsX10_right wsX10_refuse := goodIn_r _ [10, 11, 68, 69, 70, 71, 72, 73, 74, 75, 76, 77, 78, 79, 80, 81, 82, 83, 84, 85, 86] (by decide +kernel) (by decide +kernel)
set_option maxRecDepth 20000 in
theorem gX10_right_X10_refuse : GoodIn wsX10_right (wsV RX10 139 RX10 yX10_refuse wsX10_refuse) := goodIn_app (goodIn_of _ (by decide +kernel)) ggX10_right_X10_refuse
set_option maxRecDepth 20000 in
theorem ggX10_right_X0_rightDays : GoodIn wsX10_right wsX0_rightDays := goodIn_r _ [16, 17, 18, 19, 20, 15, 21, 22, 23, 24, 25, 26, 27, 28, 29, 30, 31, 32, 33, 5, 34, 35, 36, 37, 38, 39, 40, 41, 42, 43, 44, 45, 46, 47, 48, 49, 50, 51, 52, 53, 54, 55, 56, 87, 88, 89, 90, 91, 92, 93, 94, 95, 96, 97, 98, 99, 100] (by decide +kernel) (by decide +kernel)
set_option maxRecDepth 20000 in
theorem gX10_right_X0_rightDays : GoodIn wsX10_right (wsV RX10 305 RX0 yX0_rightDays wsX0_rightDays) := goodIn_app (goodIn_of _ (by decide +kernel)) ggX10_right_X0_rightDays
set_option maxRecDepth 20000 in
theorem ggX10_right_J13_bitCount_95d88 : GoodIn wsX10_right wsJ13_bitCount_95d88 := goodIn_r _ [60, 61, 62, 63] (by decide +kernel) (by decide +kernel)
set_option maxRecDepth 20000 in
theorem gX10_right_J13_bitCount_95d88 : GoodIn wsX10_right (va_wsS RX10 203 yJ13_bitCount_95d88 wsJ13_bitCount_95d88) := goodIn_app (goodIn_of _ (by decide +kernel)) ggX10_right_J13_bitCount_95d88
set_option maxRecDepth 20000 in
theorem ggX10_right_X10_answer : GoodIn wsX10_right wsX10_answer := goodIn_r _ [67, 11, 68, 69, 70, 71, 72, 73, 74, 75, 76, 77, 78, 79, 80, 81, 82, 83, 84, 85, 86] (by decide +kernel) (by decide +kernel)
set_option maxRecDepth 20000 in
theorem gX10_right_X10_answer : GoodIn wsX10_right (wsV RX10 181 RX10 yX10_answer wsX10_answer) := goodIn_app (goodIn_of _ (by decide +kernel)) ggX10_right_X10_answer
theorem dX10_right_0 : decode cX10_right 0 = .ok (.aload_n 0, 1) := by decide +kernel
theorem dX10_right_1 : decode cX10_right 1 = .ok (.iload_n 1, 1) := by decide +kernel
theorem dX10_right_2 : decode cX10_right 2 = .ok (.invokevirtual 215, 3) := by decide +kernel
theorem dX10_right_5 : decode cX10_right 5 = .ok (.ifCond .eq 9, 3) := by decide +kernel
theorem dX10_right_8 : decode cX10_right 8 = .ok (.aload_n 0, 1) := by decide +kernel
theorem dX10_right_9 : decode cX10_right 9 = .ok (.iconst 1, 1) := by decide +kernel
theorem dX10_right_10 : decode cX10_right 10 = .ok (.invokevirtual 139, 3) := by decide +kernel
theorem dX10_right_13 : decode cX10_right 13 = .ok (.ireturn, 1) := by decide +kernel
theorem dX10_right_14 : decode cX10_right 14 = .ok (.aload_n 0, 1) := by decide +kernel
theorem dX10_right_15 : decode cX10_right 15 = .ok (.aload_n 0, 1) := by decide +kernel
theorem dX10_right_16 : decode cX10_right 16 = .ok (.getfield 10, 3) := by decide +kernel
theorem dX10_right_19 : decode cX10_right 19 = .ok (.iload_n 1, 1) := by decide +kernel
theorem dX10_right_20 : decode cX10_right 20 = .ok (.invokevirtual 305, 3) := by decide +kernel
theorem dX10_right_23 : decode cX10_right 23 = .ok (.invokestatic 203, 3) := by decide +kernel
theorem dX10_right_26 : decode cX10_right 26 = .ok (.invokevirtual 181, 3) := by decide +kernel
theorem dX10_right_29 : decode cX10_right 29 = .ok (.ireturn, 1) := by decide +kernel
abbrev rmX10_right : Room := { frames := 4, cells := 0, slots := 0, locals := 83 }
set_option maxHeartbeats 4000000 in
set_option maxRecDepth 100000 in
theorem kX10_right (l : Launch) (D : va_G) (cy : Nat → ClassId) (h0 : Nat) (a0 : Nat → Nat) (a1 : Nat → Nat) (s0 : Rc) (s1 : Rc) (p1 : Int32) (res : Int32 × Rc) (h : fX10_right p1 s0 s1 = some res) : CI l D cy yX10_right wsX10_right rmX10_right [.ref h0, .int p1] (flat [WX10 cy h0 a0 s0, WX0 cy (a0 0) a1 s1]) (flat [WX10 cy h0 a0 res.2, WX0 cy (a0 0) a1 s1]) res.1 := by
  refine CI.of (cc := cX10_right) (maxL := 2) (by decide) rfl (Nat.le_of_ble_eq_true rfl) ?_
  intro p e s m args below meth c A QQ ls E hr
  obtain ⟨hx, hb, hml, hown, hts, hK, hN, hP, hD, hA, hl⟩ := E
  have hret : ∀ (pc : Nat) (H : Heap) (locs : List Loc) (ls : Array Slot) (u : Int32 × Rc), u = res → va_P D vwCl (flat [WX10 cy h0 a0 u.2, WX0 cy (a0 0) a1 s1]) H → va_D A (flat [WX10 cy h0 a0 u.2, WX0 cy (a0 0) a1 s1]) → va_S A s.heap H locs → decode cX10_right pc = .ok (.ireturn, 1) → W p l e rmX10_right s m args below meth c H locs 0 0 QQ (F0 m pc ls [.int u.1]) := by
    intro pc H locs ls u hu hP hD hS hd; subst hu; exact hr pc H locs ls _ rfl hP hD hS hd
  clear hr
  have hl : lv_has ls 2 [(0, .ref h0), (1, .int p1)] := hl
  have hinX10 : ∀ w ∈ wsX100, w ∈ wsX10_right := fun _ h => List.mem_cons_of_mem _ (List.mem_append_left _ (List.mem_append_right _ h))
  unfold fX10_right at h
  suffices key : ∀ (H : Heap) (locs : List Loc), va_P D vwCl (flat [WX10 cy h0 a0 s0, WX0 cy (a0 0) a1 s1]) H → va_S A s.heap H locs → W p l e rmX10_right s m args below meth c H locs 0 0 QQ (F0 m 0 ls []) from key _ _ hP va_S.rf
  clear hP
  intro H locs hP hS
  refine lv_aload_n hx hb dX10_right_0 rfl (lv_at hl 0 rfl) ?_
  refine lv_iload_n hx hb dX10_right_1 rfl (lv_at hl 1 rfl) ?_
  refine ca_z (w' := [WX10 cy h0 a0 s0, WX0 cy (a0 0) a1 s1]) (rn_V (As := [.int p1]) (rest := []) ⟨hx, hb, hml, hown, hts⟩ (kX10_noFarmer l D cy h0 a0 a1 s0 s1 p1 _ rfl H.size) (cwV 1 hts gX10_right_X10_noFarmer rfl rfl rfl (by decide +kernel) ⟨Nat.le_of_ble_eq_true rfl, Nat.le_of_ble_eq_true rfl⟩) hK hN hP hD [0, 1] rfl rfl (ci := 10) (q0 := 0) rfl rfl rfl rfl hl.1 rfl (Nat.le_of_ble_eq_true rfl) dX10_right_2 ⟨Nat.le_refl 0, Nat.le_refl 0⟩) hP hD hS hA [0, 1] ⟨rfl, rfl, rfl, rfl⟩ (fun b1 H locs hP hD hS => ?_)
  refine lv_if_eq (tgt := 14) hx hb dX10_right_5 (by decide) (fun c2 => ?_) (fun c2 => ?_)
  · replace h := (if_pos c2).symm.trans h
    refine lv_aload_n hx hb dX10_right_14 rfl (lv_at hl 0 rfl) ?_
    refine lv_aload_n hx hb dX10_right_15 rfl (lv_at hl 0 rfl) ?_
    refine va_get (D := D) (ci := 10) (v := .ref (a0 0)) (C := RX10) (T := TX10) (N := 19) hx hb hts hinX10 hown hK hP 0 rfl rfl 0 (by decide) (hts (.fieldLink RX10 10 "KneeBench" "bench" "LKneeBench$Bench;") (List.mem_of_getElem? (i := 1) rfl)) (fun _ h9 => h9) rfl dX10_right_16 ?_
    refine lv_iload_n hx hb dX10_right_19 rfl (lv_at hl 1 rfl) ?_
    obtain ⟨r3, hr3, h⟩ := bd_elim h
    refine ca_l (w' := [WX10 cy h0 a0 s0, WX0 cy (a0 0) a1 s1]) (rn_V (As := [.int p1]) (rest := [.ref h0]) ⟨hx, hb, hml, hown, hts⟩ (kX0_rightDays l D cy (a0 0) a1 s1 p1 r3 hr3 H.size) (cwV 1 hts gX10_right_X0_rightDays rfl rfl rfl (by decide +kernel) ⟨Nat.le_of_ble_eq_true rfl, Nat.le_of_ble_eq_true rfl⟩) hK hN hP hD [1] rfl rfl (ci := 0) (q0 := 1) rfl rfl rfl rfl hl.1 rfl (Nat.le_of_ble_eq_true rfl) dX10_right_20 ⟨Nat.le_refl 0, Nat.le_refl 0⟩) hP hD hS hA [1] ⟨rfl, rfl, rfl, rfl⟩ (fun H locs hP hD hS => ?_)
    refine ca_i (w' := [WX10 cy h0 a0 s0, WX0 cy (a0 0) a1 s1]) (rn_S (As := [.long r3]) (rest := [.ref h0]) ⟨hx, hb, hml, hown, hts⟩ (kJ13_bitCount_95d88 l D cy r3 _ rfl H.size) (va_cwS 1 hts gX10_right_J13_bitCount_95d88 rfl rfl rfl (by decide +kernel) ⟨Nat.le_of_ble_eq_true rfl, Nat.le_of_ble_eq_true rfl⟩) hK hN hP hD [] rfl rfl rfl hl.1 rfl (Nat.le_of_ble_eq_true rfl) dX10_right_23 ⟨Nat.le_refl 0, Nat.le_refl 0⟩) hP hD hS hA [] ⟨rfl, rfl, rfl, rfl⟩ (fun H locs hP hD hS => ?_)
    obtain ⟨r4, hr4, h⟩ := lt_elim h
    refine ca_i (w' := [WX10 cy h0 a0 r4.2, WX0 cy (a0 0) a1 s1]) (rn_V (As := [.int (fJ13_bitCount_95d88 r3)]) (rest := []) ⟨hx, hb, hml, hown, hts⟩ (kX10_answer l D cy h0 a0 s0 (fJ13_bitCount_95d88 r3) r4 hr4.symm H.size) (cwV 1 hts gX10_right_X10_answer rfl rfl rfl (by decide +kernel) ⟨Nat.le_of_ble_eq_true rfl, Nat.le_of_ble_eq_true rfl⟩) hK hN hP hD [0] rfl rfl (ci := 10) (q0 := 0) rfl rfl rfl rfl hl.1 rfl (Nat.le_of_ble_eq_true rfl) dX10_right_26 ⟨Nat.le_refl 0, Nat.le_refl 0⟩) hP hD hS hA [0] ⟨rfl, rfl, rfl, rfl⟩ (fun H locs hP hD hS => ?_)
    exact hret 29 H locs ls (r4.1, r4.2) (Option.some.inj h) hP hD hS dX10_right_29
  · replace h := (if_neg c2).symm.trans h
    refine lv_aload_n hx hb dX10_right_8 rfl (lv_at hl 0 rfl) ?_
    refine lv_iconst (v := 1) hx hb dX10_right_9 (by decide) ?_
    obtain ⟨r5, hr5, h⟩ := lt_elim h
    refine ca_i (w' := [WX10 cy h0 a0 r5.2, WX0 cy (a0 0) a1 s1]) (rn_V (As := [.int (1 : Int32)]) (rest := []) ⟨hx, hb, hml, hown, hts⟩ (kX10_refuse l D cy h0 a0 s0 (1 : Int32) r5 hr5.symm H.size) (cwV 1 hts gX10_right_X10_refuse rfl rfl rfl (by decide +kernel) ⟨Nat.le_of_ble_eq_true rfl, Nat.le_of_ble_eq_true rfl⟩) hK hN hP hD [0] rfl rfl (ci := 10) (q0 := 0) rfl rfl rfl rfl hl.1 rfl (Nat.le_of_ble_eq_true rfl) dX10_right_10 ⟨Nat.le_refl 0, Nat.le_refl 0⟩) hP hD hS hA [0] ⟨rfl, rfl, rfl, rfl⟩ (fun H locs hP hD hS => ?_)
    exact hret 13 H locs ls (r5.1, r5.2) (Option.some.inj h) hP hD hS dX10_right_13
set_option maxRecDepth 20000 in
theorem ggX10_rival_X10_noFarmer : GoodIn wsX10_rival wsX10_noFarmer := goodIn_r _ [6, 1, 33, 34, 35, 36, 37, 38, 39, 40, 41, 42, 43, 44, 45, 46, 47, 48, 49, 50, 51, 52, 53, 54, 55, 56, 57, 58, 59, 60, 61, 62, 63, 64, 65] (by decide +kernel) (by decide +kernel)
set_option maxRecDepth 20000 in
theorem gX10_rival_X10_noFarmer : GoodIn wsX10_rival (wsV RX10 215 RX10 yX10_noFarmer wsX10_noFarmer) := goodIn_app (goodIn_of _ (by decide +kernel)) ggX10_rival_X10_noFarmer
set_option maxRecDepth 20000 in
theorem ggX10_rival_X10_refuse : GoodIn wsX10_rival wsX10_refuse := goodIn_r _ [10, 11, 33, 34, 35, 36, 37, 38, 39, 40, 41, 42, 43, 44, 45, 46, 47, 48, 49, 50, 51] (by decide +kernel) (by decide +kernel)
set_option maxRecDepth 20000 in
theorem gX10_rival_X10_refuse : GoodIn wsX10_rival (wsV RX10 139 RX10 yX10_refuse wsX10_refuse) := goodIn_app (goodIn_of _ (by decide +kernel)) ggX10_rival_X10_refuse
set_option maxRecDepth 20000 in
theorem ggX10_rival_X0_twingesShared : GoodIn wsX10_rival wsX0_twingesShared := goodIn_r _ [16, 17, 18, 19, 20, 21, 22, 23, 24, 52, 53, 54, 55, 56, 57, 58, 59, 60, 61, 62, 63, 64, 65] (by decide +kernel) (by decide +kernel)
set_option maxRecDepth 20000 in
theorem gX10_rival_X0_twingesShared : GoodIn wsX10_rival (wsV RX10 372 RX0 yX0_twingesShared wsX0_twingesShared) := goodIn_app (goodIn_of _ (by decide +kernel)) ggX10_rival_X0_twingesShared
set_option maxRecDepth 20000 in
theorem ggX10_rival_X10_answerIfAny : GoodIn wsX10_rival wsX10_answerIfAny := goodIn_r _ [28, 7, 8, 9, 5, 10, 11, 29, 30, 31, 32, 33, 34, 35, 36, 37, 38, 39, 40, 41, 42, 43, 44, 45, 46, 47, 48, 49, 50, 51] (by decide +kernel) (by decide +kernel)
set_option maxRecDepth 20000 in
theorem gX10_rival_X10_answerIfAny : GoodIn wsX10_rival (wsV RX10 296 RX10 yX10_answerIfAny wsX10_answerIfAny) := goodIn_app (goodIn_of _ (by decide +kernel)) ggX10_rival_X10_answerIfAny
theorem dX10_rival_0 : decode cX10_rival 0 = .ok (.aload_n 0, 1) := by decide +kernel
theorem dX10_rival_1 : decode cX10_rival 1 = .ok (.iload_n 1, 1) := by decide +kernel
theorem dX10_rival_2 : decode cX10_rival 2 = .ok (.invokevirtual 215, 3) := by decide +kernel
theorem dX10_rival_5 : decode cX10_rival 5 = .ok (.ifCond .eq 9, 3) := by decide +kernel
theorem dX10_rival_8 : decode cX10_rival 8 = .ok (.aload_n 0, 1) := by decide +kernel
theorem dX10_rival_9 : decode cX10_rival 9 = .ok (.iconst 1, 1) := by decide +kernel
theorem dX10_rival_10 : decode cX10_rival 10 = .ok (.invokevirtual 139, 3) := by decide +kernel
theorem dX10_rival_13 : decode cX10_rival 13 = .ok (.ireturn, 1) := by decide +kernel
theorem dX10_rival_14 : decode cX10_rival 14 = .ok (.iconst (-1), 1) := by decide +kernel
theorem dX10_rival_15 : decode cX10_rival 15 = .ok (.istore_n 2, 1) := by decide +kernel
theorem dX10_rival_16 : decode cX10_rival 16 = .ok (.iconst 0, 1) := by decide +kernel
theorem dX10_rival_17 : decode cX10_rival 17 = .ok (.istore_n 3, 1) := by decide +kernel
theorem dX10_rival_18 : decode cX10_rival 18 = .ok (.iload_n 3, 1) := by decide +kernel
theorem dX10_rival_19 : decode cX10_rival 19 = .ok (.aload_n 0, 1) := by decide +kernel
theorem dX10_rival_20 : decode cX10_rival 20 = .ok (.getfield 10, 3) := by decide +kernel
theorem dX10_rival_23 : decode cX10_rival 23 = .ok (.getfield 178, 3) := by decide +kernel
theorem dX10_rival_26 : decode cX10_rival 26 = .ok (.if_icmp .ge 42, 3) := by decide +kernel
theorem dX10_rival_29 : decode cX10_rival 29 = .ok (.iload_n 3, 1) := by decide +kernel
theorem dX10_rival_30 : decode cX10_rival 30 = .ok (.iload_n 1, 1) := by decide +kernel
theorem dX10_rival_31 : decode cX10_rival 31 = .ok (.if_icmp .eq 31, 3) := by decide +kernel
theorem dX10_rival_34 : decode cX10_rival 34 = .ok (.iload_n 2, 1) := by decide +kernel
theorem dX10_rival_35 : decode cX10_rival 35 = .ok (.iconst (-1), 1) := by decide +kernel
theorem dX10_rival_36 : decode cX10_rival 36 = .ok (.if_icmp .eq 24, 3) := by decide +kernel
theorem dX10_rival_39 : decode cX10_rival 39 = .ok (.aload_n 0, 1) := by decide +kernel
theorem dX10_rival_40 : decode cX10_rival 40 = .ok (.getfield 10, 3) := by decide +kernel
theorem dX10_rival_43 : decode cX10_rival 43 = .ok (.iload_n 1, 1) := by decide +kernel
theorem dX10_rival_44 : decode cX10_rival 44 = .ok (.iload_n 3, 1) := by decide +kernel
theorem dX10_rival_45 : decode cX10_rival 45 = .ok (.invokevirtual 372, 3) := by decide +kernel
theorem dX10_rival_48 : decode cX10_rival 48 = .ok (.aload_n 0, 1) := by decide +kernel
theorem dX10_rival_49 : decode cX10_rival 49 = .ok (.getfield 10, 3) := by decide +kernel
theorem dX10_rival_52 : decode cX10_rival 52 = .ok (.iload_n 1, 1) := by decide +kernel
theorem dX10_rival_53 : decode cX10_rival 53 = .ok (.iload_n 2, 1) := by decide +kernel
theorem dX10_rival_54 : decode cX10_rival 54 = .ok (.invokevirtual 372, 3) := by decide +kernel
theorem dX10_rival_57 : decode cX10_rival 57 = .ok (.if_icmp .le 5, 3) := by decide +kernel
theorem dX10_rival_60 : decode cX10_rival 60 = .ok (.iload_n 3, 1) := by decide +kernel
theorem dX10_rival_61 : decode cX10_rival 61 = .ok (.istore_n 2, 1) := by decide +kernel
theorem dX10_rival_62 : decode cX10_rival 62 = .ok (.iinc 3 1, 3) := by decide +kernel
theorem dX10_rival_65 : decode cX10_rival 65 = .ok (.goto (-47), 3) := by decide +kernel
theorem dX10_rival_68 : decode cX10_rival 68 = .ok (.aload_n 0, 1) := by decide +kernel
theorem dX10_rival_69 : decode cX10_rival 69 = .ok (.iload_n 2, 1) := by decide +kernel
theorem dX10_rival_70 : decode cX10_rival 70 = .ok (.invokevirtual 296, 3) := by decide +kernel
theorem dX10_rival_73 : decode cX10_rival 73 = .ok (.ireturn, 1) := by decide +kernel
abbrev rmX10_rival : Room := { frames := 2, cells := 0, slots := 0, locals := 43 }
set_option maxHeartbeats 4000000 in
set_option maxRecDepth 100000 in
theorem kX10_rival (l : Launch) (D : va_G) (cy : Nat → ClassId) (h0 : Nat) (a0 : Nat → Nat) (a1 : Nat → Nat) (s0 : Rc) (s1 : Rc) (p1 : Int32) (res : Int32 × Rc) (h : fX10_rival p1 s0 s1 = some res) : CI l D cy yX10_rival wsX10_rival rmX10_rival [.ref h0, .int p1] (flat [WX10 cy h0 a0 s0, WX0 cy (a0 0) a1 s1]) (flat [WX10 cy h0 a0 res.2, WX0 cy (a0 0) a1 s1]) res.1 := by
  refine CI.of (cc := cX10_rival) (maxL := 4) (by decide) rfl (Nat.le_of_ble_eq_true rfl) ?_
  intro p e s m args below meth c A QQ ls E hr
  obtain ⟨hx, hb, hml, hown, hts, hK, hN, hP, hD, hA, hl⟩ := E
  have hret : ∀ (pc : Nat) (H : Heap) (locs : List Loc) (ls : Array Slot) (u : Int32 × Rc), u = res → va_P D vwCl (flat [WX10 cy h0 a0 u.2, WX0 cy (a0 0) a1 s1]) H → va_D A (flat [WX10 cy h0 a0 u.2, WX0 cy (a0 0) a1 s1]) → va_S A s.heap H locs → decode cX10_rival pc = .ok (.ireturn, 1) → W p l e rmX10_rival s m args below meth c H locs 0 0 QQ (F0 m pc ls [.int u.1]) := by
    intro pc H locs ls u hu hP hD hS hd; subst hu; exact hr pc H locs ls _ rfl hP hD hS hd
  clear hr
  have hl : lv_has ls 4 [(0, .ref h0), (1, .int p1)] := hl
  have hinX0 : ∀ w ∈ wsX00, w ∈ wsX10_rival := fun _ h => List.mem_cons_of_mem _ (List.mem_append_right _ h)
  have hinX10 : ∀ w ∈ wsX100, w ∈ wsX10_rival := fun _ h => List.mem_cons_of_mem _ (List.mem_append_left _ (List.mem_append_right _ h))
  unfold fX10_rival at h
  suffices key : ∀ (H : Heap) (locs : List Loc), va_P D vwCl (flat [WX10 cy h0 a0 s0, WX0 cy (a0 0) a1 s1]) H → va_S A s.heap H locs → W p l e rmX10_rival s m args below meth c H locs 0 0 QQ (F0 m 0 ls []) from key _ _ hP va_S.rf
  clear hP
  intro H locs hP hS
  refine lv_aload_n hx hb dX10_rival_0 rfl (lv_at hl 0 rfl) ?_
  refine lv_iload_n hx hb dX10_rival_1 rfl (lv_at hl 1 rfl) ?_
  refine ca_z (w' := [WX10 cy h0 a0 s0, WX0 cy (a0 0) a1 s1]) (rn_V (As := [.int p1]) (rest := []) ⟨hx, hb, hml, hown, hts⟩ (kX10_noFarmer l D cy h0 a0 a1 s0 s1 p1 _ rfl H.size) (cwV 1 hts gX10_rival_X10_noFarmer rfl rfl rfl (by decide +kernel) ⟨Nat.le_of_ble_eq_true rfl, Nat.le_of_ble_eq_true rfl⟩) hK hN hP hD [0, 1] rfl rfl (ci := 10) (q0 := 0) rfl rfl rfl rfl hl.1 rfl (Nat.le_of_ble_eq_true rfl) dX10_rival_2 ⟨Nat.le_refl 0, Nat.le_refl 0⟩) hP hD hS hA [0, 1] ⟨rfl, rfl, rfl, rfl⟩ (fun b1 H locs hP hD hS => ?_)
  refine lv_if_eq (tgt := 14) hx hb dX10_rival_5 (by decide) (fun c2 => ?_) (fun c2 => ?_)
  · replace h := (if_pos c2).symm.trans h
    refine lv_iconst (v := -1) hx hb dX10_rival_14 (by decide) ?_
    refine lv_istore_n (lv' := [(2, .int (-1 : Int32)), (0, .ref h0), (1, .int p1)]) hx hb dX10_rival_15 rfl hl (by decide) rfl (fun ls hl => ?_)
    refine lv_iconst (v := 0) hx hb dX10_rival_16 (by decide) ?_
    refine lv_istore_n (lv' := [(3, .int (0 : Int32)), (2, .int (-1 : Int32)), (0, .ref h0), (1, .int p1)]) hx hb dX10_rival_17 rfl hl (by decide) rfl (fun ls hl => ?_)
    have L18 : ∀ (n : Nat) (q18 : Int32 × Int32) (o : Int32), loopO (fX10_rival_L18 p1 s1) n q18 = some o → ∀ (H : Heap) (locs : List Loc) (ls : Array Slot), lv_has ls 4 [(0, .ref h0), (1, .int p1), (2, .int q18.1), (3, .int q18.2)] → va_P D vwCl (flat [WX10 cy h0 a0 s0, WX0 cy (a0 0) a1 s1]) H → va_D A (flat [WX10 cy h0 a0 s0, WX0 cy (a0 0) a1 s1]) → va_S A s.heap H locs → ∀ (kk68 : ∀ (H : Heap) (locs : List Loc) (ls : Array Slot), lv_has ls 4 [(0, .ref h0), (2, .int o)] → va_P D vwCl (flat [WX10 cy h0 a0 s0, WX0 cy (a0 0) a1 s1]) H → va_D A (flat [WX10 cy h0 a0 s0, WX0 cy (a0 0) a1 s1]) → va_S A s.heap H locs → W p l e rmX10_rival s m args below meth c H locs 0 0 QQ (F0 m 68 ls [])), W p l e rmX10_rival s m args below meth c H locs 0 0 QQ (F0 m 18 ls []) := by
      intro n
      induction n with
      | zero => intro q18 o h; exact absurd h (by rw [loopO_zero]; intro z; cases z)
      | succ n ih =>
        intro q18 o h H locs ls hl hP hD hS kk68
        obtain ⟨w, h, hgo, hst⟩ := loopO_elim h
        unfold fX10_rival_L18 at h
        refine lv_iload_n hx hb dX10_rival_18 rfl (lv_at hl 3 rfl) ?_
        refine lv_aload_n hx hb dX10_rival_19 rfl (lv_at hl 0 rfl) ?_
        refine va_get (D := D) (ci := 10) (v := .ref (a0 0)) (C := RX10) (T := TX10) (N := 19) hx hb hts hinX10 hown hK hP 0 rfl rfl 0 (by decide) (hts (.fieldLink RX10 10 "KneeBench" "bench" "LKneeBench$Bench;") (List.mem_of_getElem? (i := 1) rfl)) (fun _ h9 => h9) rfl dX10_rival_20 ?_
        refine va_getN (D := D) (ci := 0) (v := .int (gi s1 8)) (C := RX0) (T := TX0) (N := 14) hx hb hts hinX0 hown hK hP 1 rfl rfl 8 (by decide) (NW.fld hN 16 rfl _) (fun _ h9 => h9) rfl dX10_rival_23 ?_
        refine lv_icmp_ge (tgt := 68) hx hb dX10_rival_26 (by decide) (fun c3 => ?_) (fun c3 => ?_)
        · replace h := (if_pos c3).symm.trans h
          have eo := hst _ (Option.some.inj h).symm
          subst eo
          exact kk68 H locs ls (lv_sub hl [0, 2] rfl) hP hD hS
        · replace h := (if_neg c3).symm.trans h
          refine lv_iload_n hx hb dX10_rival_29 rfl (lv_at hl 3 rfl) ?_
          refine lv_iload_n hx hb dX10_rival_30 rfl (lv_at hl 1 rfl) ?_
          refine lv_icmp_eq (tgt := 62) hx hb dX10_rival_31 (by decide) (fun c4 => ?_) (fun c4 => ?_)
          · replace h := (if_pos c4).symm.trans h
            refine lv_iinc (v := (q18.2 + (1 : Int32))) (lv' := [(3, .int (q18.2 + (1 : Int32))), (0, .ref h0), (1, .int p1), (2, .int q18.1)]) hx hb dX10_rival_62 hl (k := 3) rfl rfl (by decide) rfl (fun ls hl => ?_)
            refine lv_goto (tgt := 18) hx hb dX10_rival_65 (by decide) ?_
            exact ih _ o (hgo _ (Option.some.inj h).symm) H locs ls (lv_sub hl [1, 2, 3, 0] rfl) hP hD hS kk68
          · replace h := (if_neg c4).symm.trans h
            refine lv_iload_n hx hb dX10_rival_34 rfl (lv_at hl 2 rfl) ?_
            refine lv_iconst (v := -1) hx hb dX10_rival_35 (by decide) ?_
            refine lv_icmp_eq (tgt := 60) hx hb dX10_rival_36 (by decide) (fun c5 => ?_) (fun c5 => ?_)
            · replace h := (if_pos c5).symm.trans h
              refine lv_iload_n hx hb dX10_rival_60 rfl (lv_at hl 3 rfl) ?_
              refine lv_istore_n (lv' := [(2, .int q18.2), (0, .ref h0), (1, .int p1), (3, .int q18.2)]) hx hb dX10_rival_61 rfl hl (by decide) rfl (fun ls hl => ?_)
              refine lv_iinc (v := (q18.2 + (1 : Int32))) (lv' := [(3, .int (q18.2 + (1 : Int32))), (2, .int q18.2), (0, .ref h0), (1, .int p1)]) hx hb dX10_rival_62 hl (k := 3) rfl rfl (by decide) rfl (fun ls hl => ?_)
              refine lv_goto (tgt := 18) hx hb dX10_rival_65 (by decide) ?_
              exact ih _ o (hgo _ (Option.some.inj h).symm) H locs ls (lv_sub hl [2, 3, 1, 0] rfl) hP hD hS kk68
            · replace h := (if_neg c5).symm.trans h
              refine lv_aload_n hx hb dX10_rival_39 rfl (lv_at hl 0 rfl) ?_
              refine va_get (D := D) (ci := 10) (v := .ref (a0 0)) (C := RX10) (T := TX10) (N := 19) hx hb hts hinX10 hown hK hP 0 rfl rfl 0 (by decide) (hts (.fieldLink RX10 10 "KneeBench" "bench" "LKneeBench$Bench;") (List.mem_of_getElem? (i := 1) rfl)) (fun _ h9 => h9) rfl dX10_rival_40 ?_
              refine lv_iload_n hx hb dX10_rival_43 rfl (lv_at hl 1 rfl) ?_
              refine lv_iload_n hx hb dX10_rival_44 rfl (lv_at hl 3 rfl) ?_
              obtain ⟨r6, hr6, h⟩ := bd_elim h
              refine ca_i (w' := [WX10 cy h0 a0 s0, WX0 cy (a0 0) a1 s1]) (rn_V (As := [.int p1, .int q18.2]) (rest := []) ⟨hx, hb, hml, hown, hts⟩ (kX0_twingesShared l D cy (a0 0) a1 s1 p1 q18.2 r6 hr6 H.size) (cwV 2 hts gX10_rival_X0_twingesShared rfl rfl rfl (by decide +kernel) ⟨Nat.le_of_ble_eq_true rfl, Nat.le_of_ble_eq_true rfl⟩) hK hN hP hD [1] rfl rfl (ci := 0) (q0 := 1) rfl rfl rfl rfl hl.1 rfl (Nat.le_of_ble_eq_true rfl) dX10_rival_45 ⟨Nat.le_refl 0, Nat.le_refl 0⟩) hP hD hS hA [1] ⟨rfl, rfl, rfl, rfl⟩ (fun H locs hP hD hS => ?_)
              refine lv_aload_n hx hb dX10_rival_48 rfl (lv_at hl 0 rfl) ?_
              refine va_get (D := D) (ci := 10) (v := .ref (a0 0)) (C := RX10) (T := TX10) (N := 19) hx hb hts hinX10 hown hK hP 0 rfl rfl 0 (by decide) (hts (.fieldLink RX10 10 "KneeBench" "bench" "LKneeBench$Bench;") (List.mem_of_getElem? (i := 1) rfl)) (fun _ h9 => h9) rfl dX10_rival_49 ?_
              refine lv_iload_n hx hb dX10_rival_52 rfl (lv_at hl 1 rfl) ?_
              refine lv_iload_n hx hb dX10_rival_53 rfl (lv_at hl 2 rfl) ?_
              obtain ⟨r7, hr7, h⟩ := bd_elim h
              refine ca_i (w' := [WX10 cy h0 a0 s0, WX0 cy (a0 0) a1 s1]) (rn_V (As := [.int p1, .int q18.1]) (rest := [.int r6]) ⟨hx, hb, hml, hown, hts⟩ (kX0_twingesShared l D cy (a0 0) a1 s1 p1 q18.1 r7 hr7 H.size) (cwV 2 hts gX10_rival_X0_twingesShared rfl rfl rfl (by decide +kernel) ⟨Nat.le_of_ble_eq_true rfl, Nat.le_of_ble_eq_true rfl⟩) hK hN hP hD [1] rfl rfl (ci := 0) (q0 := 1) rfl rfl rfl rfl hl.1 rfl (Nat.le_of_ble_eq_true rfl) dX10_rival_54 ⟨Nat.le_refl 0, Nat.le_refl 0⟩) hP hD hS hA [1] ⟨rfl, rfl, rfl, rfl⟩ (fun H locs hP hD hS => ?_)
              refine lv_icmp_le (tgt := 62) hx hb dX10_rival_57 (by decide) (fun c8 => ?_) (fun c8 => ?_)
              · replace h := (if_pos c8).symm.trans h
                refine lv_iinc (v := (q18.2 + (1 : Int32))) (lv' := [(3, .int (q18.2 + (1 : Int32))), (0, .ref h0), (1, .int p1), (2, .int q18.1)]) hx hb dX10_rival_62 hl (k := 3) rfl rfl (by decide) rfl (fun ls hl => ?_)
                refine lv_goto (tgt := 18) hx hb dX10_rival_65 (by decide) ?_
                exact ih _ o (hgo _ (Option.some.inj h).symm) H locs ls (lv_sub hl [1, 2, 3, 0] rfl) hP hD hS kk68
              · replace h := (if_neg c8).symm.trans h
                refine lv_iload_n hx hb dX10_rival_60 rfl (lv_at hl 3 rfl) ?_
                refine lv_istore_n (lv' := [(2, .int q18.2), (0, .ref h0), (1, .int p1), (3, .int q18.2)]) hx hb dX10_rival_61 rfl hl (by decide) rfl (fun ls hl => ?_)
                refine lv_iinc (v := (q18.2 + (1 : Int32))) (lv' := [(3, .int (q18.2 + (1 : Int32))), (2, .int q18.2), (0, .ref h0), (1, .int p1)]) hx hb dX10_rival_62 hl (k := 3) rfl rfl (by decide) rfl (fun ls hl => ?_)
                refine lv_goto (tgt := 18) hx hb dX10_rival_65 (by decide) ?_
                exact ih _ o (hgo _ (Option.some.inj h).symm) H locs ls (lv_sub hl [2, 3, 1, 0] rfl) hP hD hS kk68
    obtain ⟨o18, ho18, h⟩ := bd_elim h
    obtain ⟨n18, hn18⟩ := loopF_some ho18
    refine L18 n18 _ o18 hn18 H locs ls (lv_sub hl [2, 3, 1, 0] rfl) hP hD hS (fun H locs ls hl hP hD hS => ?_)
    refine lv_aload_n hx hb dX10_rival_68 rfl (lv_at hl 0 rfl) ?_
    refine lv_iload_n hx hb dX10_rival_69 rfl (lv_at hl 1 rfl) ?_
    obtain ⟨r9, hr9, h⟩ := lt_elim h
    refine ca_i (w' := [WX10 cy h0 a0 r9.2, WX0 cy (a0 0) a1 s1]) (rn_V (As := [.int o18]) (rest := []) ⟨hx, hb, hml, hown, hts⟩ (kX10_answerIfAny l D cy h0 a0 s0 o18 r9 hr9.symm H.size) (cwV 1 hts gX10_rival_X10_answerIfAny rfl rfl rfl (by decide +kernel) ⟨Nat.le_of_ble_eq_true rfl, Nat.le_of_ble_eq_true rfl⟩) hK hN hP hD [0] rfl rfl (ci := 10) (q0 := 0) rfl rfl rfl rfl hl.1 rfl (Nat.le_of_ble_eq_true rfl) dX10_rival_70 ⟨Nat.le_refl 0, Nat.le_refl 0⟩) hP hD hS hA [0] ⟨rfl, rfl, rfl, rfl⟩ (fun H locs hP hD hS => ?_)
    exact hret 73 H locs ls (r9.1, r9.2) (Option.some.inj h) hP hD hS dX10_rival_73
  · replace h := (if_neg c2).symm.trans h
    refine lv_aload_n hx hb dX10_rival_8 rfl (lv_at hl 0 rfl) ?_
    refine lv_iconst (v := 1) hx hb dX10_rival_9 (by decide) ?_
    obtain ⟨r10, hr10, h⟩ := lt_elim h
    refine ca_i (w' := [WX10 cy h0 a0 r10.2, WX0 cy (a0 0) a1 s1]) (rn_V (As := [.int (1 : Int32)]) (rest := []) ⟨hx, hb, hml, hown, hts⟩ (kX10_refuse l D cy h0 a0 s0 (1 : Int32) r10 hr10.symm H.size) (cwV 1 hts gX10_rival_X10_refuse rfl rfl rfl (by decide +kernel) ⟨Nat.le_of_ble_eq_true rfl, Nat.le_of_ble_eq_true rfl⟩) hK hN hP hD [0] rfl rfl (ci := 10) (q0 := 0) rfl rfl rfl rfl hl.1 rfl (Nat.le_of_ble_eq_true rfl) dX10_rival_10 ⟨Nat.le_refl 0, Nat.le_refl 0⟩) hP hD hS hA [0] ⟨rfl, rfl, rfl, rfl⟩ (fun H locs hP hD hS => ?_)
    exact hret 13 H locs ls (r10.1, r10.2) (Option.some.inj h) hP hD hS dX10_rival_13
set_option maxRecDepth 20000 in
theorem ggX10_says_X10_noToldDay : GoodIn wsX10_says wsX10_noToldDay := goodIn_r _ [5, 6, 7, 4, 8] (by decide +kernel) (by decide +kernel)
set_option maxRecDepth 20000 in
theorem gX10_says_X10_noToldDay : GoodIn wsX10_says (va_wsS RX10 281 yX10_noToldDay wsX10_noToldDay) := goodIn_app (goodIn_of _ (by decide +kernel)) ggX10_says_X10_noToldDay
set_option maxRecDepth 20000 in
theorem ggX10_says_X10_refuse : GoodIn wsX10_says wsX10_refuse := goodIn_r _ [12, 13, 71, 72, 73, 74, 75, 76, 77, 78, 79, 80, 81, 82, 83, 84, 85, 86, 87, 88, 89] (by decide +kernel) (by decide +kernel)
set_option maxRecDepth 20000 in
theorem gX10_says_X10_refuse : GoodIn wsX10_says (wsV RX10 139 RX10 yX10_refuse wsX10_refuse) := goodIn_app (goodIn_of _ (by decide +kernel)) ggX10_says_X10_refuse
set_option maxRecDepth 20000 in
theorem ggX10_says_X0_verdictOf : GoodIn wsX10_says wsX0_verdictOf := goodIn_r _ [18, 19, 20, 21, 22, 17, 23, 24, 25, 26, 27, 28, 29, 30, 31, 32, 33, 34, 35, 36, 37, 38, 39, 40, 41, 42, 43, 44, 45, 46, 47, 48, 49, 50, 51, 52, 53, 54, 55, 56, 4, 57, 58, 59, 60, 61, 62, 90, 91, 92, 93, 94, 95, 96, 97, 98, 99, 100, 101, 102, 103] (by decide +kernel) (by decide +kernel)
set_option maxRecDepth 20000 in
theorem gX10_says_X0_verdictOf : GoodIn wsX10_says (wsV RX10 293 RX0 yX0_verdictOf wsX0_verdictOf) := goodIn_app (goodIn_of _ (by decide +kernel)) ggX10_says_X0_verdictOf
set_option maxRecDepth 20000 in
theorem ggX10_says_X10_answerIfAny : GoodIn wsX10_says wsX10_answerIfAny := goodIn_r _ [66, 9, 10, 11, 4, 12, 13, 67, 68, 69, 70, 71, 72, 73, 74, 75, 76, 77, 78, 79, 80, 81, 82, 83, 84, 85, 86, 87, 88, 89] (by decide +kernel) (by decide +kernel)
set_option maxRecDepth 20000 in
theorem gX10_says_X10_answerIfAny : GoodIn wsX10_says (wsV RX10 296 RX10 yX10_answerIfAny wsX10_answerIfAny) := goodIn_app (goodIn_of _ (by decide +kernel)) ggX10_says_X10_answerIfAny
theorem dX10_says_0 : decode cX10_says 0 = .ok (.iload_n 1, 1) := by decide +kernel
theorem dX10_says_1 : decode cX10_says 1 = .ok (.invokestatic 281, 3) := by decide +kernel
theorem dX10_says_4 : decode cX10_says 4 = .ok (.ifCond .eq 9, 3) := by decide +kernel
theorem dX10_says_7 : decode cX10_says 7 = .ok (.aload_n 0, 1) := by decide +kernel
theorem dX10_says_8 : decode cX10_says 8 = .ok (.iconst 1, 1) := by decide +kernel
theorem dX10_says_9 : decode cX10_says 9 = .ok (.invokevirtual 139, 3) := by decide +kernel
theorem dX10_says_12 : decode cX10_says 12 = .ok (.ireturn, 1) := by decide +kernel
theorem dX10_says_13 : decode cX10_says 13 = .ok (.aload_n 0, 1) := by decide +kernel
theorem dX10_says_14 : decode cX10_says 14 = .ok (.aload_n 0, 1) := by decide +kernel
theorem dX10_says_15 : decode cX10_says 15 = .ok (.getfield 10, 3) := by decide +kernel
theorem dX10_says_18 : decode cX10_says 18 = .ok (.iload_n 1, 1) := by decide +kernel
theorem dX10_says_19 : decode cX10_says 19 = .ok (.invokevirtual 293, 3) := by decide +kernel
theorem dX10_says_22 : decode cX10_says 22 = .ok (.invokevirtual 296, 3) := by decide +kernel
theorem dX10_says_25 : decode cX10_says 25 = .ok (.ireturn, 1) := by decide +kernel
abbrev rmX10_says : Room := { frames := 4, cells := 0, slots := 0, locals := 89 }
set_option maxHeartbeats 4000000 in
set_option maxRecDepth 100000 in
theorem kX10_says (l : Launch) (D : va_G) (cy : Nat → ClassId) (h0 : Nat) (a0 : Nat → Nat) (a1 : Nat → Nat) (s0 : Rc) (s1 : Rc) (p1 : Int32) (res : Int32 × Rc) (h : fX10_says p1 s0 s1 = some res) : CI l D cy yX10_says wsX10_says rmX10_says [.ref h0, .int p1] (flat [WX10 cy h0 a0 s0, WX0 cy (a0 0) a1 s1]) (flat [WX10 cy h0 a0 res.2, WX0 cy (a0 0) a1 s1]) res.1 := by
  refine CI.of (cc := cX10_says) (maxL := 2) (by decide) rfl (Nat.le_of_ble_eq_true rfl) ?_
  intro p e s m args below meth c A QQ ls E hr
  obtain ⟨hx, hb, hml, hown, hts, hK, hN, hP, hD, hA, hl⟩ := E
  have hret : ∀ (pc : Nat) (H : Heap) (locs : List Loc) (ls : Array Slot) (u : Int32 × Rc), u = res → va_P D vwCl (flat [WX10 cy h0 a0 u.2, WX0 cy (a0 0) a1 s1]) H → va_D A (flat [WX10 cy h0 a0 u.2, WX0 cy (a0 0) a1 s1]) → va_S A s.heap H locs → decode cX10_says pc = .ok (.ireturn, 1) → W p l e rmX10_says s m args below meth c H locs 0 0 QQ (F0 m pc ls [.int u.1]) := by
    intro pc H locs ls u hu hP hD hS hd; subst hu; exact hr pc H locs ls _ rfl hP hD hS hd
  clear hr
  have hl : lv_has ls 2 [(0, .ref h0), (1, .int p1)] := hl
  have hinX10 : ∀ w ∈ wsX100, w ∈ wsX10_says := fun _ h => List.mem_cons_of_mem _ (List.mem_append_left _ (List.mem_append_right _ h))
  unfold fX10_says at h
  suffices key : ∀ (H : Heap) (locs : List Loc), va_P D vwCl (flat [WX10 cy h0 a0 s0, WX0 cy (a0 0) a1 s1]) H → va_S A s.heap H locs → W p l e rmX10_says s m args below meth c H locs 0 0 QQ (F0 m 0 ls []) from key _ _ hP va_S.rf
  clear hP
  intro H locs hP hS
  refine lv_iload_n hx hb dX10_says_0 rfl (lv_at hl 1 rfl) ?_
  refine ca_z (w' := [WX10 cy h0 a0 s0, WX0 cy (a0 0) a1 s1]) (rn_S (As := [.int p1]) (rest := []) ⟨hx, hb, hml, hown, hts⟩ (kX10_noToldDay l D cy p1 _ rfl H.size) (va_cwS 1 hts gX10_says_X10_noToldDay rfl rfl rfl (by decide +kernel) ⟨Nat.le_of_ble_eq_true rfl, Nat.le_of_ble_eq_true rfl⟩) hK hN hP hD [] rfl rfl rfl hl.1 rfl (Nat.le_of_ble_eq_true rfl) dX10_says_1 ⟨Nat.le_refl 0, Nat.le_refl 0⟩) hP hD hS hA [] ⟨rfl, rfl, rfl, rfl⟩ (fun b1 H locs hP hD hS => ?_)
  refine lv_if_eq (tgt := 13) hx hb dX10_says_4 (by decide) (fun c2 => ?_) (fun c2 => ?_)
  · replace h := (if_pos c2).symm.trans h
    refine lv_aload_n hx hb dX10_says_13 rfl (lv_at hl 0 rfl) ?_
    refine lv_aload_n hx hb dX10_says_14 rfl (lv_at hl 0 rfl) ?_
    refine va_get (D := D) (ci := 10) (v := .ref (a0 0)) (C := RX10) (T := TX10) (N := 19) hx hb hts hinX10 hown hK hP 0 rfl rfl 0 (by decide) (hts (.fieldLink RX10 10 "KneeBench" "bench" "LKneeBench$Bench;") (List.mem_of_getElem? (i := 1) rfl)) (fun _ h9 => h9) rfl dX10_says_15 ?_
    refine lv_iload_n hx hb dX10_says_18 rfl (lv_at hl 1 rfl) ?_
    obtain ⟨r3, hr3, h⟩ := bd_elim h
    refine ca_i (w' := [WX10 cy h0 a0 s0, WX0 cy (a0 0) a1 s1]) (rn_V (As := [.int p1]) (rest := [.ref h0]) ⟨hx, hb, hml, hown, hts⟩ (kX0_verdictOf l D cy (a0 0) a1 s1 p1 r3 hr3 H.size) (cwV 1 hts gX10_says_X0_verdictOf rfl rfl rfl (by decide +kernel) ⟨Nat.le_of_ble_eq_true rfl, Nat.le_of_ble_eq_true rfl⟩) hK hN hP hD [1] rfl rfl (ci := 0) (q0 := 1) rfl rfl rfl rfl hl.1 rfl (Nat.le_of_ble_eq_true rfl) dX10_says_19 ⟨Nat.le_refl 0, Nat.le_refl 0⟩) hP hD hS hA [1] ⟨rfl, rfl, rfl, rfl⟩ (fun H locs hP hD hS => ?_)
    obtain ⟨r4, hr4, h⟩ := lt_elim h
    refine ca_i (w' := [WX10 cy h0 a0 r4.2, WX0 cy (a0 0) a1 s1]) (rn_V (As := [.int r3]) (rest := []) ⟨hx, hb, hml, hown, hts⟩ (kX10_answerIfAny l D cy h0 a0 s0 r3 r4 hr4.symm H.size) (cwV 1 hts gX10_says_X10_answerIfAny rfl rfl rfl (by decide +kernel) ⟨Nat.le_of_ble_eq_true rfl, Nat.le_of_ble_eq_true rfl⟩) hK hN hP hD [0] rfl rfl (ci := 10) (q0 := 0) rfl rfl rfl rfl hl.1 rfl (Nat.le_of_ble_eq_true rfl) dX10_says_22 ⟨Nat.le_refl 0, Nat.le_refl 0⟩) hP hD hS hA [0] ⟨rfl, rfl, rfl, rfl⟩ (fun H locs hP hD hS => ?_)
    exact hret 25 H locs ls (r4.1, r4.2) (Option.some.inj h) hP hD hS dX10_says_25
  · replace h := (if_neg c2).symm.trans h
    refine lv_aload_n hx hb dX10_says_7 rfl (lv_at hl 0 rfl) ?_
    refine lv_iconst (v := 1) hx hb dX10_says_8 (by decide) ?_
    obtain ⟨r5, hr5, h⟩ := lt_elim h
    refine ca_i (w' := [WX10 cy h0 a0 r5.2, WX0 cy (a0 0) a1 s1]) (rn_V (As := [.int (1 : Int32)]) (rest := []) ⟨hx, hb, hml, hown, hts⟩ (kX10_refuse l D cy h0 a0 s0 (1 : Int32) r5 hr5.symm H.size) (cwV 1 hts gX10_says_X10_refuse rfl rfl rfl (by decide +kernel) ⟨Nat.le_of_ble_eq_true rfl, Nat.le_of_ble_eq_true rfl⟩) hK hN hP hD [0] rfl rfl (ci := 10) (q0 := 0) rfl rfl rfl rfl hl.1 rfl (Nat.le_of_ble_eq_true rfl) dX10_says_9 ⟨Nat.le_refl 0, Nat.le_refl 0⟩) hP hD hS hA [0] ⟨rfl, rfl, rfl, rfl⟩ (fun H locs hP hD hS => ?_)
    exact hret 12 H locs ls (r5.1, r5.2) (Option.some.inj h) hP hD hS dX10_says_12
set_option maxRecDepth 20000 in
theorem ggX10_season_X10_outside : GoodIn wsX10_season wsX10_outside := goodIn_r _ [8] (by decide +kernel) (by decide +kernel)
set_option maxRecDepth 20000 in
theorem gX10_season_X10_outside : GoodIn wsX10_season (va_wsS RX10 116 yX10_outside wsX10_outside) := goodIn_app (goodIn_of _ (by decide +kernel)) ggX10_season_X10_outside
set_option maxRecDepth 20000 in
theorem ggX10_season_X10_refuse : GoodIn wsX10_season wsX10_refuse := goodIn_r _ [12, 13, 164, 165, 166, 167, 168, 169, 170, 171, 172, 173, 174, 175, 176, 177, 178, 179, 180, 181, 182] (by decide +kernel) (by decide +kernel)
set_option maxRecDepth 20000 in
theorem gX10_season_X10_refuse : GoodIn wsX10_season (wsV RX10 139 RX10 yX10_refuse wsX10_refuse) := goodIn_app (goodIn_of _ (by decide +kernel)) ggX10_season_X10_refuse
set_option maxRecDepth 20000 in
theorem ggX10_season_X6_isRead : GoodIn wsX10_season wsX6_isRead := goodIn_r _ [18, 19, 20, 21, 22, 23, 24, 25, 26, 27, 28, 29, 30, 31, 32, 33, 34, 35, 36, 37, 38, 39, 40, 41, 42, 43, 44, 45, 46, 47, 48, 49, 50, 51, 52, 53, 54, 55, 56, 57, 58, 59, 60, 61, 62, 63, 64, 65, 66, 67, 68, 69, 70, 71, 72, 73, 74, 75, 17, 76, 77, 78, 79, 80, 81, 82, 83, 84, 85, 86, 87, 88, 89, 90, 91, 92, 93, 94, 95, 96, 97, 6, 7, 8, 98, 99, 100, 101, 102, 103, 104, 105, 106, 107, 108, 109, 110, 111, 112, 113, 114, 115, 116, 117, 118, 119, 120, 121, 122, 123, 124, 125, 126, 127, 128, 129, 130, 131, 132, 133, 134, 135, 136, 137, 138, 139, 140, 141, 142, 143, 144, 145, 146, 205, 206, 207, 208, 209, 210, 183, 184, 185, 186, 187, 188, 189, 190, 191, 192, 193, 194, 195, 196, 197, 198, 199, 200, 201, 202, 203, 204, 211, 212, 213, 214, 215, 216, 217, 218, 219, 220, 221, 222, 223, 224] (by decide +kernel) (by decide +kernel)
set_option maxRecDepth 20000 in
theorem gX10_season_X6_isRead : GoodIn wsX10_season (wsV RX10 184 RX6 yX6_isRead wsX6_isRead) := goodIn_app (goodIn_of _ (by decide +kernel)) ggX10_season_X6_isRead
set_option maxRecDepth 20000 in
theorem ggX10_season_X5_copyFrom : GoodIn wsX10_season wsX5_copyFrom := goodIn_r _ [150, 151, 152, 153, 154, 155, 156, 157, 158, 159, 27, 28, 29, 197, 198, 199, 200, 201, 202, 203, 204] (by decide +kernel) (by decide +kernel)
set_option maxRecDepth 20000 in
theorem gX10_season_X5_copyFrom : GoodIn wsX10_season (wsV RX10 185 RX5 yX5_copyFrom wsX5_copyFrom) := goodIn_app (goodIn_of _ (by decide +kernel)) ggX10_season_X5_copyFrom
set_option maxRecDepth 20000 in
theorem ggX10_season_X10_answer : GoodIn wsX10_season wsX10_answer := goodIn_r _ [163, 13, 164, 165, 166, 167, 168, 169, 170, 171, 172, 173, 174, 175, 176, 177, 178, 179, 180, 181, 182] (by decide +kernel) (by decide +kernel)
set_option maxRecDepth 20000 in
theorem gX10_season_X10_answer : GoodIn wsX10_season (wsV RX10 181 RX10 yX10_answer wsX10_answer) := goodIn_app (goodIn_of _ (by decide +kernel)) ggX10_season_X10_answer
theorem dX10_season_0 : decode cX10_season 0 = .ok (.iload_n 1, 1) := by decide +kernel
theorem dX10_season_1 : decode cX10_season 1 = .ok (.iconst 0, 1) := by decide +kernel
theorem dX10_season_2 : decode cX10_season 2 = .ok (.aload_n 0, 1) := by decide +kernel
theorem dX10_season_3 : decode cX10_season 3 = .ok (.getfield 52, 3) := by decide +kernel
theorem dX10_season_6 : decode cX10_season 6 = .ok (.getfield 161, 3) := by decide +kernel
theorem dX10_season_9 : decode cX10_season 9 = .ok (.invokestatic 116, 3) := by decide +kernel
theorem dX10_season_12 : decode cX10_season 12 = .ok (.ifCond .ne 10, 3) := by decide +kernel
theorem dX10_season_15 : decode cX10_season 15 = .ok (.iload_n 1, 1) := by decide +kernel
theorem dX10_season_16 : decode cX10_season 16 = .ok (.sipush 300, 3) := by decide +kernel
theorem dX10_season_19 : decode cX10_season 19 = .ok (.if_icmp .le 9, 3) := by decide +kernel
theorem dX10_season_22 : decode cX10_season 22 = .ok (.aload_n 0, 1) := by decide +kernel
theorem dX10_season_23 : decode cX10_season 23 = .ok (.iconst 1, 1) := by decide +kernel
theorem dX10_season_24 : decode cX10_season 24 = .ok (.invokevirtual 139, 3) := by decide +kernel
theorem dX10_season_27 : decode cX10_season 27 = .ok (.ireturn, 1) := by decide +kernel
theorem dX10_season_28 : decode cX10_season 28 = .ok (.aload_n 0, 1) := by decide +kernel
theorem dX10_season_29 : decode cX10_season 29 = .ok (.getfield 70, 3) := by decide +kernel
theorem dX10_season_32 : decode cX10_season 32 = .ok (.iload_n 1, 1) := by decide +kernel
theorem dX10_season_33 : decode cX10_season 33 = .ok (.invokevirtual 184, 3) := by decide +kernel
theorem dX10_season_36 : decode cX10_season 36 = .ok (.istore_n 2, 1) := by decide +kernel
theorem dX10_season_37 : decode cX10_season 37 = .ok (.aload_n 0, 1) := by decide +kernel
theorem dX10_season_38 : decode cX10_season 38 = .ok (.getfield 52, 3) := by decide +kernel
theorem dX10_season_41 : decode cX10_season 41 = .ok (.iconst 0, 1) := by decide +kernel
theorem dX10_season_42 : decode cX10_season 42 = .ok (.putfield 161, 3) := by decide +kernel
theorem dX10_season_45 : decode cX10_season 45 = .ok (.iload_n 2, 1) := by decide +kernel
theorem dX10_season_46 : decode cX10_season 46 = .ok (.ifCond .ne 10, 3) := by decide +kernel
theorem dX10_season_49 : decode cX10_season 49 = .ok (.aload_n 0, 1) := by decide +kernel
theorem dX10_season_50 : decode cX10_season 50 = .ok (.bipush 9, 2) := by decide +kernel
theorem dX10_season_52 : decode cX10_season 52 = .ok (.invokevirtual 139, 3) := by decide +kernel
theorem dX10_season_55 : decode cX10_season 55 = .ok (.ireturn, 1) := by decide +kernel
theorem dX10_season_56 : decode cX10_season 56 = .ok (.aload_n 0, 1) := by decide +kernel
theorem dX10_season_57 : decode cX10_season 57 = .ok (.getfield 19, 3) := by decide +kernel
theorem dX10_season_60 : decode cX10_season 60 = .ok (.aload_n 0, 1) := by decide +kernel
theorem dX10_season_61 : decode cX10_season 61 = .ok (.getfield 26, 3) := by decide +kernel
theorem dX10_season_64 : decode cX10_season 64 = .ok (.invokevirtual 185, 3) := by decide +kernel
theorem dX10_season_67 : decode cX10_season 67 = .ok (.aload_n 0, 1) := by decide +kernel
theorem dX10_season_68 : decode cX10_season 68 = .ok (.aload_n 0, 1) := by decide +kernel
theorem dX10_season_69 : decode cX10_season 69 = .ok (.getfield 19, 3) := by decide +kernel
theorem dX10_season_72 : decode cX10_season 72 = .ok (.getfield 188, 3) := by decide +kernel
theorem dX10_season_75 : decode cX10_season 75 = .ok (.invokevirtual 181, 3) := by decide +kernel
theorem dX10_season_78 : decode cX10_season 78 = .ok (.ireturn, 1) := by decide +kernel
abbrev rmX10_season : Room := { frames := 7, cells := 0, slots := 0, locals := 150 }
set_option maxHeartbeats 4000000 in
set_option maxRecDepth 100000 in
theorem kX10_season (l : Launch) (D : va_G) (cy : Nat → ClassId) (h0 : Nat) (a0 : Nat → Nat) (a1 : Nat → Nat) (a2 : Nat → Nat) (a3 : Nat → Nat) (a4 : Nat → Nat) (a5 : Nat → Nat) (s0 : Rc) (s1 : Rc) (s2 : Rc) (s3 : Rc) (s4 : Rc) (s5 : Rc) (p1 : Int32) (res : Int32 × Rc × Rc × Rc × Rc × Rc) (h : fX10_season p1 s0 s1 s2 s3 s4 s5 = some res) : CI l D cy yX10_season wsX10_season rmX10_season [.ref h0, .int p1] (flat [WX10 cy h0 a0 s0, WX0 cy (a0 0) a1 s1, WX5 cy (a0 1) a2 s2, WX5 cy (a0 3) a3 s3, WX8 cy (a0 8) a4 s4, WX6 cy (a0 10) (adv [a0 8, a0 3, a0 0, a5 3]) s5]) (flat [WX10 cy h0 a0 res.2.1, WX0 cy (a0 0) a1 s1, WX5 cy (a0 1) a2 res.2.2.1, WX5 cy (a0 3) a3 res.2.2.2.1, WX8 cy (a0 8) a4 res.2.2.2.2.1, WX6 cy (a0 10) (adv [a0 8, a0 3, a0 0, a5 3]) res.2.2.2.2.2]) res.1 := by
  refine CI.of (cc := cX10_season) (maxL := 3) (by decide) rfl (Nat.le_of_ble_eq_true rfl) ?_
  intro p e s m args below meth c A QQ ls E hr
  obtain ⟨hx, hb, hml, hown, hts, hK, hN, hP, hD, hA, hl⟩ := E
  have hret : ∀ (pc : Nat) (H : Heap) (locs : List Loc) (ls : Array Slot) (u : Int32 × Rc × Rc × Rc × Rc × Rc), u = res → va_P D vwCl (flat [WX10 cy h0 a0 u.2.1, WX0 cy (a0 0) a1 s1, WX5 cy (a0 1) a2 u.2.2.1, WX5 cy (a0 3) a3 u.2.2.2.1, WX8 cy (a0 8) a4 u.2.2.2.2.1, WX6 cy (a0 10) (adv [a0 8, a0 3, a0 0, a5 3]) u.2.2.2.2.2]) H → va_D A (flat [WX10 cy h0 a0 u.2.1, WX0 cy (a0 0) a1 s1, WX5 cy (a0 1) a2 u.2.2.1, WX5 cy (a0 3) a3 u.2.2.2.1, WX8 cy (a0 8) a4 u.2.2.2.2.1, WX6 cy (a0 10) (adv [a0 8, a0 3, a0 0, a5 3]) u.2.2.2.2.2]) → va_S A s.heap H locs → decode cX10_season pc = .ok (.ireturn, 1) → W p l e rmX10_season s m args below meth c H locs 0 0 QQ (F0 m pc ls [.int u.1]) := by
    intro pc H locs ls u hu hP hD hS hd; subst hu; exact hr pc H locs ls _ rfl hP hD hS hd
  clear hr
  have hl : lv_has ls 3 [(0, .ref h0), (1, .int p1)] := hl
  have hinX10 : ∀ w ∈ wsX100, w ∈ wsX10_season := fun _ h => List.mem_cons_of_mem _ (List.mem_append_left _ (List.mem_append_left _ (List.mem_append_left _ (List.mem_append_left _ (List.mem_append_right _ h)))))
  have hinX5 : ∀ w ∈ wsX50, w ∈ wsX10_season := fun _ h => List.mem_cons_of_mem _ (List.mem_append_left _ (List.mem_append_left _ (List.mem_append_right _ h)))
  have hinX8 : ∀ w ∈ wsX80, w ∈ wsX10_season := fun _ h => List.mem_cons_of_mem _ (List.mem_append_left _ (List.mem_append_left _ (List.mem_append_left _ (List.mem_append_right _ h))))
  unfold fX10_season at h
  suffices key : ∀ (H : Heap) (locs : List Loc), va_P D vwCl (flat [WX10 cy h0 a0 s0, WX0 cy (a0 0) a1 s1, WX5 cy (a0 1) a2 s2, WX5 cy (a0 3) a3 s3, WX8 cy (a0 8) a4 s4, WX6 cy (a0 10) (adv [a0 8, a0 3, a0 0, a5 3]) s5]) H → va_S A s.heap H locs → W p l e rmX10_season s m args below meth c H locs 0 0 QQ (F0 m 0 ls []) from key _ _ hP va_S.rf
  clear hP
  intro H locs hP hS
  refine lv_iload_n hx hb dX10_season_0 rfl (lv_at hl 1 rfl) ?_
  refine lv_iconst (v := 0) hx hb dX10_season_1 (by decide) ?_
  refine lv_aload_n hx hb dX10_season_2 rfl (lv_at hl 0 rfl) ?_
  refine va_get (D := D) (ci := 10) (v := .ref (a0 8)) (C := RX10) (T := TX10) (N := 19) hx hb hts hinX10 hown hK hP 0 rfl rfl 8 (by decide) (hts (.fieldLink RX10 52 "KneeBench" "tokens" "LKneeBench$Tokens;") (List.mem_of_getElem? (i := 1) rfl)) (fun _ h9 => h9) rfl dX10_season_3 ?_
  refine va_getN (D := D) (ci := 8) (v := .int (gi s4 2)) (C := RX8) (T := TX8) (N := 14) hx hb hts hinX8 hown hK hP 22 rfl rfl 2 (by decide) (NW.fld hN 42 rfl _) (fun _ h9 => h9) rfl dX10_season_6 ?_
  refine ca_z (w' := [WX10 cy h0 a0 s0, WX0 cy (a0 0) a1 s1, WX5 cy (a0 1) a2 s2, WX5 cy (a0 3) a3 s3, WX8 cy (a0 8) a4 s4, WX6 cy (a0 10) (adv [a0 8, a0 3, a0 0, a5 3]) s5]) (rn_S (As := [.int p1, .int (0 : Int32), .int (gi s4 2)]) (rest := []) ⟨hx, hb, hml, hown, hts⟩ (kX10_outside l D cy p1 (0 : Int32) (gi s4 2) _ rfl H.size) (va_cwS 3 hts gX10_season_X10_outside rfl rfl rfl (by decide +kernel) ⟨Nat.le_of_ble_eq_true rfl, Nat.le_of_ble_eq_true rfl⟩) hK hN hP hD [] rfl rfl rfl hl.1 rfl (Nat.le_of_ble_eq_true rfl) dX10_season_9 ⟨Nat.le_refl 0, Nat.le_refl 0⟩) hP hD hS hA [] ⟨rfl, rfl, rfl, rfl⟩ (fun b1 H locs hP hD hS => ?_)
  refine lv_if_ne (tgt := 22) hx hb dX10_season_12 (by decide) (fun c2 => ?_) (fun c2 => ?_)
  · replace h := (if_neg c2).symm.trans h
    refine lv_aload_n hx hb dX10_season_22 rfl (lv_at hl 0 rfl) ?_
    refine lv_iconst (v := 1) hx hb dX10_season_23 (by decide) ?_
    obtain ⟨r3, hr3, h⟩ := lt_elim h
    refine ca_i (w' := [WX10 cy h0 a0 r3.2, WX0 cy (a0 0) a1 s1, WX5 cy (a0 1) a2 s2, WX5 cy (a0 3) a3 s3, WX8 cy (a0 8) a4 s4, WX6 cy (a0 10) (adv [a0 8, a0 3, a0 0, a5 3]) s5]) (rn_V (As := [.int (1 : Int32)]) (rest := []) ⟨hx, hb, hml, hown, hts⟩ (kX10_refuse l D cy h0 a0 s0 (1 : Int32) r3 hr3.symm H.size) (cwV 1 hts gX10_season_X10_refuse rfl rfl rfl (by decide +kernel) ⟨Nat.le_of_ble_eq_true rfl, Nat.le_of_ble_eq_true rfl⟩) hK hN hP hD [0] rfl rfl (ci := 10) (q0 := 0) rfl rfl rfl rfl hl.1 rfl (Nat.le_of_ble_eq_true rfl) dX10_season_24 ⟨Nat.le_refl 0, Nat.le_refl 0⟩) hP hD hS hA [0] ⟨rfl, rfl, rfl, rfl⟩ (fun H locs hP hD hS => ?_)
    exact hret 27 H locs ls (r3.1, r3.2, s2, s3, s4, s5) (Option.some.inj h) hP hD hS dX10_season_27
  · replace h := (if_pos c2).symm.trans h
    refine lv_iload_n hx hb dX10_season_15 rfl (lv_at hl 1 rfl) ?_
    refine lv_sipush (v := 300) hx hb dX10_season_16 (by decide) ?_
    refine lv_icmp_le (tgt := 28) hx hb dX10_season_19 (by decide) (fun c4 => ?_) (fun c4 => ?_)
    · replace h := (if_pos c4).symm.trans h
      refine lv_aload_n hx hb dX10_season_28 rfl (lv_at hl 0 rfl) ?_
      refine va_get (D := D) (ci := 10) (v := .ref (a0 10)) (C := RX10) (T := TX10) (N := 19) hx hb hts hinX10 hown hK hP 0 rfl rfl 10 (by decide) (hts (.fieldLink RX10 70 "KneeBench" "seasonText" "LKneeBench$SeasonText;") (List.mem_of_getElem? (i := 2) rfl)) (fun _ h9 => h9) rfl dX10_season_29 ?_
      refine lv_iload_n hx hb dX10_season_32 rfl (lv_at hl 1 rfl) ?_
      obtain ⟨r5, hr5, h⟩ := bd_elim h
      refine ca_z (w' := [WX10 cy h0 a0 s0, WX0 cy (a0 0) a1 s1, WX5 cy (a0 1) a2 s2, WX5 cy (a0 3) a3 r5.2.2.2, WX8 cy (a0 8) a4 r5.2.2.1, WX6 cy (a0 10) (adv [a0 8, a0 3, a0 0, a5 3]) r5.2.1]) (rn_V (As := [.int p1]) (rest := []) ⟨hx, hb, hml, hown, hts⟩ (kX6_isRead l D cy (a0 10) (adv [a0 8, a0 3, a0 0, a5 3]) a4 a3 a1 s5 s4 s3 s1 p1 r5 hr5 H.size) (cwV 1 hts gX10_season_X6_isRead rfl rfl rfl (by decide +kernel) ⟨Nat.le_of_ble_eq_true rfl, Nat.le_of_ble_eq_true rfl⟩) hK hN hP hD [5, 4, 3, 1] rfl rfl (ci := 6) (q0 := 25) rfl rfl rfl rfl hl.1 rfl (Nat.le_of_ble_eq_true rfl) dX10_season_33 ⟨Nat.le_refl 0, Nat.le_refl 0⟩) hP hD hS hA [5, 4, 3, 1] ⟨rfl, rfl, rfl, rfl⟩ (fun b6 H locs hP hD hS => ?_)
      refine lv_istore_n (lv' := [(2, .int r5.1), (0, .ref h0), (1, .int p1)]) hx hb dX10_season_36 rfl hl (by decide) rfl (fun ls hl => ?_)
      refine lv_aload_n hx hb dX10_season_37 rfl (lv_at hl 1 rfl) ?_
      refine va_get (D := D) (ci := 10) (v := .ref (a0 8)) (C := RX10) (T := TX10) (N := 19) hx hb hts hinX10 hown hK hP 0 rfl rfl 8 (by decide) (hts (.fieldLink RX10 52 "KneeBench" "tokens" "LKneeBench$Tokens;") (List.mem_of_getElem? (i := 1) rfl)) (fun _ h9 => h9) rfl dX10_season_38 ?_
      refine lv_iconst (v := 0) hx hb dX10_season_41 (by decide) ?_
      obtain ⟨s4_7, es, h⟩ := lt_elim h
      refine va_putN (D := D) (ci := 8) (v := .int (0 : Int32)) (ty := .int) (C := RX8) (T := TX8) (N := 14) hx hb hts hinX8 tyX8 tyX8_ok nmX8 hown hK hP hD hS 22 rfl rfl 2 (by decide) (NW.fld hN 42 rfl _) (fun _ h9 => h9) rfl (by decide +kernel) rfl rfl (Nat.le_of_ble_eq_true rfl) dX10_season_42 (fun H locs hP hD hS => ?_)
      have hP : va_P D vwCl (flat [WX10 cy h0 a0 s0, WX0 cy (a0 0) a1 s1, WX5 cy (a0 1) a2 s2, WX5 cy (a0 3) a3 r5.2.2.2, WX8 cy (a0 8) a4 s4_7, WX6 cy (a0 10) (adv [a0 8, a0 3, a0 0, a5 3]) r5.2.1]) H := by rw [es]; exact hP
      have hD : va_D A (flat [WX10 cy h0 a0 s0, WX0 cy (a0 0) a1 s1, WX5 cy (a0 1) a2 s2, WX5 cy (a0 3) a3 r5.2.2.2, WX8 cy (a0 8) a4 s4_7, WX6 cy (a0 10) (adv [a0 8, a0 3, a0 0, a5 3]) r5.2.1]) := by rw [es]; exact hD
      clear es
      refine lv_iload_n hx hb dX10_season_45 rfl (lv_at hl 0 rfl) ?_
      refine lv_if_ne (tgt := 56) hx hb dX10_season_46 (by decide) (fun c8 => ?_) (fun c8 => ?_)
      · replace h := (if_neg c8).symm.trans h
        refine lv_aload_n hx hb dX10_season_56 rfl (lv_at hl 1 rfl) ?_
        refine va_get (D := D) (ci := 10) (v := .ref (a0 1)) (C := RX10) (T := TX10) (N := 19) hx hb hts hinX10 hown hK hP 0 rfl rfl 1 (by decide) (hts (.fieldLink RX10 19 "KneeBench" "season" "LKneeBench$Season;") (List.mem_of_getElem? (i := 3) rfl)) (fun _ h9 => h9) rfl dX10_season_57 ?_
        refine lv_aload_n hx hb dX10_season_60 rfl (lv_at hl 1 rfl) ?_
        refine va_get (D := D) (ci := 10) (v := .ref (a0 3)) (C := RX10) (T := TX10) (N := 19) hx hb hts hinX10 hown hK hP 0 rfl rfl 3 (by decide) (hts (.fieldLink RX10 26 "KneeBench" "spareSeason" "LKneeBench$Season;") (List.mem_of_getElem? (i := 4) rfl)) (fun _ h9 => h9) rfl dX10_season_61 ?_
        obtain ⟨r9, hr9, h⟩ := bd_elim h
        refine ca_v (w' := [WX10 cy h0 a0 s0, WX0 cy (a0 0) a1 s1, WX5 cy (a0 1) a2 r9, WX5 cy (a0 3) a3 r5.2.2.2, WX8 cy (a0 8) a4 s4_7, WX6 cy (a0 10) (adv [a0 8, a0 3, a0 0, a5 3]) r5.2.1]) (rn_V (As := [.ref (a0 3)]) (rest := []) ⟨hx, hb, hml, hown, hts⟩ (kX5_copyFrom l D cy (a0 1) (a0 3) a2 a3 s2 r5.2.2.2 r9 hr9 H.size) (cwV 1 hts gX10_season_X5_copyFrom rfl rfl rfl (by decide +kernel) ⟨Nat.le_of_ble_eq_true rfl, Nat.le_of_ble_eq_true rfl⟩) hK hN hP hD [2, 3] rfl rfl (ci := 5) (q0 := 10) rfl rfl rfl rfl hl.1 rfl (Nat.le_of_ble_eq_true rfl) dX10_season_64 ⟨Nat.le_refl 0, Nat.le_refl 0⟩) hP hD hS hA [2, 3] ⟨rfl, rfl, rfl, rfl⟩ (fun H locs hP hD hS => ?_)
        refine lv_aload_n hx hb dX10_season_67 rfl (lv_at hl 1 rfl) ?_
        refine lv_aload_n hx hb dX10_season_68 rfl (lv_at hl 1 rfl) ?_
        refine va_get (D := D) (ci := 10) (v := .ref (a0 1)) (C := RX10) (T := TX10) (N := 19) hx hb hts hinX10 hown hK hP 0 rfl rfl 1 (by decide) (hts (.fieldLink RX10 19 "KneeBench" "season" "LKneeBench$Season;") (List.mem_of_getElem? (i := 3) rfl)) (fun _ h9 => h9) rfl dX10_season_69 ?_
        refine va_getN (D := D) (ci := 5) (v := .int (gi r9 6)) (C := RX5) (T := TX5) (N := 8) hx hb hts hinX5 hown hK hP 10 rfl rfl 6 (by decide) (NW.fld hN 38 rfl _) (fun _ h9 => h9) rfl dX10_season_72 ?_
        obtain ⟨r10, hr10, h⟩ := lt_elim h
        refine ca_i (w' := [WX10 cy h0 a0 r10.2, WX0 cy (a0 0) a1 s1, WX5 cy (a0 1) a2 r9, WX5 cy (a0 3) a3 r5.2.2.2, WX8 cy (a0 8) a4 s4_7, WX6 cy (a0 10) (adv [a0 8, a0 3, a0 0, a5 3]) r5.2.1]) (rn_V (As := [.int (gi r9 6)]) (rest := []) ⟨hx, hb, hml, hown, hts⟩ (kX10_answer l D cy h0 a0 s0 (gi r9 6) r10 hr10.symm H.size) (cwV 1 hts gX10_season_X10_answer rfl rfl rfl (by decide +kernel) ⟨Nat.le_of_ble_eq_true rfl, Nat.le_of_ble_eq_true rfl⟩) hK hN hP hD [0] rfl rfl (ci := 10) (q0 := 0) rfl rfl rfl rfl hl.1 rfl (Nat.le_of_ble_eq_true rfl) dX10_season_75 ⟨Nat.le_refl 0, Nat.le_refl 0⟩) hP hD hS hA [0] ⟨rfl, rfl, rfl, rfl⟩ (fun H locs hP hD hS => ?_)
        exact hret 78 H locs ls (r10.1, r10.2, r9, r5.2.2.2, s4_7, r5.2.1) (Option.some.inj h) hP hD hS dX10_season_78
      · replace h := (if_pos c8).symm.trans h
        refine lv_aload_n hx hb dX10_season_49 rfl (lv_at hl 1 rfl) ?_
        refine lv_bipush (v := 9) hx hb dX10_season_50 (by decide) ?_
        obtain ⟨r11, hr11, h⟩ := lt_elim h
        refine ca_i (w' := [WX10 cy h0 a0 r11.2, WX0 cy (a0 0) a1 s1, WX5 cy (a0 1) a2 s2, WX5 cy (a0 3) a3 r5.2.2.2, WX8 cy (a0 8) a4 s4_7, WX6 cy (a0 10) (adv [a0 8, a0 3, a0 0, a5 3]) r5.2.1]) (rn_V (As := [.int (9 : Int32)]) (rest := []) ⟨hx, hb, hml, hown, hts⟩ (kX10_refuse l D cy h0 a0 s0 (9 : Int32) r11 hr11.symm H.size) (cwV 1 hts gX10_season_X10_refuse rfl rfl rfl (by decide +kernel) ⟨Nat.le_of_ble_eq_true rfl, Nat.le_of_ble_eq_true rfl⟩) hK hN hP hD [0] rfl rfl (ci := 10) (q0 := 0) rfl rfl rfl rfl hl.1 rfl (Nat.le_of_ble_eq_true rfl) dX10_season_52 ⟨Nat.le_refl 0, Nat.le_refl 0⟩) hP hD hS hA [0] ⟨rfl, rfl, rfl, rfl⟩ (fun H locs hP hD hS => ?_)
        exact hret 55 H locs ls (r11.1, r11.2, s2, r5.2.2.2, s4_7, r5.2.1) (Option.some.inj h) hP hD hS dX10_season_55
    · replace h := (if_neg c4).symm.trans h
      refine lv_aload_n hx hb dX10_season_22 rfl (lv_at hl 0 rfl) ?_
      refine lv_iconst (v := 1) hx hb dX10_season_23 (by decide) ?_
      obtain ⟨r12, hr12, h⟩ := lt_elim h
      refine ca_i (w' := [WX10 cy h0 a0 r12.2, WX0 cy (a0 0) a1 s1, WX5 cy (a0 1) a2 s2, WX5 cy (a0 3) a3 s3, WX8 cy (a0 8) a4 s4, WX6 cy (a0 10) (adv [a0 8, a0 3, a0 0, a5 3]) s5]) (rn_V (As := [.int (1 : Int32)]) (rest := []) ⟨hx, hb, hml, hown, hts⟩ (kX10_refuse l D cy h0 a0 s0 (1 : Int32) r12 hr12.symm H.size) (cwV 1 hts gX10_season_X10_refuse rfl rfl rfl (by decide +kernel) ⟨Nat.le_of_ble_eq_true rfl, Nat.le_of_ble_eq_true rfl⟩) hK hN hP hD [0] rfl rfl (ci := 10) (q0 := 0) rfl rfl rfl rfl hl.1 rfl (Nat.le_of_ble_eq_true rfl) dX10_season_24 ⟨Nat.le_refl 0, Nat.le_refl 0⟩) hP hD hS hA [0] ⟨rfl, rfl, rfl, rfl⟩ (fun H locs hP hD hS => ?_)
      exact hret 27 H locs ls (r12.1, r12.2, s2, s3, s4, s5) (Option.some.inj h) hP hD hS dX10_season_27
set_option maxRecDepth 20000 in
theorem ggX10_seatAt_X10_refuse : GoodIn wsX10_seatAt wsX10_refuse := goodIn_r _ [6, 7, 12, 13, 14, 15, 16, 17, 18, 19, 20, 21, 22, 23, 24, 25, 26, 27, 28, 29, 30] (by decide +kernel) (by decide +kernel)
set_option maxRecDepth 20000 in
theorem gX10_seatAt_X10_refuse : GoodIn wsX10_seatAt (wsV RX10 139 RX10 yX10_refuse wsX10_refuse) := goodIn_app (goodIn_of _ (by decide +kernel)) ggX10_seatAt_X10_refuse
set_option maxRecDepth 20000 in
theorem ggX10_seatAt_X10_answer : GoodIn wsX10_seatAt wsX10_answer := goodIn_r _ [11, 7, 12, 13, 14, 15, 16, 17, 18, 19, 20, 21, 22, 23, 24, 25, 26, 27, 28, 29, 30] (by decide +kernel) (by decide +kernel)
set_option maxRecDepth 20000 in
theorem gX10_seatAt_X10_answer : GoodIn wsX10_seatAt (wsV RX10 181 RX10 yX10_answer wsX10_answer) := goodIn_app (goodIn_of _ (by decide +kernel)) ggX10_seatAt_X10_answer
theorem dX10_seatAt_0 : decode cX10_seatAt 0 = .ok (.iload_n 1, 1) := by decide +kernel
theorem dX10_seatAt_1 : decode cX10_seatAt 1 = .ok (.ifCond .lt 14, 3) := by decide +kernel
theorem dX10_seatAt_4 : decode cX10_seatAt 4 = .ok (.iload_n 1, 1) := by decide +kernel
theorem dX10_seatAt_5 : decode cX10_seatAt 5 = .ok (.aload_n 0, 1) := by decide +kernel
theorem dX10_seatAt_6 : decode cX10_seatAt 6 = .ok (.getfield 94, 3) := by decide +kernel
theorem dX10_seatAt_9 : decode cX10_seatAt 9 = .ok (.getfield 345, 3) := by decide +kernel
theorem dX10_seatAt_12 : decode cX10_seatAt 12 = .ok (.if_icmp .lt 10, 3) := by decide +kernel
theorem dX10_seatAt_15 : decode cX10_seatAt 15 = .ok (.aload_n 0, 1) := by decide +kernel
theorem dX10_seatAt_16 : decode cX10_seatAt 16 = .ok (.bipush 6, 2) := by decide +kernel
theorem dX10_seatAt_18 : decode cX10_seatAt 18 = .ok (.invokevirtual 139, 3) := by decide +kernel
theorem dX10_seatAt_21 : decode cX10_seatAt 21 = .ok (.ireturn, 1) := by decide +kernel
theorem dX10_seatAt_22 : decode cX10_seatAt 22 = .ok (.aload_n 0, 1) := by decide +kernel
theorem dX10_seatAt_23 : decode cX10_seatAt 23 = .ok (.aload_n 0, 1) := by decide +kernel
theorem dX10_seatAt_24 : decode cX10_seatAt 24 = .ok (.getfield 94, 3) := by decide +kernel
theorem dX10_seatAt_27 : decode cX10_seatAt 27 = .ok (.getfield 348, 3) := by decide +kernel
theorem dX10_seatAt_30 : decode cX10_seatAt 30 = .ok (.iload_n 1, 1) := by decide +kernel
theorem dX10_seatAt_31 : decode cX10_seatAt 31 = .ok (.iaload, 1) := by decide +kernel
theorem dX10_seatAt_32 : decode cX10_seatAt 32 = .ok (.invokevirtual 181, 3) := by decide +kernel
theorem dX10_seatAt_35 : decode cX10_seatAt 35 = .ok (.ireturn, 1) := by decide +kernel
abbrev rmX10_seatAt : Room := { frames := 1, cells := 0, slots := 0, locals := 21 }
set_option maxHeartbeats 4000000 in
set_option maxRecDepth 100000 in
theorem kX10_seatAt (l : Launch) (D : va_G) (cy : Nat → ClassId) (h0 : Nat) (a0 : Nat → Nat) (a1 : Nat → Nat) (s0 : Rc) (s1 : Rc) (p1 : Int32) (res : Int32 × Rc) (h : fX10_seatAt p1 s0 s1 = some res) : CI l D cy yX10_seatAt wsX10_seatAt rmX10_seatAt [.ref h0, .int p1] (flat [WX10 cy h0 a0 s0, WX7 cy (a0 14) a1 s1]) (flat [WX10 cy h0 a0 res.2, WX7 cy (a0 14) a1 s1]) res.1 := by
  refine CI.of (cc := cX10_seatAt) (maxL := 2) (by decide) rfl (Nat.le_of_ble_eq_true rfl) ?_
  intro p e s m args below meth c A QQ ls E hr
  obtain ⟨hx, hb, hml, hown, hts, hK, hN, hP, hD, hA, hl⟩ := E
  have hret : ∀ (pc : Nat) (H : Heap) (locs : List Loc) (ls : Array Slot) (u : Int32 × Rc), u = res → va_P D vwCl (flat [WX10 cy h0 a0 u.2, WX7 cy (a0 14) a1 s1]) H → va_D A (flat [WX10 cy h0 a0 u.2, WX7 cy (a0 14) a1 s1]) → va_S A s.heap H locs → decode cX10_seatAt pc = .ok (.ireturn, 1) → W p l e rmX10_seatAt s m args below meth c H locs 0 0 QQ (F0 m pc ls [.int u.1]) := by
    intro pc H locs ls u hu hP hD hS hd; subst hu; exact hr pc H locs ls _ rfl hP hD hS hd
  clear hr
  have hl : lv_has ls 2 [(0, .ref h0), (1, .int p1)] := hl
  have hinX10 : ∀ w ∈ wsX100, w ∈ wsX10_seatAt := fun _ h => List.mem_cons_of_mem _ (List.mem_append_left _ (List.mem_append_right _ h))
  have hinX7 : ∀ w ∈ wsX70, w ∈ wsX10_seatAt := fun _ h => List.mem_cons_of_mem _ (List.mem_append_right _ h)
  unfold fX10_seatAt at h
  suffices key : ∀ (H : Heap) (locs : List Loc), va_P D vwCl (flat [WX10 cy h0 a0 s0, WX7 cy (a0 14) a1 s1]) H → va_S A s.heap H locs → W p l e rmX10_seatAt s m args below meth c H locs 0 0 QQ (F0 m 0 ls []) from key _ _ hP va_S.rf
  clear hP
  intro H locs hP hS
  refine lv_iload_n hx hb dX10_seatAt_0 rfl (lv_at hl 1 rfl) ?_
  refine lv_if_lt (tgt := 15) hx hb dX10_seatAt_1 (by decide) (fun c1 => ?_) (fun c1 => ?_)
  · replace h := (if_pos c1).symm.trans h
    refine lv_aload_n hx hb dX10_seatAt_15 rfl (lv_at hl 0 rfl) ?_
    refine lv_bipush (v := 6) hx hb dX10_seatAt_16 (by decide) ?_
    obtain ⟨r2, hr2, h⟩ := lt_elim h
    refine ca_i (w' := [WX10 cy h0 a0 r2.2, WX7 cy (a0 14) a1 s1]) (rn_V (As := [.int (6 : Int32)]) (rest := []) ⟨hx, hb, hml, hown, hts⟩ (kX10_refuse l D cy h0 a0 s0 (6 : Int32) r2 hr2.symm H.size) (cwV 1 hts gX10_seatAt_X10_refuse rfl rfl rfl (by decide +kernel) ⟨Nat.le_of_ble_eq_true rfl, Nat.le_of_ble_eq_true rfl⟩) hK hN hP hD [0] rfl rfl (ci := 10) (q0 := 0) rfl rfl rfl rfl hl.1 rfl (Nat.le_of_ble_eq_true rfl) dX10_seatAt_18 ⟨Nat.le_refl 0, Nat.le_refl 0⟩) hP hD hS hA [0] ⟨rfl, rfl, rfl, rfl⟩ (fun H locs hP hD hS => ?_)
    exact hret 21 H locs ls (r2.1, r2.2) (Option.some.inj h) hP hD hS dX10_seatAt_21
  · replace h := (if_neg c1).symm.trans h
    refine lv_iload_n hx hb dX10_seatAt_4 rfl (lv_at hl 1 rfl) ?_
    refine lv_aload_n hx hb dX10_seatAt_5 rfl (lv_at hl 0 rfl) ?_
    refine va_get (D := D) (ci := 10) (v := .ref (a0 14)) (C := RX10) (T := TX10) (N := 19) hx hb hts hinX10 hown hK hP 0 rfl rfl 14 (by decide) (hts (.fieldLink RX10 94 "KneeBench" "seating" "LKneeBench$Seats;") (List.mem_of_getElem? (i := 1) rfl)) (fun _ h9 => h9) rfl dX10_seatAt_6 ?_
    refine va_getN (D := D) (ci := 7) (v := .int (gi s1 2)) (C := RX7) (T := TX7) (N := 3) hx hb hts hinX7 hown hK hP 1 rfl rfl 2 (by decide) (NW.fld hN 61 rfl _) (fun _ h9 => h9) rfl dX10_seatAt_9 ?_
    refine lv_icmp_lt (tgt := 22) hx hb dX10_seatAt_12 (by decide) (fun c3 => ?_) (fun c3 => ?_)
    · replace h := (if_pos c3).symm.trans h
      refine lv_aload_n hx hb dX10_seatAt_22 rfl (lv_at hl 0 rfl) ?_
      refine lv_aload_n hx hb dX10_seatAt_23 rfl (lv_at hl 0 rfl) ?_
      refine va_get (D := D) (ci := 10) (v := .ref (a0 14)) (C := RX10) (T := TX10) (N := 19) hx hb hts hinX10 hown hK hP 0 rfl rfl 14 (by decide) (hts (.fieldLink RX10 94 "KneeBench" "seating" "LKneeBench$Seats;") (List.mem_of_getElem? (i := 1) rfl)) (fun _ h9 => h9) rfl dX10_seatAt_24 ?_
      refine va_getN (D := D) (ci := 7) (v := .ref (a1 1)) (C := RX7) (T := TX7) (N := 3) hx hb hts hinX7 hown hK hP 1 rfl rfl 1 (by decide) (NW.fld hN 60 rfl _) (fun _ h9 => h9) rfl dX10_seatAt_27 ?_
      refine lv_iload_n hx hb dX10_seatAt_30 rfl (lv_at hl 1 rfl) ?_
      obtain ⟨g4, h⟩ := gd_elim h
      refine va_iald hx hb hK hP 3 1 rfl rfl (inb_in g4) dX10_seatAt_31 ?_
      obtain ⟨r5, hr5, h⟩ := lt_elim h
      refine ca_i (w' := [WX10 cy h0 a0 r5.2, WX7 cy (a0 14) a1 s1]) (rn_V (As := [.int (ga s1 1 p1.toNatClampNeg)]) (rest := []) ⟨hx, hb, hml, hown, hts⟩ (kX10_answer l D cy h0 a0 s0 (ga s1 1 p1.toNatClampNeg) r5 hr5.symm H.size) (cwV 1 hts gX10_seatAt_X10_answer rfl rfl rfl (by decide +kernel) ⟨Nat.le_of_ble_eq_true rfl, Nat.le_of_ble_eq_true rfl⟩) hK hN hP hD [0] rfl rfl (ci := 10) (q0 := 0) rfl rfl rfl rfl hl.1 rfl (Nat.le_of_ble_eq_true rfl) dX10_seatAt_32 ⟨Nat.le_refl 0, Nat.le_refl 0⟩) hP hD hS hA [0] ⟨rfl, rfl, rfl, rfl⟩ (fun H locs hP hD hS => ?_)
      exact hret 35 H locs ls (r5.1, r5.2) (Option.some.inj h) hP hD hS dX10_seatAt_35
    · replace h := (if_neg c3).symm.trans h
      refine lv_aload_n hx hb dX10_seatAt_15 rfl (lv_at hl 0 rfl) ?_
      refine lv_bipush (v := 6) hx hb dX10_seatAt_16 (by decide) ?_
      obtain ⟨r6, hr6, h⟩ := lt_elim h
      refine ca_i (w' := [WX10 cy h0 a0 r6.2, WX7 cy (a0 14) a1 s1]) (rn_V (As := [.int (6 : Int32)]) (rest := []) ⟨hx, hb, hml, hown, hts⟩ (kX10_refuse l D cy h0 a0 s0 (6 : Int32) r6 hr6.symm H.size) (cwV 1 hts gX10_seatAt_X10_refuse rfl rfl rfl (by decide +kernel) ⟨Nat.le_of_ble_eq_true rfl, Nat.le_of_ble_eq_true rfl⟩) hK hN hP hD [0] rfl rfl (ci := 10) (q0 := 0) rfl rfl rfl rfl hl.1 rfl (Nat.le_of_ble_eq_true rfl) dX10_seatAt_18 ⟨Nat.le_refl 0, Nat.le_refl 0⟩) hP hD hS hA [0] ⟨rfl, rfl, rfl, rfl⟩ (fun H locs hP hD hS => ?_)
      exact hret 21 H locs ls (r6.1, r6.2) (Option.some.inj h) hP hD hS dX10_seatAt_21
set_option maxRecDepth 20000 in
theorem ggX10_seats_X10_refuse : GoodIn wsX10_seats wsX10_refuse := goodIn_r _ [7, 8, 39, 40, 41, 42, 43, 44, 45, 46, 47, 48, 49, 50, 51, 52, 53, 54, 55, 56, 57] (by decide +kernel) (by decide +kernel)
set_option maxRecDepth 20000 in
theorem gX10_seats_X10_refuse : GoodIn wsX10_seats (wsV RX10 139 RX10 yX10_refuse wsX10_refuse) := goodIn_app (goodIn_of _ (by decide +kernel)) ggX10_seats_X10_refuse
set_option maxRecDepth 20000 in
theorem ggX10_seats_X7_seat : GoodIn wsX10_seats wsX7_seat := goodIn_r _ [13, 14, 15, 16, 17, 12, 18, 19, 20, 21, 22, 23, 24, 25, 26, 27, 28, 29, 30, 31, 32, 33, 34, 58, 59, 60, 61, 62, 63, 64, 65, 66, 67, 68, 69, 70, 71, 72, 73, 74] (by decide +kernel) (by decide +kernel)
set_option maxRecDepth 20000 in
theorem gX10_seats_X7_seat : GoodIn wsX10_seats (wsV RX10 341 RX7 yX7_seat wsX7_seat) := goodIn_app (goodIn_of _ (by decide +kernel)) ggX10_seats_X7_seat
set_option maxRecDepth 20000 in
theorem ggX10_seats_X10_answer : GoodIn wsX10_seats wsX10_answer := goodIn_r _ [38, 8, 39, 40, 41, 42, 43, 44, 45, 46, 47, 48, 49, 50, 51, 52, 53, 54, 55, 56, 57] (by decide +kernel) (by decide +kernel)
set_option maxRecDepth 20000 in
theorem gX10_seats_X10_answer : GoodIn wsX10_seats (wsV RX10 181 RX10 yX10_answer wsX10_answer) := goodIn_app (goodIn_of _ (by decide +kernel)) ggX10_seats_X10_answer
theorem dX10_seats_0 : decode cX10_seats 0 = .ok (.aload_n 0, 1) := by decide +kernel
theorem dX10_seats_1 : decode cX10_seats 1 = .ok (.getfield 10, 3) := by decide +kernel
theorem dX10_seats_4 : decode cX10_seats 4 = .ok (.getfield 178, 3) := by decide +kernel
theorem dX10_seats_7 : decode cX10_seats 7 = .ok (.ifCond .ne 10, 3) := by decide +kernel
theorem dX10_seats_10 : decode cX10_seats 10 = .ok (.aload_n 0, 1) := by decide +kernel
theorem dX10_seats_11 : decode cX10_seats 11 = .ok (.bipush 6, 2) := by decide +kernel
theorem dX10_seats_13 : decode cX10_seats 13 = .ok (.invokevirtual 139, 3) := by decide +kernel
theorem dX10_seats_16 : decode cX10_seats 16 = .ok (.ireturn, 1) := by decide +kernel
theorem dX10_seats_17 : decode cX10_seats 17 = .ok (.aload_n 0, 1) := by decide +kernel
theorem dX10_seats_18 : decode cX10_seats 18 = .ok (.aload_n 0, 1) := by decide +kernel
theorem dX10_seats_19 : decode cX10_seats 19 = .ok (.getfield 94, 3) := by decide +kernel
theorem dX10_seats_22 : decode cX10_seats 22 = .ok (.aload_n 0, 1) := by decide +kernel
theorem dX10_seats_23 : decode cX10_seats 23 = .ok (.getfield 10, 3) := by decide +kernel
theorem dX10_seats_26 : decode cX10_seats 26 = .ok (.invokevirtual 341, 3) := by decide +kernel
theorem dX10_seats_29 : decode cX10_seats 29 = .ok (.invokevirtual 181, 3) := by decide +kernel
theorem dX10_seats_32 : decode cX10_seats 32 = .ok (.ireturn, 1) := by decide +kernel
abbrev rmX10_seats : Room := { frames := 5, cells := 0, slots := 0, locals := 124 }
set_option maxHeartbeats 4000000 in
set_option maxRecDepth 100000 in
theorem kX10_seats (l : Launch) (D : va_G) (cy : Nat → ClassId) (h0 : Nat) (a0 : Nat → Nat) (a1 : Nat → Nat) (a2 : Nat → Nat) (s0 : Rc) (s1 : Rc) (s2 : Rc) (res : Int32 × Rc × Rc) (h : fX10_seats s0 s1 s2 = some res) : CI l D cy yX10_seats wsX10_seats rmX10_seats [.ref h0] (flat [WX10 cy h0 a0 s0, WX0 cy (a0 0) a1 s1, WX7 cy (a0 14) a2 s2]) (flat [WX10 cy h0 a0 res.2.1, WX0 cy (a0 0) a1 s1, WX7 cy (a0 14) a2 res.2.2]) res.1 := by
  refine CI.of (cc := cX10_seats) (maxL := 1) (by decide) rfl (Nat.le_of_ble_eq_true rfl) ?_
  intro p e s m args below meth c A QQ ls E hr
  obtain ⟨hx, hb, hml, hown, hts, hK, hN, hP, hD, hA, hl⟩ := E
  have hret : ∀ (pc : Nat) (H : Heap) (locs : List Loc) (ls : Array Slot) (u : Int32 × Rc × Rc), u = res → va_P D vwCl (flat [WX10 cy h0 a0 u.2.1, WX0 cy (a0 0) a1 s1, WX7 cy (a0 14) a2 u.2.2]) H → va_D A (flat [WX10 cy h0 a0 u.2.1, WX0 cy (a0 0) a1 s1, WX7 cy (a0 14) a2 u.2.2]) → va_S A s.heap H locs → decode cX10_seats pc = .ok (.ireturn, 1) → W p l e rmX10_seats s m args below meth c H locs 0 0 QQ (F0 m pc ls [.int u.1]) := by
    intro pc H locs ls u hu hP hD hS hd; subst hu; exact hr pc H locs ls _ rfl hP hD hS hd
  clear hr
  have hl : lv_has ls 1 [(0, .ref h0)] := hl
  have hinX0 : ∀ w ∈ wsX00, w ∈ wsX10_seats := fun _ h => List.mem_cons_of_mem _ (List.mem_append_left _ (List.mem_append_right _ h))
  have hinX10 : ∀ w ∈ wsX100, w ∈ wsX10_seats := fun _ h => List.mem_cons_of_mem _ (List.mem_append_left _ (List.mem_append_left _ (List.mem_append_right _ h)))
  unfold fX10_seats at h
  suffices key : ∀ (H : Heap) (locs : List Loc), va_P D vwCl (flat [WX10 cy h0 a0 s0, WX0 cy (a0 0) a1 s1, WX7 cy (a0 14) a2 s2]) H → va_S A s.heap H locs → W p l e rmX10_seats s m args below meth c H locs 0 0 QQ (F0 m 0 ls []) from key _ _ hP va_S.rf
  clear hP
  intro H locs hP hS
  refine lv_aload_n hx hb dX10_seats_0 rfl (lv_at hl 0 rfl) ?_
  refine va_get (D := D) (ci := 10) (v := .ref (a0 0)) (C := RX10) (T := TX10) (N := 19) hx hb hts hinX10 hown hK hP 0 rfl rfl 0 (by decide) (hts (.fieldLink RX10 10 "KneeBench" "bench" "LKneeBench$Bench;") (List.mem_of_getElem? (i := 1) rfl)) (fun _ h9 => h9) rfl dX10_seats_1 ?_
  refine va_getN (D := D) (ci := 0) (v := .int (gi s1 8)) (C := RX0) (T := TX0) (N := 14) hx hb hts hinX0 hown hK hP 1 rfl rfl 8 (by decide) (NW.fld hN 16 rfl _) (fun _ h9 => h9) rfl dX10_seats_4 ?_
  refine lv_if_ne (tgt := 17) hx hb dX10_seats_7 (by decide) (fun c1 => ?_) (fun c1 => ?_)
  · replace h := (if_neg c1).symm.trans h
    refine lv_aload_n hx hb dX10_seats_17 rfl (lv_at hl 0 rfl) ?_
    refine lv_aload_n hx hb dX10_seats_18 rfl (lv_at hl 0 rfl) ?_
    refine va_get (D := D) (ci := 10) (v := .ref (a0 14)) (C := RX10) (T := TX10) (N := 19) hx hb hts hinX10 hown hK hP 0 rfl rfl 14 (by decide) (hts (.fieldLink RX10 94 "KneeBench" "seating" "LKneeBench$Seats;") (List.mem_of_getElem? (i := 2) rfl)) (fun _ h9 => h9) rfl dX10_seats_19 ?_
    refine lv_aload_n hx hb dX10_seats_22 rfl (lv_at hl 0 rfl) ?_
    refine va_get (D := D) (ci := 10) (v := .ref (a0 0)) (C := RX10) (T := TX10) (N := 19) hx hb hts hinX10 hown hK hP 0 rfl rfl 0 (by decide) (hts (.fieldLink RX10 10 "KneeBench" "bench" "LKneeBench$Bench;") (List.mem_of_getElem? (i := 1) rfl)) (fun _ h9 => h9) rfl dX10_seats_23 ?_
    obtain ⟨r2, hr2, h⟩ := bd_elim h
    refine ca_i (w' := [WX10 cy h0 a0 s0, WX0 cy (a0 0) a1 s1, WX7 cy (a0 14) a2 r2.2]) (rn_V (As := [.ref (a0 0)]) (rest := [.ref h0]) ⟨hx, hb, hml, hown, hts⟩ (kX7_seat l D cy (a0 14) (a0 0) a2 a1 s2 s1 r2 hr2 H.size) (cwV 1 hts gX10_seats_X7_seat rfl rfl rfl (by decide +kernel) ⟨Nat.le_of_ble_eq_true rfl, Nat.le_of_ble_eq_true rfl⟩) hK hN hP hD [2, 1] rfl rfl (ci := 7) (q0 := 10) rfl rfl rfl rfl hl.1 rfl (Nat.le_of_ble_eq_true rfl) dX10_seats_26 ⟨Nat.le_refl 0, Nat.le_refl 0⟩) hP hD hS hA [2, 1] ⟨rfl, rfl, rfl, rfl⟩ (fun H locs hP hD hS => ?_)
    obtain ⟨r3, hr3, h⟩ := lt_elim h
    refine ca_i (w' := [WX10 cy h0 a0 r3.2, WX0 cy (a0 0) a1 s1, WX7 cy (a0 14) a2 r2.2]) (rn_V (As := [.int r2.1]) (rest := []) ⟨hx, hb, hml, hown, hts⟩ (kX10_answer l D cy h0 a0 s0 r2.1 r3 hr3.symm H.size) (cwV 1 hts gX10_seats_X10_answer rfl rfl rfl (by decide +kernel) ⟨Nat.le_of_ble_eq_true rfl, Nat.le_of_ble_eq_true rfl⟩) hK hN hP hD [0] rfl rfl (ci := 10) (q0 := 0) rfl rfl rfl rfl hl.1 rfl (Nat.le_of_ble_eq_true rfl) dX10_seats_29 ⟨Nat.le_refl 0, Nat.le_refl 0⟩) hP hD hS hA [0] ⟨rfl, rfl, rfl, rfl⟩ (fun H locs hP hD hS => ?_)
    exact hret 32 H locs ls (r3.1, r3.2, r2.2) (Option.some.inj h) hP hD hS dX10_seats_32
  · replace h := (if_pos c1).symm.trans h
    refine lv_aload_n hx hb dX10_seats_10 rfl (lv_at hl 0 rfl) ?_
    refine lv_bipush (v := 6) hx hb dX10_seats_11 (by decide) ?_
    obtain ⟨r4, hr4, h⟩ := lt_elim h
    refine ca_i (w' := [WX10 cy h0 a0 r4.2, WX0 cy (a0 0) a1 s1, WX7 cy (a0 14) a2 s2]) (rn_V (As := [.int (6 : Int32)]) (rest := []) ⟨hx, hb, hml, hown, hts⟩ (kX10_refuse l D cy h0 a0 s0 (6 : Int32) r4 hr4.symm H.size) (cwV 1 hts gX10_seats_X10_refuse rfl rfl rfl (by decide +kernel) ⟨Nat.le_of_ble_eq_true rfl, Nat.le_of_ble_eq_true rfl⟩) hK hN hP hD [0] rfl rfl (ci := 10) (q0 := 0) rfl rfl rfl rfl hl.1 rfl (Nat.le_of_ble_eq_true rfl) dX10_seats_13 ⟨Nat.le_refl 0, Nat.le_refl 0⟩) hP hD hS hA [0] ⟨rfl, rfl, rfl, rfl⟩ (fun H locs hP hD hS => ?_)
    exact hret 16 H locs ls (r4.1, r4.2, s2) (Option.some.inj h) hP hD hS dX10_seats_16
set_option maxRecDepth 20000 in
theorem ggX10_should_X10_noFarmer : GoodIn wsX10_should wsX10_noFarmer := goodIn_r _ [6, 1, 51, 52, 53, 54, 55, 56, 57, 58, 59, 60, 61, 62, 63, 64, 65, 66, 67, 68, 69, 70, 71, 72, 73, 74, 75, 76, 77, 78, 79, 80, 81, 82, 83] (by decide +kernel) (by decide +kernel)
set_option maxRecDepth 20000 in
theorem gX10_should_X10_noFarmer : GoodIn wsX10_should (wsV RX10 215 RX10 yX10_noFarmer wsX10_noFarmer) := goodIn_app (goodIn_of _ (by decide +kernel)) ggX10_should_X10_noFarmer
set_option maxRecDepth 20000 in
theorem ggX10_should_X10_noDay : GoodIn wsX10_should wsX10_noDay := goodIn_r _ [10, 1, 51, 52, 53, 54, 55, 56, 57, 58, 59, 60, 61, 62, 63, 64, 65, 66, 67, 68, 69, 70, 71, 72, 73, 74, 75, 76, 77, 78, 79, 80, 81, 82, 83] (by decide +kernel) (by decide +kernel)
set_option maxRecDepth 20000 in
theorem gX10_should_X10_noDay : GoodIn wsX10_should (wsV RX10 247 RX10 yX10_noDay wsX10_noDay) := goodIn_app (goodIn_of _ (by decide +kernel)) ggX10_should_X10_noDay
set_option maxRecDepth 20000 in
theorem ggX10_should_X10_refuse : GoodIn wsX10_should wsX10_refuse := goodIn_r _ [14, 15, 51, 52, 53, 54, 55, 56, 57, 58, 59, 60, 61, 62, 63, 64, 65, 66, 67, 68, 69] (by decide +kernel) (by decide +kernel)
set_option maxRecDepth 20000 in
theorem gX10_should_X10_refuse : GoodIn wsX10_should (wsV RX10 139 RX10 yX10_refuse wsX10_refuse) := goodIn_app (goodIn_of _ (by decide +kernel)) ggX10_should_X10_refuse
set_option maxRecDepth 20000 in
theorem ggX10_should_X0_dueDays : GoodIn wsX10_should wsX0_dueDays := goodIn_r _ [20, 21, 22, 23, 24, 19, 25, 26, 27, 28, 29, 30, 31, 32, 33, 5, 34, 35, 36, 37, 38, 39, 40, 41, 42, 43, 44, 45, 46, 70, 71, 72, 73, 74, 75, 76, 77, 78, 79, 80, 81, 82, 83] (by decide +kernel) (by decide +kernel)
set_option maxRecDepth 20000 in
theorem gX10_should_X0_dueDays : GoodIn wsX10_should (wsV RX10 253 RX0 yX0_dueDays wsX0_dueDays) := goodIn_app (goodIn_of _ (by decide +kernel)) ggX10_should_X0_dueDays
set_option maxRecDepth 20000 in
theorem ggX10_should_X10_answer : GoodIn wsX10_should wsX10_answer := goodIn_r _ [50, 15, 51, 52, 53, 54, 55, 56, 57, 58, 59, 60, 61, 62, 63, 64, 65, 66, 67, 68, 69] (by decide +kernel) (by decide +kernel)
set_option maxRecDepth 20000 in
theorem gX10_should_X10_answer : GoodIn wsX10_should (wsV RX10 181 RX10 yX10_answer wsX10_answer) := goodIn_app (goodIn_of _ (by decide +kernel)) ggX10_should_X10_answer
theorem dX10_should_0 : decode cX10_should 0 = .ok (.aload_n 0, 1) := by decide +kernel
theorem dX10_should_1 : decode cX10_should 1 = .ok (.iload_n 1, 1) := by decide +kernel
theorem dX10_should_2 : decode cX10_should 2 = .ok (.invokevirtual 215, 3) := by decide +kernel
theorem dX10_should_5 : decode cX10_should 5 = .ok (.ifCond .ne 11, 3) := by decide +kernel
theorem dX10_should_8 : decode cX10_should 8 = .ok (.aload_n 0, 1) := by decide +kernel
theorem dX10_should_9 : decode cX10_should 9 = .ok (.iload_n 2, 1) := by decide +kernel
theorem dX10_should_10 : decode cX10_should 10 = .ok (.invokevirtual 247, 3) := by decide +kernel
theorem dX10_should_13 : decode cX10_should 13 = .ok (.ifCond .eq 9, 3) := by decide +kernel
theorem dX10_should_16 : decode cX10_should 16 = .ok (.aload_n 0, 1) := by decide +kernel
theorem dX10_should_17 : decode cX10_should 17 = .ok (.iconst 1, 1) := by decide +kernel
theorem dX10_should_18 : decode cX10_should 18 = .ok (.invokevirtual 139, 3) := by decide +kernel
theorem dX10_should_21 : decode cX10_should 21 = .ok (.ireturn, 1) := by decide +kernel
theorem dX10_should_22 : decode cX10_should 22 = .ok (.aload_n 0, 1) := by decide +kernel
theorem dX10_should_23 : decode cX10_should 23 = .ok (.aload_n 0, 1) := by decide +kernel
theorem dX10_should_24 : decode cX10_should 24 = .ok (.getfield 10, 3) := by decide +kernel
theorem dX10_should_27 : decode cX10_should 27 = .ok (.iload_n 1, 1) := by decide +kernel
theorem dX10_should_28 : decode cX10_should 28 = .ok (.invokevirtual 253, 3) := by decide +kernel
theorem dX10_should_31 : decode cX10_should 31 = .ok (.iload_n 2, 1) := by decide +kernel
theorem dX10_should_32 : decode cX10_should 32 = .ok (.lushr, 1) := by decide +kernel
theorem dX10_should_33 : decode cX10_should 33 = .ok (.lconst 1, 1) := by decide +kernel
theorem dX10_should_34 : decode cX10_should 34 = .ok (.land, 1) := by decide +kernel
theorem dX10_should_35 : decode cX10_should 35 = .ok (.l2i, 1) := by decide +kernel
theorem dX10_should_36 : decode cX10_should 36 = .ok (.invokevirtual 181, 3) := by decide +kernel
theorem dX10_should_39 : decode cX10_should 39 = .ok (.ireturn, 1) := by decide +kernel
abbrev rmX10_should : Room := { frames := 3, cells := 0, slots := 0, locals := 63 }
set_option maxHeartbeats 4000000 in
set_option maxRecDepth 100000 in
theorem kX10_should (l : Launch) (D : va_G) (cy : Nat → ClassId) (h0 : Nat) (a0 : Nat → Nat) (a1 : Nat → Nat) (s0 : Rc) (s1 : Rc) (p1 : Int32) (p2 : Int32) (res : Int32 × Rc) (h : fX10_should p1 p2 s0 s1 = some res) : CI l D cy yX10_should wsX10_should rmX10_should [.ref h0, .int p1, .int p2] (flat [WX10 cy h0 a0 s0, WX0 cy (a0 0) a1 s1]) (flat [WX10 cy h0 a0 res.2, WX0 cy (a0 0) a1 s1]) res.1 := by
  refine CI.of (cc := cX10_should) (maxL := 3) (by decide) rfl (Nat.le_of_ble_eq_true rfl) ?_
  intro p e s m args below meth c A QQ ls E hr
  obtain ⟨hx, hb, hml, hown, hts, hK, hN, hP, hD, hA, hl⟩ := E
  have hret : ∀ (pc : Nat) (H : Heap) (locs : List Loc) (ls : Array Slot) (u : Int32 × Rc), u = res → va_P D vwCl (flat [WX10 cy h0 a0 u.2, WX0 cy (a0 0) a1 s1]) H → va_D A (flat [WX10 cy h0 a0 u.2, WX0 cy (a0 0) a1 s1]) → va_S A s.heap H locs → decode cX10_should pc = .ok (.ireturn, 1) → W p l e rmX10_should s m args below meth c H locs 0 0 QQ (F0 m pc ls [.int u.1]) := by
    intro pc H locs ls u hu hP hD hS hd; subst hu; exact hr pc H locs ls _ rfl hP hD hS hd
  clear hr
  have hl : lv_has ls 3 [(0, .ref h0), (1, .int p1), (2, .int p2)] := hl
  have hinX10 : ∀ w ∈ wsX100, w ∈ wsX10_should := fun _ h => List.mem_cons_of_mem _ (List.mem_append_left _ (List.mem_append_right _ h))
  unfold fX10_should at h
  suffices key : ∀ (H : Heap) (locs : List Loc), va_P D vwCl (flat [WX10 cy h0 a0 s0, WX0 cy (a0 0) a1 s1]) H → va_S A s.heap H locs → W p l e rmX10_should s m args below meth c H locs 0 0 QQ (F0 m 0 ls []) from key _ _ hP va_S.rf
  clear hP
  intro H locs hP hS
  refine lv_aload_n hx hb dX10_should_0 rfl (lv_at hl 0 rfl) ?_
  refine lv_iload_n hx hb dX10_should_1 rfl (lv_at hl 1 rfl) ?_
  refine ca_z (w' := [WX10 cy h0 a0 s0, WX0 cy (a0 0) a1 s1]) (rn_V (As := [.int p1]) (rest := []) ⟨hx, hb, hml, hown, hts⟩ (kX10_noFarmer l D cy h0 a0 a1 s0 s1 p1 _ rfl H.size) (cwV 1 hts gX10_should_X10_noFarmer rfl rfl rfl (by decide +kernel) ⟨Nat.le_of_ble_eq_true rfl, Nat.le_of_ble_eq_true rfl⟩) hK hN hP hD [0, 1] rfl rfl (ci := 10) (q0 := 0) rfl rfl rfl rfl hl.1 rfl (Nat.le_of_ble_eq_true rfl) dX10_should_2 ⟨Nat.le_refl 0, Nat.le_refl 0⟩) hP hD hS hA [0, 1] ⟨rfl, rfl, rfl, rfl⟩ (fun b1 H locs hP hD hS => ?_)
  refine lv_if_ne (tgt := 16) hx hb dX10_should_5 (by decide) (fun c2 => ?_) (fun c2 => ?_)
  · replace h := (if_neg c2).symm.trans h
    refine lv_aload_n hx hb dX10_should_16 rfl (lv_at hl 0 rfl) ?_
    refine lv_iconst (v := 1) hx hb dX10_should_17 (by decide) ?_
    obtain ⟨r3, hr3, h⟩ := lt_elim h
    refine ca_i (w' := [WX10 cy h0 a0 r3.2, WX0 cy (a0 0) a1 s1]) (rn_V (As := [.int (1 : Int32)]) (rest := []) ⟨hx, hb, hml, hown, hts⟩ (kX10_refuse l D cy h0 a0 s0 (1 : Int32) r3 hr3.symm H.size) (cwV 1 hts gX10_should_X10_refuse rfl rfl rfl (by decide +kernel) ⟨Nat.le_of_ble_eq_true rfl, Nat.le_of_ble_eq_true rfl⟩) hK hN hP hD [0] rfl rfl (ci := 10) (q0 := 0) rfl rfl rfl rfl hl.1 rfl (Nat.le_of_ble_eq_true rfl) dX10_should_18 ⟨Nat.le_refl 0, Nat.le_refl 0⟩) hP hD hS hA [0] ⟨rfl, rfl, rfl, rfl⟩ (fun H locs hP hD hS => ?_)
    exact hret 21 H locs ls (r3.1, r3.2) (Option.some.inj h) hP hD hS dX10_should_21
  · replace h := (if_pos c2).symm.trans h
    refine lv_aload_n hx hb dX10_should_8 rfl (lv_at hl 0 rfl) ?_
    refine lv_iload_n hx hb dX10_should_9 rfl (lv_at hl 2 rfl) ?_
    refine ca_z (w' := [WX10 cy h0 a0 s0, WX0 cy (a0 0) a1 s1]) (rn_V (As := [.int p2]) (rest := []) ⟨hx, hb, hml, hown, hts⟩ (kX10_noDay l D cy h0 a0 a1 s0 s1 p2 _ rfl H.size) (cwV 1 hts gX10_should_X10_noDay rfl rfl rfl (by decide +kernel) ⟨Nat.le_of_ble_eq_true rfl, Nat.le_of_ble_eq_true rfl⟩) hK hN hP hD [0, 1] rfl rfl (ci := 10) (q0 := 0) rfl rfl rfl rfl hl.1 rfl (Nat.le_of_ble_eq_true rfl) dX10_should_10 ⟨Nat.le_refl 0, Nat.le_refl 0⟩) hP hD hS hA [0, 1] ⟨rfl, rfl, rfl, rfl⟩ (fun b4 H locs hP hD hS => ?_)
    refine lv_if_eq (tgt := 22) hx hb dX10_should_13 (by decide) (fun c5 => ?_) (fun c5 => ?_)
    · replace h := (if_pos c5).symm.trans h
      refine lv_aload_n hx hb dX10_should_22 rfl (lv_at hl 0 rfl) ?_
      refine lv_aload_n hx hb dX10_should_23 rfl (lv_at hl 0 rfl) ?_
      refine va_get (D := D) (ci := 10) (v := .ref (a0 0)) (C := RX10) (T := TX10) (N := 19) hx hb hts hinX10 hown hK hP 0 rfl rfl 0 (by decide) (hts (.fieldLink RX10 10 "KneeBench" "bench" "LKneeBench$Bench;") (List.mem_of_getElem? (i := 1) rfl)) (fun _ h9 => h9) rfl dX10_should_24 ?_
      refine lv_iload_n hx hb dX10_should_27 rfl (lv_at hl 1 rfl) ?_
      obtain ⟨r6, hr6, h⟩ := bd_elim h
      refine ca_l (w' := [WX10 cy h0 a0 s0, WX0 cy (a0 0) a1 s1]) (rn_V (As := [.int p1]) (rest := [.ref h0]) ⟨hx, hb, hml, hown, hts⟩ (kX0_dueDays l D cy (a0 0) a1 s1 p1 r6 hr6 H.size) (cwV 1 hts gX10_should_X0_dueDays rfl rfl rfl (by decide +kernel) ⟨Nat.le_of_ble_eq_true rfl, Nat.le_of_ble_eq_true rfl⟩) hK hN hP hD [1] rfl rfl (ci := 0) (q0 := 1) rfl rfl rfl rfl hl.1 rfl (Nat.le_of_ble_eq_true rfl) dX10_should_28 ⟨Nat.le_refl 0, Nat.le_refl 0⟩) hP hD hS hA [1] ⟨rfl, rfl, rfl, rfl⟩ (fun H locs hP hD hS => ?_)
      refine lv_iload_n hx hb dX10_should_31 rfl (lv_at hl 2 rfl) ?_
      refine lv_lushr hx hb dX10_should_32 rfl ?_
      refine lv_lconst (v := 1) hx hb dX10_should_33 (by decide) ?_
      refine lv_land hx hb dX10_should_34 ?_
      refine lv_l2i hx hb dX10_should_35 rfl ?_
      obtain ⟨r7, hr7, h⟩ := lt_elim h
      refine ca_i (w' := [WX10 cy h0 a0 r7.2, WX0 cy (a0 0) a1 s1]) (rn_V (As := [.int ((((r6.toUInt64 >>> (p2.toInt64.toUInt64 &&& Int64.toUInt64 63)).toInt64) &&& (1 : Int64)).toInt32)]) (rest := []) ⟨hx, hb, hml, hown, hts⟩ (kX10_answer l D cy h0 a0 s0 ((((r6.toUInt64 >>> (p2.toInt64.toUInt64 &&& Int64.toUInt64 63)).toInt64) &&& (1 : Int64)).toInt32) r7 hr7.symm H.size) (cwV 1 hts gX10_should_X10_answer rfl rfl rfl (by decide +kernel) ⟨Nat.le_of_ble_eq_true rfl, Nat.le_of_ble_eq_true rfl⟩) hK hN hP hD [0] rfl rfl (ci := 10) (q0 := 0) rfl rfl rfl rfl hl.1 rfl (Nat.le_of_ble_eq_true rfl) dX10_should_36 ⟨Nat.le_refl 0, Nat.le_refl 0⟩) hP hD hS hA [0] ⟨rfl, rfl, rfl, rfl⟩ (fun H locs hP hD hS => ?_)
      exact hret 39 H locs ls (r7.1, r7.2) (Option.some.inj h) hP hD hS dX10_should_39
    · replace h := (if_neg c5).symm.trans h
      refine lv_aload_n hx hb dX10_should_16 rfl (lv_at hl 0 rfl) ?_
      refine lv_iconst (v := 1) hx hb dX10_should_17 (by decide) ?_
      obtain ⟨r8, hr8, h⟩ := lt_elim h
      refine ca_i (w' := [WX10 cy h0 a0 r8.2, WX0 cy (a0 0) a1 s1]) (rn_V (As := [.int (1 : Int32)]) (rest := []) ⟨hx, hb, hml, hown, hts⟩ (kX10_refuse l D cy h0 a0 s0 (1 : Int32) r8 hr8.symm H.size) (cwV 1 hts gX10_should_X10_refuse rfl rfl rfl (by decide +kernel) ⟨Nat.le_of_ble_eq_true rfl, Nat.le_of_ble_eq_true rfl⟩) hK hN hP hD [0] rfl rfl (ci := 10) (q0 := 0) rfl rfl rfl rfl hl.1 rfl (Nat.le_of_ble_eq_true rfl) dX10_should_18 ⟨Nat.le_refl 0, Nat.le_refl 0⟩) hP hD hS hA [0] ⟨rfl, rfl, rfl, rfl⟩ (fun H locs hP hD hS => ?_)
      exact hret 21 H locs ls (r8.1, r8.2) (Option.some.inj h) hP hD hS dX10_should_21
set_option maxRecDepth 20000 in
theorem ggX10_silent_X0_toldDays : GoodIn wsX10_silent wsX0_toldDays := goodIn_r _ [6, 7, 8, 9, 10, 5, 11, 12, 13, 14, 15, 16, 17, 18, 19, 20, 21, 22, 23, 24, 25, 26, 58, 59, 60, 61, 62, 63, 64, 65, 66, 67, 68, 69, 70, 71] (by decide +kernel) (by decide +kernel)
set_option maxRecDepth 20000 in
theorem gX10_silent_X0_toldDays : GoodIn wsX10_silent (wsV RX10 308 RX0 yX0_toldDays wsX0_toldDays) := goodIn_app (goodIn_of _ (by decide +kernel)) ggX10_silent_X0_toldDays
set_option maxRecDepth 20000 in
theorem ggX10_silent_J13_bitCount_95d88 : GoodIn wsX10_silent wsJ13_bitCount_95d88 := goodIn_r _ [30, 31, 32, 33] (by decide +kernel) (by decide +kernel)
set_option maxRecDepth 20000 in
theorem gX10_silent_J13_bitCount_95d88 : GoodIn wsX10_silent (va_wsS RX10 203 yJ13_bitCount_95d88 wsJ13_bitCount_95d88) := goodIn_app (goodIn_of _ (by decide +kernel)) ggX10_silent_J13_bitCount_95d88
set_option maxRecDepth 20000 in
theorem ggX10_silent_X10_answer : GoodIn wsX10_silent wsX10_answer := goodIn_r _ [37, 38, 39, 40, 41, 42, 43, 44, 45, 46, 47, 48, 49, 50, 51, 52, 53, 54, 55, 56, 57] (by decide +kernel) (by decide +kernel)
set_option maxRecDepth 20000 in
theorem gX10_silent_X10_answer : GoodIn wsX10_silent (wsV RX10 181 RX10 yX10_answer wsX10_answer) := goodIn_app (goodIn_of _ (by decide +kernel)) ggX10_silent_X10_answer
theorem dX10_silent_0 : decode cX10_silent 0 = .ok (.lconst 0, 1) := by decide +kernel
theorem dX10_silent_1 : decode cX10_silent 1 = .ok (.lstore_n 1, 1) := by decide +kernel
theorem dX10_silent_2 : decode cX10_silent 2 = .ok (.iconst 0, 1) := by decide +kernel
theorem dX10_silent_3 : decode cX10_silent 3 = .ok (.istore_n 3, 1) := by decide +kernel
theorem dX10_silent_4 : decode cX10_silent 4 = .ok (.iload_n 3, 1) := by decide +kernel
theorem dX10_silent_5 : decode cX10_silent 5 = .ok (.aload_n 0, 1) := by decide +kernel
theorem dX10_silent_6 : decode cX10_silent 6 = .ok (.getfield 10, 3) := by decide +kernel
theorem dX10_silent_9 : decode cX10_silent 9 = .ok (.getfield 178, 3) := by decide +kernel
theorem dX10_silent_12 : decode cX10_silent 12 = .ok (.if_icmp .ge 20, 3) := by decide +kernel
theorem dX10_silent_15 : decode cX10_silent 15 = .ok (.lload_n 1, 1) := by decide +kernel
theorem dX10_silent_16 : decode cX10_silent 16 = .ok (.aload_n 0, 1) := by decide +kernel
theorem dX10_silent_17 : decode cX10_silent 17 = .ok (.getfield 10, 3) := by decide +kernel
theorem dX10_silent_20 : decode cX10_silent 20 = .ok (.iload_n 3, 1) := by decide +kernel
theorem dX10_silent_21 : decode cX10_silent 21 = .ok (.invokevirtual 308, 3) := by decide +kernel
theorem dX10_silent_24 : decode cX10_silent 24 = .ok (.lor, 1) := by decide +kernel
theorem dX10_silent_25 : decode cX10_silent 25 = .ok (.lstore_n 1, 1) := by decide +kernel
theorem dX10_silent_26 : decode cX10_silent 26 = .ok (.iinc 3 1, 3) := by decide +kernel
theorem dX10_silent_29 : decode cX10_silent 29 = .ok (.goto (-25), 3) := by decide +kernel
theorem dX10_silent_32 : decode cX10_silent 32 = .ok (.aload_n 0, 1) := by decide +kernel
theorem dX10_silent_33 : decode cX10_silent 33 = .ok (.aload_n 0, 1) := by decide +kernel
theorem dX10_silent_34 : decode cX10_silent 34 = .ok (.getfield 10, 3) := by decide +kernel
theorem dX10_silent_37 : decode cX10_silent 37 = .ok (.getfield 197, 3) := by decide +kernel
theorem dX10_silent_40 : decode cX10_silent 40 = .ok (.lload_n 1, 1) := by decide +kernel
theorem dX10_silent_41 : decode cX10_silent 41 = .ok (.invokestatic 203, 3) := by decide +kernel
theorem dX10_silent_44 : decode cX10_silent 44 = .ok (.isub, 1) := by decide +kernel
theorem dX10_silent_45 : decode cX10_silent 45 = .ok (.invokevirtual 181, 3) := by decide +kernel
theorem dX10_silent_48 : decode cX10_silent 48 = .ok (.ireturn, 1) := by decide +kernel
abbrev rmX10_silent : Room := { frames := 3, cells := 0, slots := 0, locals := 62 }
set_option maxHeartbeats 4000000 in
set_option maxRecDepth 100000 in
theorem kX10_silent (l : Launch) (D : va_G) (cy : Nat → ClassId) (h0 : Nat) (a0 : Nat → Nat) (a1 : Nat → Nat) (s0 : Rc) (s1 : Rc) (res : Int32 × Rc) (h : fX10_silent s0 s1 = some res) : CI l D cy yX10_silent wsX10_silent rmX10_silent [.ref h0] (flat [WX10 cy h0 a0 s0, WX0 cy (a0 0) a1 s1]) (flat [WX10 cy h0 a0 res.2, WX0 cy (a0 0) a1 s1]) res.1 := by
  refine CI.of (cc := cX10_silent) (maxL := 4) (by decide) rfl (Nat.le_of_ble_eq_true rfl) ?_
  intro p e s m args below meth c A QQ ls E hr
  obtain ⟨hx, hb, hml, hown, hts, hK, hN, hP, hD, hA, hl⟩ := E
  have hret : ∀ (pc : Nat) (H : Heap) (locs : List Loc) (ls : Array Slot) (u : Int32 × Rc), u = res → va_P D vwCl (flat [WX10 cy h0 a0 u.2, WX0 cy (a0 0) a1 s1]) H → va_D A (flat [WX10 cy h0 a0 u.2, WX0 cy (a0 0) a1 s1]) → va_S A s.heap H locs → decode cX10_silent pc = .ok (.ireturn, 1) → W p l e rmX10_silent s m args below meth c H locs 0 0 QQ (F0 m pc ls [.int u.1]) := by
    intro pc H locs ls u hu hP hD hS hd; subst hu; exact hr pc H locs ls _ rfl hP hD hS hd
  clear hr
  have hl : lv_has ls 4 [(0, .ref h0)] := hl
  have hinX0 : ∀ w ∈ wsX00, w ∈ wsX10_silent := fun _ h => List.mem_cons_of_mem _ (List.mem_append_right _ h)
  have hinX10 : ∀ w ∈ wsX100, w ∈ wsX10_silent := fun _ h => List.mem_cons_of_mem _ (List.mem_append_left _ (List.mem_append_right _ h))
  unfold fX10_silent at h
  suffices key : ∀ (H : Heap) (locs : List Loc), va_P D vwCl (flat [WX10 cy h0 a0 s0, WX0 cy (a0 0) a1 s1]) H → va_S A s.heap H locs → W p l e rmX10_silent s m args below meth c H locs 0 0 QQ (F0 m 0 ls []) from key _ _ hP va_S.rf
  clear hP
  intro H locs hP hS
  refine lv_lconst (v := 0) hx hb dX10_silent_0 (by decide) ?_
  refine lv_lstore_n (lv' := [(1, .long (0 : Int64)), (0, .ref h0)]) hx hb dX10_silent_1 rfl hl (by decide) rfl (fun ls hl => ?_)
  refine lv_iconst (v := 0) hx hb dX10_silent_2 (by decide) ?_
  refine lv_istore_n (lv' := [(3, .int (0 : Int32)), (1, .long (0 : Int64)), (0, .ref h0)]) hx hb dX10_silent_3 rfl hl (by decide) rfl (fun ls hl => ?_)
  have L4 : ∀ (n : Nat) (q4 : Int64 × Int32) (o : Int64), loopO (fX10_silent_L4 s1) n q4 = some o → ∀ (H : Heap) (locs : List Loc) (ls : Array Slot), lv_has ls 4 [(0, .ref h0), (1, .long q4.1), (3, .int q4.2)] → va_P D vwCl (flat [WX10 cy h0 a0 s0, WX0 cy (a0 0) a1 s1]) H → va_D A (flat [WX10 cy h0 a0 s0, WX0 cy (a0 0) a1 s1]) → va_S A s.heap H locs → ∀ (kk32 : ∀ (H : Heap) (locs : List Loc) (ls : Array Slot), lv_has ls 4 [(0, .ref h0), (1, .long o)] → va_P D vwCl (flat [WX10 cy h0 a0 s0, WX0 cy (a0 0) a1 s1]) H → va_D A (flat [WX10 cy h0 a0 s0, WX0 cy (a0 0) a1 s1]) → va_S A s.heap H locs → W p l e rmX10_silent s m args below meth c H locs 0 0 QQ (F0 m 32 ls [])), W p l e rmX10_silent s m args below meth c H locs 0 0 QQ (F0 m 4 ls []) := by
    intro n
    induction n with
    | zero => intro q4 o h; exact absurd h (by rw [loopO_zero]; intro z; cases z)
    | succ n ih =>
      intro q4 o h H locs ls hl hP hD hS kk32
      obtain ⟨w, h, hgo, hst⟩ := loopO_elim h
      unfold fX10_silent_L4 at h
      refine lv_iload_n hx hb dX10_silent_4 rfl (lv_at hl 2 rfl) ?_
      refine lv_aload_n hx hb dX10_silent_5 rfl (lv_at hl 0 rfl) ?_
      refine va_get (D := D) (ci := 10) (v := .ref (a0 0)) (C := RX10) (T := TX10) (N := 19) hx hb hts hinX10 hown hK hP 0 rfl rfl 0 (by decide) (hts (.fieldLink RX10 10 "KneeBench" "bench" "LKneeBench$Bench;") (List.mem_of_getElem? (i := 1) rfl)) (fun _ h9 => h9) rfl dX10_silent_6 ?_
      refine va_getN (D := D) (ci := 0) (v := .int (gi s1 8)) (C := RX0) (T := TX0) (N := 14) hx hb hts hinX0 hown hK hP 1 rfl rfl 8 (by decide) (NW.fld hN 16 rfl _) (fun _ h9 => h9) rfl dX10_silent_9 ?_
      refine lv_icmp_ge (tgt := 32) hx hb dX10_silent_12 (by decide) (fun c1 => ?_) (fun c1 => ?_)
      · replace h := (if_pos c1).symm.trans h
        have eo := hst _ (Option.some.inj h).symm
        subst eo
        exact kk32 H locs ls (lv_sub hl [0, 1] rfl) hP hD hS
      · replace h := (if_neg c1).symm.trans h
        refine lv_lload_n hx hb dX10_silent_15 rfl (lv_at hl 1 rfl) ?_
        refine lv_aload_n hx hb dX10_silent_16 rfl (lv_at hl 0 rfl) ?_
        refine va_get (D := D) (ci := 10) (v := .ref (a0 0)) (C := RX10) (T := TX10) (N := 19) hx hb hts hinX10 hown hK hP 0 rfl rfl 0 (by decide) (hts (.fieldLink RX10 10 "KneeBench" "bench" "LKneeBench$Bench;") (List.mem_of_getElem? (i := 1) rfl)) (fun _ h9 => h9) rfl dX10_silent_17 ?_
        refine lv_iload_n hx hb dX10_silent_20 rfl (lv_at hl 2 rfl) ?_
        obtain ⟨r2, hr2, h⟩ := bd_elim h
        refine ca_l (w' := [WX10 cy h0 a0 s0, WX0 cy (a0 0) a1 s1]) (rn_V (As := [.int q4.2]) (rest := [.long q4.1]) ⟨hx, hb, hml, hown, hts⟩ (kX0_toldDays l D cy (a0 0) a1 s1 q4.2 r2 hr2 H.size) (cwV 1 hts gX10_silent_X0_toldDays rfl rfl rfl (by decide +kernel) ⟨Nat.le_of_ble_eq_true rfl, Nat.le_of_ble_eq_true rfl⟩) hK hN hP hD [1] rfl rfl (ci := 0) (q0 := 1) rfl rfl rfl rfl hl.1 rfl (Nat.le_of_ble_eq_true rfl) dX10_silent_21 ⟨Nat.le_refl 0, Nat.le_refl 0⟩) hP hD hS hA [1] ⟨rfl, rfl, rfl, rfl⟩ (fun H locs hP hD hS => ?_)
        refine lv_lor hx hb dX10_silent_24 ?_
        refine lv_topl (fun x3 ex3 => ?_)
        replace h := lt_use h x3 ex3
        refine lv_lstore_n (lv' := [(1, .long x3), (0, .ref h0), (3, .int q4.2)]) hx hb dX10_silent_25 rfl hl (by decide) rfl (fun ls hl => ?_)
        refine lv_iinc (v := (q4.2 + (1 : Int32))) (lv' := [(3, .int (q4.2 + (1 : Int32))), (1, .long x3), (0, .ref h0)]) hx hb dX10_silent_26 hl (k := 2) rfl rfl (by decide) rfl (fun ls hl => ?_)
        refine lv_goto (tgt := 4) hx hb dX10_silent_29 (by decide) ?_
        exact ih _ o (hgo _ (Option.some.inj h).symm) H locs ls (lv_sub hl [2, 1, 0] rfl) hP hD hS kk32
  obtain ⟨o4, ho4, h⟩ := bd_elim h
  obtain ⟨n4, hn4⟩ := loopF_some ho4
  refine L4 n4 _ o4 hn4 H locs ls (lv_sub hl [2, 1, 0] rfl) hP hD hS (fun H locs ls hl hP hD hS => ?_)
  refine lv_aload_n hx hb dX10_silent_32 rfl (lv_at hl 0 rfl) ?_
  refine lv_aload_n hx hb dX10_silent_33 rfl (lv_at hl 0 rfl) ?_
  refine va_get (D := D) (ci := 10) (v := .ref (a0 0)) (C := RX10) (T := TX10) (N := 19) hx hb hts hinX10 hown hK hP 0 rfl rfl 0 (by decide) (hts (.fieldLink RX10 10 "KneeBench" "bench" "LKneeBench$Bench;") (List.mem_of_getElem? (i := 1) rfl)) (fun _ h9 => h9) rfl dX10_silent_34 ?_
  refine va_getN (D := D) (ci := 0) (v := .int (gi s1 9)) (C := RX0) (T := TX0) (N := 14) hx hb hts hinX0 hown hK hP 1 rfl rfl 9 (by decide) (NW.fld hN 19 rfl _) (fun _ h9 => h9) rfl dX10_silent_37 ?_
  refine lv_lload_n hx hb dX10_silent_40 rfl (lv_at hl 1 rfl) ?_
  refine ca_i (w' := [WX10 cy h0 a0 s0, WX0 cy (a0 0) a1 s1]) (rn_S (As := [.long o4]) (rest := [.int (gi s1 9), .ref h0]) ⟨hx, hb, hml, hown, hts⟩ (kJ13_bitCount_95d88 l D cy o4 _ rfl H.size) (va_cwS 1 hts gX10_silent_J13_bitCount_95d88 rfl rfl rfl (by decide +kernel) ⟨Nat.le_of_ble_eq_true rfl, Nat.le_of_ble_eq_true rfl⟩) hK hN hP hD [] rfl rfl rfl hl.1 rfl (Nat.le_of_ble_eq_true rfl) dX10_silent_41 ⟨Nat.le_refl 0, Nat.le_refl 0⟩) hP hD hS hA [] ⟨rfl, rfl, rfl, rfl⟩ (fun H locs hP hD hS => ?_)
  refine lv_isub hx hb dX10_silent_44 ?_
  obtain ⟨r4, hr4, h⟩ := lt_elim h
  refine ca_i (w' := [WX10 cy h0 a0 r4.2, WX0 cy (a0 0) a1 s1]) (rn_V (As := [.int ((gi s1 9) - (fJ13_bitCount_95d88 o4))]) (rest := []) ⟨hx, hb, hml, hown, hts⟩ (kX10_answer l D cy h0 a0 s0 ((gi s1 9) - (fJ13_bitCount_95d88 o4)) r4 hr4.symm H.size) (cwV 1 hts gX10_silent_X10_answer rfl rfl rfl (by decide +kernel) ⟨Nat.le_of_ble_eq_true rfl, Nat.le_of_ble_eq_true rfl⟩) hK hN hP hD [0] rfl rfl (ci := 10) (q0 := 0) rfl rfl rfl rfl hl.1 rfl (Nat.le_of_ble_eq_true rfl) dX10_silent_45 ⟨Nat.le_refl 0, Nat.le_refl 0⟩) hP hD hS hA [0] ⟨rfl, rfl, rfl, rfl⟩ (fun H locs hP hD hS => ?_)
  exact hret 48 H locs ls (r4.1, r4.2) (Option.some.inj h) hP hD hS dX10_silent_48
set_option maxRecDepth 20000 in
theorem ggX10_span_X10_noSpan : GoodIn wsX10_span wsX10_noSpan := goodIn_r _ [5, 6, 7, 4, 8, 9, 10, 11] (by decide +kernel) (by decide +kernel)
set_option maxRecDepth 20000 in
theorem gX10_span_X10_noSpan : GoodIn wsX10_span (va_wsS RX10 335 yX10_noSpan wsX10_noSpan) := goodIn_app (goodIn_of _ (by decide +kernel)) ggX10_span_X10_noSpan
set_option maxRecDepth 20000 in
theorem ggX10_span_X10_refuse : GoodIn wsX10_span wsX10_refuse := goodIn_r _ [15, 16, 70, 71, 72, 73, 74, 75, 76, 77, 78, 79, 80, 81, 82, 83, 84, 85, 86, 87, 88] (by decide +kernel) (by decide +kernel)
set_option maxRecDepth 20000 in
theorem gX10_span_X10_refuse : GoodIn wsX10_span (wsV RX10 139 RX10 yX10_refuse wsX10_refuse) := goodIn_app (goodIn_of _ (by decide +kernel)) ggX10_span_X10_refuse
set_option maxRecDepth 20000 in
theorem ggX10_span_X0_verdictOf : GoodIn wsX10_span wsX0_verdictOf := goodIn_r _ [21, 22, 23, 24, 25, 20, 26, 27, 28, 29, 30, 31, 32, 33, 34, 35, 36, 37, 38, 39, 40, 41, 42, 43, 44, 45, 46, 47, 48, 49, 50, 51, 52, 53, 54, 55, 56, 57, 58, 59, 4, 60, 61, 62, 63, 64, 65, 89, 90, 91, 92, 93, 94, 95, 96, 97, 98, 99, 100, 101, 102] (by decide +kernel) (by decide +kernel)
set_option maxRecDepth 20000 in
theorem gX10_span_X0_verdictOf : GoodIn wsX10_span (wsV RX10 293 RX0 yX0_verdictOf wsX0_verdictOf) := goodIn_app (goodIn_of _ (by decide +kernel)) ggX10_span_X0_verdictOf
set_option maxRecDepth 20000 in
theorem ggX10_span_X10_answer : GoodIn wsX10_span wsX10_answer := goodIn_r _ [69, 16, 70, 71, 72, 73, 74, 75, 76, 77, 78, 79, 80, 81, 82, 83, 84, 85, 86, 87, 88] (by decide +kernel) (by decide +kernel)
set_option maxRecDepth 20000 in
theorem gX10_span_X10_answer : GoodIn wsX10_span (wsV RX10 181 RX10 yX10_answer wsX10_answer) := goodIn_app (goodIn_of _ (by decide +kernel)) ggX10_span_X10_answer
theorem dX10_span_0 : decode cX10_span 0 = .ok (.iload_n 1, 1) := by decide +kernel
theorem dX10_span_1 : decode cX10_span 1 = .ok (.iload_n 2, 1) := by decide +kernel
theorem dX10_span_2 : decode cX10_span 2 = .ok (.invokestatic 335, 3) := by decide +kernel
theorem dX10_span_5 : decode cX10_span 5 = .ok (.ifCond .eq 9, 3) := by decide +kernel
theorem dX10_span_8 : decode cX10_span 8 = .ok (.aload_n 0, 1) := by decide +kernel
theorem dX10_span_9 : decode cX10_span 9 = .ok (.iconst 1, 1) := by decide +kernel
theorem dX10_span_10 : decode cX10_span 10 = .ok (.invokevirtual 139, 3) := by decide +kernel
theorem dX10_span_13 : decode cX10_span 13 = .ok (.ireturn, 1) := by decide +kernel
theorem dX10_span_14 : decode cX10_span 14 = .ok (.iconst 0, 1) := by decide +kernel
theorem dX10_span_15 : decode cX10_span 15 = .ok (.istore_n 3, 1) := by decide +kernel
theorem dX10_span_16 : decode cX10_span 16 = .ok (.iload_n 1, 1) := by decide +kernel
theorem dX10_span_17 : decode cX10_span 17 = .ok (.istore 4, 2) := by decide +kernel
theorem dX10_span_19 : decode cX10_span 19 = .ok (.iload 4, 2) := by decide +kernel
theorem dX10_span_21 : decode cX10_span 21 = .ok (.iload_n 2, 1) := by decide +kernel
theorem dX10_span_22 : decode cX10_span 22 = .ok (.if_icmp .gt 25, 3) := by decide +kernel
theorem dX10_span_25 : decode cX10_span 25 = .ok (.aload_n 0, 1) := by decide +kernel
theorem dX10_span_26 : decode cX10_span 26 = .ok (.getfield 10, 3) := by decide +kernel
theorem dX10_span_29 : decode cX10_span 29 = .ok (.iload 4, 2) := by decide +kernel
theorem dX10_span_31 : decode cX10_span 31 = .ok (.invokevirtual 293, 3) := by decide +kernel
theorem dX10_span_34 : decode cX10_span 34 = .ok (.iconst 1, 1) := by decide +kernel
theorem dX10_span_35 : decode cX10_span 35 = .ok (.if_icmp .ne 6, 3) := by decide +kernel
theorem dX10_span_38 : decode cX10_span 38 = .ok (.iinc 3 1, 3) := by decide +kernel
theorem dX10_span_41 : decode cX10_span 41 = .ok (.iinc 4 1, 3) := by decide +kernel
theorem dX10_span_44 : decode cX10_span 44 = .ok (.goto (-25), 3) := by decide +kernel
theorem dX10_span_47 : decode cX10_span 47 = .ok (.aload_n 0, 1) := by decide +kernel
theorem dX10_span_48 : decode cX10_span 48 = .ok (.iload_n 3, 1) := by decide +kernel
theorem dX10_span_49 : decode cX10_span 49 = .ok (.invokevirtual 181, 3) := by decide +kernel
theorem dX10_span_52 : decode cX10_span 52 = .ok (.ireturn, 1) := by decide +kernel
abbrev rmX10_span : Room := { frames := 4, cells := 0, slots := 0, locals := 89 }
set_option maxHeartbeats 4000000 in
set_option maxRecDepth 100000 in
theorem kX10_span (l : Launch) (D : va_G) (cy : Nat → ClassId) (h0 : Nat) (a0 : Nat → Nat) (a1 : Nat → Nat) (s0 : Rc) (s1 : Rc) (p1 : Int32) (p2 : Int32) (res : Int32 × Rc) (h : fX10_span p1 p2 s0 s1 = some res) : CI l D cy yX10_span wsX10_span rmX10_span [.ref h0, .int p1, .int p2] (flat [WX10 cy h0 a0 s0, WX0 cy (a0 0) a1 s1]) (flat [WX10 cy h0 a0 res.2, WX0 cy (a0 0) a1 s1]) res.1 := by
  refine CI.of (cc := cX10_span) (maxL := 5) (by decide) rfl (Nat.le_of_ble_eq_true rfl) ?_
  intro p e s m args below meth c A QQ ls E hr
  obtain ⟨hx, hb, hml, hown, hts, hK, hN, hP, hD, hA, hl⟩ := E
  have hret : ∀ (pc : Nat) (H : Heap) (locs : List Loc) (ls : Array Slot) (u : Int32 × Rc), u = res → va_P D vwCl (flat [WX10 cy h0 a0 u.2, WX0 cy (a0 0) a1 s1]) H → va_D A (flat [WX10 cy h0 a0 u.2, WX0 cy (a0 0) a1 s1]) → va_S A s.heap H locs → decode cX10_span pc = .ok (.ireturn, 1) → W p l e rmX10_span s m args below meth c H locs 0 0 QQ (F0 m pc ls [.int u.1]) := by
    intro pc H locs ls u hu hP hD hS hd; subst hu; exact hr pc H locs ls _ rfl hP hD hS hd
  clear hr
  have hl : lv_has ls 5 [(0, .ref h0), (1, .int p1), (2, .int p2)] := hl
  have hinX10 : ∀ w ∈ wsX100, w ∈ wsX10_span := fun _ h => List.mem_cons_of_mem _ (List.mem_append_left _ (List.mem_append_right _ h))
  unfold fX10_span at h
  suffices key : ∀ (H : Heap) (locs : List Loc), va_P D vwCl (flat [WX10 cy h0 a0 s0, WX0 cy (a0 0) a1 s1]) H → va_S A s.heap H locs → W p l e rmX10_span s m args below meth c H locs 0 0 QQ (F0 m 0 ls []) from key _ _ hP va_S.rf
  clear hP
  intro H locs hP hS
  refine lv_iload_n hx hb dX10_span_0 rfl (lv_at hl 1 rfl) ?_
  refine lv_iload_n hx hb dX10_span_1 rfl (lv_at hl 2 rfl) ?_
  refine ca_z (w' := [WX10 cy h0 a0 s0, WX0 cy (a0 0) a1 s1]) (rn_S (As := [.int p1, .int p2]) (rest := []) ⟨hx, hb, hml, hown, hts⟩ (kX10_noSpan l D cy p1 p2 _ rfl H.size) (va_cwS 2 hts gX10_span_X10_noSpan rfl rfl rfl (by decide +kernel) ⟨Nat.le_of_ble_eq_true rfl, Nat.le_of_ble_eq_true rfl⟩) hK hN hP hD [] rfl rfl rfl hl.1 rfl (Nat.le_of_ble_eq_true rfl) dX10_span_2 ⟨Nat.le_refl 0, Nat.le_refl 0⟩) hP hD hS hA [] ⟨rfl, rfl, rfl, rfl⟩ (fun b1 H locs hP hD hS => ?_)
  refine lv_if_eq (tgt := 14) hx hb dX10_span_5 (by decide) (fun c2 => ?_) (fun c2 => ?_)
  · replace h := (if_pos c2).symm.trans h
    refine lv_iconst (v := 0) hx hb dX10_span_14 (by decide) ?_
    refine lv_istore_n (lv' := [(3, .int (0 : Int32)), (0, .ref h0), (1, .int p1), (2, .int p2)]) hx hb dX10_span_15 rfl hl (by decide) rfl (fun ls hl => ?_)
    refine lv_iload_n hx hb dX10_span_16 rfl (lv_at hl 2 rfl) ?_
    refine lv_istore (lv' := [(4, .int p1), (3, .int (0 : Int32)), (0, .ref h0), (1, .int p1), (2, .int p2)]) hx hb dX10_span_17 hl (by decide) rfl (fun ls hl => ?_)
    have L19 : ∀ (n : Nat) (q19 : Int32 × Int32) (o : Int32), loopO (fX10_span_L19 p2 s1) n q19 = some o → ∀ (H : Heap) (locs : List Loc) (ls : Array Slot), lv_has ls 5 [(0, .ref h0), (2, .int p2), (3, .int q19.1), (4, .int q19.2)] → va_P D vwCl (flat [WX10 cy h0 a0 s0, WX0 cy (a0 0) a1 s1]) H → va_D A (flat [WX10 cy h0 a0 s0, WX0 cy (a0 0) a1 s1]) → va_S A s.heap H locs → ∀ (kk47 : ∀ (H : Heap) (locs : List Loc) (ls : Array Slot), lv_has ls 5 [(0, .ref h0), (3, .int o)] → va_P D vwCl (flat [WX10 cy h0 a0 s0, WX0 cy (a0 0) a1 s1]) H → va_D A (flat [WX10 cy h0 a0 s0, WX0 cy (a0 0) a1 s1]) → va_S A s.heap H locs → W p l e rmX10_span s m args below meth c H locs 0 0 QQ (F0 m 47 ls [])), W p l e rmX10_span s m args below meth c H locs 0 0 QQ (F0 m 19 ls []) := by
      intro n
      induction n with
      | zero => intro q19 o h; exact absurd h (by rw [loopO_zero]; intro z; cases z)
      | succ n ih =>
        intro q19 o h H locs ls hl hP hD hS kk47
        obtain ⟨w, h, hgo, hst⟩ := loopO_elim h
        unfold fX10_span_L19 at h
        refine lv_iload hx hb dX10_span_19 (lv_at hl 3 rfl) ?_
        refine lv_iload_n hx hb dX10_span_21 rfl (lv_at hl 1 rfl) ?_
        refine lv_icmp_gt (tgt := 47) hx hb dX10_span_22 (by decide) (fun c3 => ?_) (fun c3 => ?_)
        · replace h := (if_pos c3).symm.trans h
          have eo := hst _ (Option.some.inj h).symm
          subst eo
          exact kk47 H locs ls (lv_sub hl [0, 2] rfl) hP hD hS
        · replace h := (if_neg c3).symm.trans h
          refine lv_aload_n hx hb dX10_span_25 rfl (lv_at hl 0 rfl) ?_
          refine va_get (D := D) (ci := 10) (v := .ref (a0 0)) (C := RX10) (T := TX10) (N := 19) hx hb hts hinX10 hown hK hP 0 rfl rfl 0 (by decide) (hts (.fieldLink RX10 10 "KneeBench" "bench" "LKneeBench$Bench;") (List.mem_of_getElem? (i := 1) rfl)) (fun _ h9 => h9) rfl dX10_span_26 ?_
          refine lv_iload hx hb dX10_span_29 (lv_at hl 3 rfl) ?_
          obtain ⟨r4, hr4, h⟩ := bd_elim h
          refine ca_i (w' := [WX10 cy h0 a0 s0, WX0 cy (a0 0) a1 s1]) (rn_V (As := [.int q19.2]) (rest := []) ⟨hx, hb, hml, hown, hts⟩ (kX0_verdictOf l D cy (a0 0) a1 s1 q19.2 r4 hr4 H.size) (cwV 1 hts gX10_span_X0_verdictOf rfl rfl rfl (by decide +kernel) ⟨Nat.le_of_ble_eq_true rfl, Nat.le_of_ble_eq_true rfl⟩) hK hN hP hD [1] rfl rfl (ci := 0) (q0 := 1) rfl rfl rfl rfl hl.1 rfl (Nat.le_of_ble_eq_true rfl) dX10_span_31 ⟨Nat.le_refl 0, Nat.le_refl 0⟩) hP hD hS hA [1] ⟨rfl, rfl, rfl, rfl⟩ (fun H locs hP hD hS => ?_)
          refine lv_iconst (v := 1) hx hb dX10_span_34 (by decide) ?_
          refine lv_icmp_ne (tgt := 41) hx hb dX10_span_35 (by decide) (fun c5 => ?_) (fun c5 => ?_)
          · replace h := (if_neg c5).symm.trans h
            refine lv_iinc (v := (q19.2 + (1 : Int32))) (lv' := [(4, .int (q19.2 + (1 : Int32))), (0, .ref h0), (2, .int p2), (3, .int q19.1)]) hx hb dX10_span_41 hl (k := 3) rfl rfl (by decide) rfl (fun ls hl => ?_)
            refine lv_goto (tgt := 19) hx hb dX10_span_44 (by decide) ?_
            exact ih _ o (hgo _ (Option.some.inj h).symm) H locs ls (lv_sub hl [1, 2, 3, 0] rfl) hP hD hS kk47
          · replace h := (if_pos c5).symm.trans h
            refine lv_iinc (v := (q19.1 + (1 : Int32))) (lv' := [(3, .int (q19.1 + (1 : Int32))), (0, .ref h0), (2, .int p2), (4, .int q19.2)]) hx hb dX10_span_38 hl (k := 2) rfl rfl (by decide) rfl (fun ls hl => ?_)
            refine lv_iinc (v := (q19.2 + (1 : Int32))) (lv' := [(4, .int (q19.2 + (1 : Int32))), (3, .int (q19.1 + (1 : Int32))), (0, .ref h0), (2, .int p2)]) hx hb dX10_span_41 hl (k := 3) rfl rfl (by decide) rfl (fun ls hl => ?_)
            refine lv_goto (tgt := 19) hx hb dX10_span_44 (by decide) ?_
            exact ih _ o (hgo _ (Option.some.inj h).symm) H locs ls (lv_sub hl [2, 3, 1, 0] rfl) hP hD hS kk47
    obtain ⟨o19, ho19, h⟩ := bd_elim h
    obtain ⟨n19, hn19⟩ := loopF_some ho19
    refine L19 n19 _ o19 hn19 H locs ls (lv_sub hl [2, 4, 1, 0] rfl) hP hD hS (fun H locs ls hl hP hD hS => ?_)
    refine lv_aload_n hx hb dX10_span_47 rfl (lv_at hl 0 rfl) ?_
    refine lv_iload_n hx hb dX10_span_48 rfl (lv_at hl 1 rfl) ?_
    obtain ⟨r6, hr6, h⟩ := lt_elim h
    refine ca_i (w' := [WX10 cy h0 a0 r6.2, WX0 cy (a0 0) a1 s1]) (rn_V (As := [.int o19]) (rest := []) ⟨hx, hb, hml, hown, hts⟩ (kX10_answer l D cy h0 a0 s0 o19 r6 hr6.symm H.size) (cwV 1 hts gX10_span_X10_answer rfl rfl rfl (by decide +kernel) ⟨Nat.le_of_ble_eq_true rfl, Nat.le_of_ble_eq_true rfl⟩) hK hN hP hD [0] rfl rfl (ci := 10) (q0 := 0) rfl rfl rfl rfl hl.1 rfl (Nat.le_of_ble_eq_true rfl) dX10_span_49 ⟨Nat.le_refl 0, Nat.le_refl 0⟩) hP hD hS hA [0] ⟨rfl, rfl, rfl, rfl⟩ (fun H locs hP hD hS => ?_)
    exact hret 52 H locs ls (r6.1, r6.2) (Option.some.inj h) hP hD hS dX10_span_52
  · replace h := (if_neg c2).symm.trans h
    refine lv_aload_n hx hb dX10_span_8 rfl (lv_at hl 0 rfl) ?_
    refine lv_iconst (v := 1) hx hb dX10_span_9 (by decide) ?_
    obtain ⟨r7, hr7, h⟩ := lt_elim h
    refine ca_i (w' := [WX10 cy h0 a0 r7.2, WX0 cy (a0 0) a1 s1]) (rn_V (As := [.int (1 : Int32)]) (rest := []) ⟨hx, hb, hml, hown, hts⟩ (kX10_refuse l D cy h0 a0 s0 (1 : Int32) r7 hr7.symm H.size) (cwV 1 hts gX10_span_X10_refuse rfl rfl rfl (by decide +kernel) ⟨Nat.le_of_ble_eq_true rfl, Nat.le_of_ble_eq_true rfl⟩) hK hN hP hD [0] rfl rfl (ci := 10) (q0 := 0) rfl rfl rfl rfl hl.1 rfl (Nat.le_of_ble_eq_true rfl) dX10_span_10 ⟨Nat.le_refl 0, Nat.le_refl 0⟩) hP hD hS hA [0] ⟨rfl, rfl, rfl, rfl⟩ (fun H locs hP hD hS => ?_)
    exact hret 13 H locs ls (r7.1, r7.2) (Option.some.inj h) hP hD hS dX10_span_13
set_option maxRecDepth 20000 in
theorem ggX10_spell_X10_outside : GoodIn wsX10_spell wsX10_outside := goodIn_r _ [6] (by decide +kernel) (by decide +kernel)
set_option maxRecDepth 20000 in
theorem gX10_spell_X10_outside : GoodIn wsX10_spell (va_wsS RX10 116 yX10_outside wsX10_outside) := goodIn_app (goodIn_of _ (by decide +kernel)) ggX10_spell_X10_outside
set_option maxRecDepth 20000 in
theorem ggX10_spell_X10_refuse : GoodIn wsX10_spell wsX10_refuse := goodIn_r _ [10, 11, 27, 28, 29, 30, 31, 32, 33, 34, 35, 36, 37, 38, 39, 40, 41, 42, 43, 44, 45] (by decide +kernel) (by decide +kernel)
set_option maxRecDepth 20000 in
theorem gX10_spell_X10_refuse : GoodIn wsX10_spell (wsV RX10 139 RX10 yX10_refuse wsX10_refuse) := goodIn_app (goodIn_of _ (by decide +kernel)) ggX10_spell_X10_refuse
set_option maxRecDepth 20000 in
theorem ggX10_spell_X0_daysThere : GoodIn wsX10_spell wsX0_daysThere := goodIn_r _ [16, 17, 18, 5, 19, 46, 47, 48, 49, 50, 51, 52, 53, 54, 55, 56, 57, 58, 59] (by decide +kernel) (by decide +kernel)
set_option maxRecDepth 20000 in
theorem gX10_spell_X0_daysThere : GoodIn wsX10_spell (wsV RX10 359 RX0 yX0_daysThere wsX0_daysThere) := goodIn_app (goodIn_of _ (by decide +kernel)) ggX10_spell_X0_daysThere
set_option maxRecDepth 20000 in
theorem ggX10_spell_X10_longestRow : GoodIn wsX10_spell wsX10_longestRow := goodIn_r _ [22] (by decide +kernel) (by decide +kernel)
set_option maxRecDepth 20000 in
theorem gX10_spell_X10_longestRow : GoodIn wsX10_spell (va_wsS RX10 363 yX10_longestRow wsX10_longestRow) := goodIn_app (goodIn_of _ (by decide +kernel)) ggX10_spell_X10_longestRow
set_option maxRecDepth 20000 in
theorem ggX10_spell_X10_answer : GoodIn wsX10_spell wsX10_answer := goodIn_r _ [26, 11, 27, 28, 29, 30, 31, 32, 33, 34, 35, 36, 37, 38, 39, 40, 41, 42, 43, 44, 45] (by decide +kernel) (by decide +kernel)
set_option maxRecDepth 20000 in
theorem gX10_spell_X10_answer : GoodIn wsX10_spell (wsV RX10 181 RX10 yX10_answer wsX10_answer) := goodIn_app (goodIn_of _ (by decide +kernel)) ggX10_spell_X10_answer
theorem dX10_spell_0 : decode cX10_spell 0 = .ok (.iload_n 1, 1) := by decide +kernel
theorem dX10_spell_1 : decode cX10_spell 1 = .ok (.iconst 0, 1) := by decide +kernel
theorem dX10_spell_2 : decode cX10_spell 2 = .ok (.iconst 1, 1) := by decide +kernel
theorem dX10_spell_3 : decode cX10_spell 3 = .ok (.invokestatic 116, 3) := by decide +kernel
theorem dX10_spell_6 : decode cX10_spell 6 = .ok (.ifCond .eq 9, 3) := by decide +kernel
theorem dX10_spell_9 : decode cX10_spell 9 = .ok (.aload_n 0, 1) := by decide +kernel
theorem dX10_spell_10 : decode cX10_spell 10 = .ok (.iconst 1, 1) := by decide +kernel
theorem dX10_spell_11 : decode cX10_spell 11 = .ok (.invokevirtual 139, 3) := by decide +kernel
theorem dX10_spell_14 : decode cX10_spell 14 = .ok (.ireturn, 1) := by decide +kernel
theorem dX10_spell_15 : decode cX10_spell 15 = .ok (.aload_n 0, 1) := by decide +kernel
theorem dX10_spell_16 : decode cX10_spell 16 = .ok (.iload_n 1, 1) := by decide +kernel
theorem dX10_spell_17 : decode cX10_spell 17 = .ok (.ifCond .ne 25, 3) := by decide +kernel
theorem dX10_spell_20 : decode cX10_spell 20 = .ok (.aload_n 0, 1) := by decide +kernel
theorem dX10_spell_21 : decode cX10_spell 21 = .ok (.getfield 10, 3) := by decide +kernel
theorem dX10_spell_24 : decode cX10_spell 24 = .ok (.invokevirtual 359, 3) := by decide +kernel
theorem dX10_spell_27 : decode cX10_spell 27 = .ok (.aload_n 0, 1) := by decide +kernel
theorem dX10_spell_28 : decode cX10_spell 28 = .ok (.getfield 10, 3) := by decide +kernel
theorem dX10_spell_31 : decode cX10_spell 31 = .ok (.getfield 200, 3) := by decide +kernel
theorem dX10_spell_34 : decode cX10_spell 34 = .ok (.ldc2_w 291, 3) := by decide +kernel
theorem dX10_spell_37 : decode cX10_spell 37 = .ok (.lxor, 1) := by decide +kernel
theorem dX10_spell_38 : decode cX10_spell 38 = .ok (.land, 1) := by decide +kernel
theorem dX10_spell_39 : decode cX10_spell 39 = .ok (.goto 10, 3) := by decide +kernel
theorem dX10_spell_42 : decode cX10_spell 42 = .ok (.aload_n 0, 1) := by decide +kernel
theorem dX10_spell_43 : decode cX10_spell 43 = .ok (.getfield 10, 3) := by decide +kernel
theorem dX10_spell_46 : decode cX10_spell 46 = .ok (.getfield 200, 3) := by decide +kernel
theorem dX10_spell_49 : decode cX10_spell 49 = .ok (.invokestatic 363, 3) := by decide +kernel
theorem dX10_spell_52 : decode cX10_spell 52 = .ok (.invokevirtual 181, 3) := by decide +kernel
theorem dX10_spell_55 : decode cX10_spell 55 = .ok (.ireturn, 1) := by decide +kernel
abbrev rmX10_spell : Room := { frames := 2, cells := 0, slots := 0, locals := 40 }
set_option maxHeartbeats 4000000 in
set_option maxRecDepth 100000 in
theorem kX10_spell (l : Launch) (D : va_G) (cy : Nat → ClassId) (h0 : Nat) (a0 : Nat → Nat) (a1 : Nat → Nat) (s0 : Rc) (s1 : Rc) (p1 : Int32) (res : Int32 × Rc) (h : fX10_spell p1 s0 s1 = some res) : CI l D cy yX10_spell wsX10_spell rmX10_spell [.ref h0, .int p1] (flat [WX10 cy h0 a0 s0, WX0 cy (a0 0) a1 s1]) (flat [WX10 cy h0 a0 res.2, WX0 cy (a0 0) a1 s1]) res.1 := by
  refine CI.of (cc := cX10_spell) (maxL := 2) (by decide) rfl (Nat.le_of_ble_eq_true rfl) ?_
  intro p e s m args below meth c A QQ ls E hr
  obtain ⟨hx, hb, hml, hown, hts, hK, hN, hP, hD, hA, hl⟩ := E
  have hret : ∀ (pc : Nat) (H : Heap) (locs : List Loc) (ls : Array Slot) (u : Int32 × Rc), u = res → va_P D vwCl (flat [WX10 cy h0 a0 u.2, WX0 cy (a0 0) a1 s1]) H → va_D A (flat [WX10 cy h0 a0 u.2, WX0 cy (a0 0) a1 s1]) → va_S A s.heap H locs → decode cX10_spell pc = .ok (.ireturn, 1) → W p l e rmX10_spell s m args below meth c H locs 0 0 QQ (F0 m pc ls [.int u.1]) := by
    intro pc H locs ls u hu hP hD hS hd; subst hu; exact hr pc H locs ls _ rfl hP hD hS hd
  clear hr
  have hl : lv_has ls 2 [(0, .ref h0), (1, .int p1)] := hl
  have hinX0 : ∀ w ∈ wsX00, w ∈ wsX10_spell := fun _ h => List.mem_cons_of_mem _ (List.mem_append_right _ h)
  have hinX10 : ∀ w ∈ wsX100, w ∈ wsX10_spell := fun _ h => List.mem_cons_of_mem _ (List.mem_append_left _ (List.mem_append_right _ h))
  unfold fX10_spell at h
  suffices key : ∀ (H : Heap) (locs : List Loc), va_P D vwCl (flat [WX10 cy h0 a0 s0, WX0 cy (a0 0) a1 s1]) H → va_S A s.heap H locs → W p l e rmX10_spell s m args below meth c H locs 0 0 QQ (F0 m 0 ls []) from key _ _ hP va_S.rf
  clear hP
  intro H locs hP hS
  have J49 : ∀ (z49_0 : Int64) (H : Heap) (locs : List Loc) (ls : Array Slot), lv_has ls 2 [] → va_P D vwCl (flat [WX10 cy h0 a0 s0, WX0 cy (a0 0) a1 s1]) H → va_D A (flat [WX10 cy h0 a0 s0, WX0 cy (a0 0) a1 s1]) → va_S A s.heap H locs → fX10_spell_J49 s0 z49_0 = some res → W p l e rmX10_spell s m args below meth c H locs 0 0 QQ (F0 m 49 ls [.long z49_0, .ref h0]) := by
    intro z49_0 H locs ls hl hP hD hS h
    unfold fX10_spell_J49 at h
    obtain ⟨r1, hr1, h⟩ := bd_elim h
    refine ca_i (w' := [WX10 cy h0 a0 s0, WX0 cy (a0 0) a1 s1]) (rn_S (As := [.long z49_0]) (rest := [.ref h0]) ⟨hx, hb, hml, hown, hts⟩ (kX10_longestRow l D cy z49_0 r1 hr1 H.size) (va_cwS 1 hts gX10_spell_X10_longestRow rfl rfl rfl (by decide +kernel) ⟨Nat.le_of_ble_eq_true rfl, Nat.le_of_ble_eq_true rfl⟩) hK hN hP hD [] rfl rfl rfl hl.1 rfl (Nat.le_of_ble_eq_true rfl) dX10_spell_49 ⟨Nat.le_refl 0, Nat.le_refl 0⟩) hP hD hS hA [] ⟨rfl, rfl, rfl, rfl⟩ (fun H locs hP hD hS => ?_)
    obtain ⟨r2, hr2, h⟩ := lt_elim h
    refine ca_i (w' := [WX10 cy h0 a0 r2.2, WX0 cy (a0 0) a1 s1]) (rn_V (As := [.int r1]) (rest := []) ⟨hx, hb, hml, hown, hts⟩ (kX10_answer l D cy h0 a0 s0 r1 r2 hr2.symm H.size) (cwV 1 hts gX10_spell_X10_answer rfl rfl rfl (by decide +kernel) ⟨Nat.le_of_ble_eq_true rfl, Nat.le_of_ble_eq_true rfl⟩) hK hN hP hD [0] rfl rfl (ci := 10) (q0 := 0) rfl rfl rfl rfl hl.1 rfl (Nat.le_of_ble_eq_true rfl) dX10_spell_52 ⟨Nat.le_refl 0, Nat.le_refl 0⟩) hP hD hS hA [0] ⟨rfl, rfl, rfl, rfl⟩ (fun H locs hP hD hS => ?_)
    exact hret 55 H locs ls (r2.1, r2.2) (Option.some.inj h) hP hD hS dX10_spell_55
  refine lv_iload_n hx hb dX10_spell_0 rfl (lv_at hl 1 rfl) ?_
  refine lv_iconst (v := 0) hx hb dX10_spell_1 (by decide) ?_
  refine lv_iconst (v := 1) hx hb dX10_spell_2 (by decide) ?_
  refine ca_z (w' := [WX10 cy h0 a0 s0, WX0 cy (a0 0) a1 s1]) (rn_S (As := [.int p1, .int (0 : Int32), .int (1 : Int32)]) (rest := []) ⟨hx, hb, hml, hown, hts⟩ (kX10_outside l D cy p1 (0 : Int32) (1 : Int32) _ rfl H.size) (va_cwS 3 hts gX10_spell_X10_outside rfl rfl rfl (by decide +kernel) ⟨Nat.le_of_ble_eq_true rfl, Nat.le_of_ble_eq_true rfl⟩) hK hN hP hD [] rfl rfl rfl hl.1 rfl (Nat.le_of_ble_eq_true rfl) dX10_spell_3 ⟨Nat.le_refl 0, Nat.le_refl 0⟩) hP hD hS hA [] ⟨rfl, rfl, rfl, rfl⟩ (fun b3 H locs hP hD hS => ?_)
  refine lv_if_eq (tgt := 15) hx hb dX10_spell_6 (by decide) (fun c4 => ?_) (fun c4 => ?_)
  · replace h := (if_pos c4).symm.trans h
    refine lv_aload_n hx hb dX10_spell_15 rfl (lv_at hl 0 rfl) ?_
    refine lv_iload_n hx hb dX10_spell_16 rfl (lv_at hl 1 rfl) ?_
    refine lv_if_ne (tgt := 42) hx hb dX10_spell_17 (by decide) (fun c5 => ?_) (fun c5 => ?_)
    · replace h := (if_neg c5).symm.trans h
      refine lv_aload_n hx hb dX10_spell_42 rfl (lv_at hl 0 rfl) ?_
      refine va_get (D := D) (ci := 10) (v := .ref (a0 0)) (C := RX10) (T := TX10) (N := 19) hx hb hts hinX10 hown hK hP 0 rfl rfl 0 (by decide) (hts (.fieldLink RX10 10 "KneeBench" "bench" "LKneeBench$Bench;") (List.mem_of_getElem? (i := 1) rfl)) (fun _ h9 => h9) rfl dX10_spell_43 ?_
      refine va_getN (D := D) (ci := 0) (v := .long (gl s1 10)) (C := RX0) (T := TX0) (N := 14) hx hb hts hinX0 hown hK hP 1 rfl rfl 10 (by decide) (NW.fld hN 20 rfl _) (fun _ h9 => h9) rfl dX10_spell_46 ?_
      exact J49 (gl s1 10) H locs ls (lv_sub hl [] rfl) hP hD hS h
    · replace h := (if_pos c5).symm.trans h
      refine lv_aload_n hx hb dX10_spell_20 rfl (lv_at hl 0 rfl) ?_
      refine va_get (D := D) (ci := 10) (v := .ref (a0 0)) (C := RX10) (T := TX10) (N := 19) hx hb hts hinX10 hown hK hP 0 rfl rfl 0 (by decide) (hts (.fieldLink RX10 10 "KneeBench" "bench" "LKneeBench$Bench;") (List.mem_of_getElem? (i := 1) rfl)) (fun _ h9 => h9) rfl dX10_spell_21 ?_
      refine ca_l (w' := [WX10 cy h0 a0 s0, WX0 cy (a0 0) a1 s1]) (rn_V (As := []) (rest := [.ref h0]) ⟨hx, hb, hml, hown, hts⟩ (kX0_daysThere l D cy (a0 0) a1 s1 _ rfl H.size) (cwV 0 hts gX10_spell_X0_daysThere rfl rfl rfl (by decide +kernel) ⟨Nat.le_of_ble_eq_true rfl, Nat.le_of_ble_eq_true rfl⟩) hK hN hP hD [1] rfl rfl (ci := 0) (q0 := 1) rfl rfl rfl rfl hl.1 rfl (Nat.le_of_ble_eq_true rfl) dX10_spell_24 ⟨Nat.le_refl 0, Nat.le_refl 0⟩) hP hD hS hA [1] ⟨rfl, rfl, rfl, rfl⟩ (fun H locs hP hD hS => ?_)
      refine lv_aload_n hx hb dX10_spell_27 rfl (lv_at hl 0 rfl) ?_
      refine va_get (D := D) (ci := 10) (v := .ref (a0 0)) (C := RX10) (T := TX10) (N := 19) hx hb hts hinX10 hown hK hP 0 rfl rfl 0 (by decide) (hts (.fieldLink RX10 10 "KneeBench" "bench" "LKneeBench$Bench;") (List.mem_of_getElem? (i := 1) rfl)) (fun _ h9 => h9) rfl dX10_spell_28 ?_
      refine va_getN (D := D) (ci := 0) (v := .long (gl s1 10)) (C := RX0) (T := TX0) (N := 14) hx hb hts hinX0 hown hK hP 1 rfl rfl 10 (by decide) (NW.fld hN 20 rfl _) (fun _ h9 => h9) rfl dX10_spell_31 ?_
      refine lv_ldc2 (v := -1) hx hb hown (hts (.constantLong RX10 291 (-1)) (List.mem_of_getElem? (i := 2) rfl)) dX10_spell_34 ?_
      refine lv_lxor hx hb dX10_spell_37 ?_
      refine lv_land hx hb dX10_spell_38 ?_
      refine lv_goto (tgt := 49) hx hb dX10_spell_39 (by decide) ?_
      exact J49 ((fX0_daysThere s1) &&& ((gl s1 10) ^^^ (-1 : Int64))) H locs ls (lv_sub hl [] rfl) hP hD hS h
  · replace h := (if_neg c4).symm.trans h
    refine lv_aload_n hx hb dX10_spell_9 rfl (lv_at hl 0 rfl) ?_
    refine lv_iconst (v := 1) hx hb dX10_spell_10 (by decide) ?_
    obtain ⟨r6, hr6, h⟩ := lt_elim h
    refine ca_i (w' := [WX10 cy h0 a0 r6.2, WX0 cy (a0 0) a1 s1]) (rn_V (As := [.int (1 : Int32)]) (rest := []) ⟨hx, hb, hml, hown, hts⟩ (kX10_refuse l D cy h0 a0 s0 (1 : Int32) r6 hr6.symm H.size) (cwV 1 hts gX10_spell_X10_refuse rfl rfl rfl (by decide +kernel) ⟨Nat.le_of_ble_eq_true rfl, Nat.le_of_ble_eq_true rfl⟩) hK hN hP hD [0] rfl rfl (ci := 10) (q0 := 0) rfl rfl rfl rfl hl.1 rfl (Nat.le_of_ble_eq_true rfl) dX10_spell_11 ⟨Nat.le_refl 0, Nat.le_refl 0⟩) hP hD hS hA [0] ⟨rfl, rfl, rfl, rfl⟩ (fun H locs hP hD hS => ?_)
    exact hret 14 H locs ls (r6.1, r6.2) (Option.some.inj h) hP hD hS dX10_spell_14
