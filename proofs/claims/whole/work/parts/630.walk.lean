theorem gd_X10_day : wsX10_day.all goodWord = true := by decide +kernel
set_option maxRecDepth 20000 in
theorem ggX10_day_X10_outside : GoodIn wsX10_day wsX10_outside := goodIn_by gd_X10_day (List.forall_mem_cons.mpr ⟨List.mem_cons_of_mem _ (List.mem_append_left _ (List.mem_append_left _ (List.mem_append_left _ (List.mem_of_getElem? (i := 4) rfl)))), nowords_in⟩)
set_option maxRecDepth 20000 in
theorem gX10_day_X10_outside : GoodIn wsX10_day (va_wsS RX10 116 yX10_outside wsX10_outside) := goodIn_app (goodIn_by gd_X10_day (List.forall_mem_cons.mpr ⟨List.mem_cons_of_mem _ (List.mem_append_left _ (List.mem_append_left _ (List.mem_append_left _ (List.mem_of_getElem? (i := 1) rfl)))), List.forall_mem_cons.mpr ⟨List.mem_cons_of_mem _ (List.mem_append_left _ (List.mem_append_left _ (List.mem_append_left _ (List.mem_of_getElem? (i := 2) rfl)))), List.forall_mem_cons.mpr ⟨List.mem_cons_of_mem _ (List.mem_append_left _ (List.mem_append_left _ (List.mem_append_left _ (List.mem_of_getElem? (i := 3) rfl)))), nowords_in⟩⟩⟩)) ggX10_day_X10_outside
set_option maxRecDepth 20000 in
theorem ggX10_day_X10_refuse : GoodIn wsX10_day wsX10_refuse := goodIn_by gd_X10_day (List.forall_mem_cons.mpr ⟨List.mem_cons_of_mem _ (List.mem_append_left _ (List.mem_append_left _ (List.mem_append_left _ (List.mem_of_getElem? (i := 8) rfl)))), List.forall_mem_append.mpr ⟨List.forall_mem_cons.mpr ⟨List.mem_cons_of_mem _ (List.mem_append_left _ (List.mem_append_left _ (List.mem_append_left _ (List.mem_of_getElem? (i := 9) rfl)))), nowords_in⟩, (fun _ h => List.mem_cons_of_mem _ (List.mem_append_left _ (List.mem_append_right _ (h))))⟩⟩)
set_option maxRecDepth 20000 in
theorem gX10_day_X10_refuse : GoodIn wsX10_day (wsV RX10 139 RX10 yX10_refuse wsX10_refuse) := goodIn_app (goodIn_by gd_X10_day (List.forall_mem_cons.mpr ⟨List.mem_cons_of_mem _ (List.mem_append_left _ (List.mem_append_left _ (List.mem_append_left _ (List.mem_of_getElem? (i := 5) rfl)))), List.forall_mem_cons.mpr ⟨List.mem_cons_of_mem _ (List.mem_append_left _ (List.mem_append_left _ (List.mem_append_left _ (List.mem_of_getElem? (i := 6) rfl)))), List.forall_mem_cons.mpr ⟨List.mem_cons_of_mem _ (List.mem_append_left _ (List.mem_append_left _ (List.mem_append_left _ (List.mem_of_getElem? (i := 7) rfl)))), List.forall_mem_cons.mpr ⟨List.mem_cons_of_mem _ (List.mem_append_left _ (List.mem_append_left _ (List.mem_append_left _ (List.mem_of_getElem? (i := 3) rfl)))), nowords_in⟩⟩⟩⟩)) ggX10_day_X10_refuse
set_option maxRecDepth 20000 in
theorem ggX10_day_X0_canAddDay : GoodIn wsX10_day wsX0_canAddDay := goodIn_by gd_X10_day (List.forall_mem_cons.mpr ⟨List.mem_cons_of_mem _ (List.mem_append_left _ (List.mem_append_left _ (List.mem_append_left _ (List.mem_of_getElem? (i := 14) rfl)))), List.forall_mem_append.mpr ⟨List.forall_mem_cons.mpr ⟨List.mem_cons_of_mem _ (List.mem_append_left _ (List.mem_append_left _ (List.mem_append_left _ (List.mem_of_getElem? (i := 15) rfl)))), nowords_in⟩, (fun _ h => List.mem_cons_of_mem _ (List.mem_append_right _ (h)))⟩⟩)
set_option maxRecDepth 20000 in
theorem gX10_day_X0_canAddDay : GoodIn wsX10_day (wsV RX10 281 RX0 yX0_canAddDay wsX0_canAddDay) := goodIn_app (goodIn_by gd_X10_day (List.forall_mem_cons.mpr ⟨List.mem_cons_of_mem _ (List.mem_append_left _ (List.mem_append_left _ (List.mem_append_left _ (List.mem_of_getElem? (i := 10) rfl)))), List.forall_mem_cons.mpr ⟨List.mem_cons_of_mem _ (List.mem_append_left _ (List.mem_append_left _ (List.mem_append_left _ (List.mem_of_getElem? (i := 11) rfl)))), List.forall_mem_cons.mpr ⟨List.mem_cons_of_mem _ (List.mem_append_left _ (List.mem_append_left _ (List.mem_append_left _ (List.mem_of_getElem? (i := 12) rfl)))), List.forall_mem_cons.mpr ⟨List.mem_cons_of_mem _ (List.mem_append_left _ (List.mem_append_left _ (List.mem_append_left _ (List.mem_of_getElem? (i := 13) rfl)))), nowords_in⟩⟩⟩⟩)) ggX10_day_X0_canAddDay
set_option maxRecDepth 20000 in
theorem ggX10_day_X0_addDay : GoodIn wsX10_day wsX0_addDay := goodIn_by gd_X10_day (List.forall_mem_cons.mpr ⟨List.mem_cons_of_mem _ (List.mem_append_left _ (List.mem_append_left _ (List.mem_append_left _ (List.mem_of_getElem? (i := 19) rfl)))), List.forall_mem_append.mpr ⟨List.forall_mem_cons.mpr ⟨List.mem_cons_of_mem _ (List.mem_append_left _ (List.mem_append_left _ (List.mem_append_left _ (List.mem_of_getElem? (i := 20) rfl)))), List.forall_mem_cons.mpr ⟨List.mem_cons_of_mem _ (List.mem_append_left _ (List.mem_append_left _ (List.mem_append_left _ (List.mem_of_getElem? (i := 15) rfl)))), List.forall_mem_cons.mpr ⟨List.mem_cons_of_mem _ (List.mem_append_left _ (List.mem_append_left _ (List.mem_append_left _ (List.mem_of_getElem? (i := 21) rfl)))), List.forall_mem_cons.mpr ⟨List.mem_cons_of_mem _ (List.mem_append_left _ (List.mem_append_left _ (List.mem_append_left _ (List.mem_of_getElem? (i := 22) rfl)))), List.forall_mem_cons.mpr ⟨List.mem_cons_of_mem _ (List.mem_append_left _ (List.mem_append_left _ (List.mem_append_left _ (List.mem_of_getElem? (i := 11) rfl)))), List.forall_mem_cons.mpr ⟨List.mem_cons_of_mem _ (List.mem_append_left _ (List.mem_append_left _ (List.mem_append_left _ (List.mem_of_getElem? (i := 12) rfl)))), List.forall_mem_cons.mpr ⟨List.mem_cons_of_mem _ (List.mem_append_left _ (List.mem_append_left _ (List.mem_append_left _ (List.mem_of_getElem? (i := 13) rfl)))), List.forall_mem_cons.mpr ⟨List.mem_cons_of_mem _ (List.mem_append_left _ (List.mem_append_left _ (List.mem_append_left _ (List.mem_of_getElem? (i := 14) rfl)))), nowords_in⟩⟩⟩⟩⟩⟩⟩⟩, (fun _ h => List.mem_cons_of_mem _ (List.mem_append_right _ (h)))⟩⟩)
set_option maxRecDepth 20000 in
theorem gX10_day_X0_addDay : GoodIn wsX10_day (wsV RX10 284 RX0 yX0_addDay wsX0_addDay) := goodIn_app (goodIn_by gd_X10_day (List.forall_mem_cons.mpr ⟨List.mem_cons_of_mem _ (List.mem_append_left _ (List.mem_append_left _ (List.mem_append_left _ (List.mem_of_getElem? (i := 16) rfl)))), List.forall_mem_cons.mpr ⟨List.mem_cons_of_mem _ (List.mem_append_left _ (List.mem_append_left _ (List.mem_append_left _ (List.mem_of_getElem? (i := 17) rfl)))), List.forall_mem_cons.mpr ⟨List.mem_cons_of_mem _ (List.mem_append_left _ (List.mem_append_left _ (List.mem_append_left _ (List.mem_of_getElem? (i := 18) rfl)))), List.forall_mem_cons.mpr ⟨List.mem_cons_of_mem _ (List.mem_append_left _ (List.mem_append_left _ (List.mem_append_left _ (List.mem_of_getElem? (i := 13) rfl)))), nowords_in⟩⟩⟩⟩)) ggX10_day_X0_addDay
set_option maxRecDepth 20000 in
theorem ggX10_day_X10_answer : GoodIn wsX10_day wsX10_answer := goodIn_by gd_X10_day (List.forall_mem_cons.mpr ⟨List.mem_cons_of_mem _ (List.mem_append_left _ (List.mem_append_left _ (List.mem_append_right _ (List.mem_of_getElem? (i := 2) rfl)))), List.forall_mem_append.mpr ⟨List.forall_mem_cons.mpr ⟨List.mem_cons_of_mem _ (List.mem_append_left _ (List.mem_append_left _ (List.mem_append_left _ (List.mem_of_getElem? (i := 9) rfl)))), nowords_in⟩, (fun _ h => List.mem_cons_of_mem _ (List.mem_append_left _ (List.mem_append_right _ (h))))⟩⟩)
set_option maxRecDepth 20000 in
theorem gX10_day_X10_answer : GoodIn wsX10_day (wsV RX10 181 RX10 yX10_answer wsX10_answer) := goodIn_app (goodIn_by gd_X10_day (List.forall_mem_cons.mpr ⟨List.mem_cons_of_mem _ (List.mem_append_left _ (List.mem_append_left _ (List.mem_append_left _ (List.mem_of_getElem? (i := 23) rfl)))), List.forall_mem_cons.mpr ⟨List.mem_cons_of_mem _ (List.mem_append_left _ (List.mem_append_left _ (List.mem_append_right _ (List.mem_of_getElem? (i := 0) rfl)))), List.forall_mem_cons.mpr ⟨List.mem_cons_of_mem _ (List.mem_append_left _ (List.mem_append_left _ (List.mem_append_right _ (List.mem_of_getElem? (i := 1) rfl)))), List.forall_mem_cons.mpr ⟨List.mem_cons_of_mem _ (List.mem_append_left _ (List.mem_append_left _ (List.mem_append_left _ (List.mem_of_getElem? (i := 3) rfl)))), nowords_in⟩⟩⟩⟩)) ggX10_day_X10_answer
theorem dX10_day_0 : decode cX10_day 0 = .ok (.iload_n 1, 1) := by decide +kernel
theorem dX10_day_1 : decode cX10_day 1 = .ok (.iconst 0, 1) := by decide +kernel
theorem dX10_day_2 : decode cX10_day 2 = .ok (.iconst 2, 1) := by decide +kernel
theorem dX10_day_3 : decode cX10_day 3 = .ok (.invokestatic 116, 3) := by decide +kernel
theorem dX10_day_6 : decode cX10_day 6 = .ok (.ifCond .eq 9, 3) := by decide +kernel
theorem dX10_day_9 : decode cX10_day 9 = .ok (.aload_n 0, 1) := by decide +kernel
theorem dX10_day_10 : decode cX10_day 10 = .ok (.iconst 1, 1) := by decide +kernel
theorem dX10_day_11 : decode cX10_day 11 = .ok (.invokevirtual 139, 3) := by decide +kernel
theorem dX10_day_14 : decode cX10_day 14 = .ok (.ireturn, 1) := by decide +kernel
theorem dX10_day_15 : decode cX10_day 15 = .ok (.aload_n 0, 1) := by decide +kernel
theorem dX10_day_16 : decode cX10_day 16 = .ok (.getfield 10, 3) := by decide +kernel
theorem dX10_day_19 : decode cX10_day 19 = .ok (.invokevirtual 281, 3) := by decide +kernel
theorem dX10_day_22 : decode cX10_day 22 = .ok (.ifCond .ne 9, 3) := by decide +kernel
theorem dX10_day_25 : decode cX10_day 25 = .ok (.aload_n 0, 1) := by decide +kernel
theorem dX10_day_26 : decode cX10_day 26 = .ok (.iconst 4, 1) := by decide +kernel
theorem dX10_day_27 : decode cX10_day 27 = .ok (.invokevirtual 139, 3) := by decide +kernel
theorem dX10_day_30 : decode cX10_day 30 = .ok (.ireturn, 1) := by decide +kernel
theorem dX10_day_31 : decode cX10_day 31 = .ok (.aload_n 0, 1) := by decide +kernel
theorem dX10_day_32 : decode cX10_day 32 = .ok (.getfield 10, 3) := by decide +kernel
theorem dX10_day_35 : decode cX10_day 35 = .ok (.iload_n 1, 1) := by decide +kernel
theorem dX10_day_36 : decode cX10_day 36 = .ok (.invokevirtual 284, 3) := by decide +kernel
theorem dX10_day_39 : decode cX10_day 39 = .ok (.aload_n 0, 1) := by decide +kernel
theorem dX10_day_40 : decode cX10_day 40 = .ok (.aload_n 0, 1) := by decide +kernel
theorem dX10_day_41 : decode cX10_day 41 = .ok (.getfield 10, 3) := by decide +kernel
theorem dX10_day_44 : decode cX10_day 44 = .ok (.getfield 197, 3) := by decide +kernel
theorem dX10_day_47 : decode cX10_day 47 = .ok (.invokevirtual 181, 3) := by decide +kernel
theorem dX10_day_50 : decode cX10_day 50 = .ok (.ireturn, 1) := by decide +kernel
abbrev rmX10_day : Room := { frames := 2, cells := 0, slots := 0, locals := 41 }
set_option maxHeartbeats 4000000 in
set_option maxRecDepth 100000 in
theorem kX10_day (l : Launch) (D : va_G) (cy : Nat → ClassId) (h0 : Nat) (a0 : Nat → Nat) (a1 : Nat → Nat) (s0 : Rc) (s1 : Rc) (p1 : Int32) (res : Int32 × Rc × Rc) (h : fX10_day p1 s0 s1 = res) : CI l D cy yX10_day wsX10_day rmX10_day [.ref h0, .int p1] (flat [WX10 cy h0 a0 s0, WX0 cy (a0 0) a1 s1]) (flat [WX10 cy h0 a0 res.2.1, WX0 cy (a0 0) a1 res.2.2]) res.1 := by
  refine CI.of (cc := cX10_day) (maxL := 2) (by decide) rfl (Nat.le_of_ble_eq_true rfl) ?_
  intro p e s m args below meth c A QQ ls E hr
  obtain ⟨hx, hb, hml, hown, hts, hK, hN, hP, hD, hA, hl⟩ := E
  have hret : ∀ (pc : Nat) (H : Heap) (locs : List Loc) (ls : Array Slot) (u : Int32 × Rc × Rc), u = res → va_P D vwCl (flat [WX10 cy h0 a0 u.2.1, WX0 cy (a0 0) a1 u.2.2]) H → va_D A (flat [WX10 cy h0 a0 u.2.1, WX0 cy (a0 0) a1 u.2.2]) → va_S A s.heap H locs → decode cX10_day pc = .ok (.ireturn, 1) → W p l e rmX10_day s m args below meth c H locs 0 0 QQ (F0 m pc ls [.int u.1]) := by
    intro pc H locs ls u hu hP hD hS hd; subst hu; exact hr pc H locs ls _ rfl hP hD hS hd
  clear hr
  have hl : lv_has ls 2 [(0, .ref h0), (1, .int p1)] := hl
  have hinX0 : ∀ w ∈ wsX00, w ∈ wsX10_day := fun _ h => List.mem_cons_of_mem _ (List.mem_append_right _ h)
  have hinX10 : ∀ w ∈ wsX100, w ∈ wsX10_day := fun _ h => List.mem_cons_of_mem _ (List.mem_append_left _ (List.mem_append_right _ h))
  unfold fX10_day at h
  suffices key : ∀ (H : Heap) (locs : List Loc), va_P D vwCl (flat [WX10 cy h0 a0 s0, WX0 cy (a0 0) a1 s1]) H → va_S A s.heap H locs → W p l e rmX10_day s m args below meth c H locs 0 0 QQ (F0 m 0 ls []) from key _ _ hP va_S.rf
  clear hP
  intro H locs hP hS
  refine lv_iload_n hx hb dX10_day_0 rfl (lv_at hl 1 rfl) ?_
  refine lv_iconst (v := 0) hx hb dX10_day_1 (by decide) ?_
  refine lv_iconst (v := 2) hx hb dX10_day_2 (by decide) ?_
  refine ca_z (w' := [WX10 cy h0 a0 s0, WX0 cy (a0 0) a1 s1]) (rn_S (As := [.int p1, .int (0 : Int32), .int (2 : Int32)]) (rest := []) ⟨hx, hb, hml, hown, hts⟩ (kX10_outside l D cy p1 (0 : Int32) (2 : Int32) _ rfl H.size) (va_cwS 3 hts gX10_day_X10_outside rfl rfl rfl (by decide +kernel) ⟨Nat.le_of_ble_eq_true rfl, Nat.le_of_ble_eq_true rfl⟩) hK hN hP hD [] rfl rfl rfl hl.1 rfl (Nat.le_of_ble_eq_true rfl) dX10_day_3 ⟨Nat.le_refl 0, Nat.le_refl 0⟩) hP hD hS hA [] ⟨rfl, rfl, rfl, rfl⟩ (fun b1 H locs hP hD hS => ?_)
  refine lv_if_eq (tgt := 15) hx hb dX10_day_6 (by decide) (fun c2 => ?_) (fun c2 => ?_)
  · replace h := (if_pos c2).symm.trans h
    refine lv_aload_n hx hb dX10_day_15 rfl (lv_at hl 0 rfl) ?_
    refine va_get (D := D) (ci := 10) (v := .ref (a0 0)) (C := RX10) (T := TX10) (N := 19) hx hb hts hinX10 hown hK hP 0 rfl rfl 0 (by decide) (hts (.fieldLink RX10 10 "KneeBench" "bench" "LKneeBench$Bench;") (List.mem_of_getElem? (i := 1) rfl)) (fun _ h9 => h9) rfl dX10_day_16 ?_
    refine ca_z (w' := [WX10 cy h0 a0 s0, WX0 cy (a0 0) a1 s1]) (rn_V (As := []) (rest := []) ⟨hx, hb, hml, hown, hts⟩ (kX0_canAddDay l D cy (a0 0) a1 s1 _ rfl H.size) (cwV 0 hts gX10_day_X0_canAddDay rfl rfl rfl (by decide +kernel) ⟨Nat.le_of_ble_eq_true rfl, Nat.le_of_ble_eq_true rfl⟩) hK hN hP hD [1] rfl rfl (ci := 0) (q0 := 1) rfl rfl rfl rfl hl.1 rfl (Nat.le_of_ble_eq_true rfl) dX10_day_19 ⟨Nat.le_refl 0, Nat.le_refl 0⟩) hP hD hS hA [1] ⟨rfl, rfl, rfl, rfl⟩ (fun b3 H locs hP hD hS => ?_)
    refine lv_if_ne (tgt := 31) hx hb dX10_day_22 (by decide) (fun c4 => ?_) (fun c4 => ?_)
    · replace h := (if_neg c4).symm.trans h
      refine lv_aload_n hx hb dX10_day_31 rfl (lv_at hl 0 rfl) ?_
      refine va_get (D := D) (ci := 10) (v := .ref (a0 0)) (C := RX10) (T := TX10) (N := 19) hx hb hts hinX10 hown hK hP 0 rfl rfl 0 (by decide) (hts (.fieldLink RX10 10 "KneeBench" "bench" "LKneeBench$Bench;") (List.mem_of_getElem? (i := 1) rfl)) (fun _ h9 => h9) rfl dX10_day_32 ?_
      refine lv_iload_n hx hb dX10_day_35 rfl (lv_at hl 1 rfl) ?_
      obtain ⟨r5, hr5, h⟩ := lt_elim h
      refine ca_v (w' := [WX10 cy h0 a0 s0, WX0 cy (a0 0) a1 r5]) (rn_V (As := [.int p1]) (rest := []) ⟨hx, hb, hml, hown, hts⟩ (kX0_addDay l D cy (a0 0) a1 s1 p1 r5 hr5.symm H.size) (cwV 1 hts gX10_day_X0_addDay rfl rfl rfl (by decide +kernel) ⟨Nat.le_of_ble_eq_true rfl, Nat.le_of_ble_eq_true rfl⟩) hK hN hP hD [1] rfl rfl (ci := 0) (q0 := 1) rfl rfl rfl rfl hl.1 rfl (Nat.le_of_ble_eq_true rfl) dX10_day_36 ⟨Nat.le_refl 0, Nat.le_refl 0⟩) hP hD hS hA [1] ⟨rfl, rfl, rfl, rfl⟩ (fun H locs hP hD hS => ?_)
      refine lv_aload_n hx hb dX10_day_39 rfl (lv_at hl 0 rfl) ?_
      refine lv_aload_n hx hb dX10_day_40 rfl (lv_at hl 0 rfl) ?_
      refine va_get (D := D) (ci := 10) (v := .ref (a0 0)) (C := RX10) (T := TX10) (N := 19) hx hb hts hinX10 hown hK hP 0 rfl rfl 0 (by decide) (hts (.fieldLink RX10 10 "KneeBench" "bench" "LKneeBench$Bench;") (List.mem_of_getElem? (i := 1) rfl)) (fun _ h9 => h9) rfl dX10_day_41 ?_
      refine va_getN (D := D) (ci := 0) (v := .int (gi r5 9)) (C := RX0) (T := TX0) (N := 14) hx hb hts hinX0 hown hK hP 1 rfl rfl 9 (by decide) (NW.fld hN 17 rfl _) (fun _ h9 => h9) rfl dX10_day_44 ?_
      obtain ⟨r6, hr6, h⟩ := lt_elim h
      refine ca_i (w' := [WX10 cy h0 a0 r6.2, WX0 cy (a0 0) a1 r5]) (rn_V (As := [.int (gi r5 9)]) (rest := []) ⟨hx, hb, hml, hown, hts⟩ (kX10_answer l D cy h0 a0 s0 (gi r5 9) r6 hr6.symm H.size) (cwV 1 hts gX10_day_X10_answer rfl rfl rfl (by decide +kernel) ⟨Nat.le_of_ble_eq_true rfl, Nat.le_of_ble_eq_true rfl⟩) hK hN hP hD [0] rfl rfl (ci := 10) (q0 := 0) rfl rfl rfl rfl hl.1 rfl (Nat.le_of_ble_eq_true rfl) dX10_day_47 ⟨Nat.le_refl 0, Nat.le_refl 0⟩) hP hD hS hA [0] ⟨rfl, rfl, rfl, rfl⟩ (fun H locs hP hD hS => ?_)
      exact hret 50 H locs ls (r6.1, r6.2, r5) h hP hD hS dX10_day_50
    · replace h := (if_pos c4).symm.trans h
      refine lv_aload_n hx hb dX10_day_25 rfl (lv_at hl 0 rfl) ?_
      refine lv_iconst (v := 4) hx hb dX10_day_26 (by decide) ?_
      obtain ⟨r7, hr7, h⟩ := lt_elim h
      refine ca_i (w' := [WX10 cy h0 a0 r7.2, WX0 cy (a0 0) a1 s1]) (rn_V (As := [.int (4 : Int32)]) (rest := []) ⟨hx, hb, hml, hown, hts⟩ (kX10_refuse l D cy h0 a0 s0 (4 : Int32) r7 hr7.symm H.size) (cwV 1 hts gX10_day_X10_refuse rfl rfl rfl (by decide +kernel) ⟨Nat.le_of_ble_eq_true rfl, Nat.le_of_ble_eq_true rfl⟩) hK hN hP hD [0] rfl rfl (ci := 10) (q0 := 0) rfl rfl rfl rfl hl.1 rfl (Nat.le_of_ble_eq_true rfl) dX10_day_27 ⟨Nat.le_refl 0, Nat.le_refl 0⟩) hP hD hS hA [0] ⟨rfl, rfl, rfl, rfl⟩ (fun H locs hP hD hS => ?_)
      exact hret 30 H locs ls (r7.1, r7.2, s1) h hP hD hS dX10_day_30
  · replace h := (if_neg c2).symm.trans h
    refine lv_aload_n hx hb dX10_day_9 rfl (lv_at hl 0 rfl) ?_
    refine lv_iconst (v := 1) hx hb dX10_day_10 (by decide) ?_
    obtain ⟨r8, hr8, h⟩ := lt_elim h
    refine ca_i (w' := [WX10 cy h0 a0 r8.2, WX0 cy (a0 0) a1 s1]) (rn_V (As := [.int (1 : Int32)]) (rest := []) ⟨hx, hb, hml, hown, hts⟩ (kX10_refuse l D cy h0 a0 s0 (1 : Int32) r8 hr8.symm H.size) (cwV 1 hts gX10_day_X10_refuse rfl rfl rfl (by decide +kernel) ⟨Nat.le_of_ble_eq_true rfl, Nat.le_of_ble_eq_true rfl⟩) hK hN hP hD [0] rfl rfl (ci := 10) (q0 := 0) rfl rfl rfl rfl hl.1 rfl (Nat.le_of_ble_eq_true rfl) dX10_day_11 ⟨Nat.le_refl 0, Nat.le_refl 0⟩) hP hD hS hA [0] ⟨rfl, rfl, rfl, rfl⟩ (fun H locs hP hD hS => ?_)
    exact hret 14 H locs ls (r8.1, r8.2, s1) h hP hD hS dX10_day_14
theorem gd_X10_dislikes : wsX10_dislikes.all goodWord = true := by decide +kernel
set_option maxRecDepth 20000 in
theorem ggX10_dislikes_X10_noFarmer : GoodIn wsX10_dislikes wsX10_noFarmer := goodIn_by gd_X10_dislikes (List.forall_mem_cons.mpr ⟨List.mem_cons_of_mem _ (List.mem_append_left _ (List.mem_append_left _ (List.mem_append_left _ (List.mem_of_getElem? (i := 5) rfl)))), List.forall_mem_append.mpr ⟨List.forall_mem_append.mpr ⟨List.forall_mem_cons.mpr ⟨List.mem_cons_of_mem _ (List.mem_append_left _ (List.mem_append_left _ (List.mem_append_left _ (List.mem_of_getElem? (i := 0) rfl)))), List.forall_mem_cons.mpr ⟨List.mem_cons_of_mem _ (List.mem_append_left _ (List.mem_append_left _ (List.mem_append_left _ (List.mem_of_getElem? (i := 6) rfl)))), List.forall_mem_cons.mpr ⟨List.mem_cons_of_mem _ (List.mem_append_left _ (List.mem_append_left _ (List.mem_append_left _ (List.mem_of_getElem? (i := 7) rfl)))), List.forall_mem_cons.mpr ⟨List.mem_cons_of_mem _ (List.mem_append_left _ (List.mem_append_left _ (List.mem_append_left _ (List.mem_of_getElem? (i := 8) rfl)))), List.forall_mem_cons.mpr ⟨List.mem_cons_of_mem _ (List.mem_append_left _ (List.mem_append_left _ (List.mem_append_left _ (List.mem_of_getElem? (i := 9) rfl)))), List.forall_mem_cons.mpr ⟨List.mem_cons_of_mem _ (List.mem_append_left _ (List.mem_append_left _ (List.mem_append_left _ (List.mem_of_getElem? (i := 10) rfl)))), List.forall_mem_cons.mpr ⟨List.mem_cons_of_mem _ (List.mem_append_left _ (List.mem_append_left _ (List.mem_append_left _ (List.mem_of_getElem? (i := 11) rfl)))), nowords_in⟩⟩⟩⟩⟩⟩⟩, (fun _ h => List.mem_cons_of_mem _ (List.mem_append_left _ (List.mem_append_right _ (h))))⟩, (fun _ h => List.mem_cons_of_mem _ (List.mem_append_right _ (h)))⟩⟩)
set_option maxRecDepth 20000 in
theorem gX10_dislikes_X10_noFarmer : GoodIn wsX10_dislikes (wsV RX10 215 RX10 yX10_noFarmer wsX10_noFarmer) := goodIn_app (goodIn_by gd_X10_dislikes (List.forall_mem_cons.mpr ⟨List.mem_cons_of_mem _ (List.mem_append_left _ (List.mem_append_left _ (List.mem_append_left _ (List.mem_of_getElem? (i := 1) rfl)))), List.forall_mem_cons.mpr ⟨List.mem_cons_of_mem _ (List.mem_append_left _ (List.mem_append_left _ (List.mem_append_left _ (List.mem_of_getElem? (i := 2) rfl)))), List.forall_mem_cons.mpr ⟨List.mem_cons_of_mem _ (List.mem_append_left _ (List.mem_append_left _ (List.mem_append_left _ (List.mem_of_getElem? (i := 3) rfl)))), List.forall_mem_cons.mpr ⟨List.mem_cons_of_mem _ (List.mem_append_left _ (List.mem_append_left _ (List.mem_append_left _ (List.mem_of_getElem? (i := 4) rfl)))), nowords_in⟩⟩⟩⟩)) ggX10_dislikes_X10_noFarmer
set_option maxRecDepth 20000 in
theorem ggX10_dislikes_X10_refuse : GoodIn wsX10_dislikes wsX10_refuse := goodIn_by gd_X10_dislikes (List.forall_mem_cons.mpr ⟨List.mem_cons_of_mem _ (List.mem_append_left _ (List.mem_append_left _ (List.mem_append_left _ (List.mem_of_getElem? (i := 15) rfl)))), List.forall_mem_append.mpr ⟨List.forall_mem_cons.mpr ⟨List.mem_cons_of_mem _ (List.mem_append_left _ (List.mem_append_left _ (List.mem_append_left _ (List.mem_of_getElem? (i := 16) rfl)))), nowords_in⟩, (fun _ h => List.mem_cons_of_mem _ (List.mem_append_left _ (List.mem_append_right _ (h))))⟩⟩)
set_option maxRecDepth 20000 in
theorem gX10_dislikes_X10_refuse : GoodIn wsX10_dislikes (wsV RX10 139 RX10 yX10_refuse wsX10_refuse) := goodIn_app (goodIn_by gd_X10_dislikes (List.forall_mem_cons.mpr ⟨List.mem_cons_of_mem _ (List.mem_append_left _ (List.mem_append_left _ (List.mem_append_left _ (List.mem_of_getElem? (i := 12) rfl)))), List.forall_mem_cons.mpr ⟨List.mem_cons_of_mem _ (List.mem_append_left _ (List.mem_append_left _ (List.mem_append_left _ (List.mem_of_getElem? (i := 13) rfl)))), List.forall_mem_cons.mpr ⟨List.mem_cons_of_mem _ (List.mem_append_left _ (List.mem_append_left _ (List.mem_append_left _ (List.mem_of_getElem? (i := 14) rfl)))), List.forall_mem_cons.mpr ⟨List.mem_cons_of_mem _ (List.mem_append_left _ (List.mem_append_left _ (List.mem_append_left _ (List.mem_of_getElem? (i := 4) rfl)))), nowords_in⟩⟩⟩⟩)) ggX10_dislikes_X10_refuse
set_option maxRecDepth 20000 in
theorem ggX10_dislikes_X0_dislike : GoodIn wsX10_dislikes wsX0_dislike := goodIn_by gd_X10_dislikes (List.forall_mem_cons.mpr ⟨List.mem_cons_of_mem _ (List.mem_append_left _ (List.mem_append_left _ (List.mem_append_left _ (List.mem_of_getElem? (i := 20) rfl)))), List.forall_mem_append.mpr ⟨List.forall_mem_cons.mpr ⟨List.mem_cons_of_mem _ (List.mem_append_left _ (List.mem_append_left _ (List.mem_append_left _ (List.mem_of_getElem? (i := 21) rfl)))), nowords_in⟩, (fun _ h => List.mem_cons_of_mem _ (List.mem_append_right _ (h)))⟩⟩)
set_option maxRecDepth 20000 in
theorem gX10_dislikes_X0_dislike : GoodIn wsX10_dislikes (wsV RX10 244 RX0 yX0_dislike wsX0_dislike) := goodIn_app (goodIn_by gd_X10_dislikes (List.forall_mem_cons.mpr ⟨List.mem_cons_of_mem _ (List.mem_append_left _ (List.mem_append_left _ (List.mem_append_left _ (List.mem_of_getElem? (i := 17) rfl)))), List.forall_mem_cons.mpr ⟨List.mem_cons_of_mem _ (List.mem_append_left _ (List.mem_append_left _ (List.mem_append_left _ (List.mem_of_getElem? (i := 18) rfl)))), List.forall_mem_cons.mpr ⟨List.mem_cons_of_mem _ (List.mem_append_left _ (List.mem_append_left _ (List.mem_append_left _ (List.mem_of_getElem? (i := 19) rfl)))), List.forall_mem_cons.mpr ⟨List.mem_cons_of_mem _ (List.mem_append_left _ (List.mem_append_left _ (List.mem_append_left _ (List.mem_of_getElem? (i := 9) rfl)))), nowords_in⟩⟩⟩⟩)) ggX10_dislikes_X0_dislike
set_option maxRecDepth 20000 in
theorem ggX10_dislikes_X10_answer : GoodIn wsX10_dislikes wsX10_answer := goodIn_by gd_X10_dislikes (List.forall_mem_cons.mpr ⟨List.mem_cons_of_mem _ (List.mem_append_left _ (List.mem_append_left _ (List.mem_append_right _ (List.mem_of_getElem? (i := 1) rfl)))), List.forall_mem_append.mpr ⟨List.forall_mem_cons.mpr ⟨List.mem_cons_of_mem _ (List.mem_append_left _ (List.mem_append_left _ (List.mem_append_left _ (List.mem_of_getElem? (i := 16) rfl)))), nowords_in⟩, (fun _ h => List.mem_cons_of_mem _ (List.mem_append_left _ (List.mem_append_right _ (h))))⟩⟩)
set_option maxRecDepth 20000 in
theorem gX10_dislikes_X10_answer : GoodIn wsX10_dislikes (wsV RX10 181 RX10 yX10_answer wsX10_answer) := goodIn_app (goodIn_by gd_X10_dislikes (List.forall_mem_cons.mpr ⟨List.mem_cons_of_mem _ (List.mem_append_left _ (List.mem_append_left _ (List.mem_append_left _ (List.mem_of_getElem? (i := 22) rfl)))), List.forall_mem_cons.mpr ⟨List.mem_cons_of_mem _ (List.mem_append_left _ (List.mem_append_left _ (List.mem_append_left _ (List.mem_of_getElem? (i := 23) rfl)))), List.forall_mem_cons.mpr ⟨List.mem_cons_of_mem _ (List.mem_append_left _ (List.mem_append_left _ (List.mem_append_right _ (List.mem_of_getElem? (i := 0) rfl)))), List.forall_mem_cons.mpr ⟨List.mem_cons_of_mem _ (List.mem_append_left _ (List.mem_append_left _ (List.mem_append_left _ (List.mem_of_getElem? (i := 4) rfl)))), nowords_in⟩⟩⟩⟩)) ggX10_dislikes_X10_answer
theorem dX10_dislikes_0 : decode cX10_dislikes 0 = .ok (.aload_n 0, 1) := by decide +kernel
theorem dX10_dislikes_1 : decode cX10_dislikes 1 = .ok (.iload_n 1, 1) := by decide +kernel
theorem dX10_dislikes_2 : decode cX10_dislikes 2 = .ok (.invokevirtual 215, 3) := by decide +kernel
theorem dX10_dislikes_5 : decode cX10_dislikes 5 = .ok (.ifCond .ne 11, 3) := by decide +kernel
theorem dX10_dislikes_8 : decode cX10_dislikes 8 = .ok (.aload_n 0, 1) := by decide +kernel
theorem dX10_dislikes_9 : decode cX10_dislikes 9 = .ok (.iload_n 2, 1) := by decide +kernel
theorem dX10_dislikes_10 : decode cX10_dislikes 10 = .ok (.invokevirtual 215, 3) := by decide +kernel
theorem dX10_dislikes_13 : decode cX10_dislikes 13 = .ok (.ifCond .eq 9, 3) := by decide +kernel
theorem dX10_dislikes_16 : decode cX10_dislikes 16 = .ok (.aload_n 0, 1) := by decide +kernel
theorem dX10_dislikes_17 : decode cX10_dislikes 17 = .ok (.iconst 1, 1) := by decide +kernel
theorem dX10_dislikes_18 : decode cX10_dislikes 18 = .ok (.invokevirtual 139, 3) := by decide +kernel
theorem dX10_dislikes_21 : decode cX10_dislikes 21 = .ok (.ireturn, 1) := by decide +kernel
theorem dX10_dislikes_22 : decode cX10_dislikes 22 = .ok (.aload_n 0, 1) := by decide +kernel
theorem dX10_dislikes_23 : decode cX10_dislikes 23 = .ok (.aload_n 0, 1) := by decide +kernel
theorem dX10_dislikes_24 : decode cX10_dislikes 24 = .ok (.getfield 10, 3) := by decide +kernel
theorem dX10_dislikes_27 : decode cX10_dislikes 27 = .ok (.iload_n 1, 1) := by decide +kernel
theorem dX10_dislikes_28 : decode cX10_dislikes 28 = .ok (.iload_n 2, 1) := by decide +kernel
theorem dX10_dislikes_29 : decode cX10_dislikes 29 = .ok (.invokevirtual 244, 3) := by decide +kernel
theorem dX10_dislikes_32 : decode cX10_dislikes 32 = .ok (.invokevirtual 181, 3) := by decide +kernel
theorem dX10_dislikes_35 : decode cX10_dislikes 35 = .ok (.ireturn, 1) := by decide +kernel
abbrev rmX10_dislikes : Room := { frames := 2, cells := 0, slots := 0, locals := 42 }
set_option maxHeartbeats 4000000 in
set_option maxRecDepth 100000 in
theorem kX10_dislikes (l : Launch) (D : va_G) (cy : Nat → ClassId) (h0 : Nat) (a0 : Nat → Nat) (a1 : Nat → Nat) (s0 : Rc) (s1 : Rc) (p1 : Int32) (p2 : Int32) (res : Int32 × Rc) (h : fX10_dislikes p1 p2 s0 s1 = some res) : CI l D cy yX10_dislikes wsX10_dislikes rmX10_dislikes [.ref h0, .int p1, .int p2] (flat [WX10 cy h0 a0 s0, WX0 cy (a0 0) a1 s1]) (flat [WX10 cy h0 a0 res.2, WX0 cy (a0 0) a1 s1]) res.1 := by
  refine CI.of (cc := cX10_dislikes) (maxL := 3) (by decide) rfl (Nat.le_of_ble_eq_true rfl) ?_
  intro p e s m args below meth c A QQ ls E hr
  obtain ⟨hx, hb, hml, hown, hts, hK, hN, hP, hD, hA, hl⟩ := E
  have hret : ∀ (pc : Nat) (H : Heap) (locs : List Loc) (ls : Array Slot) (u : Int32 × Rc), u = res → va_P D vwCl (flat [WX10 cy h0 a0 u.2, WX0 cy (a0 0) a1 s1]) H → va_D A (flat [WX10 cy h0 a0 u.2, WX0 cy (a0 0) a1 s1]) → va_S A s.heap H locs → decode cX10_dislikes pc = .ok (.ireturn, 1) → W p l e rmX10_dislikes s m args below meth c H locs 0 0 QQ (F0 m pc ls [.int u.1]) := by
    intro pc H locs ls u hu hP hD hS hd; subst hu; exact hr pc H locs ls _ rfl hP hD hS hd
  clear hr
  have hl : lv_has ls 3 [(0, .ref h0), (1, .int p1), (2, .int p2)] := hl
  have hinX10 : ∀ w ∈ wsX100, w ∈ wsX10_dislikes := fun _ h => List.mem_cons_of_mem _ (List.mem_append_left _ (List.mem_append_right _ h))
  unfold fX10_dislikes at h
  suffices key : ∀ (H : Heap) (locs : List Loc), va_P D vwCl (flat [WX10 cy h0 a0 s0, WX0 cy (a0 0) a1 s1]) H → va_S A s.heap H locs → W p l e rmX10_dislikes s m args below meth c H locs 0 0 QQ (F0 m 0 ls []) from key _ _ hP va_S.rf
  clear hP
  intro H locs hP hS
  refine lv_aload_n hx hb dX10_dislikes_0 rfl (lv_at hl 0 rfl) ?_
  refine lv_iload_n hx hb dX10_dislikes_1 rfl (lv_at hl 1 rfl) ?_
  refine ca_z (w' := [WX10 cy h0 a0 s0, WX0 cy (a0 0) a1 s1]) (rn_V (As := [.int p1]) (rest := []) ⟨hx, hb, hml, hown, hts⟩ (kX10_noFarmer l D cy h0 a0 a1 s0 s1 p1 _ rfl H.size) (cwV 1 hts gX10_dislikes_X10_noFarmer rfl rfl rfl (by decide +kernel) ⟨Nat.le_of_ble_eq_true rfl, Nat.le_of_ble_eq_true rfl⟩) hK hN hP hD [0, 1] rfl rfl (ci := 10) (q0 := 0) rfl rfl rfl rfl hl.1 rfl (Nat.le_of_ble_eq_true rfl) dX10_dislikes_2 ⟨Nat.le_refl 0, Nat.le_refl 0⟩) hP hD hS hA [0, 1] ⟨rfl, rfl, rfl, rfl⟩ (fun b1 H locs hP hD hS => ?_)
  refine lv_if_ne (tgt := 16) hx hb dX10_dislikes_5 (by decide) (fun c2 => ?_) (fun c2 => ?_)
  · replace h := (if_neg c2).symm.trans h
    refine lv_aload_n hx hb dX10_dislikes_16 rfl (lv_at hl 0 rfl) ?_
    refine lv_iconst (v := 1) hx hb dX10_dislikes_17 (by decide) ?_
    obtain ⟨r3, hr3, h⟩ := lt_elim h
    refine ca_i (w' := [WX10 cy h0 a0 r3.2, WX0 cy (a0 0) a1 s1]) (rn_V (As := [.int (1 : Int32)]) (rest := []) ⟨hx, hb, hml, hown, hts⟩ (kX10_refuse l D cy h0 a0 s0 (1 : Int32) r3 hr3.symm H.size) (cwV 1 hts gX10_dislikes_X10_refuse rfl rfl rfl (by decide +kernel) ⟨Nat.le_of_ble_eq_true rfl, Nat.le_of_ble_eq_true rfl⟩) hK hN hP hD [0] rfl rfl (ci := 10) (q0 := 0) rfl rfl rfl rfl hl.1 rfl (Nat.le_of_ble_eq_true rfl) dX10_dislikes_18 ⟨Nat.le_refl 0, Nat.le_refl 0⟩) hP hD hS hA [0] ⟨rfl, rfl, rfl, rfl⟩ (fun H locs hP hD hS => ?_)
    exact hret 21 H locs ls (r3.1, r3.2) (Option.some.inj h) hP hD hS dX10_dislikes_21
  · replace h := (if_pos c2).symm.trans h
    refine lv_aload_n hx hb dX10_dislikes_8 rfl (lv_at hl 0 rfl) ?_
    refine lv_iload_n hx hb dX10_dislikes_9 rfl (lv_at hl 2 rfl) ?_
    refine ca_z (w' := [WX10 cy h0 a0 s0, WX0 cy (a0 0) a1 s1]) (rn_V (As := [.int p2]) (rest := []) ⟨hx, hb, hml, hown, hts⟩ (kX10_noFarmer l D cy h0 a0 a1 s0 s1 p2 _ rfl H.size) (cwV 1 hts gX10_dislikes_X10_noFarmer rfl rfl rfl (by decide +kernel) ⟨Nat.le_of_ble_eq_true rfl, Nat.le_of_ble_eq_true rfl⟩) hK hN hP hD [0, 1] rfl rfl (ci := 10) (q0 := 0) rfl rfl rfl rfl hl.1 rfl (Nat.le_of_ble_eq_true rfl) dX10_dislikes_10 ⟨Nat.le_refl 0, Nat.le_refl 0⟩) hP hD hS hA [0, 1] ⟨rfl, rfl, rfl, rfl⟩ (fun b4 H locs hP hD hS => ?_)
    refine lv_if_eq (tgt := 22) hx hb dX10_dislikes_13 (by decide) (fun c5 => ?_) (fun c5 => ?_)
    · replace h := (if_pos c5).symm.trans h
      refine lv_aload_n hx hb dX10_dislikes_22 rfl (lv_at hl 0 rfl) ?_
      refine lv_aload_n hx hb dX10_dislikes_23 rfl (lv_at hl 0 rfl) ?_
      refine va_get (D := D) (ci := 10) (v := .ref (a0 0)) (C := RX10) (T := TX10) (N := 19) hx hb hts hinX10 hown hK hP 0 rfl rfl 0 (by decide) (hts (.fieldLink RX10 10 "KneeBench" "bench" "LKneeBench$Bench;") (List.mem_of_getElem? (i := 1) rfl)) (fun _ h9 => h9) rfl dX10_dislikes_24 ?_
      refine lv_iload_n hx hb dX10_dislikes_27 rfl (lv_at hl 1 rfl) ?_
      refine lv_iload_n hx hb dX10_dislikes_28 rfl (lv_at hl 2 rfl) ?_
      obtain ⟨r6, hr6, h⟩ := bd_elim h
      refine ca_i (w' := [WX10 cy h0 a0 s0, WX0 cy (a0 0) a1 s1]) (rn_V (As := [.int p1, .int p2]) (rest := [.ref h0]) ⟨hx, hb, hml, hown, hts⟩ (kX0_dislike l D cy (a0 0) a1 s1 p1 p2 r6 hr6 H.size) (cwV 2 hts gX10_dislikes_X0_dislike rfl rfl rfl (by decide +kernel) ⟨Nat.le_of_ble_eq_true rfl, Nat.le_of_ble_eq_true rfl⟩) hK hN hP hD [1] rfl rfl (ci := 0) (q0 := 1) rfl rfl rfl rfl hl.1 rfl (Nat.le_of_ble_eq_true rfl) dX10_dislikes_29 ⟨Nat.le_refl 0, Nat.le_refl 0⟩) hP hD hS hA [1] ⟨rfl, rfl, rfl, rfl⟩ (fun H locs hP hD hS => ?_)
      obtain ⟨r7, hr7, h⟩ := lt_elim h
      refine ca_i (w' := [WX10 cy h0 a0 r7.2, WX0 cy (a0 0) a1 s1]) (rn_V (As := [.int r6]) (rest := []) ⟨hx, hb, hml, hown, hts⟩ (kX10_answer l D cy h0 a0 s0 r6 r7 hr7.symm H.size) (cwV 1 hts gX10_dislikes_X10_answer rfl rfl rfl (by decide +kernel) ⟨Nat.le_of_ble_eq_true rfl, Nat.le_of_ble_eq_true rfl⟩) hK hN hP hD [0] rfl rfl (ci := 10) (q0 := 0) rfl rfl rfl rfl hl.1 rfl (Nat.le_of_ble_eq_true rfl) dX10_dislikes_32 ⟨Nat.le_refl 0, Nat.le_refl 0⟩) hP hD hS hA [0] ⟨rfl, rfl, rfl, rfl⟩ (fun H locs hP hD hS => ?_)
      exact hret 35 H locs ls (r7.1, r7.2) (Option.some.inj h) hP hD hS dX10_dislikes_35
    · replace h := (if_neg c5).symm.trans h
      refine lv_aload_n hx hb dX10_dislikes_16 rfl (lv_at hl 0 rfl) ?_
      refine lv_iconst (v := 1) hx hb dX10_dislikes_17 (by decide) ?_
      obtain ⟨r8, hr8, h⟩ := lt_elim h
      refine ca_i (w' := [WX10 cy h0 a0 r8.2, WX0 cy (a0 0) a1 s1]) (rn_V (As := [.int (1 : Int32)]) (rest := []) ⟨hx, hb, hml, hown, hts⟩ (kX10_refuse l D cy h0 a0 s0 (1 : Int32) r8 hr8.symm H.size) (cwV 1 hts gX10_dislikes_X10_refuse rfl rfl rfl (by decide +kernel) ⟨Nat.le_of_ble_eq_true rfl, Nat.le_of_ble_eq_true rfl⟩) hK hN hP hD [0] rfl rfl (ci := 10) (q0 := 0) rfl rfl rfl rfl hl.1 rfl (Nat.le_of_ble_eq_true rfl) dX10_dislikes_18 ⟨Nat.le_refl 0, Nat.le_refl 0⟩) hP hD hS hA [0] ⟨rfl, rfl, rfl, rfl⟩ (fun H locs hP hD hS => ?_)
      exact hret 21 H locs ls (r8.1, r8.2) (Option.some.inj h) hP hD hS dX10_dislikes_21
theorem gd_X10_dryMillionths : wsX10_dryMillionths.all goodWord = true := by decide +kernel
set_option maxRecDepth 20000 in
theorem ggX10_dryMillionths_X0_dryShare : GoodIn wsX10_dryMillionths wsX0_dryShare := goodIn_by gd_X10_dryMillionths (List.forall_mem_cons.mpr ⟨List.mem_cons_of_mem _ (List.mem_append_left _ (List.mem_append_left _ (List.mem_append_left _ (List.mem_of_getElem? (i := 7) rfl)))), List.forall_mem_append.mpr ⟨List.forall_mem_append.mpr ⟨List.forall_mem_cons.mpr ⟨List.mem_cons_of_mem _ (List.mem_append_left _ (List.mem_append_left _ (List.mem_append_left _ (List.mem_of_getElem? (i := 8) rfl)))), List.forall_mem_cons.mpr ⟨List.mem_cons_of_mem _ (List.mem_append_left _ (List.mem_append_left _ (List.mem_append_left _ (List.mem_of_getElem? (i := 9) rfl)))), List.forall_mem_cons.mpr ⟨List.mem_cons_of_mem _ (List.mem_append_left _ (List.mem_append_left _ (List.mem_append_left _ (List.mem_of_getElem? (i := 10) rfl)))), List.forall_mem_cons.mpr ⟨List.mem_cons_of_mem _ (List.mem_append_left _ (List.mem_append_left _ (List.mem_append_left _ (List.mem_of_getElem? (i := 6) rfl)))), List.forall_mem_cons.mpr ⟨List.mem_cons_of_mem _ (List.mem_append_left _ (List.mem_append_left _ (List.mem_append_left _ (List.mem_of_getElem? (i := 11) rfl)))), List.forall_mem_cons.mpr ⟨List.mem_cons_of_mem _ (List.mem_append_left _ (List.mem_append_left _ (List.mem_append_left _ (List.mem_of_getElem? (i := 12) rfl)))), List.forall_mem_cons.mpr ⟨List.mem_cons_of_mem _ (List.mem_append_left _ (List.mem_append_left _ (List.mem_append_left _ (List.mem_of_getElem? (i := 13) rfl)))), List.forall_mem_cons.mpr ⟨List.mem_cons_of_mem _ (List.mem_append_left _ (List.mem_append_left _ (List.mem_append_left _ (List.mem_of_getElem? (i := 14) rfl)))), List.forall_mem_cons.mpr ⟨List.mem_cons_of_mem _ (List.mem_append_left _ (List.mem_append_left _ (List.mem_append_left _ (List.mem_of_getElem? (i := 15) rfl)))), List.forall_mem_cons.mpr ⟨List.mem_cons_of_mem _ (List.mem_append_left _ (List.mem_append_left _ (List.mem_append_left _ (List.mem_of_getElem? (i := 16) rfl)))), List.forall_mem_cons.mpr ⟨List.mem_cons_of_mem _ (List.mem_append_left _ (List.mem_append_left _ (List.mem_append_left _ (List.mem_of_getElem? (i := 17) rfl)))), List.forall_mem_cons.mpr ⟨List.mem_cons_of_mem _ (List.mem_append_left _ (List.mem_append_left _ (List.mem_append_left _ (List.mem_of_getElem? (i := 18) rfl)))), List.forall_mem_cons.mpr ⟨List.mem_cons_of_mem _ (List.mem_append_left _ (List.mem_append_left _ (List.mem_append_left _ (List.mem_of_getElem? (i := 19) rfl)))), List.forall_mem_cons.mpr ⟨List.mem_cons_of_mem _ (List.mem_append_left _ (List.mem_append_left _ (List.mem_append_left _ (List.mem_of_getElem? (i := 20) rfl)))), List.forall_mem_cons.mpr ⟨List.mem_cons_of_mem _ (List.mem_append_left _ (List.mem_append_left _ (List.mem_append_left _ (List.mem_of_getElem? (i := 21) rfl)))), List.forall_mem_cons.mpr ⟨List.mem_cons_of_mem _ (List.mem_append_left _ (List.mem_append_left _ (List.mem_append_left _ (List.mem_of_getElem? (i := 22) rfl)))), List.forall_mem_cons.mpr ⟨List.mem_cons_of_mem _ (List.mem_append_left _ (List.mem_append_left _ (List.mem_append_left _ (List.mem_of_getElem? (i := 23) rfl)))), List.forall_mem_cons.mpr ⟨List.mem_cons_of_mem _ (List.mem_append_left _ (List.mem_append_left _ (List.mem_append_right _ (List.mem_of_getElem? (i := 0) rfl)))), List.forall_mem_cons.mpr ⟨List.mem_cons_of_mem _ (List.mem_append_left _ (List.mem_append_left _ (List.mem_append_right _ (List.mem_of_getElem? (i := 1) rfl)))), List.forall_mem_cons.mpr ⟨List.mem_cons_of_mem _ (List.mem_append_left _ (List.mem_append_left _ (List.mem_append_right _ (List.mem_of_getElem? (i := 2) rfl)))), List.forall_mem_cons.mpr ⟨List.mem_cons_of_mem _ (List.mem_append_left _ (List.mem_append_left _ (List.mem_append_right _ (List.mem_of_getElem? (i := 3) rfl)))), List.forall_mem_cons.mpr ⟨List.mem_cons_of_mem _ (List.mem_append_left _ (List.mem_append_left _ (List.mem_append_right _ (List.mem_of_getElem? (i := 4) rfl)))), List.forall_mem_cons.mpr ⟨List.mem_cons_of_mem _ (List.mem_append_left _ (List.mem_append_left _ (List.mem_append_right _ (List.mem_of_getElem? (i := 5) rfl)))), List.forall_mem_cons.mpr ⟨List.mem_cons_of_mem _ (List.mem_append_left _ (List.mem_append_left _ (List.mem_append_right _ (List.mem_of_getElem? (i := 6) rfl)))), nowords_in⟩⟩⟩⟩⟩⟩⟩⟩⟩⟩⟩⟩⟩⟩⟩⟩⟩⟩⟩⟩⟩⟩⟩⟩, List.forall_mem_cons.mpr ⟨List.mem_cons_of_mem _ (List.mem_append_left _ (List.mem_append_left _ (List.mem_append_right _ (List.mem_of_getElem? (i := 7) rfl)))), List.forall_mem_cons.mpr ⟨List.mem_cons_of_mem _ (List.mem_append_left _ (List.mem_append_left _ (List.mem_append_right _ (List.mem_of_getElem? (i := 8) rfl)))), List.forall_mem_cons.mpr ⟨List.mem_cons_of_mem _ (List.mem_append_left _ (List.mem_append_left _ (List.mem_append_right _ (List.mem_of_getElem? (i := 9) rfl)))), List.forall_mem_cons.mpr ⟨List.mem_cons_of_mem _ (List.mem_append_left _ (List.mem_append_left _ (List.mem_append_right _ (List.mem_of_getElem? (i := 10) rfl)))), List.forall_mem_cons.mpr ⟨List.mem_cons_of_mem _ (List.mem_append_left _ (List.mem_append_left _ (List.mem_append_right _ (List.mem_of_getElem? (i := 11) rfl)))), nowords_in⟩⟩⟩⟩⟩⟩, (fun _ h => List.mem_cons_of_mem _ (List.mem_append_right _ (h)))⟩⟩)
set_option maxRecDepth 20000 in
theorem gX10_dryMillionths_X0_dryShare : GoodIn wsX10_dryMillionths (wsV RX10 333 RX0 yX0_dryShare wsX0_dryShare) := goodIn_app (goodIn_by gd_X10_dryMillionths (List.forall_mem_cons.mpr ⟨List.mem_cons_of_mem _ (List.mem_append_left _ (List.mem_append_left _ (List.mem_append_left _ (List.mem_of_getElem? (i := 3) rfl)))), List.forall_mem_cons.mpr ⟨List.mem_cons_of_mem _ (List.mem_append_left _ (List.mem_append_left _ (List.mem_append_left _ (List.mem_of_getElem? (i := 4) rfl)))), List.forall_mem_cons.mpr ⟨List.mem_cons_of_mem _ (List.mem_append_left _ (List.mem_append_left _ (List.mem_append_left _ (List.mem_of_getElem? (i := 5) rfl)))), List.forall_mem_cons.mpr ⟨List.mem_cons_of_mem _ (List.mem_append_left _ (List.mem_append_left _ (List.mem_append_left _ (List.mem_of_getElem? (i := 6) rfl)))), nowords_in⟩⟩⟩⟩)) ggX10_dryMillionths_X0_dryShare
set_option maxRecDepth 20000 in
theorem ggX10_dryMillionths_X0_rainShare : GoodIn wsX10_dryMillionths wsX0_rainShare := goodIn_by gd_X10_dryMillionths (List.forall_mem_cons.mpr ⟨List.mem_cons_of_mem _ (List.mem_append_left _ (List.mem_append_left _ (List.mem_append_right _ (List.mem_of_getElem? (i := 15) rfl)))), List.forall_mem_append.mpr ⟨List.forall_mem_append.mpr ⟨List.forall_mem_cons.mpr ⟨List.mem_cons_of_mem _ (List.mem_append_left _ (List.mem_append_left _ (List.mem_append_left _ (List.mem_of_getElem? (i := 8) rfl)))), List.forall_mem_cons.mpr ⟨List.mem_cons_of_mem _ (List.mem_append_left _ (List.mem_append_left _ (List.mem_append_left _ (List.mem_of_getElem? (i := 9) rfl)))), List.forall_mem_cons.mpr ⟨List.mem_cons_of_mem _ (List.mem_append_left _ (List.mem_append_left _ (List.mem_append_left _ (List.mem_of_getElem? (i := 10) rfl)))), List.forall_mem_cons.mpr ⟨List.mem_cons_of_mem _ (List.mem_append_left _ (List.mem_append_left _ (List.mem_append_left _ (List.mem_of_getElem? (i := 6) rfl)))), List.forall_mem_cons.mpr ⟨List.mem_cons_of_mem _ (List.mem_append_left _ (List.mem_append_left _ (List.mem_append_left _ (List.mem_of_getElem? (i := 11) rfl)))), List.forall_mem_cons.mpr ⟨List.mem_cons_of_mem _ (List.mem_append_left _ (List.mem_append_left _ (List.mem_append_left _ (List.mem_of_getElem? (i := 12) rfl)))), List.forall_mem_cons.mpr ⟨List.mem_cons_of_mem _ (List.mem_append_left _ (List.mem_append_left _ (List.mem_append_left _ (List.mem_of_getElem? (i := 13) rfl)))), List.forall_mem_cons.mpr ⟨List.mem_cons_of_mem _ (List.mem_append_left _ (List.mem_append_left _ (List.mem_append_left _ (List.mem_of_getElem? (i := 14) rfl)))), List.forall_mem_cons.mpr ⟨List.mem_cons_of_mem _ (List.mem_append_left _ (List.mem_append_left _ (List.mem_append_left _ (List.mem_of_getElem? (i := 15) rfl)))), List.forall_mem_cons.mpr ⟨List.mem_cons_of_mem _ (List.mem_append_left _ (List.mem_append_left _ (List.mem_append_left _ (List.mem_of_getElem? (i := 16) rfl)))), List.forall_mem_cons.mpr ⟨List.mem_cons_of_mem _ (List.mem_append_left _ (List.mem_append_left _ (List.mem_append_left _ (List.mem_of_getElem? (i := 17) rfl)))), List.forall_mem_cons.mpr ⟨List.mem_cons_of_mem _ (List.mem_append_left _ (List.mem_append_left _ (List.mem_append_left _ (List.mem_of_getElem? (i := 18) rfl)))), List.forall_mem_cons.mpr ⟨List.mem_cons_of_mem _ (List.mem_append_left _ (List.mem_append_left _ (List.mem_append_left _ (List.mem_of_getElem? (i := 19) rfl)))), List.forall_mem_cons.mpr ⟨List.mem_cons_of_mem _ (List.mem_append_left _ (List.mem_append_left _ (List.mem_append_left _ (List.mem_of_getElem? (i := 20) rfl)))), List.forall_mem_cons.mpr ⟨List.mem_cons_of_mem _ (List.mem_append_left _ (List.mem_append_left _ (List.mem_append_left _ (List.mem_of_getElem? (i := 21) rfl)))), List.forall_mem_cons.mpr ⟨List.mem_cons_of_mem _ (List.mem_append_left _ (List.mem_append_left _ (List.mem_append_left _ (List.mem_of_getElem? (i := 22) rfl)))), List.forall_mem_cons.mpr ⟨List.mem_cons_of_mem _ (List.mem_append_left _ (List.mem_append_left _ (List.mem_append_left _ (List.mem_of_getElem? (i := 23) rfl)))), List.forall_mem_cons.mpr ⟨List.mem_cons_of_mem _ (List.mem_append_left _ (List.mem_append_left _ (List.mem_append_right _ (List.mem_of_getElem? (i := 0) rfl)))), List.forall_mem_cons.mpr ⟨List.mem_cons_of_mem _ (List.mem_append_left _ (List.mem_append_left _ (List.mem_append_right _ (List.mem_of_getElem? (i := 1) rfl)))), List.forall_mem_cons.mpr ⟨List.mem_cons_of_mem _ (List.mem_append_left _ (List.mem_append_left _ (List.mem_append_right _ (List.mem_of_getElem? (i := 2) rfl)))), List.forall_mem_cons.mpr ⟨List.mem_cons_of_mem _ (List.mem_append_left _ (List.mem_append_left _ (List.mem_append_right _ (List.mem_of_getElem? (i := 3) rfl)))), List.forall_mem_cons.mpr ⟨List.mem_cons_of_mem _ (List.mem_append_left _ (List.mem_append_left _ (List.mem_append_right _ (List.mem_of_getElem? (i := 4) rfl)))), List.forall_mem_cons.mpr ⟨List.mem_cons_of_mem _ (List.mem_append_left _ (List.mem_append_left _ (List.mem_append_right _ (List.mem_of_getElem? (i := 5) rfl)))), List.forall_mem_cons.mpr ⟨List.mem_cons_of_mem _ (List.mem_append_left _ (List.mem_append_left _ (List.mem_append_right _ (List.mem_of_getElem? (i := 6) rfl)))), nowords_in⟩⟩⟩⟩⟩⟩⟩⟩⟩⟩⟩⟩⟩⟩⟩⟩⟩⟩⟩⟩⟩⟩⟩⟩, List.forall_mem_cons.mpr ⟨List.mem_cons_of_mem _ (List.mem_append_left _ (List.mem_append_left _ (List.mem_append_right _ (List.mem_of_getElem? (i := 7) rfl)))), List.forall_mem_cons.mpr ⟨List.mem_cons_of_mem _ (List.mem_append_left _ (List.mem_append_left _ (List.mem_append_right _ (List.mem_of_getElem? (i := 8) rfl)))), List.forall_mem_cons.mpr ⟨List.mem_cons_of_mem _ (List.mem_append_left _ (List.mem_append_left _ (List.mem_append_right _ (List.mem_of_getElem? (i := 9) rfl)))), List.forall_mem_cons.mpr ⟨List.mem_cons_of_mem _ (List.mem_append_left _ (List.mem_append_left _ (List.mem_append_right _ (List.mem_of_getElem? (i := 10) rfl)))), List.forall_mem_cons.mpr ⟨List.mem_cons_of_mem _ (List.mem_append_left _ (List.mem_append_left _ (List.mem_append_right _ (List.mem_of_getElem? (i := 11) rfl)))), nowords_in⟩⟩⟩⟩⟩⟩, (fun _ h => List.mem_cons_of_mem _ (List.mem_append_right _ (h)))⟩⟩)
set_option maxRecDepth 20000 in
theorem gX10_dryMillionths_X0_rainShare : GoodIn wsX10_dryMillionths (wsV RX10 330 RX0 yX0_rainShare wsX0_rainShare) := goodIn_app (goodIn_by gd_X10_dryMillionths (List.forall_mem_cons.mpr ⟨List.mem_cons_of_mem _ (List.mem_append_left _ (List.mem_append_left _ (List.mem_append_right _ (List.mem_of_getElem? (i := 12) rfl)))), List.forall_mem_cons.mpr ⟨List.mem_cons_of_mem _ (List.mem_append_left _ (List.mem_append_left _ (List.mem_append_right _ (List.mem_of_getElem? (i := 13) rfl)))), List.forall_mem_cons.mpr ⟨List.mem_cons_of_mem _ (List.mem_append_left _ (List.mem_append_left _ (List.mem_append_right _ (List.mem_of_getElem? (i := 14) rfl)))), List.forall_mem_cons.mpr ⟨List.mem_cons_of_mem _ (List.mem_append_left _ (List.mem_append_left _ (List.mem_append_left _ (List.mem_of_getElem? (i := 6) rfl)))), nowords_in⟩⟩⟩⟩)) ggX10_dryMillionths_X0_rainShare
theorem dX10_dryMillionths_0 : decode cX10_dryMillionths 0 = .ok (.aload_n 0, 1) := by decide +kernel
theorem dX10_dryMillionths_1 : decode cX10_dryMillionths 1 = .ok (.getfield 10, 3) := by decide +kernel
theorem dX10_dryMillionths_4 : decode cX10_dryMillionths 4 = .ok (.iload_n 1, 1) := by decide +kernel
theorem dX10_dryMillionths_5 : decode cX10_dryMillionths 5 = .ok (.iload_n 2, 1) := by decide +kernel
theorem dX10_dryMillionths_6 : decode cX10_dryMillionths 6 = .ok (.invokevirtual 333, 3) := by decide +kernel
theorem dX10_dryMillionths_9 : decode cX10_dryMillionths 9 = .ok (.lstore_n 3, 1) := by decide +kernel
theorem dX10_dryMillionths_10 : decode cX10_dryMillionths 10 = .ok (.lload_n 3, 1) := by decide +kernel
theorem dX10_dryMillionths_11 : decode cX10_dryMillionths 11 = .ok (.aload_n 0, 1) := by decide +kernel
theorem dX10_dryMillionths_12 : decode cX10_dryMillionths 12 = .ok (.getfield 10, 3) := by decide +kernel
theorem dX10_dryMillionths_15 : decode cX10_dryMillionths 15 = .ok (.iload_n 1, 1) := by decide +kernel
theorem dX10_dryMillionths_16 : decode cX10_dryMillionths 16 = .ok (.iload_n 2, 1) := by decide +kernel
theorem dX10_dryMillionths_17 : decode cX10_dryMillionths 17 = .ok (.invokevirtual 330, 3) := by decide +kernel
theorem dX10_dryMillionths_20 : decode cX10_dryMillionths 20 = .ok (.ladd, 1) := by decide +kernel
theorem dX10_dryMillionths_21 : decode cX10_dryMillionths 21 = .ok (.lstore 5, 2) := by decide +kernel
theorem dX10_dryMillionths_23 : decode cX10_dryMillionths 23 = .ok (.lload 5, 2) := by decide +kernel
theorem dX10_dryMillionths_25 : decode cX10_dryMillionths 25 = .ok (.lconst 0, 1) := by decide +kernel
theorem dX10_dryMillionths_26 : decode cX10_dryMillionths 26 = .ok (.lcmp, 1) := by decide +kernel
theorem dX10_dryMillionths_27 : decode cX10_dryMillionths 27 = .ok (.ifCond .ne 9, 3) := by decide +kernel
theorem dX10_dryMillionths_30 : decode cX10_dryMillionths 30 = .ok (.ldc2_w 297, 3) := by decide +kernel
theorem dX10_dryMillionths_33 : decode cX10_dryMillionths 33 = .ok (.goto 11, 3) := by decide +kernel
theorem dX10_dryMillionths_36 : decode cX10_dryMillionths 36 = .ok (.lload_n 3, 1) := by decide +kernel
theorem dX10_dryMillionths_37 : decode cX10_dryMillionths 37 = .ok (.ldc2_w 339, 3) := by decide +kernel
theorem dX10_dryMillionths_40 : decode cX10_dryMillionths 40 = .ok (.lmul, 1) := by decide +kernel
theorem dX10_dryMillionths_41 : decode cX10_dryMillionths 41 = .ok (.lload 5, 2) := by decide +kernel
theorem dX10_dryMillionths_43 : decode cX10_dryMillionths 43 = .ok (.ldiv, 1) := by decide +kernel
theorem dX10_dryMillionths_44 : decode cX10_dryMillionths 44 = .ok (.lreturn, 1) := by decide +kernel
abbrev rmX10_dryMillionths : Room := { frames := 4, cells := 0, slots := 0, locals := 93 }
set_option maxHeartbeats 4000000 in
set_option maxRecDepth 100000 in
theorem kX10_dryMillionths (l : Launch) (D : va_G) (cy : Nat → ClassId) (h0 : Nat) (a0 : Nat → Nat) (a1 : Nat → Nat) (s0 : Rc) (s1 : Rc) (p1 : Int32) (p2 : Int32) (res : Int64) (h : fX10_dryMillionths p1 p2 s0 s1 = some res) : CL l D cy yX10_dryMillionths wsX10_dryMillionths rmX10_dryMillionths [.ref h0, .int p1, .int p2] (flat [WX10 cy h0 a0 s0, WX0 cy (a0 0) a1 s1]) (flat [WX10 cy h0 a0 s0, WX0 cy (a0 0) a1 s1]) res := by
  refine CL.of (cc := cX10_dryMillionths) (maxL := 7) (by decide) rfl (Nat.le_of_ble_eq_true rfl) ?_
  intro p e s m args below meth c A QQ ls E hr
  obtain ⟨hx, hb, hml, hown, hts, hK, hN, hP, hD, hA, hl⟩ := E
  have hret : ∀ (pc : Nat) (H : Heap) (locs : List Loc) (ls : Array Slot) (u : Int64), u = res → va_P D vwCl (flat [WX10 cy h0 a0 s0, WX0 cy (a0 0) a1 s1]) H → va_D A (flat [WX10 cy h0 a0 s0, WX0 cy (a0 0) a1 s1]) → va_S A s.heap H locs → decode cX10_dryMillionths pc = .ok (.lreturn, 1) → W p l e rmX10_dryMillionths s m args below meth c H locs 0 0 QQ (F0 m pc ls [.long u]) := by
    intro pc H locs ls u hu hP hD hS hd; subst hu; exact hr pc H locs ls _ rfl hP hD hS hd
  clear hr
  have hl : lv_has ls 7 [(0, .ref h0), (1, .int p1), (2, .int p2)] := hl
  have hinX10 : ∀ w ∈ wsX100, w ∈ wsX10_dryMillionths := fun _ h => List.mem_cons_of_mem _ (List.mem_append_left _ (List.mem_append_right _ h))
  unfold fX10_dryMillionths at h
  suffices key : ∀ (H : Heap) (locs : List Loc), va_P D vwCl (flat [WX10 cy h0 a0 s0, WX0 cy (a0 0) a1 s1]) H → va_S A s.heap H locs → W p l e rmX10_dryMillionths s m args below meth c H locs 0 0 QQ (F0 m 0 ls []) from key _ _ hP va_S.rf
  clear hP
  intro H locs hP hS
  refine lv_aload_n hx hb dX10_dryMillionths_0 rfl (lv_at hl 0 rfl) ?_
  refine va_get (D := D) (ci := 10) (v := .ref (a0 0)) (C := RX10) (T := TX10) (N := 19) hx hb hts hinX10 hown hK hP 0 rfl rfl 0 (by decide) (hts (.fieldLink RX10 10 "KneeBench" "bench" "LKneeBench$Bench;") (List.mem_of_getElem? (i := 1) rfl)) (fun _ h9 => h9) rfl dX10_dryMillionths_1 ?_
  refine lv_iload_n hx hb dX10_dryMillionths_4 rfl (lv_at hl 1 rfl) ?_
  refine lv_iload_n hx hb dX10_dryMillionths_5 rfl (lv_at hl 2 rfl) ?_
  obtain ⟨r1, hr1, h⟩ := bd_elim h
  refine ca_l (w' := [WX10 cy h0 a0 s0, WX0 cy (a0 0) a1 s1]) (rn_V (As := [.int p1, .int p2]) (rest := []) ⟨hx, hb, hml, hown, hts⟩ (kX0_dryShare l D cy (a0 0) a1 s1 p1 p2 r1 hr1 H.size) (cwV 2 hts gX10_dryMillionths_X0_dryShare rfl rfl rfl (by decide +kernel) ⟨Nat.le_of_ble_eq_true rfl, Nat.le_of_ble_eq_true rfl⟩) hK hN hP hD [1] rfl rfl (ci := 0) (q0 := 1) rfl rfl rfl rfl hl.1 rfl (Nat.le_of_ble_eq_true rfl) dX10_dryMillionths_6 ⟨Nat.le_refl 0, Nat.le_refl 0⟩) hP hD hS hA [1] ⟨rfl, rfl, rfl, rfl⟩ (fun H locs hP hD hS => ?_)
  refine lv_lstore_n (lv' := [(3, .long r1), (0, .ref h0), (1, .int p1), (2, .int p2)]) hx hb dX10_dryMillionths_9 rfl hl (by decide) rfl (fun ls hl => ?_)
  refine lv_lload_n hx hb dX10_dryMillionths_10 rfl (lv_at hl 0 rfl) ?_
  refine lv_aload_n hx hb dX10_dryMillionths_11 rfl (lv_at hl 1 rfl) ?_
  refine va_get (D := D) (ci := 10) (v := .ref (a0 0)) (C := RX10) (T := TX10) (N := 19) hx hb hts hinX10 hown hK hP 0 rfl rfl 0 (by decide) (hts (.fieldLink RX10 10 "KneeBench" "bench" "LKneeBench$Bench;") (List.mem_of_getElem? (i := 1) rfl)) (fun _ h9 => h9) rfl dX10_dryMillionths_12 ?_
  refine lv_iload_n hx hb dX10_dryMillionths_15 rfl (lv_at hl 2 rfl) ?_
  refine lv_iload_n hx hb dX10_dryMillionths_16 rfl (lv_at hl 3 rfl) ?_
  obtain ⟨r2, hr2, h⟩ := bd_elim h
  refine ca_l (w' := [WX10 cy h0 a0 s0, WX0 cy (a0 0) a1 s1]) (rn_V (As := [.int p1, .int p2]) (rest := [.long r1]) ⟨hx, hb, hml, hown, hts⟩ (kX0_rainShare l D cy (a0 0) a1 s1 p1 p2 r2 hr2 H.size) (cwV 2 hts gX10_dryMillionths_X0_rainShare rfl rfl rfl (by decide +kernel) ⟨Nat.le_of_ble_eq_true rfl, Nat.le_of_ble_eq_true rfl⟩) hK hN hP hD [1] rfl rfl (ci := 0) (q0 := 1) rfl rfl rfl rfl hl.1 rfl (Nat.le_of_ble_eq_true rfl) dX10_dryMillionths_17 ⟨Nat.le_refl 0, Nat.le_refl 0⟩) hP hD hS hA [1] ⟨rfl, rfl, rfl, rfl⟩ (fun H locs hP hD hS => ?_)
  refine lv_ladd hx hb dX10_dryMillionths_20 ?_
  refine lv_topl (fun x3 ex3 => ?_)
  replace h := lt_use h x3 ex3
  refine lv_lstore (lv' := [(5, .long x3), (3, .long r1), (0, .ref h0), (1, .int p1), (2, .int p2)]) hx hb dX10_dryMillionths_21 hl (by decide) rfl (fun ls hl => ?_)
  refine lv_lload hx hb dX10_dryMillionths_23 (lv_at hl 0 rfl) ?_
  refine lv_lconst (v := 0) hx hb dX10_dryMillionths_25 (by decide) ?_
  refine W.lcmp hx hb dX10_dryMillionths_26 ?_
  refine lv_if_ne (tgt := 36) hx hb dX10_dryMillionths_27 (by decide) (fun c4 => ?_) (fun c4 => ?_)
  · replace h := (if_neg (fun z => c4 (lg_ceq.mpr z))).symm.trans h
    refine lv_lload_n hx hb dX10_dryMillionths_36 rfl (lv_at hl 1 rfl) ?_
    refine lv_ldc2 (v := 1000000) hx hb hown (hts (.constantLong RX10 339 (1000000)) (List.mem_of_getElem? (i := 3) rfl)) dX10_dryMillionths_37 ?_
    refine lv_lmul hx hb dX10_dryMillionths_40 ?_
    refine lv_lload hx hb dX10_dryMillionths_41 (lv_at hl 0 rfl) ?_
    obtain ⟨g5, h⟩ := gd_elim h
    refine lv_ldiv hx hb dX10_dryMillionths_43 (nz64_ne g5) ?_
    exact hret 44 H locs ls ((r1 * (1000000 : Int64)) / x3) (Option.some.inj h) hP hD hS dX10_dryMillionths_44
  · replace h := (if_pos (lg_ceq.mp c4)).symm.trans h
    refine lv_ldc2 (v := -1) hx hb hown (hts (.constantLong RX10 297 (-1)) (List.mem_of_getElem? (i := 2) rfl)) dX10_dryMillionths_30 ?_
    refine lv_goto (tgt := 44) hx hb dX10_dryMillionths_33 (by decide) ?_
    exact hret 44 H locs ls (-1 : Int64) (Option.some.inj h) hP hD hS dX10_dryMillionths_44
theorem gd_X10_farmer : wsX10_farmer.all goodWord = true := by decide +kernel
set_option maxRecDepth 20000 in
theorem ggX10_farmer_X10_noFarmer : GoodIn wsX10_farmer wsX10_noFarmer := goodIn_by gd_X10_farmer (List.forall_mem_cons.mpr ⟨List.mem_cons_of_mem _ (List.mem_append_left _ (List.mem_append_left _ (List.mem_append_left _ (List.mem_of_getElem? (i := 5) rfl)))), List.forall_mem_append.mpr ⟨List.forall_mem_append.mpr ⟨List.forall_mem_cons.mpr ⟨List.mem_cons_of_mem _ (List.mem_append_left _ (List.mem_append_left _ (List.mem_append_left _ (List.mem_of_getElem? (i := 0) rfl)))), List.forall_mem_cons.mpr ⟨List.mem_cons_of_mem _ (List.mem_append_left _ (List.mem_append_left _ (List.mem_append_left _ (List.mem_of_getElem? (i := 6) rfl)))), List.forall_mem_cons.mpr ⟨List.mem_cons_of_mem _ (List.mem_append_left _ (List.mem_append_left _ (List.mem_append_left _ (List.mem_of_getElem? (i := 7) rfl)))), List.forall_mem_cons.mpr ⟨List.mem_cons_of_mem _ (List.mem_append_left _ (List.mem_append_left _ (List.mem_append_left _ (List.mem_of_getElem? (i := 8) rfl)))), List.forall_mem_cons.mpr ⟨List.mem_cons_of_mem _ (List.mem_append_left _ (List.mem_append_left _ (List.mem_append_left _ (List.mem_of_getElem? (i := 9) rfl)))), List.forall_mem_cons.mpr ⟨List.mem_cons_of_mem _ (List.mem_append_left _ (List.mem_append_left _ (List.mem_append_left _ (List.mem_of_getElem? (i := 10) rfl)))), List.forall_mem_cons.mpr ⟨List.mem_cons_of_mem _ (List.mem_append_left _ (List.mem_append_left _ (List.mem_append_left _ (List.mem_of_getElem? (i := 11) rfl)))), nowords_in⟩⟩⟩⟩⟩⟩⟩, (fun _ h => List.mem_cons_of_mem _ (List.mem_append_left _ (List.mem_append_right _ (h))))⟩, (fun _ h => List.mem_cons_of_mem _ (List.mem_append_right _ (h)))⟩⟩)
set_option maxRecDepth 20000 in
theorem gX10_farmer_X10_noFarmer : GoodIn wsX10_farmer (wsV RX10 215 RX10 yX10_noFarmer wsX10_noFarmer) := goodIn_app (goodIn_by gd_X10_farmer (List.forall_mem_cons.mpr ⟨List.mem_cons_of_mem _ (List.mem_append_left _ (List.mem_append_left _ (List.mem_append_left _ (List.mem_of_getElem? (i := 1) rfl)))), List.forall_mem_cons.mpr ⟨List.mem_cons_of_mem _ (List.mem_append_left _ (List.mem_append_left _ (List.mem_append_left _ (List.mem_of_getElem? (i := 2) rfl)))), List.forall_mem_cons.mpr ⟨List.mem_cons_of_mem _ (List.mem_append_left _ (List.mem_append_left _ (List.mem_append_left _ (List.mem_of_getElem? (i := 3) rfl)))), List.forall_mem_cons.mpr ⟨List.mem_cons_of_mem _ (List.mem_append_left _ (List.mem_append_left _ (List.mem_append_left _ (List.mem_of_getElem? (i := 4) rfl)))), nowords_in⟩⟩⟩⟩)) ggX10_farmer_X10_noFarmer
set_option maxRecDepth 20000 in
theorem ggX10_farmer_X10_refuse : GoodIn wsX10_farmer wsX10_refuse := goodIn_by gd_X10_farmer (List.forall_mem_cons.mpr ⟨List.mem_cons_of_mem _ (List.mem_append_left _ (List.mem_append_left _ (List.mem_append_left _ (List.mem_of_getElem? (i := 15) rfl)))), List.forall_mem_append.mpr ⟨List.forall_mem_cons.mpr ⟨List.mem_cons_of_mem _ (List.mem_append_left _ (List.mem_append_left _ (List.mem_append_left _ (List.mem_of_getElem? (i := 16) rfl)))), nowords_in⟩, (fun _ h => List.mem_cons_of_mem _ (List.mem_append_left _ (List.mem_append_right _ (h))))⟩⟩)
set_option maxRecDepth 20000 in
theorem gX10_farmer_X10_refuse : GoodIn wsX10_farmer (wsV RX10 139 RX10 yX10_refuse wsX10_refuse) := goodIn_app (goodIn_by gd_X10_farmer (List.forall_mem_cons.mpr ⟨List.mem_cons_of_mem _ (List.mem_append_left _ (List.mem_append_left _ (List.mem_append_left _ (List.mem_of_getElem? (i := 12) rfl)))), List.forall_mem_cons.mpr ⟨List.mem_cons_of_mem _ (List.mem_append_left _ (List.mem_append_left _ (List.mem_append_left _ (List.mem_of_getElem? (i := 13) rfl)))), List.forall_mem_cons.mpr ⟨List.mem_cons_of_mem _ (List.mem_append_left _ (List.mem_append_left _ (List.mem_append_left _ (List.mem_of_getElem? (i := 14) rfl)))), List.forall_mem_cons.mpr ⟨List.mem_cons_of_mem _ (List.mem_append_left _ (List.mem_append_left _ (List.mem_append_left _ (List.mem_of_getElem? (i := 4) rfl)))), nowords_in⟩⟩⟩⟩)) ggX10_farmer_X10_refuse
set_option maxRecDepth 20000 in
theorem ggX10_farmer_X10_answer : GoodIn wsX10_farmer wsX10_answer := goodIn_by gd_X10_farmer (List.forall_mem_cons.mpr ⟨List.mem_cons_of_mem _ (List.mem_append_left _ (List.mem_append_left _ (List.mem_append_left _ (List.mem_of_getElem? (i := 20) rfl)))), List.forall_mem_append.mpr ⟨List.forall_mem_cons.mpr ⟨List.mem_cons_of_mem _ (List.mem_append_left _ (List.mem_append_left _ (List.mem_append_left _ (List.mem_of_getElem? (i := 16) rfl)))), nowords_in⟩, (fun _ h => List.mem_cons_of_mem _ (List.mem_append_left _ (List.mem_append_right _ (h))))⟩⟩)
set_option maxRecDepth 20000 in
theorem gX10_farmer_X10_answer : GoodIn wsX10_farmer (wsV RX10 181 RX10 yX10_answer wsX10_answer) := goodIn_app (goodIn_by gd_X10_farmer (List.forall_mem_cons.mpr ⟨List.mem_cons_of_mem _ (List.mem_append_left _ (List.mem_append_left _ (List.mem_append_left _ (List.mem_of_getElem? (i := 17) rfl)))), List.forall_mem_cons.mpr ⟨List.mem_cons_of_mem _ (List.mem_append_left _ (List.mem_append_left _ (List.mem_append_left _ (List.mem_of_getElem? (i := 18) rfl)))), List.forall_mem_cons.mpr ⟨List.mem_cons_of_mem _ (List.mem_append_left _ (List.mem_append_left _ (List.mem_append_left _ (List.mem_of_getElem? (i := 19) rfl)))), List.forall_mem_cons.mpr ⟨List.mem_cons_of_mem _ (List.mem_append_left _ (List.mem_append_left _ (List.mem_append_left _ (List.mem_of_getElem? (i := 4) rfl)))), nowords_in⟩⟩⟩⟩)) ggX10_farmer_X10_answer
set_option maxRecDepth 20000 in
theorem ggX10_farmer_X0_hasElbow : GoodIn wsX10_farmer wsX0_hasElbow := goodIn_by gd_X10_farmer (List.forall_mem_cons.mpr ⟨List.mem_cons_of_mem _ (List.mem_append_left _ (List.mem_append_left _ (List.mem_append_right _ (List.mem_of_getElem? (i := 0) rfl)))), List.forall_mem_append.mpr ⟨List.forall_mem_cons.mpr ⟨List.mem_cons_of_mem _ (List.mem_append_left _ (List.mem_append_left _ (List.mem_append_right _ (List.mem_of_getElem? (i := 1) rfl)))), nowords_in⟩, (fun _ h => List.mem_cons_of_mem _ (List.mem_append_right _ (h)))⟩⟩)
set_option maxRecDepth 20000 in
theorem gX10_farmer_X0_hasElbow : GoodIn wsX10_farmer (wsV RX10 227 RX0 yX0_hasElbow wsX0_hasElbow) := goodIn_app (goodIn_by gd_X10_farmer (List.forall_mem_cons.mpr ⟨List.mem_cons_of_mem _ (List.mem_append_left _ (List.mem_append_left _ (List.mem_append_left _ (List.mem_of_getElem? (i := 21) rfl)))), List.forall_mem_cons.mpr ⟨List.mem_cons_of_mem _ (List.mem_append_left _ (List.mem_append_left _ (List.mem_append_left _ (List.mem_of_getElem? (i := 22) rfl)))), List.forall_mem_cons.mpr ⟨List.mem_cons_of_mem _ (List.mem_append_left _ (List.mem_append_left _ (List.mem_append_left _ (List.mem_of_getElem? (i := 23) rfl)))), List.forall_mem_cons.mpr ⟨List.mem_cons_of_mem _ (List.mem_append_left _ (List.mem_append_left _ (List.mem_append_left _ (List.mem_of_getElem? (i := 9) rfl)))), nowords_in⟩⟩⟩⟩)) ggX10_farmer_X0_hasElbow
set_option maxRecDepth 20000 in
theorem ggX10_farmer_X10_bit : GoodIn wsX10_farmer wsX10_bit := goodIn_by gd_X10_farmer (List.forall_mem_cons.mpr ⟨List.mem_cons_of_mem _ (List.mem_append_left _ (List.mem_append_left _ (List.mem_append_right _ (List.mem_of_getElem? (i := 4) rfl)))), nowords_in⟩)
set_option maxRecDepth 20000 in
theorem gX10_farmer_X10_bit : GoodIn wsX10_farmer (va_wsS RX10 230 yX10_bit wsX10_bit) := goodIn_app (goodIn_by gd_X10_farmer (List.forall_mem_cons.mpr ⟨List.mem_cons_of_mem _ (List.mem_append_left _ (List.mem_append_left _ (List.mem_append_right _ (List.mem_of_getElem? (i := 2) rfl)))), List.forall_mem_cons.mpr ⟨List.mem_cons_of_mem _ (List.mem_append_left _ (List.mem_append_left _ (List.mem_append_right _ (List.mem_of_getElem? (i := 3) rfl)))), List.forall_mem_cons.mpr ⟨List.mem_cons_of_mem _ (List.mem_append_left _ (List.mem_append_left _ (List.mem_append_left _ (List.mem_of_getElem? (i := 4) rfl)))), nowords_in⟩⟩⟩)) ggX10_farmer_X10_bit
set_option maxRecDepth 20000 in
theorem ggX10_farmer_J13_bitCount_95d88 : GoodIn wsX10_farmer wsJ13_bitCount_95d88 := goodIn_by gd_X10_farmer (List.forall_mem_cons.mpr ⟨List.mem_cons_of_mem _ (List.mem_append_left _ (List.mem_append_left _ (List.mem_append_right _ (List.mem_of_getElem? (i := 8) rfl)))), List.forall_mem_cons.mpr ⟨List.mem_cons_of_mem _ (List.mem_append_left _ (List.mem_append_left _ (List.mem_append_right _ (List.mem_of_getElem? (i := 9) rfl)))), List.forall_mem_cons.mpr ⟨List.mem_cons_of_mem _ (List.mem_append_left _ (List.mem_append_left _ (List.mem_append_right _ (List.mem_of_getElem? (i := 10) rfl)))), List.forall_mem_cons.mpr ⟨List.mem_cons_of_mem _ (List.mem_append_left _ (List.mem_append_left _ (List.mem_append_right _ (List.mem_of_getElem? (i := 11) rfl)))), nowords_in⟩⟩⟩⟩)
set_option maxRecDepth 20000 in
theorem gX10_farmer_J13_bitCount_95d88 : GoodIn wsX10_farmer (va_wsS RX10 203 yJ13_bitCount_95d88 wsJ13_bitCount_95d88) := goodIn_app (goodIn_by gd_X10_farmer (List.forall_mem_cons.mpr ⟨List.mem_cons_of_mem _ (List.mem_append_left _ (List.mem_append_left _ (List.mem_append_right _ (List.mem_of_getElem? (i := 5) rfl)))), List.forall_mem_cons.mpr ⟨List.mem_cons_of_mem _ (List.mem_append_left _ (List.mem_append_left _ (List.mem_append_right _ (List.mem_of_getElem? (i := 6) rfl)))), List.forall_mem_cons.mpr ⟨List.mem_cons_of_mem _ (List.mem_append_left _ (List.mem_append_left _ (List.mem_append_right _ (List.mem_of_getElem? (i := 7) rfl)))), nowords_in⟩⟩⟩)) ggX10_farmer_J13_bitCount_95d88
theorem dX10_farmer_0 : decode cX10_farmer 0 = .ok (.aload_n 0, 1) := by decide +kernel
theorem dX10_farmer_1 : decode cX10_farmer 1 = .ok (.iload_n 1, 1) := by decide +kernel
theorem dX10_farmer_2 : decode cX10_farmer 2 = .ok (.invokevirtual 215, 3) := by decide +kernel
theorem dX10_farmer_5 : decode cX10_farmer 5 = .ok (.ifCond .eq 9, 3) := by decide +kernel
theorem dX10_farmer_8 : decode cX10_farmer 8 = .ok (.aload_n 0, 1) := by decide +kernel
theorem dX10_farmer_9 : decode cX10_farmer 9 = .ok (.iconst 1, 1) := by decide +kernel
theorem dX10_farmer_10 : decode cX10_farmer 10 = .ok (.invokevirtual 139, 3) := by decide +kernel
theorem dX10_farmer_13 : decode cX10_farmer 13 = .ok (.ireturn, 1) := by decide +kernel
theorem dX10_farmer_14 : decode cX10_farmer 14 = .ok (.iload_n 2, 1) := by decide +kernel
theorem dX10_farmer_15 : decode cX10_farmer 15 = .ok (.tableswitch 167 0 6 #[41, 55, 69, 83, 99, 136, 150], 41) := by decide +kernel
theorem dX10_farmer_56 : decode cX10_farmer 56 = .ok (.aload_n 0, 1) := by decide +kernel
theorem dX10_farmer_57 : decode cX10_farmer 57 = .ok (.aload_n 0, 1) := by decide +kernel
theorem dX10_farmer_58 : decode cX10_farmer 58 = .ok (.getfield 10, 3) := by decide +kernel
theorem dX10_farmer_61 : decode cX10_farmer 61 = .ok (.getfield 218, 3) := by decide +kernel
theorem dX10_farmer_64 : decode cX10_farmer 64 = .ok (.iload_n 1, 1) := by decide +kernel
theorem dX10_farmer_65 : decode cX10_farmer 65 = .ok (.iaload, 1) := by decide +kernel
theorem dX10_farmer_66 : decode cX10_farmer 66 = .ok (.invokevirtual 181, 3) := by decide +kernel
theorem dX10_farmer_69 : decode cX10_farmer 69 = .ok (.ireturn, 1) := by decide +kernel
theorem dX10_farmer_70 : decode cX10_farmer 70 = .ok (.aload_n 0, 1) := by decide +kernel
theorem dX10_farmer_71 : decode cX10_farmer 71 = .ok (.aload_n 0, 1) := by decide +kernel
theorem dX10_farmer_72 : decode cX10_farmer 72 = .ok (.getfield 10, 3) := by decide +kernel
theorem dX10_farmer_75 : decode cX10_farmer 75 = .ok (.getfield 221, 3) := by decide +kernel
theorem dX10_farmer_78 : decode cX10_farmer 78 = .ok (.iload_n 1, 1) := by decide +kernel
theorem dX10_farmer_79 : decode cX10_farmer 79 = .ok (.iaload, 1) := by decide +kernel
theorem dX10_farmer_80 : decode cX10_farmer 80 = .ok (.invokevirtual 181, 3) := by decide +kernel
theorem dX10_farmer_83 : decode cX10_farmer 83 = .ok (.ireturn, 1) := by decide +kernel
theorem dX10_farmer_84 : decode cX10_farmer 84 = .ok (.aload_n 0, 1) := by decide +kernel
theorem dX10_farmer_85 : decode cX10_farmer 85 = .ok (.aload_n 0, 1) := by decide +kernel
theorem dX10_farmer_86 : decode cX10_farmer 86 = .ok (.getfield 10, 3) := by decide +kernel
theorem dX10_farmer_89 : decode cX10_farmer 89 = .ok (.getfield 224, 3) := by decide +kernel
theorem dX10_farmer_92 : decode cX10_farmer 92 = .ok (.iload_n 1, 1) := by decide +kernel
theorem dX10_farmer_93 : decode cX10_farmer 93 = .ok (.iaload, 1) := by decide +kernel
theorem dX10_farmer_94 : decode cX10_farmer 94 = .ok (.invokevirtual 181, 3) := by decide +kernel
theorem dX10_farmer_97 : decode cX10_farmer 97 = .ok (.ireturn, 1) := by decide +kernel
theorem dX10_farmer_98 : decode cX10_farmer 98 = .ok (.aload_n 0, 1) := by decide +kernel
theorem dX10_farmer_99 : decode cX10_farmer 99 = .ok (.aload_n 0, 1) := by decide +kernel
theorem dX10_farmer_100 : decode cX10_farmer 100 = .ok (.getfield 10, 3) := by decide +kernel
theorem dX10_farmer_103 : decode cX10_farmer 103 = .ok (.iload_n 1, 1) := by decide +kernel
theorem dX10_farmer_104 : decode cX10_farmer 104 = .ok (.invokevirtual 227, 3) := by decide +kernel
theorem dX10_farmer_107 : decode cX10_farmer 107 = .ok (.invokestatic 230, 3) := by decide +kernel
theorem dX10_farmer_110 : decode cX10_farmer 110 = .ok (.invokevirtual 181, 3) := by decide +kernel
theorem dX10_farmer_113 : decode cX10_farmer 113 = .ok (.ireturn, 1) := by decide +kernel
theorem dX10_farmer_114 : decode cX10_farmer 114 = .ok (.aload_n 0, 1) := by decide +kernel
theorem dX10_farmer_115 : decode cX10_farmer 115 = .ok (.getfield 10, 3) := by decide +kernel
theorem dX10_farmer_118 : decode cX10_farmer 118 = .ok (.getfield 234, 3) := by decide +kernel
theorem dX10_farmer_121 : decode cX10_farmer 121 = .ok (.iload_n 1, 1) := by decide +kernel
theorem dX10_farmer_122 : decode cX10_farmer 122 = .ok (.iaload, 1) := by decide +kernel
theorem dX10_farmer_123 : decode cX10_farmer 123 = .ok (.bipush 61, 2) := by decide +kernel
theorem dX10_farmer_125 : decode cX10_farmer 125 = .ok (.if_icmp .ne 12, 3) := by decide +kernel
theorem dX10_farmer_128 : decode cX10_farmer 128 = .ok (.aload_n 0, 1) := by decide +kernel
theorem dX10_farmer_129 : decode cX10_farmer 129 = .ok (.bipush 6, 2) := by decide +kernel
theorem dX10_farmer_131 : decode cX10_farmer 131 = .ok (.invokevirtual 139, 3) := by decide +kernel
theorem dX10_farmer_134 : decode cX10_farmer 134 = .ok (.goto 16, 3) := by decide +kernel
theorem dX10_farmer_137 : decode cX10_farmer 137 = .ok (.aload_n 0, 1) := by decide +kernel
theorem dX10_farmer_138 : decode cX10_farmer 138 = .ok (.aload_n 0, 1) := by decide +kernel
theorem dX10_farmer_139 : decode cX10_farmer 139 = .ok (.getfield 10, 3) := by decide +kernel
theorem dX10_farmer_142 : decode cX10_farmer 142 = .ok (.getfield 234, 3) := by decide +kernel
theorem dX10_farmer_145 : decode cX10_farmer 145 = .ok (.iload_n 1, 1) := by decide +kernel
theorem dX10_farmer_146 : decode cX10_farmer 146 = .ok (.iaload, 1) := by decide +kernel
theorem dX10_farmer_147 : decode cX10_farmer 147 = .ok (.invokevirtual 181, 3) := by decide +kernel
theorem dX10_farmer_150 : decode cX10_farmer 150 = .ok (.ireturn, 1) := by decide +kernel
theorem dX10_farmer_151 : decode cX10_farmer 151 = .ok (.aload_n 0, 1) := by decide +kernel
theorem dX10_farmer_152 : decode cX10_farmer 152 = .ok (.aload_n 0, 1) := by decide +kernel
theorem dX10_farmer_153 : decode cX10_farmer 153 = .ok (.getfield 10, 3) := by decide +kernel
theorem dX10_farmer_156 : decode cX10_farmer 156 = .ok (.getfield 237, 3) := by decide +kernel
theorem dX10_farmer_159 : decode cX10_farmer 159 = .ok (.iload_n 1, 1) := by decide +kernel
theorem dX10_farmer_160 : decode cX10_farmer 160 = .ok (.iaload, 1) := by decide +kernel
theorem dX10_farmer_161 : decode cX10_farmer 161 = .ok (.invokevirtual 181, 3) := by decide +kernel
theorem dX10_farmer_164 : decode cX10_farmer 164 = .ok (.ireturn, 1) := by decide +kernel
theorem dX10_farmer_165 : decode cX10_farmer 165 = .ok (.aload_n 0, 1) := by decide +kernel
theorem dX10_farmer_166 : decode cX10_farmer 166 = .ok (.aload_n 0, 1) := by decide +kernel
theorem dX10_farmer_167 : decode cX10_farmer 167 = .ok (.getfield 10, 3) := by decide +kernel
theorem dX10_farmer_170 : decode cX10_farmer 170 = .ok (.getfield 240, 3) := by decide +kernel
theorem dX10_farmer_173 : decode cX10_farmer 173 = .ok (.iload_n 1, 1) := by decide +kernel
theorem dX10_farmer_174 : decode cX10_farmer 174 = .ok (.laload, 1) := by decide +kernel
theorem dX10_farmer_175 : decode cX10_farmer 175 = .ok (.invokestatic 203, 3) := by decide +kernel
theorem dX10_farmer_178 : decode cX10_farmer 178 = .ok (.invokevirtual 181, 3) := by decide +kernel
theorem dX10_farmer_181 : decode cX10_farmer 181 = .ok (.ireturn, 1) := by decide +kernel
theorem dX10_farmer_182 : decode cX10_farmer 182 = .ok (.aload_n 0, 1) := by decide +kernel
theorem dX10_farmer_183 : decode cX10_farmer 183 = .ok (.iconst 1, 1) := by decide +kernel
theorem dX10_farmer_184 : decode cX10_farmer 184 = .ok (.invokevirtual 139, 3) := by decide +kernel
theorem dX10_farmer_187 : decode cX10_farmer 187 = .ok (.ireturn, 1) := by decide +kernel
abbrev rmX10_farmer : Room := { frames := 2, cells := 0, slots := 0, locals := 42 }
set_option maxHeartbeats 4000000 in
set_option maxRecDepth 100000 in
theorem kX10_farmer (l : Launch) (D : va_G) (cy : Nat → ClassId) (h0 : Nat) (a0 : Nat → Nat) (a1 : Nat → Nat) (s0 : Rc) (s1 : Rc) (p1 : Int32) (p2 : Int32) (res : Int32 × Rc) (h : fX10_farmer p1 p2 s0 s1 = some res) : CI l D cy yX10_farmer wsX10_farmer rmX10_farmer [.ref h0, .int p1, .int p2] (flat [WX10 cy h0 a0 s0, WX0 cy (a0 0) a1 s1]) (flat [WX10 cy h0 a0 res.2, WX0 cy (a0 0) a1 s1]) res.1 := by
  refine CI.of (cc := cX10_farmer) (maxL := 3) (by decide) rfl (Nat.le_of_ble_eq_true rfl) ?_
  intro p e s m args below meth c A QQ ls E hr
  obtain ⟨hx, hb, hml, hown, hts, hK, hN, hP, hD, hA, hl⟩ := E
  have hret : ∀ (pc : Nat) (H : Heap) (locs : List Loc) (ls : Array Slot) (u : Int32 × Rc), u = res → va_P D vwCl (flat [WX10 cy h0 a0 u.2, WX0 cy (a0 0) a1 s1]) H → va_D A (flat [WX10 cy h0 a0 u.2, WX0 cy (a0 0) a1 s1]) → va_S A s.heap H locs → decode cX10_farmer pc = .ok (.ireturn, 1) → W p l e rmX10_farmer s m args below meth c H locs 0 0 QQ (F0 m pc ls [.int u.1]) := by
    intro pc H locs ls u hu hP hD hS hd; subst hu; exact hr pc H locs ls _ rfl hP hD hS hd
  clear hr
  have hl : lv_has ls 3 [(0, .ref h0), (1, .int p1), (2, .int p2)] := hl
  have hinX0 : ∀ w ∈ wsX00, w ∈ wsX10_farmer := fun _ h => List.mem_cons_of_mem _ (List.mem_append_right _ h)
  have hinX10 : ∀ w ∈ wsX100, w ∈ wsX10_farmer := fun _ h => List.mem_cons_of_mem _ (List.mem_append_left _ (List.mem_append_right _ h))
  unfold fX10_farmer at h
  suffices key : ∀ (H : Heap) (locs : List Loc), va_P D vwCl (flat [WX10 cy h0 a0 s0, WX0 cy (a0 0) a1 s1]) H → va_S A s.heap H locs → W p l e rmX10_farmer s m args below meth c H locs 0 0 QQ (F0 m 0 ls []) from key _ _ hP va_S.rf
  clear hP
  intro H locs hP hS
  refine lv_aload_n hx hb dX10_farmer_0 rfl (lv_at hl 0 rfl) ?_
  refine lv_iload_n hx hb dX10_farmer_1 rfl (lv_at hl 1 rfl) ?_
  refine ca_z (w' := [WX10 cy h0 a0 s0, WX0 cy (a0 0) a1 s1]) (rn_V (As := [.int p1]) (rest := []) ⟨hx, hb, hml, hown, hts⟩ (kX10_noFarmer l D cy h0 a0 a1 s0 s1 p1 _ rfl H.size) (cwV 1 hts gX10_farmer_X10_noFarmer rfl rfl rfl (by decide +kernel) ⟨Nat.le_of_ble_eq_true rfl, Nat.le_of_ble_eq_true rfl⟩) hK hN hP hD [0, 1] rfl rfl (ci := 10) (q0 := 0) rfl rfl rfl rfl hl.1 rfl (Nat.le_of_ble_eq_true rfl) dX10_farmer_2 ⟨Nat.le_refl 0, Nat.le_refl 0⟩) hP hD hS hA [0, 1] ⟨rfl, rfl, rfl, rfl⟩ (fun b1 H locs hP hD hS => ?_)
  refine lv_if_eq (tgt := 14) hx hb dX10_farmer_5 (by decide) (fun c2 => ?_) (fun c2 => ?_)
  · replace h := (if_pos c2).symm.trans h
    refine lv_iload_n hx hb dX10_farmer_14 rfl (lv_at hl 2 rfl) ?_
    by_cases c3 : p2 = (0 : Int32)
    · replace h := (if_pos c3).symm.trans h
      refine lv_tableIn (tgt := 56) hx hb dX10_farmer_15 (by rw [c3]; decide) (by rw [c3]; decide) (by rw [c3]; rfl) (by decide) ?_
      refine lv_aload_n hx hb dX10_farmer_56 rfl (lv_at hl 0 rfl) ?_
      refine lv_aload_n hx hb dX10_farmer_57 rfl (lv_at hl 0 rfl) ?_
      refine va_get (D := D) (ci := 10) (v := .ref (a0 0)) (C := RX10) (T := TX10) (N := 19) hx hb hts hinX10 hown hK hP 0 rfl rfl 0 (by decide) (hts (.fieldLink RX10 10 "KneeBench" "bench" "LKneeBench$Bench;") (List.mem_of_getElem? (i := 1) rfl)) (fun _ h9 => h9) rfl dX10_farmer_58 ?_
      refine va_getN (D := D) (ci := 0) (v := .ref (a1 1)) (C := RX0) (T := TX0) (N := 14) hx hb hts hinX0 hown hK hP 1 rfl rfl 1 (by decide) (NW.fld hN 2 rfl _) (fun _ h9 => h9) rfl dX10_farmer_61 ?_
      refine lv_iload_n hx hb dX10_farmer_64 rfl (lv_at hl 1 rfl) ?_
      obtain ⟨g4, h⟩ := gd_elim h
      refine va_iald hx hb hK hP 3 1 rfl rfl (inb_in g4) dX10_farmer_65 ?_
      obtain ⟨r5, hr5, h⟩ := lt_elim h
      refine ca_i (w' := [WX10 cy h0 a0 r5.2, WX0 cy (a0 0) a1 s1]) (rn_V (As := [.int (ga s1 1 p1.toNatClampNeg)]) (rest := []) ⟨hx, hb, hml, hown, hts⟩ (kX10_answer l D cy h0 a0 s0 (ga s1 1 p1.toNatClampNeg) r5 hr5.symm H.size) (cwV 1 hts gX10_farmer_X10_answer rfl rfl rfl (by decide +kernel) ⟨Nat.le_of_ble_eq_true rfl, Nat.le_of_ble_eq_true rfl⟩) hK hN hP hD [0] rfl rfl (ci := 10) (q0 := 0) rfl rfl rfl rfl hl.1 rfl (Nat.le_of_ble_eq_true rfl) dX10_farmer_66 ⟨Nat.le_refl 0, Nat.le_refl 0⟩) hP hD hS hA [0] ⟨rfl, rfl, rfl, rfl⟩ (fun H locs hP hD hS => ?_)
      exact hret 69 H locs ls (r5.1, r5.2) (Option.some.inj h) hP hD hS dX10_farmer_69
    replace h := (if_neg c3).symm.trans h
    by_cases c6 : p2 = (1 : Int32)
    · replace h := (if_pos c6).symm.trans h
      refine lv_tableIn (tgt := 70) hx hb dX10_farmer_15 (by rw [c6]; decide) (by rw [c6]; decide) (by rw [c6]; rfl) (by decide) ?_
      refine lv_aload_n hx hb dX10_farmer_70 rfl (lv_at hl 0 rfl) ?_
      refine lv_aload_n hx hb dX10_farmer_71 rfl (lv_at hl 0 rfl) ?_
      refine va_get (D := D) (ci := 10) (v := .ref (a0 0)) (C := RX10) (T := TX10) (N := 19) hx hb hts hinX10 hown hK hP 0 rfl rfl 0 (by decide) (hts (.fieldLink RX10 10 "KneeBench" "bench" "LKneeBench$Bench;") (List.mem_of_getElem? (i := 1) rfl)) (fun _ h9 => h9) rfl dX10_farmer_72 ?_
      refine va_getN (D := D) (ci := 0) (v := .ref (a1 2)) (C := RX0) (T := TX0) (N := 14) hx hb hts hinX0 hown hK hP 1 rfl rfl 2 (by decide) (NW.fld hN 4 rfl _) (fun _ h9 => h9) rfl dX10_farmer_75 ?_
      refine lv_iload_n hx hb dX10_farmer_78 rfl (lv_at hl 1 rfl) ?_
      obtain ⟨g7, h⟩ := gd_elim h
      refine va_iald hx hb hK hP 4 1 rfl rfl (inb_in g7) dX10_farmer_79 ?_
      obtain ⟨r8, hr8, h⟩ := lt_elim h
      refine ca_i (w' := [WX10 cy h0 a0 r8.2, WX0 cy (a0 0) a1 s1]) (rn_V (As := [.int (ga s1 2 p1.toNatClampNeg)]) (rest := []) ⟨hx, hb, hml, hown, hts⟩ (kX10_answer l D cy h0 a0 s0 (ga s1 2 p1.toNatClampNeg) r8 hr8.symm H.size) (cwV 1 hts gX10_farmer_X10_answer rfl rfl rfl (by decide +kernel) ⟨Nat.le_of_ble_eq_true rfl, Nat.le_of_ble_eq_true rfl⟩) hK hN hP hD [0] rfl rfl (ci := 10) (q0 := 0) rfl rfl rfl rfl hl.1 rfl (Nat.le_of_ble_eq_true rfl) dX10_farmer_80 ⟨Nat.le_refl 0, Nat.le_refl 0⟩) hP hD hS hA [0] ⟨rfl, rfl, rfl, rfl⟩ (fun H locs hP hD hS => ?_)
      exact hret 83 H locs ls (r8.1, r8.2) (Option.some.inj h) hP hD hS dX10_farmer_83
    replace h := (if_neg c6).symm.trans h
    by_cases c9 : p2 = (2 : Int32)
    · replace h := (if_pos c9).symm.trans h
      refine lv_tableIn (tgt := 84) hx hb dX10_farmer_15 (by rw [c9]; decide) (by rw [c9]; decide) (by rw [c9]; rfl) (by decide) ?_
      refine lv_aload_n hx hb dX10_farmer_84 rfl (lv_at hl 0 rfl) ?_
      refine lv_aload_n hx hb dX10_farmer_85 rfl (lv_at hl 0 rfl) ?_
      refine va_get (D := D) (ci := 10) (v := .ref (a0 0)) (C := RX10) (T := TX10) (N := 19) hx hb hts hinX10 hown hK hP 0 rfl rfl 0 (by decide) (hts (.fieldLink RX10 10 "KneeBench" "bench" "LKneeBench$Bench;") (List.mem_of_getElem? (i := 1) rfl)) (fun _ h9 => h9) rfl dX10_farmer_86 ?_
      refine va_getN (D := D) (ci := 0) (v := .ref (a1 3)) (C := RX0) (T := TX0) (N := 14) hx hb hts hinX0 hown hK hP 1 rfl rfl 3 (by decide) (NW.fld hN 6 rfl _) (fun _ h9 => h9) rfl dX10_farmer_89 ?_
      refine lv_iload_n hx hb dX10_farmer_92 rfl (lv_at hl 1 rfl) ?_
      obtain ⟨g10, h⟩ := gd_elim h
      refine va_iald hx hb hK hP 5 1 rfl rfl (inb_in g10) dX10_farmer_93 ?_
      obtain ⟨r11, hr11, h⟩ := lt_elim h
      refine ca_i (w' := [WX10 cy h0 a0 r11.2, WX0 cy (a0 0) a1 s1]) (rn_V (As := [.int (ga s1 3 p1.toNatClampNeg)]) (rest := []) ⟨hx, hb, hml, hown, hts⟩ (kX10_answer l D cy h0 a0 s0 (ga s1 3 p1.toNatClampNeg) r11 hr11.symm H.size) (cwV 1 hts gX10_farmer_X10_answer rfl rfl rfl (by decide +kernel) ⟨Nat.le_of_ble_eq_true rfl, Nat.le_of_ble_eq_true rfl⟩) hK hN hP hD [0] rfl rfl (ci := 10) (q0 := 0) rfl rfl rfl rfl hl.1 rfl (Nat.le_of_ble_eq_true rfl) dX10_farmer_94 ⟨Nat.le_refl 0, Nat.le_refl 0⟩) hP hD hS hA [0] ⟨rfl, rfl, rfl, rfl⟩ (fun H locs hP hD hS => ?_)
      exact hret 97 H locs ls (r11.1, r11.2) (Option.some.inj h) hP hD hS dX10_farmer_97
    replace h := (if_neg c9).symm.trans h
    by_cases c12 : p2 = (3 : Int32)
    · replace h := (if_pos c12).symm.trans h
      refine lv_tableIn (tgt := 98) hx hb dX10_farmer_15 (by rw [c12]; decide) (by rw [c12]; decide) (by rw [c12]; rfl) (by decide) ?_
      refine lv_aload_n hx hb dX10_farmer_98 rfl (lv_at hl 0 rfl) ?_
      refine lv_aload_n hx hb dX10_farmer_99 rfl (lv_at hl 0 rfl) ?_
      refine va_get (D := D) (ci := 10) (v := .ref (a0 0)) (C := RX10) (T := TX10) (N := 19) hx hb hts hinX10 hown hK hP 0 rfl rfl 0 (by decide) (hts (.fieldLink RX10 10 "KneeBench" "bench" "LKneeBench$Bench;") (List.mem_of_getElem? (i := 1) rfl)) (fun _ h9 => h9) rfl dX10_farmer_100 ?_
      refine lv_iload_n hx hb dX10_farmer_103 rfl (lv_at hl 1 rfl) ?_
      refine ca_z (w' := [WX10 cy h0 a0 s0, WX0 cy (a0 0) a1 s1]) (rn_V (As := [.int p1]) (rest := [.ref h0]) ⟨hx, hb, hml, hown, hts⟩ (kX0_hasElbow l D cy (a0 0) a1 s1 p1 _ rfl H.size) (cwV 1 hts gX10_farmer_X0_hasElbow rfl rfl rfl (by decide +kernel) ⟨Nat.le_of_ble_eq_true rfl, Nat.le_of_ble_eq_true rfl⟩) hK hN hP hD [1] rfl rfl (ci := 0) (q0 := 1) rfl rfl rfl rfl hl.1 rfl (Nat.le_of_ble_eq_true rfl) dX10_farmer_104 ⟨Nat.le_refl 0, Nat.le_refl 0⟩) hP hD hS hA [1] ⟨rfl, rfl, rfl, rfl⟩ (fun b13 H locs hP hD hS => ?_)
      refine ca_i (w' := [WX10 cy h0 a0 s0, WX0 cy (a0 0) a1 s1]) (rn_S (As := [.int (fX0_hasElbow p1 s1)]) (rest := [.ref h0]) ⟨hx, hb, hml, hown, hts⟩ (kX10_bit l D cy (fX0_hasElbow p1 s1) _ rfl H.size) (va_cwS 1 hts gX10_farmer_X10_bit rfl rfl rfl (by decide +kernel) ⟨Nat.le_of_ble_eq_true rfl, Nat.le_of_ble_eq_true rfl⟩) hK hN hP hD [] rfl rfl rfl hl.1 rfl (Nat.le_of_ble_eq_true rfl) dX10_farmer_107 ⟨Nat.le_refl 0, Nat.le_refl 0⟩) hP hD hS hA [] ⟨rfl, rfl, rfl, rfl⟩ (fun H locs hP hD hS => ?_)
      obtain ⟨r14, hr14, h⟩ := lt_elim h
      refine ca_i (w' := [WX10 cy h0 a0 r14.2, WX0 cy (a0 0) a1 s1]) (rn_V (As := [.int (fX10_bit (fX0_hasElbow p1 s1))]) (rest := []) ⟨hx, hb, hml, hown, hts⟩ (kX10_answer l D cy h0 a0 s0 (fX10_bit (fX0_hasElbow p1 s1)) r14 hr14.symm H.size) (cwV 1 hts gX10_farmer_X10_answer rfl rfl rfl (by decide +kernel) ⟨Nat.le_of_ble_eq_true rfl, Nat.le_of_ble_eq_true rfl⟩) hK hN hP hD [0] rfl rfl (ci := 10) (q0 := 0) rfl rfl rfl rfl hl.1 rfl (Nat.le_of_ble_eq_true rfl) dX10_farmer_110 ⟨Nat.le_refl 0, Nat.le_refl 0⟩) hP hD hS hA [0] ⟨rfl, rfl, rfl, rfl⟩ (fun H locs hP hD hS => ?_)
      exact hret 113 H locs ls (r14.1, r14.2) (Option.some.inj h) hP hD hS dX10_farmer_113
    replace h := (if_neg c12).symm.trans h
    by_cases c15 : p2 = (4 : Int32)
    · replace h := (if_pos c15).symm.trans h
      refine lv_tableIn (tgt := 114) hx hb dX10_farmer_15 (by rw [c15]; decide) (by rw [c15]; decide) (by rw [c15]; rfl) (by decide) ?_
      refine lv_aload_n hx hb dX10_farmer_114 rfl (lv_at hl 0 rfl) ?_
      refine va_get (D := D) (ci := 10) (v := .ref (a0 0)) (C := RX10) (T := TX10) (N := 19) hx hb hts hinX10 hown hK hP 0 rfl rfl 0 (by decide) (hts (.fieldLink RX10 10 "KneeBench" "bench" "LKneeBench$Bench;") (List.mem_of_getElem? (i := 1) rfl)) (fun _ h9 => h9) rfl dX10_farmer_115 ?_
      refine va_getN (D := D) (ci := 0) (v := .ref (a1 4)) (C := RX0) (T := TX0) (N := 14) hx hb hts hinX0 hown hK hP 1 rfl rfl 4 (by decide) (NW.fld hN 8 rfl _) (fun _ h9 => h9) rfl dX10_farmer_118 ?_
      refine lv_iload_n hx hb dX10_farmer_121 rfl (lv_at hl 1 rfl) ?_
      obtain ⟨g16, h⟩ := gd_elim h
      refine va_iald hx hb hK hP 6 1 rfl rfl (inb_in g16) dX10_farmer_122 ?_
      refine lv_bipush (v := 61) hx hb dX10_farmer_123 (by decide) ?_
      refine lv_icmp_ne (tgt := 137) hx hb dX10_farmer_125 (by decide) (fun c17 => ?_) (fun c17 => ?_)
      · replace h := (if_neg c17).symm.trans h
        refine lv_aload_n hx hb dX10_farmer_137 rfl (lv_at hl 0 rfl) ?_
        refine lv_aload_n hx hb dX10_farmer_138 rfl (lv_at hl 0 rfl) ?_
        refine va_get (D := D) (ci := 10) (v := .ref (a0 0)) (C := RX10) (T := TX10) (N := 19) hx hb hts hinX10 hown hK hP 0 rfl rfl 0 (by decide) (hts (.fieldLink RX10 10 "KneeBench" "bench" "LKneeBench$Bench;") (List.mem_of_getElem? (i := 1) rfl)) (fun _ h9 => h9) rfl dX10_farmer_139 ?_
        refine va_getN (D := D) (ci := 0) (v := .ref (a1 4)) (C := RX0) (T := TX0) (N := 14) hx hb hts hinX0 hown hK hP 1 rfl rfl 4 (by decide) (NW.fld hN 8 rfl _) (fun _ h9 => h9) rfl dX10_farmer_142 ?_
        refine lv_iload_n hx hb dX10_farmer_145 rfl (lv_at hl 1 rfl) ?_
        refine va_iald hx hb hK hP 6 1 rfl rfl (inb_in g16) dX10_farmer_146 ?_
        obtain ⟨r18, hr18, h⟩ := lt_elim h
        refine ca_i (w' := [WX10 cy h0 a0 r18.2, WX0 cy (a0 0) a1 s1]) (rn_V (As := [.int (ga s1 4 p1.toNatClampNeg)]) (rest := []) ⟨hx, hb, hml, hown, hts⟩ (kX10_answer l D cy h0 a0 s0 (ga s1 4 p1.toNatClampNeg) r18 hr18.symm H.size) (cwV 1 hts gX10_farmer_X10_answer rfl rfl rfl (by decide +kernel) ⟨Nat.le_of_ble_eq_true rfl, Nat.le_of_ble_eq_true rfl⟩) hK hN hP hD [0] rfl rfl (ci := 10) (q0 := 0) rfl rfl rfl rfl hl.1 rfl (Nat.le_of_ble_eq_true rfl) dX10_farmer_147 ⟨Nat.le_refl 0, Nat.le_refl 0⟩) hP hD hS hA [0] ⟨rfl, rfl, rfl, rfl⟩ (fun H locs hP hD hS => ?_)
        exact hret 150 H locs ls (r18.1, r18.2) (Option.some.inj h) hP hD hS dX10_farmer_150
      · replace h := (if_pos c17).symm.trans h
        refine lv_aload_n hx hb dX10_farmer_128 rfl (lv_at hl 0 rfl) ?_
        refine lv_bipush (v := 6) hx hb dX10_farmer_129 (by decide) ?_
        obtain ⟨r19, hr19, h⟩ := lt_elim h
        refine ca_i (w' := [WX10 cy h0 a0 r19.2, WX0 cy (a0 0) a1 s1]) (rn_V (As := [.int (6 : Int32)]) (rest := []) ⟨hx, hb, hml, hown, hts⟩ (kX10_refuse l D cy h0 a0 s0 (6 : Int32) r19 hr19.symm H.size) (cwV 1 hts gX10_farmer_X10_refuse rfl rfl rfl (by decide +kernel) ⟨Nat.le_of_ble_eq_true rfl, Nat.le_of_ble_eq_true rfl⟩) hK hN hP hD [0] rfl rfl (ci := 10) (q0 := 0) rfl rfl rfl rfl hl.1 rfl (Nat.le_of_ble_eq_true rfl) dX10_farmer_131 ⟨Nat.le_refl 0, Nat.le_refl 0⟩) hP hD hS hA [0] ⟨rfl, rfl, rfl, rfl⟩ (fun H locs hP hD hS => ?_)
        refine lv_goto (tgt := 150) hx hb dX10_farmer_134 (by decide) ?_
        exact hret 150 H locs ls (r19.1, r19.2) (Option.some.inj h) hP hD hS dX10_farmer_150
    replace h := (if_neg c15).symm.trans h
    by_cases c20 : p2 = (5 : Int32)
    · replace h := (if_pos c20).symm.trans h
      refine lv_tableIn (tgt := 151) hx hb dX10_farmer_15 (by rw [c20]; decide) (by rw [c20]; decide) (by rw [c20]; rfl) (by decide) ?_
      refine lv_aload_n hx hb dX10_farmer_151 rfl (lv_at hl 0 rfl) ?_
      refine lv_aload_n hx hb dX10_farmer_152 rfl (lv_at hl 0 rfl) ?_
      refine va_get (D := D) (ci := 10) (v := .ref (a0 0)) (C := RX10) (T := TX10) (N := 19) hx hb hts hinX10 hown hK hP 0 rfl rfl 0 (by decide) (hts (.fieldLink RX10 10 "KneeBench" "bench" "LKneeBench$Bench;") (List.mem_of_getElem? (i := 1) rfl)) (fun _ h9 => h9) rfl dX10_farmer_153 ?_
      refine va_getN (D := D) (ci := 0) (v := .ref (a1 5)) (C := RX0) (T := TX0) (N := 14) hx hb hts hinX0 hown hK hP 1 rfl rfl 5 (by decide) (NW.fld hN 10 rfl _) (fun _ h9 => h9) rfl dX10_farmer_156 ?_
      refine lv_iload_n hx hb dX10_farmer_159 rfl (lv_at hl 1 rfl) ?_
      obtain ⟨g21, h⟩ := gd_elim h
      refine va_iald hx hb hK hP 7 1 rfl rfl (inb_in g21) dX10_farmer_160 ?_
      obtain ⟨r22, hr22, h⟩ := lt_elim h
      refine ca_i (w' := [WX10 cy h0 a0 r22.2, WX0 cy (a0 0) a1 s1]) (rn_V (As := [.int (ga s1 5 p1.toNatClampNeg)]) (rest := []) ⟨hx, hb, hml, hown, hts⟩ (kX10_answer l D cy h0 a0 s0 (ga s1 5 p1.toNatClampNeg) r22 hr22.symm H.size) (cwV 1 hts gX10_farmer_X10_answer rfl rfl rfl (by decide +kernel) ⟨Nat.le_of_ble_eq_true rfl, Nat.le_of_ble_eq_true rfl⟩) hK hN hP hD [0] rfl rfl (ci := 10) (q0 := 0) rfl rfl rfl rfl hl.1 rfl (Nat.le_of_ble_eq_true rfl) dX10_farmer_161 ⟨Nat.le_refl 0, Nat.le_refl 0⟩) hP hD hS hA [0] ⟨rfl, rfl, rfl, rfl⟩ (fun H locs hP hD hS => ?_)
      exact hret 164 H locs ls (r22.1, r22.2) (Option.some.inj h) hP hD hS dX10_farmer_164
    replace h := (if_neg c20).symm.trans h
    by_cases c23 : p2 = (6 : Int32)
    · replace h := (if_pos c23).symm.trans h
      refine lv_tableIn (tgt := 165) hx hb dX10_farmer_15 (by rw [c23]; decide) (by rw [c23]; decide) (by rw [c23]; rfl) (by decide) ?_
      refine lv_aload_n hx hb dX10_farmer_165 rfl (lv_at hl 0 rfl) ?_
      refine lv_aload_n hx hb dX10_farmer_166 rfl (lv_at hl 0 rfl) ?_
      refine va_get (D := D) (ci := 10) (v := .ref (a0 0)) (C := RX10) (T := TX10) (N := 19) hx hb hts hinX10 hown hK hP 0 rfl rfl 0 (by decide) (hts (.fieldLink RX10 10 "KneeBench" "bench" "LKneeBench$Bench;") (List.mem_of_getElem? (i := 1) rfl)) (fun _ h9 => h9) rfl dX10_farmer_167 ?_
      refine va_getN (D := D) (ci := 0) (v := .ref (a1 6)) (C := RX0) (T := TX0) (N := 14) hx hb hts hinX0 hown hK hP 1 rfl rfl 6 (by decide) (NW.fld hN 11 rfl _) (fun _ h9 => h9) rfl dX10_farmer_170 ?_
      refine lv_iload_n hx hb dX10_farmer_173 rfl (lv_at hl 1 rfl) ?_
      obtain ⟨g24, h⟩ := gd_elim h
      refine va_lald hx hb hK hP 8 2 rfl rfl (inb_in g24) dX10_farmer_174 ?_
      refine ca_i (w' := [WX10 cy h0 a0 s0, WX0 cy (a0 0) a1 s1]) (rn_S (As := [.long (gb s1 6 p1.toNatClampNeg)]) (rest := [.ref h0]) ⟨hx, hb, hml, hown, hts⟩ (kJ13_bitCount_95d88 l D cy (gb s1 6 p1.toNatClampNeg) _ rfl H.size) (va_cwS 1 hts gX10_farmer_J13_bitCount_95d88 rfl rfl rfl (by decide +kernel) ⟨Nat.le_of_ble_eq_true rfl, Nat.le_of_ble_eq_true rfl⟩) hK hN hP hD [] rfl rfl rfl hl.1 rfl (Nat.le_of_ble_eq_true rfl) dX10_farmer_175 ⟨Nat.le_refl 0, Nat.le_refl 0⟩) hP hD hS hA [] ⟨rfl, rfl, rfl, rfl⟩ (fun H locs hP hD hS => ?_)
      obtain ⟨r25, hr25, h⟩ := lt_elim h
      refine ca_i (w' := [WX10 cy h0 a0 r25.2, WX0 cy (a0 0) a1 s1]) (rn_V (As := [.int (fJ13_bitCount_95d88 (gb s1 6 p1.toNatClampNeg))]) (rest := []) ⟨hx, hb, hml, hown, hts⟩ (kX10_answer l D cy h0 a0 s0 (fJ13_bitCount_95d88 (gb s1 6 p1.toNatClampNeg)) r25 hr25.symm H.size) (cwV 1 hts gX10_farmer_X10_answer rfl rfl rfl (by decide +kernel) ⟨Nat.le_of_ble_eq_true rfl, Nat.le_of_ble_eq_true rfl⟩) hK hN hP hD [0] rfl rfl (ci := 10) (q0 := 0) rfl rfl rfl rfl hl.1 rfl (Nat.le_of_ble_eq_true rfl) dX10_farmer_178 ⟨Nat.le_refl 0, Nat.le_refl 0⟩) hP hD hS hA [0] ⟨rfl, rfl, rfl, rfl⟩ (fun H locs hP hD hS => ?_)
      exact hret 181 H locs ls (r25.1, r25.2) (Option.some.inj h) hP hD hS dX10_farmer_181
    replace h := (if_neg c23).symm.trans h
    have ic3 : p2.toInt ≠ 0 := fun z => c3 (Int32.toInt_inj.mp (z.trans (by decide)))
    have ic6 : p2.toInt ≠ 1 := fun z => c6 (Int32.toInt_inj.mp (z.trans (by decide)))
    have ic9 : p2.toInt ≠ 2 := fun z => c9 (Int32.toInt_inj.mp (z.trans (by decide)))
    have ic12 : p2.toInt ≠ 3 := fun z => c12 (Int32.toInt_inj.mp (z.trans (by decide)))
    have ic15 : p2.toInt ≠ 4 := fun z => c15 (Int32.toInt_inj.mp (z.trans (by decide)))
    have ic20 : p2.toInt ≠ 5 := fun z => c20 (Int32.toInt_inj.mp (z.trans (by decide)))
    have ic23 : p2.toInt ≠ 6 := fun z => c23 (Int32.toInt_inj.mp (z.trans (by decide)))
    have hsw : p2.toInt < 0 ∨ 6 < p2.toInt := by omega
    refine lv_tdf (tgt := 182) hx hb dX10_farmer_15 ?_ (by decide) ?_
    · rcases hsw with z | z
      · exact Or.inl z
      · exact Or.inr (Or.inl z)
    refine lv_aload_n hx hb dX10_farmer_182 rfl (lv_at hl 0 rfl) ?_
    refine lv_iconst (v := 1) hx hb dX10_farmer_183 (by decide) ?_
    obtain ⟨r26, hr26, h⟩ := lt_elim h
    refine ca_i (w' := [WX10 cy h0 a0 r26.2, WX0 cy (a0 0) a1 s1]) (rn_V (As := [.int (1 : Int32)]) (rest := []) ⟨hx, hb, hml, hown, hts⟩ (kX10_refuse l D cy h0 a0 s0 (1 : Int32) r26 hr26.symm H.size) (cwV 1 hts gX10_farmer_X10_refuse rfl rfl rfl (by decide +kernel) ⟨Nat.le_of_ble_eq_true rfl, Nat.le_of_ble_eq_true rfl⟩) hK hN hP hD [0] rfl rfl (ci := 10) (q0 := 0) rfl rfl rfl rfl hl.1 rfl (Nat.le_of_ble_eq_true rfl) dX10_farmer_184 ⟨Nat.le_refl 0, Nat.le_refl 0⟩) hP hD hS hA [0] ⟨rfl, rfl, rfl, rfl⟩ (fun H locs hP hD hS => ?_)
    exact hret 187 H locs ls (r26.1, r26.2) (Option.some.inj h) hP hD hS dX10_farmer_187
  · replace h := (if_neg c2).symm.trans h
    refine lv_aload_n hx hb dX10_farmer_8 rfl (lv_at hl 0 rfl) ?_
    refine lv_iconst (v := 1) hx hb dX10_farmer_9 (by decide) ?_
    obtain ⟨r27, hr27, h⟩ := lt_elim h
    refine ca_i (w' := [WX10 cy h0 a0 r27.2, WX0 cy (a0 0) a1 s1]) (rn_V (As := [.int (1 : Int32)]) (rest := []) ⟨hx, hb, hml, hown, hts⟩ (kX10_refuse l D cy h0 a0 s0 (1 : Int32) r27 hr27.symm H.size) (cwV 1 hts gX10_farmer_X10_refuse rfl rfl rfl (by decide +kernel) ⟨Nat.le_of_ble_eq_true rfl, Nat.le_of_ble_eq_true rfl⟩) hK hN hP hD [0] rfl rfl (ci := 10) (q0 := 0) rfl rfl rfl rfl hl.1 rfl (Nat.le_of_ble_eq_true rfl) dX10_farmer_10 ⟨Nat.le_refl 0, Nat.le_refl 0⟩) hP hD hS hA [0] ⟨rfl, rfl, rfl, rfl⟩ (fun H locs hP hD hS => ?_)
    exact hret 13 H locs ls (r27.1, r27.2) (Option.some.inj h) hP hD hS dX10_farmer_13
theorem dX10_fault_0 : decode cX10_fault 0 = .ok (.iload_n 1, 1) := by decide +kernel
theorem dX10_fault_1 : decode cX10_fault 1 = .ok (.lookupswitch 43 #[(0, 27), (1, 35)], 27) := by decide +kernel
theorem dX10_fault_28 : decode cX10_fault 28 = .ok (.aload_n 0, 1) := by decide +kernel
theorem dX10_fault_29 : decode cX10_fault 29 = .ok (.getfield 52, 3) := by decide +kernel
theorem dX10_fault_32 : decode cX10_fault 32 = .ok (.getfield 191, 3) := by decide +kernel
theorem dX10_fault_35 : decode cX10_fault 35 = .ok (.ireturn, 1) := by decide +kernel
theorem dX10_fault_36 : decode cX10_fault 36 = .ok (.aload_n 0, 1) := by decide +kernel
theorem dX10_fault_37 : decode cX10_fault 37 = .ok (.getfield 52, 3) := by decide +kernel
theorem dX10_fault_40 : decode cX10_fault 40 = .ok (.getfield 194, 3) := by decide +kernel
theorem dX10_fault_43 : decode cX10_fault 43 = .ok (.ireturn, 1) := by decide +kernel
theorem dX10_fault_44 : decode cX10_fault 44 = .ok (.iconst (-1), 1) := by decide +kernel
theorem dX10_fault_45 : decode cX10_fault 45 = .ok (.ireturn, 1) := by decide +kernel
abbrev rmX10_fault : Room := { frames := 0, cells := 0, slots := 0, locals := 0 }
set_option maxHeartbeats 4000000 in
set_option maxRecDepth 100000 in
theorem kX10_fault (l : Launch) (D : va_G) (cy : Nat → ClassId) (h0 : Nat) (a0 : Nat → Nat) (a1 : Nat → Nat) (s0 : Rc) (s1 : Rc) (p1 : Int32) (res : Int32) (h : fX10_fault p1 s0 s1 = res) : CI l D cy yX10_fault wsX10_fault rmX10_fault [.ref h0, .int p1] (flat [WX10 cy h0 a0 s0, WX8 cy (a0 8) a1 s1]) (flat [WX10 cy h0 a0 s0, WX8 cy (a0 8) a1 s1]) res := by
  refine CI.of (cc := cX10_fault) (maxL := 2) (by decide) rfl (Nat.le_of_ble_eq_true rfl) ?_
  intro p e s m args below meth c A QQ ls E hr
  obtain ⟨hx, hb, hml, hown, hts, hK, hN, hP, hD, hA, hl⟩ := E
  have hret : ∀ (pc : Nat) (H : Heap) (locs : List Loc) (ls : Array Slot) (u : Int32), u = res → va_P D vwCl (flat [WX10 cy h0 a0 s0, WX8 cy (a0 8) a1 s1]) H → va_D A (flat [WX10 cy h0 a0 s0, WX8 cy (a0 8) a1 s1]) → va_S A s.heap H locs → decode cX10_fault pc = .ok (.ireturn, 1) → W p l e rmX10_fault s m args below meth c H locs 0 0 QQ (F0 m pc ls [.int u]) := by
    intro pc H locs ls u hu hP hD hS hd; subst hu; exact hr pc H locs ls _ rfl hP hD hS hd
  clear hr
  have hl : lv_has ls 2 [(0, .ref h0), (1, .int p1)] := hl
  have hinX10 : ∀ w ∈ wsX100, w ∈ wsX10_fault := fun _ h => List.mem_cons_of_mem _ (List.mem_append_left _ (List.mem_append_right _ h))
  have hinX8 : ∀ w ∈ wsX80, w ∈ wsX10_fault := fun _ h => List.mem_cons_of_mem _ (List.mem_append_right _ h)
  unfold fX10_fault at h
  suffices key : ∀ (H : Heap) (locs : List Loc), va_P D vwCl (flat [WX10 cy h0 a0 s0, WX8 cy (a0 8) a1 s1]) H → va_S A s.heap H locs → W p l e rmX10_fault s m args below meth c H locs 0 0 QQ (F0 m 0 ls []) from key _ _ hP va_S.rf
  clear hP
  intro H locs hP hS
  refine lv_iload_n hx hb dX10_fault_0 rfl (lv_at hl 1 rfl) ?_
  by_cases c1 : p1 = (0 : Int32)
  · replace h := (if_pos c1).symm.trans h
    refine lv_lookup (tgt := 28) (off := 27) hx hb dX10_fault_1 (by decide) (by rw [c1]; rfl) (by decide) ?_
    refine lv_aload_n hx hb dX10_fault_28 rfl (lv_at hl 0 rfl) ?_
    refine va_get (D := D) (ci := 10) (v := .ref (a0 8)) (C := RX10) (T := TX10) (N := 19) hx hb hts hinX10 hown hK hP 0 rfl rfl 8 (by decide) (hts (.fieldLink RX10 52 "KneeBench" "tokens" "LKneeBench$Tokens;") (List.mem_of_getElem? (i := 1) rfl)) (fun _ h9 => h9) rfl dX10_fault_29 ?_
    refine va_getN (D := D) (ci := 8) (v := .int (gi s1 12)) (C := RX8) (T := TX8) (N := 14) hx hb hts hinX8 hown hK hP 1 rfl rfl 12 (by decide) (NW.fld hN 51 rfl _) (fun _ h9 => h9) rfl dX10_fault_32 ?_
    exact hret 35 H locs ls (gi s1 12) h hP hD hS dX10_fault_35
  replace h := (if_neg c1).symm.trans h
  by_cases c2 : p1 = (1 : Int32)
  · replace h := (if_pos c2).symm.trans h
    refine lv_lookup (tgt := 36) (off := 35) hx hb dX10_fault_1 (by decide) (by rw [c2]; rfl) (by decide) ?_
    refine lv_aload_n hx hb dX10_fault_36 rfl (lv_at hl 0 rfl) ?_
    refine va_get (D := D) (ci := 10) (v := .ref (a0 8)) (C := RX10) (T := TX10) (N := 19) hx hb hts hinX10 hown hK hP 0 rfl rfl 8 (by decide) (hts (.fieldLink RX10 52 "KneeBench" "tokens" "LKneeBench$Tokens;") (List.mem_of_getElem? (i := 1) rfl)) (fun _ h9 => h9) rfl dX10_fault_37 ?_
    refine va_getN (D := D) (ci := 8) (v := .int (gi s1 13)) (C := RX8) (T := TX8) (N := 14) hx hb hts hinX8 hown hK hP 1 rfl rfl 13 (by decide) (NW.fld hN 52 rfl _) (fun _ h9 => h9) rfl dX10_fault_40 ?_
    exact hret 43 H locs ls (gi s1 13) h hP hD hS dX10_fault_43
  replace h := (if_neg c2).symm.trans h
  refine lv_lookup (tgt := 44) (off := 43) hx hb dX10_fault_1 (by decide) ((if_neg (fun z => c1 (Int32.toInt_inj.mp (z.symm.trans (by decide))))).trans ((if_neg (fun z => c2 (Int32.toInt_inj.mp (z.symm.trans (by decide))))).trans rfl)) (by decide) ?_
  refine lv_iconst (v := -1) hx hb dX10_fault_44 (by decide) ?_
  exact hret 45 H locs ls (-1 : Int32) h hP hD hS dX10_fault_45
theorem gd_X10_feed : wsX10_feed.all goodWord = true := by decide +kernel
set_option maxRecDepth 20000 in
theorem ggX10_feed_X8_append : GoodIn wsX10_feed wsX8_append := goodIn_by gd_X10_feed (List.forall_mem_cons.mpr ⟨List.mem_cons_of_mem _ (List.mem_append_left _ (List.mem_append_left _ (List.mem_of_getElem? (i := 5) rfl))), List.forall_mem_append.mpr ⟨List.forall_mem_cons.mpr ⟨List.mem_cons_of_mem _ (List.mem_append_left _ (List.mem_append_left _ (List.mem_of_getElem? (i := 6) rfl))), List.forall_mem_cons.mpr ⟨List.mem_cons_of_mem _ (List.mem_append_left _ (List.mem_append_left _ (List.mem_of_getElem? (i := 7) rfl))), nowords_in⟩⟩, (fun _ h => List.mem_cons_of_mem _ (List.mem_append_right _ (h)))⟩⟩)
set_option maxRecDepth 20000 in
theorem gX10_feed_X8_append : GoodIn wsX10_feed (wsV RX10 164 RX8 yX8_append wsX8_append) := goodIn_app (goodIn_by gd_X10_feed (List.forall_mem_cons.mpr ⟨List.mem_cons_of_mem _ (List.mem_append_left _ (List.mem_append_left _ (List.mem_of_getElem? (i := 1) rfl))), List.forall_mem_cons.mpr ⟨List.mem_cons_of_mem _ (List.mem_append_left _ (List.mem_append_left _ (List.mem_of_getElem? (i := 2) rfl))), List.forall_mem_cons.mpr ⟨List.mem_cons_of_mem _ (List.mem_append_left _ (List.mem_append_left _ (List.mem_of_getElem? (i := 3) rfl))), List.forall_mem_cons.mpr ⟨List.mem_cons_of_mem _ (List.mem_append_left _ (List.mem_append_left _ (List.mem_of_getElem? (i := 4) rfl))), nowords_in⟩⟩⟩⟩)) ggX10_feed_X8_append
theorem dX10_feed_0 : decode cX10_feed 0 = .ok (.aload_n 0, 1) := by decide +kernel
theorem dX10_feed_1 : decode cX10_feed 1 = .ok (.getfield 52, 3) := by decide +kernel
theorem dX10_feed_4 : decode cX10_feed 4 = .ok (.getfield 161, 3) := by decide +kernel
theorem dX10_feed_7 : decode cX10_feed 7 = .ok (.bipush 20, 2) := by decide +kernel
theorem dX10_feed_9 : decode cX10_feed 9 = .ok (.iadd, 1) := by decide +kernel
theorem dX10_feed_10 : decode cX10_feed 10 = .ok (.sipush 900, 3) := by decide +kernel
theorem dX10_feed_13 : decode cX10_feed 13 = .ok (.if_icmp .le 5, 3) := by decide +kernel
theorem dX10_feed_16 : decode cX10_feed 16 = .ok (.iconst (-1), 1) := by decide +kernel
theorem dX10_feed_17 : decode cX10_feed 17 = .ok (.ireturn, 1) := by decide +kernel
theorem dX10_feed_18 : decode cX10_feed 18 = .ok (.aload_n 0, 1) := by decide +kernel
theorem dX10_feed_19 : decode cX10_feed 19 = .ok (.getfield 52, 3) := by decide +kernel
theorem dX10_feed_22 : decode cX10_feed 22 = .ok (.iload_n 1, 1) := by decide +kernel
theorem dX10_feed_23 : decode cX10_feed 23 = .ok (.invokevirtual 164, 3) := by decide +kernel
theorem dX10_feed_26 : decode cX10_feed 26 = .ok (.aload_n 0, 1) := by decide +kernel
theorem dX10_feed_27 : decode cX10_feed 27 = .ok (.getfield 52, 3) := by decide +kernel
theorem dX10_feed_30 : decode cX10_feed 30 = .ok (.iload_n 2, 1) := by decide +kernel
theorem dX10_feed_31 : decode cX10_feed 31 = .ok (.invokevirtual 164, 3) := by decide +kernel
theorem dX10_feed_34 : decode cX10_feed 34 = .ok (.aload_n 0, 1) := by decide +kernel
theorem dX10_feed_35 : decode cX10_feed 35 = .ok (.getfield 52, 3) := by decide +kernel
theorem dX10_feed_38 : decode cX10_feed 38 = .ok (.iload_n 3, 1) := by decide +kernel
theorem dX10_feed_39 : decode cX10_feed 39 = .ok (.invokevirtual 164, 3) := by decide +kernel
theorem dX10_feed_42 : decode cX10_feed 42 = .ok (.aload_n 0, 1) := by decide +kernel
theorem dX10_feed_43 : decode cX10_feed 43 = .ok (.getfield 52, 3) := by decide +kernel
theorem dX10_feed_46 : decode cX10_feed 46 = .ok (.iload 4, 2) := by decide +kernel
theorem dX10_feed_48 : decode cX10_feed 48 = .ok (.invokevirtual 164, 3) := by decide +kernel
theorem dX10_feed_51 : decode cX10_feed 51 = .ok (.aload_n 0, 1) := by decide +kernel
theorem dX10_feed_52 : decode cX10_feed 52 = .ok (.getfield 52, 3) := by decide +kernel
theorem dX10_feed_55 : decode cX10_feed 55 = .ok (.iload 5, 2) := by decide +kernel
theorem dX10_feed_57 : decode cX10_feed 57 = .ok (.invokevirtual 164, 3) := by decide +kernel
theorem dX10_feed_60 : decode cX10_feed 60 = .ok (.aload_n 0, 1) := by decide +kernel
theorem dX10_feed_61 : decode cX10_feed 61 = .ok (.getfield 52, 3) := by decide +kernel
theorem dX10_feed_64 : decode cX10_feed 64 = .ok (.getfield 161, 3) := by decide +kernel
theorem dX10_feed_67 : decode cX10_feed 67 = .ok (.ireturn, 1) := by decide +kernel
abbrev rmX10_feed : Room := { frames := 1, cells := 0, slots := 0, locals := 22 }
set_option maxHeartbeats 4000000 in
set_option maxRecDepth 100000 in
theorem kX10_feed (l : Launch) (D : va_G) (cy : Nat → ClassId) (h0 : Nat) (a0 : Nat → Nat) (a1 : Nat → Nat) (s0 : Rc) (s1 : Rc) (p1 : Int32) (p2 : Int32) (p3 : Int32) (p4 : Int32) (p5 : Int32) (res : Int32 × Rc) (h : fX10_feed p1 p2 p3 p4 p5 s0 s1 = some res) : CI l D cy yX10_feed wsX10_feed rmX10_feed [.ref h0, .int p1, .int p2, .int p3, .int p4, .int p5] (flat [WX10 cy h0 a0 s0, WX8 cy (a0 8) a1 s1]) (flat [WX10 cy h0 a0 s0, WX8 cy (a0 8) a1 res.2]) res.1 := by
  refine CI.of (cc := cX10_feed) (maxL := 6) (by decide) rfl (Nat.le_of_ble_eq_true rfl) ?_
  intro p e s m args below meth c A QQ ls E hr
  obtain ⟨hx, hb, hml, hown, hts, hK, hN, hP, hD, hA, hl⟩ := E
  have hret : ∀ (pc : Nat) (H : Heap) (locs : List Loc) (ls : Array Slot) (u : Int32 × Rc), u = res → va_P D vwCl (flat [WX10 cy h0 a0 s0, WX8 cy (a0 8) a1 u.2]) H → va_D A (flat [WX10 cy h0 a0 s0, WX8 cy (a0 8) a1 u.2]) → va_S A s.heap H locs → decode cX10_feed pc = .ok (.ireturn, 1) → W p l e rmX10_feed s m args below meth c H locs 0 0 QQ (F0 m pc ls [.int u.1]) := by
    intro pc H locs ls u hu hP hD hS hd; subst hu; exact hr pc H locs ls _ rfl hP hD hS hd
  clear hr
  have hl : lv_has ls 6 [(0, .ref h0), (1, .int p1), (2, .int p2), (3, .int p3), (4, .int p4), (5, .int p5)] := hl
  have hinX10 : ∀ w ∈ wsX100, w ∈ wsX10_feed := fun _ h => List.mem_cons_of_mem _ (List.mem_append_left _ (List.mem_append_right _ h))
  have hinX8 : ∀ w ∈ wsX80, w ∈ wsX10_feed := fun _ h => List.mem_cons_of_mem _ (List.mem_append_right _ h)
  unfold fX10_feed at h
  suffices key : ∀ (H : Heap) (locs : List Loc), va_P D vwCl (flat [WX10 cy h0 a0 s0, WX8 cy (a0 8) a1 s1]) H → va_S A s.heap H locs → W p l e rmX10_feed s m args below meth c H locs 0 0 QQ (F0 m 0 ls []) from key _ _ hP va_S.rf
  clear hP
  intro H locs hP hS
  refine lv_aload_n hx hb dX10_feed_0 rfl (lv_at hl 0 rfl) ?_
  refine va_get (D := D) (ci := 10) (v := .ref (a0 8)) (C := RX10) (T := TX10) (N := 19) hx hb hts hinX10 hown hK hP 0 rfl rfl 8 (by decide) (hts (.fieldLink RX10 52 "KneeBench" "tokens" "LKneeBench$Tokens;") (List.mem_of_getElem? (i := 1) rfl)) (fun _ h9 => h9) rfl dX10_feed_1 ?_
  refine va_getN (D := D) (ci := 8) (v := .int (gi s1 2)) (C := RX8) (T := TX8) (N := 14) hx hb hts hinX8 hown hK hP 1 rfl rfl 2 (by decide) (NW.fld hN 40 rfl _) (fun _ h9 => h9) rfl dX10_feed_4 ?_
  refine lv_bipush (v := 20) hx hb dX10_feed_7 (by decide) ?_
  refine lv_iadd hx hb dX10_feed_9 ?_
  refine lv_sipush (v := 900) hx hb dX10_feed_10 (by decide) ?_
  refine lv_icmp_le (tgt := 18) hx hb dX10_feed_13 (by decide) (fun c1 => ?_) (fun c1 => ?_)
  · replace h := (if_pos c1).symm.trans h
    refine lv_aload_n hx hb dX10_feed_18 rfl (lv_at hl 0 rfl) ?_
    refine va_get (D := D) (ci := 10) (v := .ref (a0 8)) (C := RX10) (T := TX10) (N := 19) hx hb hts hinX10 hown hK hP 0 rfl rfl 8 (by decide) (hts (.fieldLink RX10 52 "KneeBench" "tokens" "LKneeBench$Tokens;") (List.mem_of_getElem? (i := 1) rfl)) (fun _ h9 => h9) rfl dX10_feed_19 ?_
    refine lv_iload_n hx hb dX10_feed_22 rfl (lv_at hl 1 rfl) ?_
    obtain ⟨r2, hr2, h⟩ := bd_elim h
    refine ca_v (w' := [WX10 cy h0 a0 s0, WX8 cy (a0 8) a1 r2]) (rn_V (As := [.int p1]) (rest := []) ⟨hx, hb, hml, hown, hts⟩ (kX8_append l D cy (a0 8) a1 s1 p1 r2 hr2 H.size) (cwV 1 hts gX10_feed_X8_append rfl rfl rfl (by decide +kernel) ⟨Nat.le_of_ble_eq_true rfl, Nat.le_of_ble_eq_true rfl⟩) hK hN hP hD [1] rfl rfl (ci := 8) (q0 := 1) rfl rfl rfl rfl hl.1 rfl (Nat.le_of_ble_eq_true rfl) dX10_feed_23 ⟨Nat.le_refl 0, Nat.le_refl 0⟩) hP hD hS hA [1] ⟨rfl, rfl, rfl, rfl⟩ (fun H locs hP hD hS => ?_)
    refine lv_aload_n hx hb dX10_feed_26 rfl (lv_at hl 0 rfl) ?_
    refine va_get (D := D) (ci := 10) (v := .ref (a0 8)) (C := RX10) (T := TX10) (N := 19) hx hb hts hinX10 hown hK hP 0 rfl rfl 8 (by decide) (hts (.fieldLink RX10 52 "KneeBench" "tokens" "LKneeBench$Tokens;") (List.mem_of_getElem? (i := 1) rfl)) (fun _ h9 => h9) rfl dX10_feed_27 ?_
    refine lv_iload_n hx hb dX10_feed_30 rfl (lv_at hl 2 rfl) ?_
    obtain ⟨r3, hr3, h⟩ := bd_elim h
    refine ca_v (w' := [WX10 cy h0 a0 s0, WX8 cy (a0 8) a1 r3]) (rn_V (As := [.int p2]) (rest := []) ⟨hx, hb, hml, hown, hts⟩ (kX8_append l D cy (a0 8) a1 r2 p2 r3 hr3 H.size) (cwV 1 hts gX10_feed_X8_append rfl rfl rfl (by decide +kernel) ⟨Nat.le_of_ble_eq_true rfl, Nat.le_of_ble_eq_true rfl⟩) hK hN hP hD [1] rfl rfl (ci := 8) (q0 := 1) rfl rfl rfl rfl hl.1 rfl (Nat.le_of_ble_eq_true rfl) dX10_feed_31 ⟨Nat.le_refl 0, Nat.le_refl 0⟩) hP hD hS hA [1] ⟨rfl, rfl, rfl, rfl⟩ (fun H locs hP hD hS => ?_)
    refine lv_aload_n hx hb dX10_feed_34 rfl (lv_at hl 0 rfl) ?_
    refine va_get (D := D) (ci := 10) (v := .ref (a0 8)) (C := RX10) (T := TX10) (N := 19) hx hb hts hinX10 hown hK hP 0 rfl rfl 8 (by decide) (hts (.fieldLink RX10 52 "KneeBench" "tokens" "LKneeBench$Tokens;") (List.mem_of_getElem? (i := 1) rfl)) (fun _ h9 => h9) rfl dX10_feed_35 ?_
    refine lv_iload_n hx hb dX10_feed_38 rfl (lv_at hl 3 rfl) ?_
    obtain ⟨r4, hr4, h⟩ := bd_elim h
    refine ca_v (w' := [WX10 cy h0 a0 s0, WX8 cy (a0 8) a1 r4]) (rn_V (As := [.int p3]) (rest := []) ⟨hx, hb, hml, hown, hts⟩ (kX8_append l D cy (a0 8) a1 r3 p3 r4 hr4 H.size) (cwV 1 hts gX10_feed_X8_append rfl rfl rfl (by decide +kernel) ⟨Nat.le_of_ble_eq_true rfl, Nat.le_of_ble_eq_true rfl⟩) hK hN hP hD [1] rfl rfl (ci := 8) (q0 := 1) rfl rfl rfl rfl hl.1 rfl (Nat.le_of_ble_eq_true rfl) dX10_feed_39 ⟨Nat.le_refl 0, Nat.le_refl 0⟩) hP hD hS hA [1] ⟨rfl, rfl, rfl, rfl⟩ (fun H locs hP hD hS => ?_)
    refine lv_aload_n hx hb dX10_feed_42 rfl (lv_at hl 0 rfl) ?_
    refine va_get (D := D) (ci := 10) (v := .ref (a0 8)) (C := RX10) (T := TX10) (N := 19) hx hb hts hinX10 hown hK hP 0 rfl rfl 8 (by decide) (hts (.fieldLink RX10 52 "KneeBench" "tokens" "LKneeBench$Tokens;") (List.mem_of_getElem? (i := 1) rfl)) (fun _ h9 => h9) rfl dX10_feed_43 ?_
    refine lv_iload hx hb dX10_feed_46 (lv_at hl 4 rfl) ?_
    obtain ⟨r5, hr5, h⟩ := bd_elim h
    refine ca_v (w' := [WX10 cy h0 a0 s0, WX8 cy (a0 8) a1 r5]) (rn_V (As := [.int p4]) (rest := []) ⟨hx, hb, hml, hown, hts⟩ (kX8_append l D cy (a0 8) a1 r4 p4 r5 hr5 H.size) (cwV 1 hts gX10_feed_X8_append rfl rfl rfl (by decide +kernel) ⟨Nat.le_of_ble_eq_true rfl, Nat.le_of_ble_eq_true rfl⟩) hK hN hP hD [1] rfl rfl (ci := 8) (q0 := 1) rfl rfl rfl rfl hl.1 rfl (Nat.le_of_ble_eq_true rfl) dX10_feed_48 ⟨Nat.le_refl 0, Nat.le_refl 0⟩) hP hD hS hA [1] ⟨rfl, rfl, rfl, rfl⟩ (fun H locs hP hD hS => ?_)
    refine lv_aload_n hx hb dX10_feed_51 rfl (lv_at hl 0 rfl) ?_
    refine va_get (D := D) (ci := 10) (v := .ref (a0 8)) (C := RX10) (T := TX10) (N := 19) hx hb hts hinX10 hown hK hP 0 rfl rfl 8 (by decide) (hts (.fieldLink RX10 52 "KneeBench" "tokens" "LKneeBench$Tokens;") (List.mem_of_getElem? (i := 1) rfl)) (fun _ h9 => h9) rfl dX10_feed_52 ?_
    refine lv_iload hx hb dX10_feed_55 (lv_at hl 5 rfl) ?_
    obtain ⟨r6, hr6, h⟩ := bd_elim h
    refine ca_v (w' := [WX10 cy h0 a0 s0, WX8 cy (a0 8) a1 r6]) (rn_V (As := [.int p5]) (rest := []) ⟨hx, hb, hml, hown, hts⟩ (kX8_append l D cy (a0 8) a1 r5 p5 r6 hr6 H.size) (cwV 1 hts gX10_feed_X8_append rfl rfl rfl (by decide +kernel) ⟨Nat.le_of_ble_eq_true rfl, Nat.le_of_ble_eq_true rfl⟩) hK hN hP hD [1] rfl rfl (ci := 8) (q0 := 1) rfl rfl rfl rfl hl.1 rfl (Nat.le_of_ble_eq_true rfl) dX10_feed_57 ⟨Nat.le_refl 0, Nat.le_refl 0⟩) hP hD hS hA [1] ⟨rfl, rfl, rfl, rfl⟩ (fun H locs hP hD hS => ?_)
    refine lv_aload_n hx hb dX10_feed_60 rfl (lv_at hl 0 rfl) ?_
    refine va_get (D := D) (ci := 10) (v := .ref (a0 8)) (C := RX10) (T := TX10) (N := 19) hx hb hts hinX10 hown hK hP 0 rfl rfl 8 (by decide) (hts (.fieldLink RX10 52 "KneeBench" "tokens" "LKneeBench$Tokens;") (List.mem_of_getElem? (i := 1) rfl)) (fun _ h9 => h9) rfl dX10_feed_61 ?_
    refine va_getN (D := D) (ci := 8) (v := .int (gi r6 2)) (C := RX8) (T := TX8) (N := 14) hx hb hts hinX8 hown hK hP 1 rfl rfl 2 (by decide) (NW.fld hN 40 rfl _) (fun _ h9 => h9) rfl dX10_feed_64 ?_
    exact hret 67 H locs ls ((gi r6 2), r6) (Option.some.inj h) hP hD hS dX10_feed_67
  · replace h := (if_neg c1).symm.trans h
    refine lv_iconst (v := -1) hx hb dX10_feed_16 (by decide) ?_
    exact hret 17 H locs ls ((-1 : Int32), s1) (Option.some.inj h) hP hD hS dX10_feed_17
theorem gd_X10_feel : wsX10_feel.all goodWord = true := by decide +kernel
set_option maxRecDepth 20000 in
theorem ggX10_feel_X10_outside : GoodIn wsX10_feel wsX10_outside := goodIn_by gd_X10_feel (List.forall_mem_cons.mpr ⟨List.mem_cons_of_mem _ (List.mem_append_left _ (List.mem_append_left _ (List.mem_append_left _ (List.mem_append_left _ (List.mem_of_getElem? (i := 5) rfl))))), nowords_in⟩)
set_option maxRecDepth 20000 in
theorem gX10_feel_X10_outside : GoodIn wsX10_feel (va_wsS RX10 116 yX10_outside wsX10_outside) := goodIn_app (goodIn_by gd_X10_feel (List.forall_mem_cons.mpr ⟨List.mem_cons_of_mem _ (List.mem_append_left _ (List.mem_append_left _ (List.mem_append_left _ (List.mem_append_left _ (List.mem_of_getElem? (i := 2) rfl))))), List.forall_mem_cons.mpr ⟨List.mem_cons_of_mem _ (List.mem_append_left _ (List.mem_append_left _ (List.mem_append_left _ (List.mem_append_left _ (List.mem_of_getElem? (i := 3) rfl))))), List.forall_mem_cons.mpr ⟨List.mem_cons_of_mem _ (List.mem_append_left _ (List.mem_append_left _ (List.mem_append_left _ (List.mem_append_left _ (List.mem_of_getElem? (i := 4) rfl))))), nowords_in⟩⟩⟩)) ggX10_feel_X10_outside
set_option maxRecDepth 20000 in
theorem ggX10_feel_X10_refuse : GoodIn wsX10_feel wsX10_refuse := goodIn_by gd_X10_feel (List.forall_mem_cons.mpr ⟨List.mem_cons_of_mem _ (List.mem_append_left _ (List.mem_append_left _ (List.mem_append_left _ (List.mem_append_left _ (List.mem_of_getElem? (i := 9) rfl))))), List.forall_mem_append.mpr ⟨List.forall_mem_cons.mpr ⟨List.mem_cons_of_mem _ (List.mem_append_left _ (List.mem_append_left _ (List.mem_append_left _ (List.mem_append_left _ (List.mem_of_getElem? (i := 10) rfl))))), nowords_in⟩, (fun _ h => List.mem_cons_of_mem _ (List.mem_append_left _ (List.mem_append_left _ (List.mem_append_right _ (h)))))⟩⟩)
set_option maxRecDepth 20000 in
theorem gX10_feel_X10_refuse : GoodIn wsX10_feel (wsV RX10 139 RX10 yX10_refuse wsX10_refuse) := goodIn_app (goodIn_by gd_X10_feel (List.forall_mem_cons.mpr ⟨List.mem_cons_of_mem _ (List.mem_append_left _ (List.mem_append_left _ (List.mem_append_left _ (List.mem_append_left _ (List.mem_of_getElem? (i := 6) rfl))))), List.forall_mem_cons.mpr ⟨List.mem_cons_of_mem _ (List.mem_append_left _ (List.mem_append_left _ (List.mem_append_left _ (List.mem_append_left _ (List.mem_of_getElem? (i := 7) rfl))))), List.forall_mem_cons.mpr ⟨List.mem_cons_of_mem _ (List.mem_append_left _ (List.mem_append_left _ (List.mem_append_left _ (List.mem_append_left _ (List.mem_of_getElem? (i := 8) rfl))))), List.forall_mem_cons.mpr ⟨List.mem_cons_of_mem _ (List.mem_append_left _ (List.mem_append_left _ (List.mem_append_left _ (List.mem_append_left _ (List.mem_of_getElem? (i := 4) rfl))))), nowords_in⟩⟩⟩⟩)) ggX10_feel_X10_refuse
set_option maxRecDepth 20000 in
theorem ggX10_feel_X2_begin : GoodIn wsX10_feel wsX2_begin := goodIn_by gd_X10_feel (List.forall_mem_cons.mpr ⟨List.mem_cons_of_mem _ (List.mem_append_left _ (List.mem_append_left _ (List.mem_append_left _ (List.mem_append_left _ (List.mem_of_getElem? (i := 15) rfl))))), List.forall_mem_append.mpr ⟨List.forall_mem_cons.mpr ⟨List.mem_cons_of_mem _ (List.mem_append_left _ (List.mem_append_left _ (List.mem_append_left _ (List.mem_append_left _ (List.mem_of_getElem? (i := 16) rfl))))), nowords_in⟩, (fun _ h => List.mem_cons_of_mem _ (List.mem_append_left _ (List.mem_append_right _ (h))))⟩⟩)
set_option maxRecDepth 20000 in
theorem gX10_feel_X2_begin : GoodIn wsX10_feel (wsV RX10 264 RX2 yX2_begin wsX2_begin) := goodIn_app (goodIn_by gd_X10_feel (List.forall_mem_cons.mpr ⟨List.mem_cons_of_mem _ (List.mem_append_left _ (List.mem_append_left _ (List.mem_append_left _ (List.mem_append_left _ (List.mem_of_getElem? (i := 11) rfl))))), List.forall_mem_cons.mpr ⟨List.mem_cons_of_mem _ (List.mem_append_left _ (List.mem_append_left _ (List.mem_append_left _ (List.mem_append_left _ (List.mem_of_getElem? (i := 12) rfl))))), List.forall_mem_cons.mpr ⟨List.mem_cons_of_mem _ (List.mem_append_left _ (List.mem_append_left _ (List.mem_append_left _ (List.mem_append_left _ (List.mem_of_getElem? (i := 13) rfl))))), List.forall_mem_cons.mpr ⟨List.mem_cons_of_mem _ (List.mem_append_left _ (List.mem_append_left _ (List.mem_append_left _ (List.mem_append_left _ (List.mem_of_getElem? (i := 14) rfl))))), nowords_in⟩⟩⟩⟩)) ggX10_feel_X2_begin
set_option maxRecDepth 20000 in
theorem ggX10_feel_X0_feelBy : GoodIn wsX10_feel wsX0_feelBy := goodIn_by gd_X10_feel (List.forall_mem_cons.mpr ⟨List.mem_cons_of_mem _ (List.mem_append_left _ (List.mem_append_left _ (List.mem_append_left _ (List.mem_append_left _ (List.mem_of_getElem? (i := 21) rfl))))), List.forall_mem_append.mpr ⟨List.forall_mem_append.mpr ⟨List.forall_mem_append.mpr ⟨List.forall_mem_cons.mpr ⟨List.mem_cons_of_mem _ (List.mem_append_left _ (List.mem_append_left _ (List.mem_append_left _ (List.mem_append_left _ (List.mem_of_getElem? (i := 22) rfl))))), List.forall_mem_cons.mpr ⟨List.mem_cons_of_mem _ (List.mem_append_left _ (List.mem_append_left _ (List.mem_append_left _ (List.mem_append_left _ (List.mem_of_getElem? (i := 23) rfl))))), List.forall_mem_cons.mpr ⟨List.mem_cons_of_mem _ (List.mem_append_left _ (List.mem_append_left _ (List.mem_append_left _ (List.mem_append_right _ (List.mem_append_left _ (List.mem_of_getElem? (i := 0) rfl)))))), List.forall_mem_cons.mpr ⟨List.mem_cons_of_mem _ (List.mem_append_left _ (List.mem_append_left _ (List.mem_append_left _ (List.mem_append_right _ (List.mem_append_left _ (List.mem_of_getElem? (i := 1) rfl)))))), List.forall_mem_cons.mpr ⟨List.mem_cons_of_mem _ (List.mem_append_left _ (List.mem_append_left _ (List.mem_append_left _ (List.mem_append_right _ (List.mem_append_left _ (List.mem_of_getElem? (i := 2) rfl)))))), List.forall_mem_cons.mpr ⟨List.mem_cons_of_mem _ (List.mem_append_left _ (List.mem_append_left _ (List.mem_append_left _ (List.mem_append_right _ (List.mem_append_left _ (List.mem_of_getElem? (i := 3) rfl)))))), List.forall_mem_cons.mpr ⟨List.mem_cons_of_mem _ (List.mem_append_left _ (List.mem_append_left _ (List.mem_append_left _ (List.mem_append_right _ (List.mem_append_left _ (List.mem_of_getElem? (i := 4) rfl)))))), List.forall_mem_cons.mpr ⟨List.mem_cons_of_mem _ (List.mem_append_left _ (List.mem_append_left _ (List.mem_append_left _ (List.mem_append_right _ (List.mem_append_left _ (List.mem_of_getElem? (i := 5) rfl)))))), List.forall_mem_cons.mpr ⟨List.mem_cons_of_mem _ (List.mem_append_left _ (List.mem_append_left _ (List.mem_append_left _ (List.mem_append_left _ (List.mem_of_getElem? (i := 20) rfl))))), List.forall_mem_cons.mpr ⟨List.mem_cons_of_mem _ (List.mem_append_left _ (List.mem_append_left _ (List.mem_append_left _ (List.mem_append_right _ (List.mem_append_left _ (List.mem_of_getElem? (i := 6) rfl)))))), List.forall_mem_cons.mpr ⟨List.mem_cons_of_mem _ (List.mem_append_left _ (List.mem_append_left _ (List.mem_append_left _ (List.mem_append_right _ (List.mem_append_left _ (List.mem_of_getElem? (i := 7) rfl)))))), List.forall_mem_cons.mpr ⟨List.mem_cons_of_mem _ (List.mem_append_left _ (List.mem_append_left _ (List.mem_append_left _ (List.mem_append_right _ (List.mem_append_left _ (List.mem_of_getElem? (i := 8) rfl)))))), List.forall_mem_cons.mpr ⟨List.mem_cons_of_mem _ (List.mem_append_left _ (List.mem_append_left _ (List.mem_append_left _ (List.mem_append_right _ (List.mem_append_left _ (List.mem_of_getElem? (i := 9) rfl)))))), List.forall_mem_cons.mpr ⟨List.mem_cons_of_mem _ (List.mem_append_left _ (List.mem_append_left _ (List.mem_append_left _ (List.mem_append_right _ (List.mem_append_left _ (List.mem_of_getElem? (i := 10) rfl)))))), List.forall_mem_cons.mpr ⟨List.mem_cons_of_mem _ (List.mem_append_left _ (List.mem_append_left _ (List.mem_append_left _ (List.mem_append_right _ (List.mem_append_left _ (List.mem_of_getElem? (i := 11) rfl)))))), List.forall_mem_cons.mpr ⟨List.mem_cons_of_mem _ (List.mem_append_left _ (List.mem_append_left _ (List.mem_append_left _ (List.mem_append_right _ (List.mem_append_left _ (List.mem_of_getElem? (i := 12) rfl)))))), List.forall_mem_cons.mpr ⟨List.mem_cons_of_mem _ (List.mem_append_left _ (List.mem_append_left _ (List.mem_append_left _ (List.mem_append_right _ (List.mem_append_left _ (List.mem_of_getElem? (i := 13) rfl)))))), List.forall_mem_cons.mpr ⟨List.mem_cons_of_mem _ (List.mem_append_left _ (List.mem_append_left _ (List.mem_append_left _ (List.mem_append_right _ (List.mem_append_left _ (List.mem_of_getElem? (i := 14) rfl)))))), List.forall_mem_cons.mpr ⟨List.mem_cons_of_mem _ (List.mem_append_left _ (List.mem_append_left _ (List.mem_append_left _ (List.mem_append_right _ (List.mem_append_left _ (List.mem_of_getElem? (i := 15) rfl)))))), List.forall_mem_cons.mpr ⟨List.mem_cons_of_mem _ (List.mem_append_left _ (List.mem_append_left _ (List.mem_append_left _ (List.mem_append_right _ (List.mem_append_left _ (List.mem_of_getElem? (i := 16) rfl)))))), List.forall_mem_cons.mpr ⟨List.mem_cons_of_mem _ (List.mem_append_left _ (List.mem_append_left _ (List.mem_append_left _ (List.mem_append_right _ (List.mem_append_left _ (List.mem_of_getElem? (i := 17) rfl)))))), List.forall_mem_cons.mpr ⟨List.mem_cons_of_mem _ (List.mem_append_left _ (List.mem_append_left _ (List.mem_append_left _ (List.mem_append_right _ (List.mem_append_left _ (List.mem_of_getElem? (i := 18) rfl)))))), List.forall_mem_cons.mpr ⟨List.mem_cons_of_mem _ (List.mem_append_left _ (List.mem_append_left _ (List.mem_append_left _ (List.mem_append_right _ (List.mem_append_left _ (List.mem_of_getElem? (i := 19) rfl)))))), List.forall_mem_cons.mpr ⟨List.mem_cons_of_mem _ (List.mem_append_left _ (List.mem_append_left _ (List.mem_append_left _ (List.mem_append_left _ (List.mem_of_getElem? (i := 4) rfl))))), nowords_in⟩⟩⟩⟩⟩⟩⟩⟩⟩⟩⟩⟩⟩⟩⟩⟩⟩⟩⟩⟩⟩⟩⟩⟩, List.forall_mem_cons.mpr ⟨List.mem_cons_of_mem _ (List.mem_append_left _ (List.mem_append_left _ (List.mem_append_left _ (List.mem_append_right _ (List.mem_append_left _ (List.mem_of_getElem? (i := 20) rfl)))))), List.forall_mem_cons.mpr ⟨List.mem_cons_of_mem _ (List.mem_append_left _ (List.mem_append_left _ (List.mem_append_left _ (List.mem_append_right _ (List.mem_append_left _ (List.mem_of_getElem? (i := 21) rfl)))))), List.forall_mem_cons.mpr ⟨List.mem_cons_of_mem _ (List.mem_append_left _ (List.mem_append_left _ (List.mem_append_left _ (List.mem_append_right _ (List.mem_append_left _ (List.mem_of_getElem? (i := 22) rfl)))))), List.forall_mem_cons.mpr ⟨List.mem_cons_of_mem _ (List.mem_append_left _ (List.mem_append_left _ (List.mem_append_left _ (List.mem_append_right _ (List.mem_append_left _ (List.mem_of_getElem? (i := 23) rfl)))))), List.forall_mem_cons.mpr ⟨List.mem_cons_of_mem _ (List.mem_append_left _ (List.mem_append_left _ (List.mem_append_left _ (List.mem_append_right _ (List.mem_append_right _ (List.mem_append_left _ (List.mem_of_getElem? (i := 0) rfl))))))), List.forall_mem_cons.mpr ⟨List.mem_cons_of_mem _ (List.mem_append_left _ (List.mem_append_left _ (List.mem_append_left _ (List.mem_append_right _ (List.mem_append_right _ (List.mem_append_left _ (List.mem_of_getElem? (i := 1) rfl))))))), List.forall_mem_cons.mpr ⟨List.mem_cons_of_mem _ (List.mem_append_left _ (List.mem_append_left _ (List.mem_append_left _ (List.mem_append_right _ (List.mem_append_right _ (List.mem_append_left _ (List.mem_of_getElem? (i := 2) rfl))))))), List.forall_mem_cons.mpr ⟨List.mem_cons_of_mem _ (List.mem_append_left _ (List.mem_append_left _ (List.mem_append_left _ (List.mem_append_right _ (List.mem_append_right _ (List.mem_append_left _ (List.mem_of_getElem? (i := 3) rfl))))))), List.forall_mem_cons.mpr ⟨List.mem_cons_of_mem _ (List.mem_append_left _ (List.mem_append_left _ (List.mem_append_left _ (List.mem_append_right _ (List.mem_append_right _ (List.mem_append_left _ (List.mem_of_getElem? (i := 4) rfl))))))), List.forall_mem_cons.mpr ⟨List.mem_cons_of_mem _ (List.mem_append_left _ (List.mem_append_left _ (List.mem_append_left _ (List.mem_append_right _ (List.mem_append_right _ (List.mem_append_left _ (List.mem_of_getElem? (i := 5) rfl))))))), List.forall_mem_cons.mpr ⟨List.mem_cons_of_mem _ (List.mem_append_left _ (List.mem_append_left _ (List.mem_append_left _ (List.mem_append_right _ (List.mem_append_right _ (List.mem_append_left _ (List.mem_of_getElem? (i := 6) rfl))))))), List.forall_mem_cons.mpr ⟨List.mem_cons_of_mem _ (List.mem_append_left _ (List.mem_append_left _ (List.mem_append_left _ (List.mem_append_right _ (List.mem_append_right _ (List.mem_append_left _ (List.mem_of_getElem? (i := 7) rfl))))))), List.forall_mem_cons.mpr ⟨List.mem_cons_of_mem _ (List.mem_append_left _ (List.mem_append_left _ (List.mem_append_left _ (List.mem_append_right _ (List.mem_append_right _ (List.mem_append_left _ (List.mem_of_getElem? (i := 8) rfl))))))), List.forall_mem_cons.mpr ⟨List.mem_cons_of_mem _ (List.mem_append_left _ (List.mem_append_left _ (List.mem_append_left _ (List.mem_append_right _ (List.mem_append_right _ (List.mem_append_left _ (List.mem_of_getElem? (i := 9) rfl))))))), List.forall_mem_cons.mpr ⟨List.mem_cons_of_mem _ (List.mem_append_left _ (List.mem_append_left _ (List.mem_append_left _ (List.mem_append_right _ (List.mem_append_right _ (List.mem_append_left _ (List.mem_of_getElem? (i := 10) rfl))))))), List.forall_mem_cons.mpr ⟨List.mem_cons_of_mem _ (List.mem_append_left _ (List.mem_append_left _ (List.mem_append_left _ (List.mem_append_left _ (List.mem_of_getElem? (i := 14) rfl))))), List.forall_mem_cons.mpr ⟨List.mem_cons_of_mem _ (List.mem_append_left _ (List.mem_append_left _ (List.mem_append_left _ (List.mem_append_right _ (List.mem_append_right _ (List.mem_append_left _ (List.mem_of_getElem? (i := 11) rfl))))))), List.forall_mem_cons.mpr ⟨List.mem_cons_of_mem _ (List.mem_append_left _ (List.mem_append_left _ (List.mem_append_left _ (List.mem_append_left _ (List.mem_of_getElem? (i := 16) rfl))))), List.forall_mem_cons.mpr ⟨List.mem_cons_of_mem _ (List.mem_append_left _ (List.mem_append_left _ (List.mem_append_left _ (List.mem_append_right _ (List.mem_append_right _ (List.mem_append_left _ (List.mem_of_getElem? (i := 12) rfl))))))), nowords_in⟩⟩⟩⟩⟩⟩⟩⟩⟩⟩⟩⟩⟩⟩⟩⟩⟩⟩⟩⟩, (fun _ h => List.mem_cons_of_mem _ (List.mem_append_right _ (h)))⟩, (fun _ h => List.mem_cons_of_mem _ (List.mem_append_left _ (List.mem_append_right _ (h))))⟩⟩)
set_option maxRecDepth 20000 in
theorem gX10_feel_X0_feelBy : GoodIn wsX10_feel (wsV RX10 267 RX0 yX0_feelBy wsX0_feelBy) := goodIn_app (goodIn_by gd_X10_feel (List.forall_mem_cons.mpr ⟨List.mem_cons_of_mem _ (List.mem_append_left _ (List.mem_append_left _ (List.mem_append_left _ (List.mem_append_left _ (List.mem_of_getElem? (i := 17) rfl))))), List.forall_mem_cons.mpr ⟨List.mem_cons_of_mem _ (List.mem_append_left _ (List.mem_append_left _ (List.mem_append_left _ (List.mem_append_left _ (List.mem_of_getElem? (i := 18) rfl))))), List.forall_mem_cons.mpr ⟨List.mem_cons_of_mem _ (List.mem_append_left _ (List.mem_append_left _ (List.mem_append_left _ (List.mem_append_left _ (List.mem_of_getElem? (i := 19) rfl))))), List.forall_mem_cons.mpr ⟨List.mem_cons_of_mem _ (List.mem_append_left _ (List.mem_append_left _ (List.mem_append_left _ (List.mem_append_left _ (List.mem_of_getElem? (i := 20) rfl))))), nowords_in⟩⟩⟩⟩)) ggX10_feel_X0_feelBy
set_option maxRecDepth 20000 in
theorem ggX10_feel_X0_allTwinges : GoodIn wsX10_feel wsX0_allTwinges := goodIn_by gd_X10_feel (List.forall_mem_cons.mpr ⟨List.mem_cons_of_mem _ (List.mem_append_left _ (List.mem_append_left _ (List.mem_append_left _ (List.mem_append_right _ (List.mem_append_right _ (List.mem_append_left _ (List.mem_of_getElem? (i := 16) rfl))))))), List.forall_mem_append.mpr ⟨List.forall_mem_cons.mpr ⟨List.mem_cons_of_mem _ (List.mem_append_left _ (List.mem_append_left _ (List.mem_append_left _ (List.mem_append_left _ (List.mem_of_getElem? (i := 22) rfl))))), List.forall_mem_cons.mpr ⟨List.mem_cons_of_mem _ (List.mem_append_left _ (List.mem_append_left _ (List.mem_append_left _ (List.mem_append_right _ (List.mem_append_left _ (List.mem_of_getElem? (i := 2) rfl)))))), List.forall_mem_cons.mpr ⟨List.mem_cons_of_mem _ (List.mem_append_left _ (List.mem_append_left _ (List.mem_append_left _ (List.mem_append_right _ (List.mem_append_right _ (List.mem_append_left _ (List.mem_of_getElem? (i := 17) rfl))))))), List.forall_mem_cons.mpr ⟨List.mem_cons_of_mem _ (List.mem_append_left _ (List.mem_append_left _ (List.mem_append_left _ (List.mem_append_right _ (List.mem_append_right _ (List.mem_append_left _ (List.mem_of_getElem? (i := 18) rfl))))))), List.forall_mem_cons.mpr ⟨List.mem_cons_of_mem _ (List.mem_append_left _ (List.mem_append_left _ (List.mem_append_left _ (List.mem_append_right _ (List.mem_append_right _ (List.mem_append_left _ (List.mem_of_getElem? (i := 19) rfl))))))), List.forall_mem_cons.mpr ⟨List.mem_cons_of_mem _ (List.mem_append_left _ (List.mem_append_left _ (List.mem_append_left _ (List.mem_append_right _ (List.mem_append_right _ (List.mem_append_left _ (List.mem_of_getElem? (i := 20) rfl))))))), List.forall_mem_cons.mpr ⟨List.mem_cons_of_mem _ (List.mem_append_left _ (List.mem_append_left _ (List.mem_append_left _ (List.mem_append_right _ (List.mem_append_right _ (List.mem_append_left _ (List.mem_of_getElem? (i := 21) rfl))))))), List.forall_mem_cons.mpr ⟨List.mem_cons_of_mem _ (List.mem_append_left _ (List.mem_append_left _ (List.mem_append_left _ (List.mem_append_right _ (List.mem_append_right _ (List.mem_append_left _ (List.mem_of_getElem? (i := 22) rfl))))))), List.forall_mem_cons.mpr ⟨List.mem_cons_of_mem _ (List.mem_append_left _ (List.mem_append_left _ (List.mem_append_left _ (List.mem_append_right _ (List.mem_append_right _ (List.mem_append_left _ (List.mem_of_getElem? (i := 23) rfl))))))), nowords_in⟩⟩⟩⟩⟩⟩⟩⟩⟩, (fun _ h => List.mem_cons_of_mem _ (List.mem_append_right _ (h)))⟩⟩)
set_option maxRecDepth 20000 in
theorem gX10_feel_X0_allTwinges : GoodIn wsX10_feel (wsV RX10 271 RX0 yX0_allTwinges wsX0_allTwinges) := goodIn_app (goodIn_by gd_X10_feel (List.forall_mem_cons.mpr ⟨List.mem_cons_of_mem _ (List.mem_append_left _ (List.mem_append_left _ (List.mem_append_left _ (List.mem_append_right _ (List.mem_append_right _ (List.mem_append_left _ (List.mem_of_getElem? (i := 13) rfl))))))), List.forall_mem_cons.mpr ⟨List.mem_cons_of_mem _ (List.mem_append_left _ (List.mem_append_left _ (List.mem_append_left _ (List.mem_append_right _ (List.mem_append_right _ (List.mem_append_left _ (List.mem_of_getElem? (i := 14) rfl))))))), List.forall_mem_cons.mpr ⟨List.mem_cons_of_mem _ (List.mem_append_left _ (List.mem_append_left _ (List.mem_append_left _ (List.mem_append_right _ (List.mem_append_right _ (List.mem_append_left _ (List.mem_of_getElem? (i := 15) rfl))))))), List.forall_mem_cons.mpr ⟨List.mem_cons_of_mem _ (List.mem_append_left _ (List.mem_append_left _ (List.mem_append_left _ (List.mem_append_left _ (List.mem_of_getElem? (i := 20) rfl))))), nowords_in⟩⟩⟩⟩)) ggX10_feel_X0_allTwinges
set_option maxRecDepth 20000 in
theorem ggX10_feel_X10_answer : GoodIn wsX10_feel wsX10_answer := goodIn_by gd_X10_feel (List.forall_mem_cons.mpr ⟨List.mem_cons_of_mem _ (List.mem_append_left _ (List.mem_append_left _ (List.mem_append_left _ (List.mem_append_right _ (List.mem_append_right _ (List.mem_append_right _ (List.mem_of_getElem? (i := 3) rfl))))))), List.forall_mem_append.mpr ⟨List.forall_mem_cons.mpr ⟨List.mem_cons_of_mem _ (List.mem_append_left _ (List.mem_append_left _ (List.mem_append_left _ (List.mem_append_left _ (List.mem_of_getElem? (i := 10) rfl))))), nowords_in⟩, (fun _ h => List.mem_cons_of_mem _ (List.mem_append_left _ (List.mem_append_left _ (List.mem_append_right _ (h)))))⟩⟩)
set_option maxRecDepth 20000 in
theorem gX10_feel_X10_answer : GoodIn wsX10_feel (wsV RX10 181 RX10 yX10_answer wsX10_answer) := goodIn_app (goodIn_by gd_X10_feel (List.forall_mem_cons.mpr ⟨List.mem_cons_of_mem _ (List.mem_append_left _ (List.mem_append_left _ (List.mem_append_left _ (List.mem_append_right _ (List.mem_append_right _ (List.mem_append_right _ (List.mem_of_getElem? (i := 0) rfl))))))), List.forall_mem_cons.mpr ⟨List.mem_cons_of_mem _ (List.mem_append_left _ (List.mem_append_left _ (List.mem_append_left _ (List.mem_append_right _ (List.mem_append_right _ (List.mem_append_right _ (List.mem_of_getElem? (i := 1) rfl))))))), List.forall_mem_cons.mpr ⟨List.mem_cons_of_mem _ (List.mem_append_left _ (List.mem_append_left _ (List.mem_append_left _ (List.mem_append_right _ (List.mem_append_right _ (List.mem_append_right _ (List.mem_of_getElem? (i := 2) rfl))))))), List.forall_mem_cons.mpr ⟨List.mem_cons_of_mem _ (List.mem_append_left _ (List.mem_append_left _ (List.mem_append_left _ (List.mem_append_left _ (List.mem_of_getElem? (i := 4) rfl))))), nowords_in⟩⟩⟩⟩)) ggX10_feel_X10_answer
theorem dX10_feel_0 : decode cX10_feel 0 = .ok (.iload_n 1, 1) := by decide +kernel
theorem dX10_feel_1 : decode cX10_feel 1 = .ok (.iconst 0, 1) := by decide +kernel
theorem dX10_feel_2 : decode cX10_feel 2 = .ok (.sipush 9999, 3) := by decide +kernel
theorem dX10_feel_5 : decode cX10_feel 5 = .ok (.invokestatic 116, 3) := by decide +kernel
theorem dX10_feel_8 : decode cX10_feel 8 = .ok (.ifCond .eq 9, 3) := by decide +kernel
theorem dX10_feel_11 : decode cX10_feel 11 = .ok (.aload_n 0, 1) := by decide +kernel
theorem dX10_feel_12 : decode cX10_feel 12 = .ok (.iconst 1, 1) := by decide +kernel
theorem dX10_feel_13 : decode cX10_feel 13 = .ok (.invokevirtual 139, 3) := by decide +kernel
theorem dX10_feel_16 : decode cX10_feel 16 = .ok (.ireturn, 1) := by decide +kernel
theorem dX10_feel_17 : decode cX10_feel 17 = .ok (.aload_n 0, 1) := by decide +kernel
theorem dX10_feel_18 : decode cX10_feel 18 = .ok (.getfield 87, 3) := by decide +kernel
theorem dX10_feel_21 : decode cX10_feel 21 = .ok (.iload_n 1, 1) := by decide +kernel
theorem dX10_feel_22 : decode cX10_feel 22 = .ok (.invokevirtual 264, 3) := by decide +kernel
theorem dX10_feel_25 : decode cX10_feel 25 = .ok (.aload_n 0, 1) := by decide +kernel
theorem dX10_feel_26 : decode cX10_feel 26 = .ok (.getfield 10, 3) := by decide +kernel
theorem dX10_feel_29 : decode cX10_feel 29 = .ok (.aload_n 0, 1) := by decide +kernel
theorem dX10_feel_30 : decode cX10_feel 30 = .ok (.getfield 87, 3) := by decide +kernel
theorem dX10_feel_33 : decode cX10_feel 33 = .ok (.invokevirtual 267, 3) := by decide +kernel
theorem dX10_feel_36 : decode cX10_feel 36 = .ok (.aload_n 0, 1) := by decide +kernel
theorem dX10_feel_37 : decode cX10_feel 37 = .ok (.aload_n 0, 1) := by decide +kernel
theorem dX10_feel_38 : decode cX10_feel 38 = .ok (.getfield 10, 3) := by decide +kernel
theorem dX10_feel_41 : decode cX10_feel 41 = .ok (.invokevirtual 271, 3) := by decide +kernel
theorem dX10_feel_44 : decode cX10_feel 44 = .ok (.invokevirtual 181, 3) := by decide +kernel
theorem dX10_feel_47 : decode cX10_feel 47 = .ok (.ireturn, 1) := by decide +kernel
abbrev rmX10_feel : Room := { frames := 4, cells := 0, slots := 0, locals := 92 }
set_option maxHeartbeats 4000000 in
set_option maxRecDepth 100000 in
theorem kX10_feel (l : Launch) (D : va_G) (cy : Nat → ClassId) (h0 : Nat) (a0 : Nat → Nat) (a1 : Nat → Nat) (a2 : Nat → Nat) (s0 : Rc) (s1 : Rc) (s2 : Rc) (p1 : Int32) (res : Int32 × Rc × Rc × Rc) (h : fX10_feel p1 s0 s1 s2 = some res) : CI l D cy yX10_feel wsX10_feel rmX10_feel [.ref h0, .int p1] (flat [WX10 cy h0 a0 s0, WX0 cy (a0 0) a1 s1, WX2 cy (a0 13) a2 s2]) (flat [WX10 cy h0 a0 res.2.1, WX0 cy (a0 0) a1 res.2.2.1, WX2 cy (a0 13) a2 res.2.2.2]) res.1 := by
  refine CI.of (cc := cX10_feel) (maxL := 2) (by decide) rfl (Nat.le_of_ble_eq_true rfl) ?_
  intro p e s m args below meth c A QQ ls E hr
  obtain ⟨hx, hb, hml, hown, hts, hK, hN, hP, hD, hA, hl⟩ := E
  have hret : ∀ (pc : Nat) (H : Heap) (locs : List Loc) (ls : Array Slot) (u : Int32 × Rc × Rc × Rc), u = res → va_P D vwCl (flat [WX10 cy h0 a0 u.2.1, WX0 cy (a0 0) a1 u.2.2.1, WX2 cy (a0 13) a2 u.2.2.2]) H → va_D A (flat [WX10 cy h0 a0 u.2.1, WX0 cy (a0 0) a1 u.2.2.1, WX2 cy (a0 13) a2 u.2.2.2]) → va_S A s.heap H locs → decode cX10_feel pc = .ok (.ireturn, 1) → W p l e rmX10_feel s m args below meth c H locs 0 0 QQ (F0 m pc ls [.int u.1]) := by
    intro pc H locs ls u hu hP hD hS hd; subst hu; exact hr pc H locs ls _ rfl hP hD hS hd
  clear hr
  have hl : lv_has ls 2 [(0, .ref h0), (1, .int p1)] := hl
  have hinX10 : ∀ w ∈ wsX100, w ∈ wsX10_feel := fun _ h => List.mem_cons_of_mem _ (List.mem_append_left _ (List.mem_append_left _ (List.mem_append_right _ h)))
  unfold fX10_feel at h
  suffices key : ∀ (H : Heap) (locs : List Loc), va_P D vwCl (flat [WX10 cy h0 a0 s0, WX0 cy (a0 0) a1 s1, WX2 cy (a0 13) a2 s2]) H → va_S A s.heap H locs → W p l e rmX10_feel s m args below meth c H locs 0 0 QQ (F0 m 0 ls []) from key _ _ hP va_S.rf
  clear hP
  intro H locs hP hS
  refine lv_iload_n hx hb dX10_feel_0 rfl (lv_at hl 1 rfl) ?_
  refine lv_iconst (v := 0) hx hb dX10_feel_1 (by decide) ?_
  refine lv_sipush (v := 9999) hx hb dX10_feel_2 (by decide) ?_
  refine ca_z (w' := [WX10 cy h0 a0 s0, WX0 cy (a0 0) a1 s1, WX2 cy (a0 13) a2 s2]) (rn_S (As := [.int p1, .int (0 : Int32), .int (9999 : Int32)]) (rest := []) ⟨hx, hb, hml, hown, hts⟩ (kX10_outside l D cy p1 (0 : Int32) (9999 : Int32) _ rfl H.size) (va_cwS 3 hts gX10_feel_X10_outside rfl rfl rfl (by decide +kernel) ⟨Nat.le_of_ble_eq_true rfl, Nat.le_of_ble_eq_true rfl⟩) hK hN hP hD [] rfl rfl rfl hl.1 rfl (Nat.le_of_ble_eq_true rfl) dX10_feel_5 ⟨Nat.le_refl 0, Nat.le_refl 0⟩) hP hD hS hA [] ⟨rfl, rfl, rfl, rfl⟩ (fun b1 H locs hP hD hS => ?_)
  refine lv_if_eq (tgt := 17) hx hb dX10_feel_8 (by decide) (fun c2 => ?_) (fun c2 => ?_)
  · replace h := (if_pos c2).symm.trans h
    refine lv_aload_n hx hb dX10_feel_17 rfl (lv_at hl 0 rfl) ?_
    refine va_get (D := D) (ci := 10) (v := .ref (a0 13)) (C := RX10) (T := TX10) (N := 19) hx hb hts hinX10 hown hK hP 0 rfl rfl 13 (by decide) (hts (.fieldLink RX10 87 "KneeBench" "draws" "LKneeBench$Draws;") (List.mem_of_getElem? (i := 1) rfl)) (fun _ h9 => h9) rfl dX10_feel_18 ?_
    refine lv_iload_n hx hb dX10_feel_21 rfl (lv_at hl 1 rfl) ?_
    obtain ⟨r3, hr3, h⟩ := lt_elim h
    refine ca_v (w' := [WX10 cy h0 a0 s0, WX0 cy (a0 0) a1 s1, WX2 cy (a0 13) a2 r3]) (rn_V (As := [.int p1]) (rest := []) ⟨hx, hb, hml, hown, hts⟩ (kX2_begin l D cy (a0 13) a2 s2 p1 r3 hr3.symm H.size) (cwV 1 hts gX10_feel_X2_begin rfl rfl rfl (by decide +kernel) ⟨Nat.le_of_ble_eq_true rfl, Nat.le_of_ble_eq_true rfl⟩) hK hN hP hD [2] rfl rfl (ci := 2) (q0 := 10) rfl rfl rfl rfl hl.1 rfl (Nat.le_of_ble_eq_true rfl) dX10_feel_22 ⟨Nat.le_refl 0, Nat.le_refl 0⟩) hP hD hS hA [2] ⟨rfl, rfl, rfl, rfl⟩ (fun H locs hP hD hS => ?_)
    refine lv_aload_n hx hb dX10_feel_25 rfl (lv_at hl 0 rfl) ?_
    refine va_get (D := D) (ci := 10) (v := .ref (a0 0)) (C := RX10) (T := TX10) (N := 19) hx hb hts hinX10 hown hK hP 0 rfl rfl 0 (by decide) (hts (.fieldLink RX10 10 "KneeBench" "bench" "LKneeBench$Bench;") (List.mem_of_getElem? (i := 2) rfl)) (fun _ h9 => h9) rfl dX10_feel_26 ?_
    refine lv_aload_n hx hb dX10_feel_29 rfl (lv_at hl 0 rfl) ?_
    refine va_get (D := D) (ci := 10) (v := .ref (a0 13)) (C := RX10) (T := TX10) (N := 19) hx hb hts hinX10 hown hK hP 0 rfl rfl 13 (by decide) (hts (.fieldLink RX10 87 "KneeBench" "draws" "LKneeBench$Draws;") (List.mem_of_getElem? (i := 1) rfl)) (fun _ h9 => h9) rfl dX10_feel_30 ?_
    obtain ⟨r4, hr4, h⟩ := bd_elim h
    refine ca_v (w' := [WX10 cy h0 a0 s0, WX0 cy (a0 0) a1 r4.1, WX2 cy (a0 13) a2 r4.2]) (rn_V (As := [.ref (a0 13)]) (rest := []) ⟨hx, hb, hml, hown, hts⟩ (kX0_feelBy l D cy (a0 0) (a0 13) a1 a2 s1 r3 r4 hr4 H.size) (cwV 1 hts gX10_feel_X0_feelBy rfl rfl rfl (by decide +kernel) ⟨Nat.le_of_ble_eq_true rfl, Nat.le_of_ble_eq_true rfl⟩) hK hN hP hD [1, 2] rfl rfl (ci := 0) (q0 := 1) rfl rfl rfl rfl hl.1 rfl (Nat.le_of_ble_eq_true rfl) dX10_feel_33 ⟨Nat.le_refl 0, Nat.le_refl 0⟩) hP hD hS hA [1, 2] ⟨rfl, rfl, rfl, rfl⟩ (fun H locs hP hD hS => ?_)
    refine lv_aload_n hx hb dX10_feel_36 rfl (lv_at hl 0 rfl) ?_
    refine lv_aload_n hx hb dX10_feel_37 rfl (lv_at hl 0 rfl) ?_
    refine va_get (D := D) (ci := 10) (v := .ref (a0 0)) (C := RX10) (T := TX10) (N := 19) hx hb hts hinX10 hown hK hP 0 rfl rfl 0 (by decide) (hts (.fieldLink RX10 10 "KneeBench" "bench" "LKneeBench$Bench;") (List.mem_of_getElem? (i := 2) rfl)) (fun _ h9 => h9) rfl dX10_feel_38 ?_
    obtain ⟨r5, hr5, h⟩ := bd_elim h
    refine ca_i (w' := [WX10 cy h0 a0 s0, WX0 cy (a0 0) a1 r4.1, WX2 cy (a0 13) a2 r4.2]) (rn_V (As := []) (rest := [.ref h0]) ⟨hx, hb, hml, hown, hts⟩ (kX0_allTwinges l D cy (a0 0) a1 r4.1 r5 hr5 H.size) (cwV 0 hts gX10_feel_X0_allTwinges rfl rfl rfl (by decide +kernel) ⟨Nat.le_of_ble_eq_true rfl, Nat.le_of_ble_eq_true rfl⟩) hK hN hP hD [1] rfl rfl (ci := 0) (q0 := 1) rfl rfl rfl rfl hl.1 rfl (Nat.le_of_ble_eq_true rfl) dX10_feel_41 ⟨Nat.le_refl 0, Nat.le_refl 0⟩) hP hD hS hA [1] ⟨rfl, rfl, rfl, rfl⟩ (fun H locs hP hD hS => ?_)
    obtain ⟨r6, hr6, h⟩ := lt_elim h
    refine ca_i (w' := [WX10 cy h0 a0 r6.2, WX0 cy (a0 0) a1 r4.1, WX2 cy (a0 13) a2 r4.2]) (rn_V (As := [.int r5]) (rest := []) ⟨hx, hb, hml, hown, hts⟩ (kX10_answer l D cy h0 a0 s0 r5 r6 hr6.symm H.size) (cwV 1 hts gX10_feel_X10_answer rfl rfl rfl (by decide +kernel) ⟨Nat.le_of_ble_eq_true rfl, Nat.le_of_ble_eq_true rfl⟩) hK hN hP hD [0] rfl rfl (ci := 10) (q0 := 0) rfl rfl rfl rfl hl.1 rfl (Nat.le_of_ble_eq_true rfl) dX10_feel_44 ⟨Nat.le_refl 0, Nat.le_refl 0⟩) hP hD hS hA [0] ⟨rfl, rfl, rfl, rfl⟩ (fun H locs hP hD hS => ?_)
    exact hret 47 H locs ls (r6.1, r6.2, r4.1, r4.2) (Option.some.inj h) hP hD hS dX10_feel_47
  · replace h := (if_neg c2).symm.trans h
    refine lv_aload_n hx hb dX10_feel_11 rfl (lv_at hl 0 rfl) ?_
    refine lv_iconst (v := 1) hx hb dX10_feel_12 (by decide) ?_
    obtain ⟨r7, hr7, h⟩ := lt_elim h
    refine ca_i (w' := [WX10 cy h0 a0 r7.2, WX0 cy (a0 0) a1 s1, WX2 cy (a0 13) a2 s2]) (rn_V (As := [.int (1 : Int32)]) (rest := []) ⟨hx, hb, hml, hown, hts⟩ (kX10_refuse l D cy h0 a0 s0 (1 : Int32) r7 hr7.symm H.size) (cwV 1 hts gX10_feel_X10_refuse rfl rfl rfl (by decide +kernel) ⟨Nat.le_of_ble_eq_true rfl, Nat.le_of_ble_eq_true rfl⟩) hK hN hP hD [0] rfl rfl (ci := 10) (q0 := 0) rfl rfl rfl rfl hl.1 rfl (Nat.le_of_ble_eq_true rfl) dX10_feel_13 ⟨Nat.le_refl 0, Nat.le_refl 0⟩) hP hD hS hA [0] ⟨rfl, rfl, rfl, rfl⟩ (fun H locs hP hD hS => ?_)
    exact hret 16 H locs ls (r7.1, r7.2, s1, s2) (Option.some.inj h) hP hD hS dX10_feel_16
theorem gd_X10_fever : wsX10_fever.all goodWord = true := by decide +kernel
set_option maxRecDepth 20000 in
theorem ggX10_fever_X0_twingesOn : GoodIn wsX10_fever wsX0_twingesOn := goodIn_by gd_X10_fever (List.forall_mem_cons.mpr ⟨List.mem_cons_of_mem _ (List.mem_append_left _ (List.mem_append_left _ (List.mem_append_left _ (List.mem_of_getElem? (i := 5) rfl)))), List.forall_mem_append.mpr ⟨List.forall_mem_cons.mpr ⟨List.mem_cons_of_mem _ (List.mem_append_left _ (List.mem_append_left _ (List.mem_append_left _ (List.mem_of_getElem? (i := 6) rfl)))), List.forall_mem_cons.mpr ⟨List.mem_cons_of_mem _ (List.mem_append_left _ (List.mem_append_left _ (List.mem_append_left _ (List.mem_of_getElem? (i := 7) rfl)))), List.forall_mem_cons.mpr ⟨List.mem_cons_of_mem _ (List.mem_append_left _ (List.mem_append_left _ (List.mem_append_left _ (List.mem_of_getElem? (i := 8) rfl)))), List.forall_mem_cons.mpr ⟨List.mem_cons_of_mem _ (List.mem_append_left _ (List.mem_append_left _ (List.mem_append_left _ (List.mem_of_getElem? (i := 9) rfl)))), List.forall_mem_cons.mpr ⟨List.mem_cons_of_mem _ (List.mem_append_left _ (List.mem_append_left _ (List.mem_append_left _ (List.mem_of_getElem? (i := 4) rfl)))), List.forall_mem_cons.mpr ⟨List.mem_cons_of_mem _ (List.mem_append_left _ (List.mem_append_left _ (List.mem_append_left _ (List.mem_of_getElem? (i := 10) rfl)))), List.forall_mem_cons.mpr ⟨List.mem_cons_of_mem _ (List.mem_append_left _ (List.mem_append_left _ (List.mem_append_left _ (List.mem_of_getElem? (i := 11) rfl)))), nowords_in⟩⟩⟩⟩⟩⟩⟩, (fun _ h => List.mem_cons_of_mem _ (List.mem_append_right _ (h)))⟩⟩)
set_option maxRecDepth 20000 in
theorem gX10_fever_X0_twingesOn : GoodIn wsX10_fever (wsV RX10 387 RX0 yX0_twingesOn wsX0_twingesOn) := goodIn_app (goodIn_by gd_X10_fever (List.forall_mem_cons.mpr ⟨List.mem_cons_of_mem _ (List.mem_append_left _ (List.mem_append_left _ (List.mem_append_left _ (List.mem_of_getElem? (i := 1) rfl)))), List.forall_mem_cons.mpr ⟨List.mem_cons_of_mem _ (List.mem_append_left _ (List.mem_append_left _ (List.mem_append_left _ (List.mem_of_getElem? (i := 2) rfl)))), List.forall_mem_cons.mpr ⟨List.mem_cons_of_mem _ (List.mem_append_left _ (List.mem_append_left _ (List.mem_append_left _ (List.mem_of_getElem? (i := 3) rfl)))), List.forall_mem_cons.mpr ⟨List.mem_cons_of_mem _ (List.mem_append_left _ (List.mem_append_left _ (List.mem_append_left _ (List.mem_of_getElem? (i := 4) rfl)))), nowords_in⟩⟩⟩⟩)) ggX10_fever_X0_twingesOn
set_option maxRecDepth 20000 in
theorem ggX10_fever_X10_answerIfAny : GoodIn wsX10_fever wsX10_answerIfAny := goodIn_by gd_X10_fever (List.forall_mem_cons.mpr ⟨List.mem_cons_of_mem _ (List.mem_append_left _ (List.mem_append_left _ (List.mem_append_left _ (List.mem_of_getElem? (i := 16) rfl)))), List.forall_mem_append.mpr ⟨List.forall_mem_cons.mpr ⟨List.mem_cons_of_mem _ (List.mem_append_left _ (List.mem_append_left _ (List.mem_append_left _ (List.mem_of_getElem? (i := 17) rfl)))), List.forall_mem_cons.mpr ⟨List.mem_cons_of_mem _ (List.mem_append_left _ (List.mem_append_left _ (List.mem_append_left _ (List.mem_of_getElem? (i := 18) rfl)))), List.forall_mem_cons.mpr ⟨List.mem_cons_of_mem _ (List.mem_append_left _ (List.mem_append_left _ (List.mem_append_left _ (List.mem_of_getElem? (i := 19) rfl)))), List.forall_mem_cons.mpr ⟨List.mem_cons_of_mem _ (List.mem_append_left _ (List.mem_append_left _ (List.mem_append_left _ (List.mem_of_getElem? (i := 15) rfl)))), List.forall_mem_cons.mpr ⟨List.mem_cons_of_mem _ (List.mem_append_left _ (List.mem_append_left _ (List.mem_append_left _ (List.mem_of_getElem? (i := 20) rfl)))), List.forall_mem_cons.mpr ⟨List.mem_cons_of_mem _ (List.mem_append_left _ (List.mem_append_left _ (List.mem_append_left _ (List.mem_of_getElem? (i := 21) rfl)))), List.forall_mem_cons.mpr ⟨List.mem_cons_of_mem _ (List.mem_append_left _ (List.mem_append_left _ (List.mem_append_left _ (List.mem_of_getElem? (i := 22) rfl)))), List.forall_mem_cons.mpr ⟨List.mem_cons_of_mem _ (List.mem_append_left _ (List.mem_append_left _ (List.mem_append_left _ (List.mem_of_getElem? (i := 23) rfl)))), List.forall_mem_cons.mpr ⟨List.mem_cons_of_mem _ (List.mem_append_left _ (List.mem_append_left _ (List.mem_append_right _ (List.mem_of_getElem? (i := 0) rfl)))), List.forall_mem_cons.mpr ⟨List.mem_cons_of_mem _ (List.mem_append_left _ (List.mem_append_left _ (List.mem_append_right _ (List.mem_of_getElem? (i := 1) rfl)))), nowords_in⟩⟩⟩⟩⟩⟩⟩⟩⟩⟩, (fun _ h => List.mem_cons_of_mem _ (List.mem_append_left _ (List.mem_append_right _ (h))))⟩⟩)
set_option maxRecDepth 20000 in
theorem gX10_fever_X10_answerIfAny : GoodIn wsX10_fever (wsV RX10 302 RX10 yX10_answerIfAny wsX10_answerIfAny) := goodIn_app (goodIn_by gd_X10_fever (List.forall_mem_cons.mpr ⟨List.mem_cons_of_mem _ (List.mem_append_left _ (List.mem_append_left _ (List.mem_append_left _ (List.mem_of_getElem? (i := 12) rfl)))), List.forall_mem_cons.mpr ⟨List.mem_cons_of_mem _ (List.mem_append_left _ (List.mem_append_left _ (List.mem_append_left _ (List.mem_of_getElem? (i := 13) rfl)))), List.forall_mem_cons.mpr ⟨List.mem_cons_of_mem _ (List.mem_append_left _ (List.mem_append_left _ (List.mem_append_left _ (List.mem_of_getElem? (i := 14) rfl)))), List.forall_mem_cons.mpr ⟨List.mem_cons_of_mem _ (List.mem_append_left _ (List.mem_append_left _ (List.mem_append_left _ (List.mem_of_getElem? (i := 15) rfl)))), nowords_in⟩⟩⟩⟩)) ggX10_fever_X10_answerIfAny
theorem dX10_fever_0 : decode cX10_fever 0 = .ok (.iconst (-1), 1) := by decide +kernel
theorem dX10_fever_1 : decode cX10_fever 1 = .ok (.istore_n 1, 1) := by decide +kernel
theorem dX10_fever_2 : decode cX10_fever 2 = .ok (.iconst 0, 1) := by decide +kernel
theorem dX10_fever_3 : decode cX10_fever 3 = .ok (.istore_n 2, 1) := by decide +kernel
theorem dX10_fever_4 : decode cX10_fever 4 = .ok (.iload_n 2, 1) := by decide +kernel
theorem dX10_fever_5 : decode cX10_fever 5 = .ok (.aload_n 0, 1) := by decide +kernel
theorem dX10_fever_6 : decode cX10_fever 6 = .ok (.getfield 10, 3) := by decide +kernel
theorem dX10_fever_9 : decode cX10_fever 9 = .ok (.getfield 197, 3) := by decide +kernel
theorem dX10_fever_12 : decode cX10_fever 12 = .ok (.if_icmp .ge 35, 3) := by decide +kernel
theorem dX10_fever_15 : decode cX10_fever 15 = .ok (.iload_n 1, 1) := by decide +kernel
theorem dX10_fever_16 : decode cX10_fever 16 = .ok (.iconst (-1), 1) := by decide +kernel
theorem dX10_fever_17 : decode cX10_fever 17 = .ok (.if_icmp .eq 22, 3) := by decide +kernel
theorem dX10_fever_20 : decode cX10_fever 20 = .ok (.aload_n 0, 1) := by decide +kernel
theorem dX10_fever_21 : decode cX10_fever 21 = .ok (.getfield 10, 3) := by decide +kernel
theorem dX10_fever_24 : decode cX10_fever 24 = .ok (.iload_n 2, 1) := by decide +kernel
theorem dX10_fever_25 : decode cX10_fever 25 = .ok (.invokevirtual 387, 3) := by decide +kernel
theorem dX10_fever_28 : decode cX10_fever 28 = .ok (.aload_n 0, 1) := by decide +kernel
theorem dX10_fever_29 : decode cX10_fever 29 = .ok (.getfield 10, 3) := by decide +kernel
theorem dX10_fever_32 : decode cX10_fever 32 = .ok (.iload_n 1, 1) := by decide +kernel
theorem dX10_fever_33 : decode cX10_fever 33 = .ok (.invokevirtual 387, 3) := by decide +kernel
theorem dX10_fever_36 : decode cX10_fever 36 = .ok (.if_icmp .le 5, 3) := by decide +kernel
theorem dX10_fever_39 : decode cX10_fever 39 = .ok (.iload_n 2, 1) := by decide +kernel
theorem dX10_fever_40 : decode cX10_fever 40 = .ok (.istore_n 1, 1) := by decide +kernel
theorem dX10_fever_41 : decode cX10_fever 41 = .ok (.iinc 2 1, 3) := by decide +kernel
theorem dX10_fever_44 : decode cX10_fever 44 = .ok (.goto (-40), 3) := by decide +kernel
theorem dX10_fever_47 : decode cX10_fever 47 = .ok (.aload_n 0, 1) := by decide +kernel
theorem dX10_fever_48 : decode cX10_fever 48 = .ok (.iload_n 1, 1) := by decide +kernel
theorem dX10_fever_49 : decode cX10_fever 49 = .ok (.invokevirtual 302, 3) := by decide +kernel
theorem dX10_fever_52 : decode cX10_fever 52 = .ok (.ireturn, 1) := by decide +kernel
abbrev rmX10_fever : Room := { frames := 2, cells := 0, slots := 0, locals := 45 }
set_option maxHeartbeats 4000000 in
set_option maxRecDepth 100000 in
theorem kX10_fever (l : Launch) (D : va_G) (cy : Nat → ClassId) (h0 : Nat) (a0 : Nat → Nat) (a1 : Nat → Nat) (s0 : Rc) (s1 : Rc) (res : Int32 × Rc) (h : fX10_fever s0 s1 = some res) : CI l D cy yX10_fever wsX10_fever rmX10_fever [.ref h0] (flat [WX10 cy h0 a0 s0, WX0 cy (a0 0) a1 s1]) (flat [WX10 cy h0 a0 res.2, WX0 cy (a0 0) a1 s1]) res.1 := by
  refine CI.of (cc := cX10_fever) (maxL := 3) (by decide) rfl (Nat.le_of_ble_eq_true rfl) ?_
  intro p e s m args below meth c A QQ ls E hr
  obtain ⟨hx, hb, hml, hown, hts, hK, hN, hP, hD, hA, hl⟩ := E
  have hret : ∀ (pc : Nat) (H : Heap) (locs : List Loc) (ls : Array Slot) (u : Int32 × Rc), u = res → va_P D vwCl (flat [WX10 cy h0 a0 u.2, WX0 cy (a0 0) a1 s1]) H → va_D A (flat [WX10 cy h0 a0 u.2, WX0 cy (a0 0) a1 s1]) → va_S A s.heap H locs → decode cX10_fever pc = .ok (.ireturn, 1) → W p l e rmX10_fever s m args below meth c H locs 0 0 QQ (F0 m pc ls [.int u.1]) := by
    intro pc H locs ls u hu hP hD hS hd; subst hu; exact hr pc H locs ls _ rfl hP hD hS hd
  clear hr
  have hl : lv_has ls 3 [(0, .ref h0)] := hl
  have hinX0 : ∀ w ∈ wsX00, w ∈ wsX10_fever := fun _ h => List.mem_cons_of_mem _ (List.mem_append_right _ h)
  have hinX10 : ∀ w ∈ wsX100, w ∈ wsX10_fever := fun _ h => List.mem_cons_of_mem _ (List.mem_append_left _ (List.mem_append_right _ h))
  unfold fX10_fever at h
  suffices key : ∀ (H : Heap) (locs : List Loc), va_P D vwCl (flat [WX10 cy h0 a0 s0, WX0 cy (a0 0) a1 s1]) H → va_S A s.heap H locs → W p l e rmX10_fever s m args below meth c H locs 0 0 QQ (F0 m 0 ls []) from key _ _ hP va_S.rf
  clear hP
  intro H locs hP hS
  refine lv_iconst (v := -1) hx hb dX10_fever_0 (by decide) ?_
  refine lv_istore_n (lv' := [(1, .int (-1 : Int32)), (0, .ref h0)]) hx hb dX10_fever_1 rfl hl (by decide) rfl (fun ls hl => ?_)
  refine lv_iconst (v := 0) hx hb dX10_fever_2 (by decide) ?_
  refine lv_istore_n (lv' := [(2, .int (0 : Int32)), (1, .int (-1 : Int32)), (0, .ref h0)]) hx hb dX10_fever_3 rfl hl (by decide) rfl (fun ls hl => ?_)
  have L4 : ∀ (n : Nat) (q4 : Int32 × Int32) (o : Int32), loopO (fX10_fever_L4 s1) n q4 = some o → ∀ (H : Heap) (locs : List Loc) (ls : Array Slot), lv_has ls 3 [(0, .ref h0), (1, .int q4.1), (2, .int q4.2)] → va_P D vwCl (flat [WX10 cy h0 a0 s0, WX0 cy (a0 0) a1 s1]) H → va_D A (flat [WX10 cy h0 a0 s0, WX0 cy (a0 0) a1 s1]) → va_S A s.heap H locs → ∀ (kk47 : ∀ (H : Heap) (locs : List Loc) (ls : Array Slot), lv_has ls 3 [(0, .ref h0), (1, .int o)] → va_P D vwCl (flat [WX10 cy h0 a0 s0, WX0 cy (a0 0) a1 s1]) H → va_D A (flat [WX10 cy h0 a0 s0, WX0 cy (a0 0) a1 s1]) → va_S A s.heap H locs → W p l e rmX10_fever s m args below meth c H locs 0 0 QQ (F0 m 47 ls [])), W p l e rmX10_fever s m args below meth c H locs 0 0 QQ (F0 m 4 ls []) := by
    intro n
    induction n with
    | zero => intro q4 o h; exact absurd h (by rw [loopO_zero]; intro z; cases z)
    | succ n ih =>
      intro q4 o h H locs ls hl hP hD hS kk47
      obtain ⟨w, h, hgo, hst⟩ := loopO_elim h
      unfold fX10_fever_L4 at h
      refine lv_iload_n hx hb dX10_fever_4 rfl (lv_at hl 2 rfl) ?_
      refine lv_aload_n hx hb dX10_fever_5 rfl (lv_at hl 0 rfl) ?_
      refine va_get (D := D) (ci := 10) (v := .ref (a0 0)) (C := RX10) (T := TX10) (N := 19) hx hb hts hinX10 hown hK hP 0 rfl rfl 0 (by decide) (hts (.fieldLink RX10 10 "KneeBench" "bench" "LKneeBench$Bench;") (List.mem_of_getElem? (i := 1) rfl)) (fun _ h9 => h9) rfl dX10_fever_6 ?_
      refine va_getN (D := D) (ci := 0) (v := .int (gi s1 9)) (C := RX0) (T := TX0) (N := 14) hx hb hts hinX0 hown hK hP 1 rfl rfl 9 (by decide) (NW.fld hN 17 rfl _) (fun _ h9 => h9) rfl dX10_fever_9 ?_
      refine lv_icmp_ge (tgt := 47) hx hb dX10_fever_12 (by decide) (fun c1 => ?_) (fun c1 => ?_)
      · replace h := (if_pos c1).symm.trans h
        have eo := hst _ (Option.some.inj h).symm
        subst eo
        exact kk47 H locs ls (lv_sub hl [0, 1] rfl) hP hD hS
      · replace h := (if_neg c1).symm.trans h
        refine lv_iload_n hx hb dX10_fever_15 rfl (lv_at hl 1 rfl) ?_
        refine lv_iconst (v := -1) hx hb dX10_fever_16 (by decide) ?_
        refine lv_icmp_eq (tgt := 39) hx hb dX10_fever_17 (by decide) (fun c2 => ?_) (fun c2 => ?_)
        · replace h := (if_pos c2).symm.trans h
          refine lv_iload_n hx hb dX10_fever_39 rfl (lv_at hl 2 rfl) ?_
          refine lv_istore_n (lv' := [(1, .int q4.2), (0, .ref h0), (2, .int q4.2)]) hx hb dX10_fever_40 rfl hl (by decide) rfl (fun ls hl => ?_)
          refine lv_iinc (v := (q4.2 + (1 : Int32))) (lv' := [(2, .int (q4.2 + (1 : Int32))), (1, .int q4.2), (0, .ref h0)]) hx hb dX10_fever_41 hl (k := 2) rfl rfl (by decide) rfl (fun ls hl => ?_)
          refine lv_goto (tgt := 4) hx hb dX10_fever_44 (by decide) ?_
          exact ih _ o (hgo _ (Option.some.inj h).symm) H locs ls (lv_sub hl [2, 1, 0] rfl) hP hD hS kk47
        · replace h := (if_neg c2).symm.trans h
          refine lv_aload_n hx hb dX10_fever_20 rfl (lv_at hl 0 rfl) ?_
          refine va_get (D := D) (ci := 10) (v := .ref (a0 0)) (C := RX10) (T := TX10) (N := 19) hx hb hts hinX10 hown hK hP 0 rfl rfl 0 (by decide) (hts (.fieldLink RX10 10 "KneeBench" "bench" "LKneeBench$Bench;") (List.mem_of_getElem? (i := 1) rfl)) (fun _ h9 => h9) rfl dX10_fever_21 ?_
          refine lv_iload_n hx hb dX10_fever_24 rfl (lv_at hl 2 rfl) ?_
          obtain ⟨r3, hr3, h⟩ := bd_elim h
          refine ca_i (w' := [WX10 cy h0 a0 s0, WX0 cy (a0 0) a1 s1]) (rn_V (As := [.int q4.2]) (rest := []) ⟨hx, hb, hml, hown, hts⟩ (kX0_twingesOn l D cy (a0 0) a1 s1 q4.2 r3 hr3 H.size) (cwV 1 hts gX10_fever_X0_twingesOn rfl rfl rfl (by decide +kernel) ⟨Nat.le_of_ble_eq_true rfl, Nat.le_of_ble_eq_true rfl⟩) hK hN hP hD [1] rfl rfl (ci := 0) (q0 := 1) rfl rfl rfl rfl hl.1 rfl (Nat.le_of_ble_eq_true rfl) dX10_fever_25 ⟨Nat.le_refl 0, Nat.le_refl 0⟩) hP hD hS hA [1] ⟨rfl, rfl, rfl, rfl⟩ (fun H locs hP hD hS => ?_)
          refine lv_aload_n hx hb dX10_fever_28 rfl (lv_at hl 0 rfl) ?_
          refine va_get (D := D) (ci := 10) (v := .ref (a0 0)) (C := RX10) (T := TX10) (N := 19) hx hb hts hinX10 hown hK hP 0 rfl rfl 0 (by decide) (hts (.fieldLink RX10 10 "KneeBench" "bench" "LKneeBench$Bench;") (List.mem_of_getElem? (i := 1) rfl)) (fun _ h9 => h9) rfl dX10_fever_29 ?_
          refine lv_iload_n hx hb dX10_fever_32 rfl (lv_at hl 1 rfl) ?_
          obtain ⟨r4, hr4, h⟩ := bd_elim h
          refine ca_i (w' := [WX10 cy h0 a0 s0, WX0 cy (a0 0) a1 s1]) (rn_V (As := [.int q4.1]) (rest := [.int r3]) ⟨hx, hb, hml, hown, hts⟩ (kX0_twingesOn l D cy (a0 0) a1 s1 q4.1 r4 hr4 H.size) (cwV 1 hts gX10_fever_X0_twingesOn rfl rfl rfl (by decide +kernel) ⟨Nat.le_of_ble_eq_true rfl, Nat.le_of_ble_eq_true rfl⟩) hK hN hP hD [1] rfl rfl (ci := 0) (q0 := 1) rfl rfl rfl rfl hl.1 rfl (Nat.le_of_ble_eq_true rfl) dX10_fever_33 ⟨Nat.le_refl 0, Nat.le_refl 0⟩) hP hD hS hA [1] ⟨rfl, rfl, rfl, rfl⟩ (fun H locs hP hD hS => ?_)
          refine lv_icmp_le (tgt := 41) hx hb dX10_fever_36 (by decide) (fun c5 => ?_) (fun c5 => ?_)
          · replace h := (if_pos c5).symm.trans h
            refine lv_iinc (v := (q4.2 + (1 : Int32))) (lv' := [(2, .int (q4.2 + (1 : Int32))), (0, .ref h0), (1, .int q4.1)]) hx hb dX10_fever_41 hl (k := 2) rfl rfl (by decide) rfl (fun ls hl => ?_)
            refine lv_goto (tgt := 4) hx hb dX10_fever_44 (by decide) ?_
            exact ih _ o (hgo _ (Option.some.inj h).symm) H locs ls (lv_sub hl [1, 2, 0] rfl) hP hD hS kk47
          · replace h := (if_neg c5).symm.trans h
            refine lv_iload_n hx hb dX10_fever_39 rfl (lv_at hl 2 rfl) ?_
            refine lv_istore_n (lv' := [(1, .int q4.2), (0, .ref h0), (2, .int q4.2)]) hx hb dX10_fever_40 rfl hl (by decide) rfl (fun ls hl => ?_)
            refine lv_iinc (v := (q4.2 + (1 : Int32))) (lv' := [(2, .int (q4.2 + (1 : Int32))), (1, .int q4.2), (0, .ref h0)]) hx hb dX10_fever_41 hl (k := 2) rfl rfl (by decide) rfl (fun ls hl => ?_)
            refine lv_goto (tgt := 4) hx hb dX10_fever_44 (by decide) ?_
            exact ih _ o (hgo _ (Option.some.inj h).symm) H locs ls (lv_sub hl [2, 1, 0] rfl) hP hD hS kk47
  obtain ⟨o4, ho4, h⟩ := bd_elim h
  obtain ⟨n4, hn4⟩ := loopF_some ho4
  refine L4 n4 _ o4 hn4 H locs ls (lv_sub hl [2, 1, 0] rfl) hP hD hS (fun H locs ls hl hP hD hS => ?_)
  refine lv_aload_n hx hb dX10_fever_47 rfl (lv_at hl 0 rfl) ?_
  refine lv_iload_n hx hb dX10_fever_48 rfl (lv_at hl 1 rfl) ?_
  obtain ⟨r6, hr6, h⟩ := lt_elim h
  refine ca_i (w' := [WX10 cy h0 a0 r6.2, WX0 cy (a0 0) a1 s1]) (rn_V (As := [.int o4]) (rest := []) ⟨hx, hb, hml, hown, hts⟩ (kX10_answerIfAny l D cy h0 a0 s0 o4 r6 hr6.symm H.size) (cwV 1 hts gX10_fever_X10_answerIfAny rfl rfl rfl (by decide +kernel) ⟨Nat.le_of_ble_eq_true rfl, Nat.le_of_ble_eq_true rfl⟩) hK hN hP hD [0] rfl rfl (ci := 10) (q0 := 0) rfl rfl rfl rfl hl.1 rfl (Nat.le_of_ble_eq_true rfl) dX10_fever_49 ⟨Nat.le_refl 0, Nat.le_refl 0⟩) hP hD hS hA [0] ⟨rfl, rfl, rfl, rfl⟩ (fun H locs hP hD hS => ?_)
  exact hret 52 H locs ls (r6.1, r6.2) (Option.some.inj h) hP hD hS dX10_fever_52
theorem gd_X10_fewest : wsX10_fewest.all goodWord = true := by decide +kernel
set_option maxRecDepth 20000 in
theorem ggX10_fewest_X10_outside : GoodIn wsX10_fewest wsX10_outside := goodIn_by gd_X10_fewest (List.forall_mem_cons.mpr ⟨List.mem_cons_of_mem _ (List.mem_append_left _ (List.mem_append_left _ (List.mem_append_left _ (List.mem_of_getElem? (i := 4) rfl)))), nowords_in⟩)
set_option maxRecDepth 20000 in
theorem gX10_fewest_X10_outside : GoodIn wsX10_fewest (va_wsS RX10 116 yX10_outside wsX10_outside) := goodIn_app (goodIn_by gd_X10_fewest (List.forall_mem_cons.mpr ⟨List.mem_cons_of_mem _ (List.mem_append_left _ (List.mem_append_left _ (List.mem_append_left _ (List.mem_of_getElem? (i := 1) rfl)))), List.forall_mem_cons.mpr ⟨List.mem_cons_of_mem _ (List.mem_append_left _ (List.mem_append_left _ (List.mem_append_left _ (List.mem_of_getElem? (i := 2) rfl)))), List.forall_mem_cons.mpr ⟨List.mem_cons_of_mem _ (List.mem_append_left _ (List.mem_append_left _ (List.mem_append_left _ (List.mem_of_getElem? (i := 3) rfl)))), nowords_in⟩⟩⟩)) ggX10_fewest_X10_outside
set_option maxRecDepth 20000 in
theorem ggX10_fewest_X10_refuse : GoodIn wsX10_fewest wsX10_refuse := goodIn_by gd_X10_fewest (List.forall_mem_cons.mpr ⟨List.mem_cons_of_mem _ (List.mem_append_left _ (List.mem_append_left _ (List.mem_append_left _ (List.mem_of_getElem? (i := 8) rfl)))), List.forall_mem_append.mpr ⟨List.forall_mem_cons.mpr ⟨List.mem_cons_of_mem _ (List.mem_append_left _ (List.mem_append_left _ (List.mem_append_left _ (List.mem_of_getElem? (i := 9) rfl)))), nowords_in⟩, (fun _ h => List.mem_cons_of_mem _ (List.mem_append_left _ (List.mem_append_right _ (h))))⟩⟩)
set_option maxRecDepth 20000 in
theorem gX10_fewest_X10_refuse : GoodIn wsX10_fewest (wsV RX10 139 RX10 yX10_refuse wsX10_refuse) := goodIn_app (goodIn_by gd_X10_fewest (List.forall_mem_cons.mpr ⟨List.mem_cons_of_mem _ (List.mem_append_left _ (List.mem_append_left _ (List.mem_append_left _ (List.mem_of_getElem? (i := 5) rfl)))), List.forall_mem_cons.mpr ⟨List.mem_cons_of_mem _ (List.mem_append_left _ (List.mem_append_left _ (List.mem_append_left _ (List.mem_of_getElem? (i := 6) rfl)))), List.forall_mem_cons.mpr ⟨List.mem_cons_of_mem _ (List.mem_append_left _ (List.mem_append_left _ (List.mem_append_left _ (List.mem_of_getElem? (i := 7) rfl)))), List.forall_mem_cons.mpr ⟨List.mem_cons_of_mem _ (List.mem_append_left _ (List.mem_append_left _ (List.mem_append_left _ (List.mem_of_getElem? (i := 3) rfl)))), nowords_in⟩⟩⟩⟩)) ggX10_fewest_X10_refuse
set_option maxRecDepth 20000 in
theorem ggX10_fewest_X0_fewestKnees : GoodIn wsX10_fewest wsX0_fewestKnees := goodIn_by gd_X10_fewest (List.forall_mem_cons.mpr ⟨List.mem_cons_of_mem _ (List.mem_append_left _ (List.mem_append_left _ (List.mem_append_left _ (List.mem_of_getElem? (i := 14) rfl)))), List.forall_mem_append.mpr ⟨List.forall_mem_append.mpr ⟨List.forall_mem_cons.mpr ⟨List.mem_cons_of_mem _ (List.mem_append_left _ (List.mem_append_left _ (List.mem_append_left _ (List.mem_of_getElem? (i := 15) rfl)))), List.forall_mem_cons.mpr ⟨List.mem_cons_of_mem _ (List.mem_append_left _ (List.mem_append_left _ (List.mem_append_left _ (List.mem_of_getElem? (i := 16) rfl)))), List.forall_mem_cons.mpr ⟨List.mem_cons_of_mem _ (List.mem_append_left _ (List.mem_append_left _ (List.mem_append_left _ (List.mem_of_getElem? (i := 17) rfl)))), List.forall_mem_cons.mpr ⟨List.mem_cons_of_mem _ (List.mem_append_left _ (List.mem_append_left _ (List.mem_append_left _ (List.mem_of_getElem? (i := 18) rfl)))), List.forall_mem_cons.mpr ⟨List.mem_cons_of_mem _ (List.mem_append_left _ (List.mem_append_left _ (List.mem_append_left _ (List.mem_of_getElem? (i := 19) rfl)))), List.forall_mem_cons.mpr ⟨List.mem_cons_of_mem _ (List.mem_append_left _ (List.mem_append_left _ (List.mem_append_left _ (List.mem_of_getElem? (i := 20) rfl)))), List.forall_mem_cons.mpr ⟨List.mem_cons_of_mem _ (List.mem_append_left _ (List.mem_append_left _ (List.mem_append_left _ (List.mem_of_getElem? (i := 21) rfl)))), List.forall_mem_cons.mpr ⟨List.mem_cons_of_mem _ (List.mem_append_left _ (List.mem_append_left _ (List.mem_append_left _ (List.mem_of_getElem? (i := 22) rfl)))), List.forall_mem_cons.mpr ⟨List.mem_cons_of_mem _ (List.mem_append_left _ (List.mem_append_left _ (List.mem_append_left _ (List.mem_of_getElem? (i := 23) rfl)))), List.forall_mem_cons.mpr ⟨List.mem_cons_of_mem _ (List.mem_append_left _ (List.mem_append_left _ (List.mem_append_right _ (List.mem_append_left _ (List.mem_of_getElem? (i := 0) rfl))))), List.forall_mem_cons.mpr ⟨List.mem_cons_of_mem _ (List.mem_append_left _ (List.mem_append_left _ (List.mem_append_right _ (List.mem_append_left _ (List.mem_of_getElem? (i := 1) rfl))))), List.forall_mem_cons.mpr ⟨List.mem_cons_of_mem _ (List.mem_append_left _ (List.mem_append_left _ (List.mem_append_left _ (List.mem_of_getElem? (i := 13) rfl)))), List.forall_mem_cons.mpr ⟨List.mem_cons_of_mem _ (List.mem_append_left _ (List.mem_append_left _ (List.mem_append_right _ (List.mem_append_left _ (List.mem_of_getElem? (i := 2) rfl))))), List.forall_mem_cons.mpr ⟨List.mem_cons_of_mem _ (List.mem_append_left _ (List.mem_append_left _ (List.mem_append_right _ (List.mem_append_left _ (List.mem_of_getElem? (i := 3) rfl))))), List.forall_mem_cons.mpr ⟨List.mem_cons_of_mem _ (List.mem_append_left _ (List.mem_append_left _ (List.mem_append_right _ (List.mem_append_left _ (List.mem_of_getElem? (i := 4) rfl))))), List.forall_mem_cons.mpr ⟨List.mem_cons_of_mem _ (List.mem_append_left _ (List.mem_append_left _ (List.mem_append_right _ (List.mem_append_left _ (List.mem_of_getElem? (i := 5) rfl))))), List.forall_mem_cons.mpr ⟨List.mem_cons_of_mem _ (List.mem_append_left _ (List.mem_append_left _ (List.mem_append_right _ (List.mem_append_left _ (List.mem_of_getElem? (i := 6) rfl))))), List.forall_mem_cons.mpr ⟨List.mem_cons_of_mem _ (List.mem_append_left _ (List.mem_append_left _ (List.mem_append_right _ (List.mem_append_left _ (List.mem_of_getElem? (i := 7) rfl))))), List.forall_mem_cons.mpr ⟨List.mem_cons_of_mem _ (List.mem_append_left _ (List.mem_append_left _ (List.mem_append_right _ (List.mem_append_left _ (List.mem_of_getElem? (i := 8) rfl))))), List.forall_mem_cons.mpr ⟨List.mem_cons_of_mem _ (List.mem_append_left _ (List.mem_append_left _ (List.mem_append_right _ (List.mem_append_left _ (List.mem_of_getElem? (i := 9) rfl))))), List.forall_mem_cons.mpr ⟨List.mem_cons_of_mem _ (List.mem_append_left _ (List.mem_append_left _ (List.mem_append_right _ (List.mem_append_left _ (List.mem_of_getElem? (i := 10) rfl))))), List.forall_mem_cons.mpr ⟨List.mem_cons_of_mem _ (List.mem_append_left _ (List.mem_append_left _ (List.mem_append_right _ (List.mem_append_left _ (List.mem_of_getElem? (i := 11) rfl))))), List.forall_mem_cons.mpr ⟨List.mem_cons_of_mem _ (List.mem_append_left _ (List.mem_append_left _ (List.mem_append_right _ (List.mem_append_left _ (List.mem_of_getElem? (i := 12) rfl))))), List.forall_mem_cons.mpr ⟨List.mem_cons_of_mem _ (List.mem_append_left _ (List.mem_append_left _ (List.mem_append_right _ (List.mem_append_left _ (List.mem_of_getElem? (i := 13) rfl))))), nowords_in⟩⟩⟩⟩⟩⟩⟩⟩⟩⟩⟩⟩⟩⟩⟩⟩⟩⟩⟩⟩⟩⟩⟩⟩, List.forall_mem_append.mpr ⟨List.forall_mem_cons.mpr ⟨List.mem_cons_of_mem _ (List.mem_append_left _ (List.mem_append_left _ (List.mem_append_right _ (List.mem_append_left _ (List.mem_of_getElem? (i := 14) rfl))))), List.forall_mem_cons.mpr ⟨List.mem_cons_of_mem _ (List.mem_append_left _ (List.mem_append_left _ (List.mem_append_right _ (List.mem_append_left _ (List.mem_of_getElem? (i := 15) rfl))))), List.forall_mem_cons.mpr ⟨List.mem_cons_of_mem _ (List.mem_append_left _ (List.mem_append_left _ (List.mem_append_right _ (List.mem_append_left _ (List.mem_of_getElem? (i := 16) rfl))))), List.forall_mem_cons.mpr ⟨List.mem_cons_of_mem _ (List.mem_append_left _ (List.mem_append_left _ (List.mem_append_right _ (List.mem_append_left _ (List.mem_of_getElem? (i := 17) rfl))))), List.forall_mem_cons.mpr ⟨List.mem_cons_of_mem _ (List.mem_append_left _ (List.mem_append_left _ (List.mem_append_right _ (List.mem_append_left _ (List.mem_of_getElem? (i := 18) rfl))))), List.forall_mem_cons.mpr ⟨List.mem_cons_of_mem _ (List.mem_append_left _ (List.mem_append_left _ (List.mem_append_right _ (List.mem_append_left _ (List.mem_of_getElem? (i := 19) rfl))))), List.forall_mem_cons.mpr ⟨List.mem_cons_of_mem _ (List.mem_append_left _ (List.mem_append_left _ (List.mem_append_right _ (List.mem_append_left _ (List.mem_of_getElem? (i := 20) rfl))))), List.forall_mem_cons.mpr ⟨List.mem_cons_of_mem _ (List.mem_append_left _ (List.mem_append_left _ (List.mem_append_right _ (List.mem_append_left _ (List.mem_of_getElem? (i := 21) rfl))))), List.forall_mem_cons.mpr ⟨List.mem_cons_of_mem _ (List.mem_append_left _ (List.mem_append_left _ (List.mem_append_right _ (List.mem_append_left _ (List.mem_of_getElem? (i := 22) rfl))))), List.forall_mem_cons.mpr ⟨List.mem_cons_of_mem _ (List.mem_append_left _ (List.mem_append_left _ (List.mem_append_right _ (List.mem_append_left _ (List.mem_of_getElem? (i := 23) rfl))))), List.forall_mem_cons.mpr ⟨List.mem_cons_of_mem _ (List.mem_append_left _ (List.mem_append_left _ (List.mem_append_right _ (List.mem_append_right _ (List.mem_of_getElem? (i := 0) rfl))))), List.forall_mem_cons.mpr ⟨List.mem_cons_of_mem _ (List.mem_append_left _ (List.mem_append_left _ (List.mem_append_right _ (List.mem_append_right _ (List.mem_of_getElem? (i := 1) rfl))))), List.forall_mem_cons.mpr ⟨List.mem_cons_of_mem _ (List.mem_append_left _ (List.mem_append_left _ (List.mem_append_left _ (List.mem_of_getElem? (i := 3) rfl)))), List.forall_mem_cons.mpr ⟨List.mem_cons_of_mem _ (List.mem_append_left _ (List.mem_append_left _ (List.mem_append_right _ (List.mem_append_right _ (List.mem_of_getElem? (i := 2) rfl))))), List.forall_mem_cons.mpr ⟨List.mem_cons_of_mem _ (List.mem_append_left _ (List.mem_append_left _ (List.mem_append_right _ (List.mem_append_right _ (List.mem_of_getElem? (i := 3) rfl))))), List.forall_mem_cons.mpr ⟨List.mem_cons_of_mem _ (List.mem_append_left _ (List.mem_append_left _ (List.mem_append_right _ (List.mem_append_right _ (List.mem_of_getElem? (i := 4) rfl))))), List.forall_mem_cons.mpr ⟨List.mem_cons_of_mem _ (List.mem_append_left _ (List.mem_append_left _ (List.mem_append_right _ (List.mem_append_right _ (List.mem_of_getElem? (i := 5) rfl))))), List.forall_mem_cons.mpr ⟨List.mem_cons_of_mem _ (List.mem_append_left _ (List.mem_append_left _ (List.mem_append_right _ (List.mem_append_right _ (List.mem_of_getElem? (i := 6) rfl))))), List.forall_mem_cons.mpr ⟨List.mem_cons_of_mem _ (List.mem_append_left _ (List.mem_append_left _ (List.mem_append_right _ (List.mem_append_right _ (List.mem_of_getElem? (i := 7) rfl))))), List.forall_mem_cons.mpr ⟨List.mem_cons_of_mem _ (List.mem_append_left _ (List.mem_append_left _ (List.mem_append_right _ (List.mem_append_right _ (List.mem_of_getElem? (i := 8) rfl))))), List.forall_mem_cons.mpr ⟨List.mem_cons_of_mem _ (List.mem_append_left _ (List.mem_append_left _ (List.mem_append_right _ (List.mem_append_right _ (List.mem_of_getElem? (i := 9) rfl))))), List.forall_mem_cons.mpr ⟨List.mem_cons_of_mem _ (List.mem_append_left _ (List.mem_append_left _ (List.mem_append_right _ (List.mem_append_right _ (List.mem_of_getElem? (i := 10) rfl))))), List.forall_mem_cons.mpr ⟨List.mem_cons_of_mem _ (List.mem_append_left _ (List.mem_append_left _ (List.mem_append_right _ (List.mem_append_right _ (List.mem_of_getElem? (i := 11) rfl))))), List.forall_mem_cons.mpr ⟨List.mem_cons_of_mem _ (List.mem_append_left _ (List.mem_append_left _ (List.mem_append_right _ (List.mem_append_right _ (List.mem_of_getElem? (i := 12) rfl))))), nowords_in⟩⟩⟩⟩⟩⟩⟩⟩⟩⟩⟩⟩⟩⟩⟩⟩⟩⟩⟩⟩⟩⟩⟩⟩, List.forall_mem_cons.mpr ⟨List.mem_cons_of_mem _ (List.mem_append_left _ (List.mem_append_left _ (List.mem_append_right _ (List.mem_append_right _ (List.mem_of_getElem? (i := 13) rfl))))), List.forall_mem_cons.mpr ⟨List.mem_cons_of_mem _ (List.mem_append_left _ (List.mem_append_left _ (List.mem_append_right _ (List.mem_append_right _ (List.mem_of_getElem? (i := 14) rfl))))), List.forall_mem_cons.mpr ⟨List.mem_cons_of_mem _ (List.mem_append_left _ (List.mem_append_left _ (List.mem_append_right _ (List.mem_append_right _ (List.mem_of_getElem? (i := 15) rfl))))), nowords_in⟩⟩⟩⟩⟩, (fun _ h => List.mem_cons_of_mem _ (List.mem_append_right _ (h)))⟩⟩)
set_option maxRecDepth 20000 in
theorem gX10_fewest_X0_fewestKnees : GoodIn wsX10_fewest (wsV RX10 357 RX0 yX0_fewestKnees wsX0_fewestKnees) := goodIn_app (goodIn_by gd_X10_fewest (List.forall_mem_cons.mpr ⟨List.mem_cons_of_mem _ (List.mem_append_left _ (List.mem_append_left _ (List.mem_append_left _ (List.mem_of_getElem? (i := 10) rfl)))), List.forall_mem_cons.mpr ⟨List.mem_cons_of_mem _ (List.mem_append_left _ (List.mem_append_left _ (List.mem_append_left _ (List.mem_of_getElem? (i := 11) rfl)))), List.forall_mem_cons.mpr ⟨List.mem_cons_of_mem _ (List.mem_append_left _ (List.mem_append_left _ (List.mem_append_left _ (List.mem_of_getElem? (i := 12) rfl)))), List.forall_mem_cons.mpr ⟨List.mem_cons_of_mem _ (List.mem_append_left _ (List.mem_append_left _ (List.mem_append_left _ (List.mem_of_getElem? (i := 13) rfl)))), nowords_in⟩⟩⟩⟩)) ggX10_fewest_X0_fewestKnees
set_option maxRecDepth 20000 in
theorem ggX10_fewest_X10_answerIfAny : GoodIn wsX10_fewest wsX10_answerIfAny := goodIn_by gd_X10_fewest (List.forall_mem_cons.mpr ⟨List.mem_cons_of_mem _ (List.mem_append_left _ (List.mem_append_left _ (List.mem_append_right _ (List.mem_append_right _ (List.mem_of_getElem? (i := 19) rfl))))), List.forall_mem_append.mpr ⟨List.forall_mem_cons.mpr ⟨List.mem_cons_of_mem _ (List.mem_append_left _ (List.mem_append_left _ (List.mem_append_left _ (List.mem_of_getElem? (i := 5) rfl)))), List.forall_mem_cons.mpr ⟨List.mem_cons_of_mem _ (List.mem_append_left _ (List.mem_append_left _ (List.mem_append_left _ (List.mem_of_getElem? (i := 6) rfl)))), List.forall_mem_cons.mpr ⟨List.mem_cons_of_mem _ (List.mem_append_left _ (List.mem_append_left _ (List.mem_append_left _ (List.mem_of_getElem? (i := 7) rfl)))), List.forall_mem_cons.mpr ⟨List.mem_cons_of_mem _ (List.mem_append_left _ (List.mem_append_left _ (List.mem_append_left _ (List.mem_of_getElem? (i := 3) rfl)))), List.forall_mem_cons.mpr ⟨List.mem_cons_of_mem _ (List.mem_append_left _ (List.mem_append_left _ (List.mem_append_left _ (List.mem_of_getElem? (i := 8) rfl)))), List.forall_mem_cons.mpr ⟨List.mem_cons_of_mem _ (List.mem_append_left _ (List.mem_append_left _ (List.mem_append_left _ (List.mem_of_getElem? (i := 9) rfl)))), List.forall_mem_cons.mpr ⟨List.mem_cons_of_mem _ (List.mem_append_left _ (List.mem_append_left _ (List.mem_append_right _ (List.mem_append_right _ (List.mem_of_getElem? (i := 20) rfl))))), List.forall_mem_cons.mpr ⟨List.mem_cons_of_mem _ (List.mem_append_left _ (List.mem_append_left _ (List.mem_append_right _ (List.mem_append_right _ (List.mem_of_getElem? (i := 21) rfl))))), List.forall_mem_cons.mpr ⟨List.mem_cons_of_mem _ (List.mem_append_left _ (List.mem_append_left _ (List.mem_append_right _ (List.mem_append_right _ (List.mem_of_getElem? (i := 22) rfl))))), List.forall_mem_cons.mpr ⟨List.mem_cons_of_mem _ (List.mem_append_left _ (List.mem_append_left _ (List.mem_append_right _ (List.mem_append_right _ (List.mem_of_getElem? (i := 23) rfl))))), nowords_in⟩⟩⟩⟩⟩⟩⟩⟩⟩⟩, (fun _ h => List.mem_cons_of_mem _ (List.mem_append_left _ (List.mem_append_right _ (h))))⟩⟩)
set_option maxRecDepth 20000 in
theorem gX10_fewest_X10_answerIfAny : GoodIn wsX10_fewest (wsV RX10 302 RX10 yX10_answerIfAny wsX10_answerIfAny) := goodIn_app (goodIn_by gd_X10_fewest (List.forall_mem_cons.mpr ⟨List.mem_cons_of_mem _ (List.mem_append_left _ (List.mem_append_left _ (List.mem_append_right _ (List.mem_append_right _ (List.mem_of_getElem? (i := 16) rfl))))), List.forall_mem_cons.mpr ⟨List.mem_cons_of_mem _ (List.mem_append_left _ (List.mem_append_left _ (List.mem_append_right _ (List.mem_append_right _ (List.mem_of_getElem? (i := 17) rfl))))), List.forall_mem_cons.mpr ⟨List.mem_cons_of_mem _ (List.mem_append_left _ (List.mem_append_left _ (List.mem_append_right _ (List.mem_append_right _ (List.mem_of_getElem? (i := 18) rfl))))), List.forall_mem_cons.mpr ⟨List.mem_cons_of_mem _ (List.mem_append_left _ (List.mem_append_left _ (List.mem_append_left _ (List.mem_of_getElem? (i := 3) rfl)))), nowords_in⟩⟩⟩⟩)) ggX10_fewest_X10_answerIfAny
theorem dX10_fewest_0 : decode cX10_fewest 0 = .ok (.iload_n 1, 1) := by decide +kernel
theorem dX10_fewest_1 : decode cX10_fewest 1 = .ok (.iconst 0, 1) := by decide +kernel
theorem dX10_fewest_2 : decode cX10_fewest 2 = .ok (.bipush 60, 2) := by decide +kernel
theorem dX10_fewest_4 : decode cX10_fewest 4 = .ok (.invokestatic 116, 3) := by decide +kernel
theorem dX10_fewest_7 : decode cX10_fewest 7 = .ok (.ifCond .eq 9, 3) := by decide +kernel
theorem dX10_fewest_10 : decode cX10_fewest 10 = .ok (.aload_n 0, 1) := by decide +kernel
theorem dX10_fewest_11 : decode cX10_fewest 11 = .ok (.iconst 1, 1) := by decide +kernel
theorem dX10_fewest_12 : decode cX10_fewest 12 = .ok (.invokevirtual 139, 3) := by decide +kernel
theorem dX10_fewest_15 : decode cX10_fewest 15 = .ok (.ireturn, 1) := by decide +kernel
theorem dX10_fewest_16 : decode cX10_fewest 16 = .ok (.aload_n 0, 1) := by decide +kernel
theorem dX10_fewest_17 : decode cX10_fewest 17 = .ok (.aload_n 0, 1) := by decide +kernel
theorem dX10_fewest_18 : decode cX10_fewest 18 = .ok (.getfield 10, 3) := by decide +kernel
theorem dX10_fewest_21 : decode cX10_fewest 21 = .ok (.iload_n 1, 1) := by decide +kernel
theorem dX10_fewest_22 : decode cX10_fewest 22 = .ok (.invokevirtual 357, 3) := by decide +kernel
theorem dX10_fewest_25 : decode cX10_fewest 25 = .ok (.invokevirtual 302, 3) := by decide +kernel
theorem dX10_fewest_28 : decode cX10_fewest 28 = .ok (.ireturn, 1) := by decide +kernel
abbrev rmX10_fewest : Room := { frames := 6, cells := 0, slots := 0, locals := 133 }
set_option maxHeartbeats 4000000 in
set_option maxRecDepth 100000 in
theorem kX10_fewest (l : Launch) (D : va_G) (cy : Nat → ClassId) (h0 : Nat) (a0 : Nat → Nat) (a1 : Nat → Nat) (s0 : Rc) (s1 : Rc) (p1 : Int32) (res : Int32 × Rc) (h : fX10_fewest p1 s0 s1 = some res) : CI l D cy yX10_fewest wsX10_fewest rmX10_fewest [.ref h0, .int p1] (flat [WX10 cy h0 a0 s0, WX0 cy (a0 0) a1 s1]) (flat [WX10 cy h0 a0 res.2, WX0 cy (a0 0) a1 s1]) res.1 := by
  refine CI.of (cc := cX10_fewest) (maxL := 2) (by decide) rfl (Nat.le_of_ble_eq_true rfl) ?_
  intro p e s m args below meth c A QQ ls E hr
  obtain ⟨hx, hb, hml, hown, hts, hK, hN, hP, hD, hA, hl⟩ := E
  have hret : ∀ (pc : Nat) (H : Heap) (locs : List Loc) (ls : Array Slot) (u : Int32 × Rc), u = res → va_P D vwCl (flat [WX10 cy h0 a0 u.2, WX0 cy (a0 0) a1 s1]) H → va_D A (flat [WX10 cy h0 a0 u.2, WX0 cy (a0 0) a1 s1]) → va_S A s.heap H locs → decode cX10_fewest pc = .ok (.ireturn, 1) → W p l e rmX10_fewest s m args below meth c H locs 0 0 QQ (F0 m pc ls [.int u.1]) := by
    intro pc H locs ls u hu hP hD hS hd; subst hu; exact hr pc H locs ls _ rfl hP hD hS hd
  clear hr
  have hl : lv_has ls 2 [(0, .ref h0), (1, .int p1)] := hl
  have hinX10 : ∀ w ∈ wsX100, w ∈ wsX10_fewest := fun _ h => List.mem_cons_of_mem _ (List.mem_append_left _ (List.mem_append_right _ h))
  unfold fX10_fewest at h
  suffices key : ∀ (H : Heap) (locs : List Loc), va_P D vwCl (flat [WX10 cy h0 a0 s0, WX0 cy (a0 0) a1 s1]) H → va_S A s.heap H locs → W p l e rmX10_fewest s m args below meth c H locs 0 0 QQ (F0 m 0 ls []) from key _ _ hP va_S.rf
  clear hP
  intro H locs hP hS
  refine lv_iload_n hx hb dX10_fewest_0 rfl (lv_at hl 1 rfl) ?_
  refine lv_iconst (v := 0) hx hb dX10_fewest_1 (by decide) ?_
  refine lv_bipush (v := 60) hx hb dX10_fewest_2 (by decide) ?_
  refine ca_z (w' := [WX10 cy h0 a0 s0, WX0 cy (a0 0) a1 s1]) (rn_S (As := [.int p1, .int (0 : Int32), .int (60 : Int32)]) (rest := []) ⟨hx, hb, hml, hown, hts⟩ (kX10_outside l D cy p1 (0 : Int32) (60 : Int32) _ rfl H.size) (va_cwS 3 hts gX10_fewest_X10_outside rfl rfl rfl (by decide +kernel) ⟨Nat.le_of_ble_eq_true rfl, Nat.le_of_ble_eq_true rfl⟩) hK hN hP hD [] rfl rfl rfl hl.1 rfl (Nat.le_of_ble_eq_true rfl) dX10_fewest_4 ⟨Nat.le_refl 0, Nat.le_refl 0⟩) hP hD hS hA [] ⟨rfl, rfl, rfl, rfl⟩ (fun b1 H locs hP hD hS => ?_)
  refine lv_if_eq (tgt := 16) hx hb dX10_fewest_7 (by decide) (fun c2 => ?_) (fun c2 => ?_)
  · replace h := (if_pos c2).symm.trans h
    refine lv_aload_n hx hb dX10_fewest_16 rfl (lv_at hl 0 rfl) ?_
    refine lv_aload_n hx hb dX10_fewest_17 rfl (lv_at hl 0 rfl) ?_
    refine va_get (D := D) (ci := 10) (v := .ref (a0 0)) (C := RX10) (T := TX10) (N := 19) hx hb hts hinX10 hown hK hP 0 rfl rfl 0 (by decide) (hts (.fieldLink RX10 10 "KneeBench" "bench" "LKneeBench$Bench;") (List.mem_of_getElem? (i := 1) rfl)) (fun _ h9 => h9) rfl dX10_fewest_18 ?_
    refine lv_iload_n hx hb dX10_fewest_21 rfl (lv_at hl 1 rfl) ?_
    obtain ⟨r3, hr3, h⟩ := bd_elim h
    refine ca_i (w' := [WX10 cy h0 a0 s0, WX0 cy (a0 0) a1 s1]) (rn_V (As := [.int p1]) (rest := [.ref h0]) ⟨hx, hb, hml, hown, hts⟩ (kX0_fewestKnees l D cy (a0 0) a1 s1 p1 r3 hr3 H.size) (cwV 1 hts gX10_fewest_X0_fewestKnees rfl rfl rfl (by decide +kernel) ⟨Nat.le_of_ble_eq_true rfl, Nat.le_of_ble_eq_true rfl⟩) hK hN hP hD [1] rfl rfl (ci := 0) (q0 := 1) rfl rfl rfl rfl hl.1 rfl (Nat.le_of_ble_eq_true rfl) dX10_fewest_22 ⟨Nat.le_refl 0, Nat.le_refl 0⟩) hP hD hS hA [1] ⟨rfl, rfl, rfl, rfl⟩ (fun H locs hP hD hS => ?_)
    obtain ⟨r4, hr4, h⟩ := lt_elim h
    refine ca_i (w' := [WX10 cy h0 a0 r4.2, WX0 cy (a0 0) a1 s1]) (rn_V (As := [.int r3]) (rest := []) ⟨hx, hb, hml, hown, hts⟩ (kX10_answerIfAny l D cy h0 a0 s0 r3 r4 hr4.symm H.size) (cwV 1 hts gX10_fewest_X10_answerIfAny rfl rfl rfl (by decide +kernel) ⟨Nat.le_of_ble_eq_true rfl, Nat.le_of_ble_eq_true rfl⟩) hK hN hP hD [0] rfl rfl (ci := 10) (q0 := 0) rfl rfl rfl rfl hl.1 rfl (Nat.le_of_ble_eq_true rfl) dX10_fewest_25 ⟨Nat.le_refl 0, Nat.le_refl 0⟩) hP hD hS hA [0] ⟨rfl, rfl, rfl, rfl⟩ (fun H locs hP hD hS => ?_)
    exact hret 28 H locs ls (r4.1, r4.2) (Option.some.inj h) hP hD hS dX10_fewest_28
  · replace h := (if_neg c2).symm.trans h
    refine lv_aload_n hx hb dX10_fewest_10 rfl (lv_at hl 0 rfl) ?_
    refine lv_iconst (v := 1) hx hb dX10_fewest_11 (by decide) ?_
    obtain ⟨r5, hr5, h⟩ := lt_elim h
    refine ca_i (w' := [WX10 cy h0 a0 r5.2, WX0 cy (a0 0) a1 s1]) (rn_V (As := [.int (1 : Int32)]) (rest := []) ⟨hx, hb, hml, hown, hts⟩ (kX10_refuse l D cy h0 a0 s0 (1 : Int32) r5 hr5.symm H.size) (cwV 1 hts gX10_fewest_X10_refuse rfl rfl rfl (by decide +kernel) ⟨Nat.le_of_ble_eq_true rfl, Nat.le_of_ble_eq_true rfl⟩) hK hN hP hD [0] rfl rfl (ci := 10) (q0 := 0) rfl rfl rfl rfl hl.1 rfl (Nat.le_of_ble_eq_true rfl) dX10_fewest_12 ⟨Nat.le_refl 0, Nat.le_refl 0⟩) hP hD hS hA [0] ⟨rfl, rfl, rfl, rfl⟩ (fun H locs hP hD hS => ?_)
    exact hret 15 H locs ls (r5.1, r5.2) (Option.some.inj h) hP hD hS dX10_fewest_15
theorem gd_X10_fits : wsX10_fits.all goodWord = true := by decide +kernel
set_option maxRecDepth 20000 in
theorem ggX10_fits_X10_noFarmer : GoodIn wsX10_fits wsX10_noFarmer := goodIn_by gd_X10_fits (List.forall_mem_cons.mpr ⟨List.mem_cons_of_mem _ (List.mem_append_left _ (List.mem_append_left _ (List.mem_append_left _ (List.mem_of_getElem? (i := 5) rfl)))), List.forall_mem_append.mpr ⟨List.forall_mem_append.mpr ⟨List.forall_mem_cons.mpr ⟨List.mem_cons_of_mem _ (List.mem_append_left _ (List.mem_append_left _ (List.mem_append_left _ (List.mem_of_getElem? (i := 0) rfl)))), List.forall_mem_cons.mpr ⟨List.mem_cons_of_mem _ (List.mem_append_left _ (List.mem_append_left _ (List.mem_append_left _ (List.mem_of_getElem? (i := 6) rfl)))), List.forall_mem_cons.mpr ⟨List.mem_cons_of_mem _ (List.mem_append_left _ (List.mem_append_left _ (List.mem_append_left _ (List.mem_of_getElem? (i := 7) rfl)))), List.forall_mem_cons.mpr ⟨List.mem_cons_of_mem _ (List.mem_append_left _ (List.mem_append_left _ (List.mem_append_left _ (List.mem_of_getElem? (i := 8) rfl)))), List.forall_mem_cons.mpr ⟨List.mem_cons_of_mem _ (List.mem_append_left _ (List.mem_append_left _ (List.mem_append_left _ (List.mem_of_getElem? (i := 9) rfl)))), List.forall_mem_cons.mpr ⟨List.mem_cons_of_mem _ (List.mem_append_left _ (List.mem_append_left _ (List.mem_append_left _ (List.mem_of_getElem? (i := 10) rfl)))), List.forall_mem_cons.mpr ⟨List.mem_cons_of_mem _ (List.mem_append_left _ (List.mem_append_left _ (List.mem_append_left _ (List.mem_of_getElem? (i := 11) rfl)))), nowords_in⟩⟩⟩⟩⟩⟩⟩, (fun _ h => List.mem_cons_of_mem _ (List.mem_append_left _ (List.mem_append_right _ (h))))⟩, (fun _ h => List.mem_cons_of_mem _ (List.mem_append_right _ (h)))⟩⟩)
set_option maxRecDepth 20000 in
theorem gX10_fits_X10_noFarmer : GoodIn wsX10_fits (wsV RX10 215 RX10 yX10_noFarmer wsX10_noFarmer) := goodIn_app (goodIn_by gd_X10_fits (List.forall_mem_cons.mpr ⟨List.mem_cons_of_mem _ (List.mem_append_left _ (List.mem_append_left _ (List.mem_append_left _ (List.mem_of_getElem? (i := 1) rfl)))), List.forall_mem_cons.mpr ⟨List.mem_cons_of_mem _ (List.mem_append_left _ (List.mem_append_left _ (List.mem_append_left _ (List.mem_of_getElem? (i := 2) rfl)))), List.forall_mem_cons.mpr ⟨List.mem_cons_of_mem _ (List.mem_append_left _ (List.mem_append_left _ (List.mem_append_left _ (List.mem_of_getElem? (i := 3) rfl)))), List.forall_mem_cons.mpr ⟨List.mem_cons_of_mem _ (List.mem_append_left _ (List.mem_append_left _ (List.mem_append_left _ (List.mem_of_getElem? (i := 4) rfl)))), nowords_in⟩⟩⟩⟩)) ggX10_fits_X10_noFarmer
set_option maxRecDepth 20000 in
theorem ggX10_fits_X10_outside : GoodIn wsX10_fits wsX10_outside := goodIn_by gd_X10_fits (List.forall_mem_cons.mpr ⟨List.mem_cons_of_mem _ (List.mem_append_left _ (List.mem_append_left _ (List.mem_append_left _ (List.mem_of_getElem? (i := 14) rfl)))), nowords_in⟩)
set_option maxRecDepth 20000 in
theorem gX10_fits_X10_outside : GoodIn wsX10_fits (va_wsS RX10 116 yX10_outside wsX10_outside) := goodIn_app (goodIn_by gd_X10_fits (List.forall_mem_cons.mpr ⟨List.mem_cons_of_mem _ (List.mem_append_left _ (List.mem_append_left _ (List.mem_append_left _ (List.mem_of_getElem? (i := 12) rfl)))), List.forall_mem_cons.mpr ⟨List.mem_cons_of_mem _ (List.mem_append_left _ (List.mem_append_left _ (List.mem_append_left _ (List.mem_of_getElem? (i := 13) rfl)))), List.forall_mem_cons.mpr ⟨List.mem_cons_of_mem _ (List.mem_append_left _ (List.mem_append_left _ (List.mem_append_left _ (List.mem_of_getElem? (i := 4) rfl)))), nowords_in⟩⟩⟩)) ggX10_fits_X10_outside
set_option maxRecDepth 20000 in
theorem ggX10_fits_X10_refuse : GoodIn wsX10_fits wsX10_refuse := goodIn_by gd_X10_fits (List.forall_mem_cons.mpr ⟨List.mem_cons_of_mem _ (List.mem_append_left _ (List.mem_append_left _ (List.mem_append_left _ (List.mem_of_getElem? (i := 18) rfl)))), List.forall_mem_append.mpr ⟨List.forall_mem_cons.mpr ⟨List.mem_cons_of_mem _ (List.mem_append_left _ (List.mem_append_left _ (List.mem_append_left _ (List.mem_of_getElem? (i := 19) rfl)))), nowords_in⟩, (fun _ h => List.mem_cons_of_mem _ (List.mem_append_left _ (List.mem_append_right _ (h))))⟩⟩)
set_option maxRecDepth 20000 in
theorem gX10_fits_X10_refuse : GoodIn wsX10_fits (wsV RX10 139 RX10 yX10_refuse wsX10_refuse) := goodIn_app (goodIn_by gd_X10_fits (List.forall_mem_cons.mpr ⟨List.mem_cons_of_mem _ (List.mem_append_left _ (List.mem_append_left _ (List.mem_append_left _ (List.mem_of_getElem? (i := 15) rfl)))), List.forall_mem_cons.mpr ⟨List.mem_cons_of_mem _ (List.mem_append_left _ (List.mem_append_left _ (List.mem_append_left _ (List.mem_of_getElem? (i := 16) rfl)))), List.forall_mem_cons.mpr ⟨List.mem_cons_of_mem _ (List.mem_append_left _ (List.mem_append_left _ (List.mem_append_left _ (List.mem_of_getElem? (i := 17) rfl)))), List.forall_mem_cons.mpr ⟨List.mem_cons_of_mem _ (List.mem_append_left _ (List.mem_append_left _ (List.mem_append_left _ (List.mem_of_getElem? (i := 4) rfl)))), nowords_in⟩⟩⟩⟩)) ggX10_fits_X10_refuse
set_option maxRecDepth 20000 in
theorem ggX10_fits_X0_fitsBy : GoodIn wsX10_fits wsX0_fitsBy := goodIn_by gd_X10_fits (List.forall_mem_cons.mpr ⟨List.mem_cons_of_mem _ (List.mem_append_left _ (List.mem_append_left _ (List.mem_append_left _ (List.mem_of_getElem? (i := 23) rfl)))), List.forall_mem_append.mpr ⟨List.forall_mem_append.mpr ⟨List.forall_mem_cons.mpr ⟨List.mem_cons_of_mem _ (List.mem_append_left _ (List.mem_append_left _ (List.mem_append_right _ (List.mem_append_left _ (List.mem_of_getElem? (i := 0) rfl))))), List.forall_mem_cons.mpr ⟨List.mem_cons_of_mem _ (List.mem_append_left _ (List.mem_append_left _ (List.mem_append_right _ (List.mem_append_left _ (List.mem_of_getElem? (i := 1) rfl))))), List.forall_mem_cons.mpr ⟨List.mem_cons_of_mem _ (List.mem_append_left _ (List.mem_append_left _ (List.mem_append_right _ (List.mem_append_left _ (List.mem_of_getElem? (i := 2) rfl))))), List.forall_mem_cons.mpr ⟨List.mem_cons_of_mem _ (List.mem_append_left _ (List.mem_append_left _ (List.mem_append_right _ (List.mem_append_left _ (List.mem_of_getElem? (i := 3) rfl))))), List.forall_mem_cons.mpr ⟨List.mem_cons_of_mem _ (List.mem_append_left _ (List.mem_append_left _ (List.mem_append_right _ (List.mem_append_left _ (List.mem_of_getElem? (i := 4) rfl))))), List.forall_mem_cons.mpr ⟨List.mem_cons_of_mem _ (List.mem_append_left _ (List.mem_append_left _ (List.mem_append_left _ (List.mem_of_getElem? (i := 9) rfl)))), List.forall_mem_cons.mpr ⟨List.mem_cons_of_mem _ (List.mem_append_left _ (List.mem_append_left _ (List.mem_append_right _ (List.mem_append_left _ (List.mem_of_getElem? (i := 5) rfl))))), List.forall_mem_cons.mpr ⟨List.mem_cons_of_mem _ (List.mem_append_left _ (List.mem_append_left _ (List.mem_append_right _ (List.mem_append_left _ (List.mem_of_getElem? (i := 6) rfl))))), List.forall_mem_cons.mpr ⟨List.mem_cons_of_mem _ (List.mem_append_left _ (List.mem_append_left _ (List.mem_append_right _ (List.mem_append_left _ (List.mem_of_getElem? (i := 7) rfl))))), List.forall_mem_cons.mpr ⟨List.mem_cons_of_mem _ (List.mem_append_left _ (List.mem_append_left _ (List.mem_append_left _ (List.mem_of_getElem? (i := 4) rfl)))), List.forall_mem_cons.mpr ⟨List.mem_cons_of_mem _ (List.mem_append_left _ (List.mem_append_left _ (List.mem_append_right _ (List.mem_append_left _ (List.mem_of_getElem? (i := 8) rfl))))), List.forall_mem_cons.mpr ⟨List.mem_cons_of_mem _ (List.mem_append_left _ (List.mem_append_left _ (List.mem_append_right _ (List.mem_append_left _ (List.mem_of_getElem? (i := 9) rfl))))), List.forall_mem_cons.mpr ⟨List.mem_cons_of_mem _ (List.mem_append_left _ (List.mem_append_left _ (List.mem_append_right _ (List.mem_append_left _ (List.mem_of_getElem? (i := 10) rfl))))), List.forall_mem_cons.mpr ⟨List.mem_cons_of_mem _ (List.mem_append_left _ (List.mem_append_left _ (List.mem_append_right _ (List.mem_append_left _ (List.mem_of_getElem? (i := 11) rfl))))), List.forall_mem_cons.mpr ⟨List.mem_cons_of_mem _ (List.mem_append_left _ (List.mem_append_left _ (List.mem_append_right _ (List.mem_append_left _ (List.mem_of_getElem? (i := 12) rfl))))), List.forall_mem_cons.mpr ⟨List.mem_cons_of_mem _ (List.mem_append_left _ (List.mem_append_left _ (List.mem_append_right _ (List.mem_append_left _ (List.mem_of_getElem? (i := 13) rfl))))), List.forall_mem_cons.mpr ⟨List.mem_cons_of_mem _ (List.mem_append_left _ (List.mem_append_left _ (List.mem_append_right _ (List.mem_append_left _ (List.mem_of_getElem? (i := 14) rfl))))), List.forall_mem_cons.mpr ⟨List.mem_cons_of_mem _ (List.mem_append_left _ (List.mem_append_left _ (List.mem_append_right _ (List.mem_append_left _ (List.mem_of_getElem? (i := 15) rfl))))), List.forall_mem_cons.mpr ⟨List.mem_cons_of_mem _ (List.mem_append_left _ (List.mem_append_left _ (List.mem_append_right _ (List.mem_append_left _ (List.mem_of_getElem? (i := 16) rfl))))), List.forall_mem_cons.mpr ⟨List.mem_cons_of_mem _ (List.mem_append_left _ (List.mem_append_left _ (List.mem_append_right _ (List.mem_append_left _ (List.mem_of_getElem? (i := 17) rfl))))), List.forall_mem_cons.mpr ⟨List.mem_cons_of_mem _ (List.mem_append_left _ (List.mem_append_left _ (List.mem_append_right _ (List.mem_append_left _ (List.mem_of_getElem? (i := 18) rfl))))), List.forall_mem_cons.mpr ⟨List.mem_cons_of_mem _ (List.mem_append_left _ (List.mem_append_left _ (List.mem_append_right _ (List.mem_append_left _ (List.mem_of_getElem? (i := 19) rfl))))), List.forall_mem_cons.mpr ⟨List.mem_cons_of_mem _ (List.mem_append_left _ (List.mem_append_left _ (List.mem_append_right _ (List.mem_append_left _ (List.mem_of_getElem? (i := 20) rfl))))), List.forall_mem_cons.mpr ⟨List.mem_cons_of_mem _ (List.mem_append_left _ (List.mem_append_left _ (List.mem_append_right _ (List.mem_append_left _ (List.mem_of_getElem? (i := 21) rfl))))), nowords_in⟩⟩⟩⟩⟩⟩⟩⟩⟩⟩⟩⟩⟩⟩⟩⟩⟩⟩⟩⟩⟩⟩⟩⟩, List.forall_mem_cons.mpr ⟨List.mem_cons_of_mem _ (List.mem_append_left _ (List.mem_append_left _ (List.mem_append_right _ (List.mem_append_left _ (List.mem_of_getElem? (i := 22) rfl))))), List.forall_mem_cons.mpr ⟨List.mem_cons_of_mem _ (List.mem_append_left _ (List.mem_append_left _ (List.mem_append_right _ (List.mem_append_left _ (List.mem_of_getElem? (i := 23) rfl))))), List.forall_mem_cons.mpr ⟨List.mem_cons_of_mem _ (List.mem_append_left _ (List.mem_append_left _ (List.mem_append_right _ (List.mem_append_right _ (List.mem_of_getElem? (i := 0) rfl))))), List.forall_mem_cons.mpr ⟨List.mem_cons_of_mem _ (List.mem_append_left _ (List.mem_append_left _ (List.mem_append_right _ (List.mem_append_right _ (List.mem_of_getElem? (i := 1) rfl))))), List.forall_mem_cons.mpr ⟨List.mem_cons_of_mem _ (List.mem_append_left _ (List.mem_append_left _ (List.mem_append_right _ (List.mem_append_right _ (List.mem_of_getElem? (i := 2) rfl))))), List.forall_mem_cons.mpr ⟨List.mem_cons_of_mem _ (List.mem_append_left _ (List.mem_append_left _ (List.mem_append_right _ (List.mem_append_right _ (List.mem_of_getElem? (i := 3) rfl))))), List.forall_mem_cons.mpr ⟨List.mem_cons_of_mem _ (List.mem_append_left _ (List.mem_append_left _ (List.mem_append_right _ (List.mem_append_right _ (List.mem_of_getElem? (i := 4) rfl))))), nowords_in⟩⟩⟩⟩⟩⟩⟩⟩, (fun _ h => List.mem_cons_of_mem _ (List.mem_append_right _ (h)))⟩⟩)
set_option maxRecDepth 20000 in
theorem gX10_fits_X0_fitsBy : GoodIn wsX10_fits (wsV RX10 360 RX0 yX0_fitsBy wsX0_fitsBy) := goodIn_app (goodIn_by gd_X10_fits (List.forall_mem_cons.mpr ⟨List.mem_cons_of_mem _ (List.mem_append_left _ (List.mem_append_left _ (List.mem_append_left _ (List.mem_of_getElem? (i := 20) rfl)))), List.forall_mem_cons.mpr ⟨List.mem_cons_of_mem _ (List.mem_append_left _ (List.mem_append_left _ (List.mem_append_left _ (List.mem_of_getElem? (i := 21) rfl)))), List.forall_mem_cons.mpr ⟨List.mem_cons_of_mem _ (List.mem_append_left _ (List.mem_append_left _ (List.mem_append_left _ (List.mem_of_getElem? (i := 22) rfl)))), List.forall_mem_cons.mpr ⟨List.mem_cons_of_mem _ (List.mem_append_left _ (List.mem_append_left _ (List.mem_append_left _ (List.mem_of_getElem? (i := 9) rfl)))), nowords_in⟩⟩⟩⟩)) ggX10_fits_X0_fitsBy
set_option maxRecDepth 20000 in
theorem ggX10_fits_X10_answer : GoodIn wsX10_fits wsX10_answer := goodIn_by gd_X10_fits (List.forall_mem_cons.mpr ⟨List.mem_cons_of_mem _ (List.mem_append_left _ (List.mem_append_left _ (List.mem_append_right _ (List.mem_append_right _ (List.mem_of_getElem? (i := 8) rfl))))), List.forall_mem_append.mpr ⟨List.forall_mem_cons.mpr ⟨List.mem_cons_of_mem _ (List.mem_append_left _ (List.mem_append_left _ (List.mem_append_left _ (List.mem_of_getElem? (i := 19) rfl)))), nowords_in⟩, (fun _ h => List.mem_cons_of_mem _ (List.mem_append_left _ (List.mem_append_right _ (h))))⟩⟩)
set_option maxRecDepth 20000 in
theorem gX10_fits_X10_answer : GoodIn wsX10_fits (wsV RX10 181 RX10 yX10_answer wsX10_answer) := goodIn_app (goodIn_by gd_X10_fits (List.forall_mem_cons.mpr ⟨List.mem_cons_of_mem _ (List.mem_append_left _ (List.mem_append_left _ (List.mem_append_right _ (List.mem_append_right _ (List.mem_of_getElem? (i := 5) rfl))))), List.forall_mem_cons.mpr ⟨List.mem_cons_of_mem _ (List.mem_append_left _ (List.mem_append_left _ (List.mem_append_right _ (List.mem_append_right _ (List.mem_of_getElem? (i := 6) rfl))))), List.forall_mem_cons.mpr ⟨List.mem_cons_of_mem _ (List.mem_append_left _ (List.mem_append_left _ (List.mem_append_right _ (List.mem_append_right _ (List.mem_of_getElem? (i := 7) rfl))))), List.forall_mem_cons.mpr ⟨List.mem_cons_of_mem _ (List.mem_append_left _ (List.mem_append_left _ (List.mem_append_left _ (List.mem_of_getElem? (i := 4) rfl)))), nowords_in⟩⟩⟩⟩)) ggX10_fits_X10_answer
theorem dX10_fits_0 : decode cX10_fits 0 = .ok (.aload_n 0, 1) := by decide +kernel
theorem dX10_fits_1 : decode cX10_fits 1 = .ok (.iload_n 1, 1) := by decide +kernel
theorem dX10_fits_2 : decode cX10_fits 2 = .ok (.invokevirtual 215, 3) := by decide +kernel
theorem dX10_fits_5 : decode cX10_fits 5 = .ok (.ifCond .ne 13, 3) := by decide +kernel
theorem dX10_fits_8 : decode cX10_fits 8 = .ok (.iload_n 2, 1) := by decide +kernel
theorem dX10_fits_9 : decode cX10_fits 9 = .ok (.bipush (-3), 2) := by decide +kernel
theorem dX10_fits_11 : decode cX10_fits 11 = .ok (.iconst 3, 1) := by decide +kernel
theorem dX10_fits_12 : decode cX10_fits 12 = .ok (.invokestatic 116, 3) := by decide +kernel
theorem dX10_fits_15 : decode cX10_fits 15 = .ok (.ifCond .eq 9, 3) := by decide +kernel
theorem dX10_fits_18 : decode cX10_fits 18 = .ok (.aload_n 0, 1) := by decide +kernel
theorem dX10_fits_19 : decode cX10_fits 19 = .ok (.iconst 1, 1) := by decide +kernel
theorem dX10_fits_20 : decode cX10_fits 20 = .ok (.invokevirtual 139, 3) := by decide +kernel
theorem dX10_fits_23 : decode cX10_fits 23 = .ok (.ireturn, 1) := by decide +kernel
theorem dX10_fits_24 : decode cX10_fits 24 = .ok (.aload_n 0, 1) := by decide +kernel
theorem dX10_fits_25 : decode cX10_fits 25 = .ok (.aload_n 0, 1) := by decide +kernel
theorem dX10_fits_26 : decode cX10_fits 26 = .ok (.getfield 10, 3) := by decide +kernel
theorem dX10_fits_29 : decode cX10_fits 29 = .ok (.iload_n 1, 1) := by decide +kernel
theorem dX10_fits_30 : decode cX10_fits 30 = .ok (.iload_n 2, 1) := by decide +kernel
theorem dX10_fits_31 : decode cX10_fits 31 = .ok (.invokevirtual 360, 3) := by decide +kernel
theorem dX10_fits_34 : decode cX10_fits 34 = .ok (.invokevirtual 181, 3) := by decide +kernel
theorem dX10_fits_37 : decode cX10_fits 37 = .ok (.ireturn, 1) := by decide +kernel
abbrev rmX10_fits : Room := { frames := 3, cells := 0, slots := 0, locals := 66 }
set_option maxHeartbeats 4000000 in
set_option maxRecDepth 100000 in
theorem kX10_fits (l : Launch) (D : va_G) (cy : Nat → ClassId) (h0 : Nat) (a0 : Nat → Nat) (a1 : Nat → Nat) (s0 : Rc) (s1 : Rc) (p1 : Int32) (p2 : Int32) (res : Int32 × Rc) (h : fX10_fits p1 p2 s0 s1 = some res) : CI l D cy yX10_fits wsX10_fits rmX10_fits [.ref h0, .int p1, .int p2] (flat [WX10 cy h0 a0 s0, WX0 cy (a0 0) a1 s1]) (flat [WX10 cy h0 a0 res.2, WX0 cy (a0 0) a1 s1]) res.1 := by
  refine CI.of (cc := cX10_fits) (maxL := 3) (by decide) rfl (Nat.le_of_ble_eq_true rfl) ?_
  intro p e s m args below meth c A QQ ls E hr
  obtain ⟨hx, hb, hml, hown, hts, hK, hN, hP, hD, hA, hl⟩ := E
  have hret : ∀ (pc : Nat) (H : Heap) (locs : List Loc) (ls : Array Slot) (u : Int32 × Rc), u = res → va_P D vwCl (flat [WX10 cy h0 a0 u.2, WX0 cy (a0 0) a1 s1]) H → va_D A (flat [WX10 cy h0 a0 u.2, WX0 cy (a0 0) a1 s1]) → va_S A s.heap H locs → decode cX10_fits pc = .ok (.ireturn, 1) → W p l e rmX10_fits s m args below meth c H locs 0 0 QQ (F0 m pc ls [.int u.1]) := by
    intro pc H locs ls u hu hP hD hS hd; subst hu; exact hr pc H locs ls _ rfl hP hD hS hd
  clear hr
  have hl : lv_has ls 3 [(0, .ref h0), (1, .int p1), (2, .int p2)] := hl
  have hinX10 : ∀ w ∈ wsX100, w ∈ wsX10_fits := fun _ h => List.mem_cons_of_mem _ (List.mem_append_left _ (List.mem_append_right _ h))
  unfold fX10_fits at h
  suffices key : ∀ (H : Heap) (locs : List Loc), va_P D vwCl (flat [WX10 cy h0 a0 s0, WX0 cy (a0 0) a1 s1]) H → va_S A s.heap H locs → W p l e rmX10_fits s m args below meth c H locs 0 0 QQ (F0 m 0 ls []) from key _ _ hP va_S.rf
  clear hP
  intro H locs hP hS
  refine lv_aload_n hx hb dX10_fits_0 rfl (lv_at hl 0 rfl) ?_
  refine lv_iload_n hx hb dX10_fits_1 rfl (lv_at hl 1 rfl) ?_
  refine ca_z (w' := [WX10 cy h0 a0 s0, WX0 cy (a0 0) a1 s1]) (rn_V (As := [.int p1]) (rest := []) ⟨hx, hb, hml, hown, hts⟩ (kX10_noFarmer l D cy h0 a0 a1 s0 s1 p1 _ rfl H.size) (cwV 1 hts gX10_fits_X10_noFarmer rfl rfl rfl (by decide +kernel) ⟨Nat.le_of_ble_eq_true rfl, Nat.le_of_ble_eq_true rfl⟩) hK hN hP hD [0, 1] rfl rfl (ci := 10) (q0 := 0) rfl rfl rfl rfl hl.1 rfl (Nat.le_of_ble_eq_true rfl) dX10_fits_2 ⟨Nat.le_refl 0, Nat.le_refl 0⟩) hP hD hS hA [0, 1] ⟨rfl, rfl, rfl, rfl⟩ (fun b1 H locs hP hD hS => ?_)
  refine lv_if_ne (tgt := 18) hx hb dX10_fits_5 (by decide) (fun c2 => ?_) (fun c2 => ?_)
  · replace h := (if_neg c2).symm.trans h
    refine lv_aload_n hx hb dX10_fits_18 rfl (lv_at hl 0 rfl) ?_
    refine lv_iconst (v := 1) hx hb dX10_fits_19 (by decide) ?_
    obtain ⟨r3, hr3, h⟩ := lt_elim h
    refine ca_i (w' := [WX10 cy h0 a0 r3.2, WX0 cy (a0 0) a1 s1]) (rn_V (As := [.int (1 : Int32)]) (rest := []) ⟨hx, hb, hml, hown, hts⟩ (kX10_refuse l D cy h0 a0 s0 (1 : Int32) r3 hr3.symm H.size) (cwV 1 hts gX10_fits_X10_refuse rfl rfl rfl (by decide +kernel) ⟨Nat.le_of_ble_eq_true rfl, Nat.le_of_ble_eq_true rfl⟩) hK hN hP hD [0] rfl rfl (ci := 10) (q0 := 0) rfl rfl rfl rfl hl.1 rfl (Nat.le_of_ble_eq_true rfl) dX10_fits_20 ⟨Nat.le_refl 0, Nat.le_refl 0⟩) hP hD hS hA [0] ⟨rfl, rfl, rfl, rfl⟩ (fun H locs hP hD hS => ?_)
    exact hret 23 H locs ls (r3.1, r3.2) (Option.some.inj h) hP hD hS dX10_fits_23
  · replace h := (if_pos c2).symm.trans h
    refine lv_iload_n hx hb dX10_fits_8 rfl (lv_at hl 2 rfl) ?_
    refine lv_bipush (v := -3) hx hb dX10_fits_9 (by decide) ?_
    refine lv_iconst (v := 3) hx hb dX10_fits_11 (by decide) ?_
    refine ca_z (w' := [WX10 cy h0 a0 s0, WX0 cy (a0 0) a1 s1]) (rn_S (As := [.int p2, .int (-3 : Int32), .int (3 : Int32)]) (rest := []) ⟨hx, hb, hml, hown, hts⟩ (kX10_outside l D cy p2 (-3 : Int32) (3 : Int32) _ rfl H.size) (va_cwS 3 hts gX10_fits_X10_outside rfl rfl rfl (by decide +kernel) ⟨Nat.le_of_ble_eq_true rfl, Nat.le_of_ble_eq_true rfl⟩) hK hN hP hD [] rfl rfl rfl hl.1 rfl (Nat.le_of_ble_eq_true rfl) dX10_fits_12 ⟨Nat.le_refl 0, Nat.le_refl 0⟩) hP hD hS hA [] ⟨rfl, rfl, rfl, rfl⟩ (fun b4 H locs hP hD hS => ?_)
    refine lv_if_eq (tgt := 24) hx hb dX10_fits_15 (by decide) (fun c5 => ?_) (fun c5 => ?_)
    · replace h := (if_pos c5).symm.trans h
      refine lv_aload_n hx hb dX10_fits_24 rfl (lv_at hl 0 rfl) ?_
      refine lv_aload_n hx hb dX10_fits_25 rfl (lv_at hl 0 rfl) ?_
      refine va_get (D := D) (ci := 10) (v := .ref (a0 0)) (C := RX10) (T := TX10) (N := 19) hx hb hts hinX10 hown hK hP 0 rfl rfl 0 (by decide) (hts (.fieldLink RX10 10 "KneeBench" "bench" "LKneeBench$Bench;") (List.mem_of_getElem? (i := 1) rfl)) (fun _ h9 => h9) rfl dX10_fits_26 ?_
      refine lv_iload_n hx hb dX10_fits_29 rfl (lv_at hl 1 rfl) ?_
      refine lv_iload_n hx hb dX10_fits_30 rfl (lv_at hl 2 rfl) ?_
      obtain ⟨r6, hr6, h⟩ := bd_elim h
      refine ca_i (w' := [WX10 cy h0 a0 s0, WX0 cy (a0 0) a1 s1]) (rn_V (As := [.int p1, .int p2]) (rest := [.ref h0]) ⟨hx, hb, hml, hown, hts⟩ (kX0_fitsBy l D cy (a0 0) a1 s1 p1 p2 r6 hr6 H.size) (cwV 2 hts gX10_fits_X0_fitsBy rfl rfl rfl (by decide +kernel) ⟨Nat.le_of_ble_eq_true rfl, Nat.le_of_ble_eq_true rfl⟩) hK hN hP hD [1] rfl rfl (ci := 0) (q0 := 1) rfl rfl rfl rfl hl.1 rfl (Nat.le_of_ble_eq_true rfl) dX10_fits_31 ⟨Nat.le_refl 0, Nat.le_refl 0⟩) hP hD hS hA [1] ⟨rfl, rfl, rfl, rfl⟩ (fun H locs hP hD hS => ?_)
      obtain ⟨r7, hr7, h⟩ := lt_elim h
      refine ca_i (w' := [WX10 cy h0 a0 r7.2, WX0 cy (a0 0) a1 s1]) (rn_V (As := [.int r6]) (rest := []) ⟨hx, hb, hml, hown, hts⟩ (kX10_answer l D cy h0 a0 s0 r6 r7 hr7.symm H.size) (cwV 1 hts gX10_fits_X10_answer rfl rfl rfl (by decide +kernel) ⟨Nat.le_of_ble_eq_true rfl, Nat.le_of_ble_eq_true rfl⟩) hK hN hP hD [0] rfl rfl (ci := 10) (q0 := 0) rfl rfl rfl rfl hl.1 rfl (Nat.le_of_ble_eq_true rfl) dX10_fits_34 ⟨Nat.le_refl 0, Nat.le_refl 0⟩) hP hD hS hA [0] ⟨rfl, rfl, rfl, rfl⟩ (fun H locs hP hD hS => ?_)
      exact hret 37 H locs ls (r7.1, r7.2) (Option.some.inj h) hP hD hS dX10_fits_37
    · replace h := (if_neg c5).symm.trans h
      refine lv_aload_n hx hb dX10_fits_18 rfl (lv_at hl 0 rfl) ?_
      refine lv_iconst (v := 1) hx hb dX10_fits_19 (by decide) ?_
      obtain ⟨r8, hr8, h⟩ := lt_elim h
      refine ca_i (w' := [WX10 cy h0 a0 r8.2, WX0 cy (a0 0) a1 s1]) (rn_V (As := [.int (1 : Int32)]) (rest := []) ⟨hx, hb, hml, hown, hts⟩ (kX10_refuse l D cy h0 a0 s0 (1 : Int32) r8 hr8.symm H.size) (cwV 1 hts gX10_fits_X10_refuse rfl rfl rfl (by decide +kernel) ⟨Nat.le_of_ble_eq_true rfl, Nat.le_of_ble_eq_true rfl⟩) hK hN hP hD [0] rfl rfl (ci := 10) (q0 := 0) rfl rfl rfl rfl hl.1 rfl (Nat.le_of_ble_eq_true rfl) dX10_fits_20 ⟨Nat.le_refl 0, Nat.le_refl 0⟩) hP hD hS hA [0] ⟨rfl, rfl, rfl, rfl⟩ (fun H locs hP hD hS => ?_)
      exact hret 23 H locs ls (r8.1, r8.2) (Option.some.inj h) hP hD hS dX10_fits_23
theorem gd_X10_flips : wsX10_flips.all goodWord = true := by decide +kernel
set_option maxRecDepth 20000 in
theorem ggX10_flips_X10_noToldDay : GoodIn wsX10_flips wsX10_noToldDay := goodIn_by gd_X10_flips (List.forall_mem_cons.mpr ⟨List.mem_cons_of_mem _ (List.mem_append_left _ (List.mem_append_left _ (List.mem_append_left _ (List.mem_of_getElem? (i := 4) rfl)))), List.forall_mem_cons.mpr ⟨List.mem_cons_of_mem _ (List.mem_append_left _ (List.mem_append_left _ (List.mem_append_left _ (List.mem_of_getElem? (i := 5) rfl)))), List.forall_mem_cons.mpr ⟨List.mem_cons_of_mem _ (List.mem_append_left _ (List.mem_append_left _ (List.mem_append_left _ (List.mem_of_getElem? (i := 6) rfl)))), List.forall_mem_cons.mpr ⟨List.mem_cons_of_mem _ (List.mem_append_left _ (List.mem_append_left _ (List.mem_append_left _ (List.mem_of_getElem? (i := 3) rfl)))), List.forall_mem_cons.mpr ⟨List.mem_cons_of_mem _ (List.mem_append_left _ (List.mem_append_left _ (List.mem_append_left _ (List.mem_of_getElem? (i := 7) rfl)))), nowords_in⟩⟩⟩⟩⟩)
set_option maxRecDepth 20000 in
theorem gX10_flips_X10_noToldDay : GoodIn wsX10_flips (va_wsS RX10 287 yX10_noToldDay wsX10_noToldDay) := goodIn_app (goodIn_by gd_X10_flips (List.forall_mem_cons.mpr ⟨List.mem_cons_of_mem _ (List.mem_append_left _ (List.mem_append_left _ (List.mem_append_left _ (List.mem_of_getElem? (i := 1) rfl)))), List.forall_mem_cons.mpr ⟨List.mem_cons_of_mem _ (List.mem_append_left _ (List.mem_append_left _ (List.mem_append_left _ (List.mem_of_getElem? (i := 2) rfl)))), List.forall_mem_cons.mpr ⟨List.mem_cons_of_mem _ (List.mem_append_left _ (List.mem_append_left _ (List.mem_append_left _ (List.mem_of_getElem? (i := 3) rfl)))), nowords_in⟩⟩⟩)) ggX10_flips_X10_noToldDay
set_option maxRecDepth 20000 in
theorem ggX10_flips_X10_refuse : GoodIn wsX10_flips wsX10_refuse := goodIn_by gd_X10_flips (List.forall_mem_cons.mpr ⟨List.mem_cons_of_mem _ (List.mem_append_left _ (List.mem_append_left _ (List.mem_append_left _ (List.mem_of_getElem? (i := 11) rfl)))), List.forall_mem_append.mpr ⟨List.forall_mem_cons.mpr ⟨List.mem_cons_of_mem _ (List.mem_append_left _ (List.mem_append_left _ (List.mem_append_left _ (List.mem_of_getElem? (i := 12) rfl)))), nowords_in⟩, (fun _ h => List.mem_cons_of_mem _ (List.mem_append_left _ (List.mem_append_right _ (h))))⟩⟩)
set_option maxRecDepth 20000 in
theorem gX10_flips_X10_refuse : GoodIn wsX10_flips (wsV RX10 139 RX10 yX10_refuse wsX10_refuse) := goodIn_app (goodIn_by gd_X10_flips (List.forall_mem_cons.mpr ⟨List.mem_cons_of_mem _ (List.mem_append_left _ (List.mem_append_left _ (List.mem_append_left _ (List.mem_of_getElem? (i := 8) rfl)))), List.forall_mem_cons.mpr ⟨List.mem_cons_of_mem _ (List.mem_append_left _ (List.mem_append_left _ (List.mem_append_left _ (List.mem_of_getElem? (i := 9) rfl)))), List.forall_mem_cons.mpr ⟨List.mem_cons_of_mem _ (List.mem_append_left _ (List.mem_append_left _ (List.mem_append_left _ (List.mem_of_getElem? (i := 10) rfl)))), List.forall_mem_cons.mpr ⟨List.mem_cons_of_mem _ (List.mem_append_left _ (List.mem_append_left _ (List.mem_append_left _ (List.mem_of_getElem? (i := 3) rfl)))), nowords_in⟩⟩⟩⟩)) ggX10_flips_X10_refuse
set_option maxRecDepth 20000 in
theorem ggX10_flips_X0_fewestTurned : GoodIn wsX10_flips wsX0_fewestTurned := goodIn_by gd_X10_flips (List.forall_mem_cons.mpr ⟨List.mem_cons_of_mem _ (List.mem_append_left _ (List.mem_append_left _ (List.mem_append_left _ (List.mem_of_getElem? (i := 17) rfl)))), List.forall_mem_append.mpr ⟨List.forall_mem_append.mpr ⟨List.forall_mem_cons.mpr ⟨List.mem_cons_of_mem _ (List.mem_append_left _ (List.mem_append_left _ (List.mem_append_left _ (List.mem_of_getElem? (i := 18) rfl)))), List.forall_mem_cons.mpr ⟨List.mem_cons_of_mem _ (List.mem_append_left _ (List.mem_append_left _ (List.mem_append_left _ (List.mem_of_getElem? (i := 19) rfl)))), List.forall_mem_cons.mpr ⟨List.mem_cons_of_mem _ (List.mem_append_left _ (List.mem_append_left _ (List.mem_append_left _ (List.mem_of_getElem? (i := 20) rfl)))), List.forall_mem_cons.mpr ⟨List.mem_cons_of_mem _ (List.mem_append_left _ (List.mem_append_left _ (List.mem_append_left _ (List.mem_of_getElem? (i := 21) rfl)))), List.forall_mem_cons.mpr ⟨List.mem_cons_of_mem _ (List.mem_append_left _ (List.mem_append_left _ (List.mem_append_left _ (List.mem_of_getElem? (i := 22) rfl)))), List.forall_mem_cons.mpr ⟨List.mem_cons_of_mem _ (List.mem_append_left _ (List.mem_append_left _ (List.mem_append_left _ (List.mem_of_getElem? (i := 16) rfl)))), List.forall_mem_cons.mpr ⟨List.mem_cons_of_mem _ (List.mem_append_left _ (List.mem_append_left _ (List.mem_append_left _ (List.mem_of_getElem? (i := 23) rfl)))), List.forall_mem_cons.mpr ⟨List.mem_cons_of_mem _ (List.mem_append_left _ (List.mem_append_left _ (List.mem_append_right _ (List.mem_append_left _ (List.mem_of_getElem? (i := 0) rfl))))), List.forall_mem_cons.mpr ⟨List.mem_cons_of_mem _ (List.mem_append_left _ (List.mem_append_left _ (List.mem_append_right _ (List.mem_append_left _ (List.mem_of_getElem? (i := 1) rfl))))), List.forall_mem_cons.mpr ⟨List.mem_cons_of_mem _ (List.mem_append_left _ (List.mem_append_left _ (List.mem_append_right _ (List.mem_append_left _ (List.mem_of_getElem? (i := 2) rfl))))), List.forall_mem_cons.mpr ⟨List.mem_cons_of_mem _ (List.mem_append_left _ (List.mem_append_left _ (List.mem_append_right _ (List.mem_append_left _ (List.mem_of_getElem? (i := 3) rfl))))), List.forall_mem_cons.mpr ⟨List.mem_cons_of_mem _ (List.mem_append_left _ (List.mem_append_left _ (List.mem_append_right _ (List.mem_append_left _ (List.mem_of_getElem? (i := 4) rfl))))), List.forall_mem_cons.mpr ⟨List.mem_cons_of_mem _ (List.mem_append_left _ (List.mem_append_left _ (List.mem_append_right _ (List.mem_append_left _ (List.mem_of_getElem? (i := 5) rfl))))), List.forall_mem_cons.mpr ⟨List.mem_cons_of_mem _ (List.mem_append_left _ (List.mem_append_left _ (List.mem_append_right _ (List.mem_append_left _ (List.mem_of_getElem? (i := 6) rfl))))), List.forall_mem_cons.mpr ⟨List.mem_cons_of_mem _ (List.mem_append_left _ (List.mem_append_left _ (List.mem_append_right _ (List.mem_append_left _ (List.mem_of_getElem? (i := 7) rfl))))), List.forall_mem_cons.mpr ⟨List.mem_cons_of_mem _ (List.mem_append_left _ (List.mem_append_left _ (List.mem_append_right _ (List.mem_append_left _ (List.mem_of_getElem? (i := 8) rfl))))), List.forall_mem_cons.mpr ⟨List.mem_cons_of_mem _ (List.mem_append_left _ (List.mem_append_left _ (List.mem_append_right _ (List.mem_append_left _ (List.mem_of_getElem? (i := 9) rfl))))), List.forall_mem_cons.mpr ⟨List.mem_cons_of_mem _ (List.mem_append_left _ (List.mem_append_left _ (List.mem_append_right _ (List.mem_append_left _ (List.mem_of_getElem? (i := 10) rfl))))), List.forall_mem_cons.mpr ⟨List.mem_cons_of_mem _ (List.mem_append_left _ (List.mem_append_left _ (List.mem_append_right _ (List.mem_append_left _ (List.mem_of_getElem? (i := 11) rfl))))), List.forall_mem_cons.mpr ⟨List.mem_cons_of_mem _ (List.mem_append_left _ (List.mem_append_left _ (List.mem_append_right _ (List.mem_append_left _ (List.mem_of_getElem? (i := 12) rfl))))), List.forall_mem_cons.mpr ⟨List.mem_cons_of_mem _ (List.mem_append_left _ (List.mem_append_left _ (List.mem_append_right _ (List.mem_append_left _ (List.mem_of_getElem? (i := 13) rfl))))), List.forall_mem_cons.mpr ⟨List.mem_cons_of_mem _ (List.mem_append_left _ (List.mem_append_left _ (List.mem_append_right _ (List.mem_append_left _ (List.mem_of_getElem? (i := 14) rfl))))), List.forall_mem_cons.mpr ⟨List.mem_cons_of_mem _ (List.mem_append_left _ (List.mem_append_left _ (List.mem_append_right _ (List.mem_append_left _ (List.mem_of_getElem? (i := 15) rfl))))), List.forall_mem_cons.mpr ⟨List.mem_cons_of_mem _ (List.mem_append_left _ (List.mem_append_left _ (List.mem_append_right _ (List.mem_append_left _ (List.mem_of_getElem? (i := 16) rfl))))), nowords_in⟩⟩⟩⟩⟩⟩⟩⟩⟩⟩⟩⟩⟩⟩⟩⟩⟩⟩⟩⟩⟩⟩⟩⟩, List.forall_mem_cons.mpr ⟨List.mem_cons_of_mem _ (List.mem_append_left _ (List.mem_append_left _ (List.mem_append_right _ (List.mem_append_left _ (List.mem_of_getElem? (i := 17) rfl))))), List.forall_mem_cons.mpr ⟨List.mem_cons_of_mem _ (List.mem_append_left _ (List.mem_append_left _ (List.mem_append_right _ (List.mem_append_left _ (List.mem_of_getElem? (i := 18) rfl))))), List.forall_mem_cons.mpr ⟨List.mem_cons_of_mem _ (List.mem_append_left _ (List.mem_append_left _ (List.mem_append_right _ (List.mem_append_left _ (List.mem_of_getElem? (i := 19) rfl))))), List.forall_mem_cons.mpr ⟨List.mem_cons_of_mem _ (List.mem_append_left _ (List.mem_append_left _ (List.mem_append_right _ (List.mem_append_left _ (List.mem_of_getElem? (i := 20) rfl))))), List.forall_mem_cons.mpr ⟨List.mem_cons_of_mem _ (List.mem_append_left _ (List.mem_append_left _ (List.mem_append_right _ (List.mem_append_left _ (List.mem_of_getElem? (i := 21) rfl))))), List.forall_mem_cons.mpr ⟨List.mem_cons_of_mem _ (List.mem_append_left _ (List.mem_append_left _ (List.mem_append_right _ (List.mem_append_left _ (List.mem_of_getElem? (i := 22) rfl))))), List.forall_mem_cons.mpr ⟨List.mem_cons_of_mem _ (List.mem_append_left _ (List.mem_append_left _ (List.mem_append_right _ (List.mem_append_left _ (List.mem_of_getElem? (i := 23) rfl))))), List.forall_mem_cons.mpr ⟨List.mem_cons_of_mem _ (List.mem_append_left _ (List.mem_append_left _ (List.mem_append_right _ (List.mem_append_right _ (List.mem_of_getElem? (i := 0) rfl))))), List.forall_mem_cons.mpr ⟨List.mem_cons_of_mem _ (List.mem_append_left _ (List.mem_append_left _ (List.mem_append_right _ (List.mem_append_right _ (List.mem_of_getElem? (i := 1) rfl))))), List.forall_mem_cons.mpr ⟨List.mem_cons_of_mem _ (List.mem_append_left _ (List.mem_append_left _ (List.mem_append_right _ (List.mem_append_right _ (List.mem_of_getElem? (i := 2) rfl))))), List.forall_mem_cons.mpr ⟨List.mem_cons_of_mem _ (List.mem_append_left _ (List.mem_append_left _ (List.mem_append_right _ (List.mem_append_right _ (List.mem_of_getElem? (i := 3) rfl))))), List.forall_mem_cons.mpr ⟨List.mem_cons_of_mem _ (List.mem_append_left _ (List.mem_append_left _ (List.mem_append_right _ (List.mem_append_right _ (List.mem_of_getElem? (i := 4) rfl))))), List.forall_mem_cons.mpr ⟨List.mem_cons_of_mem _ (List.mem_append_left _ (List.mem_append_left _ (List.mem_append_right _ (List.mem_append_right _ (List.mem_of_getElem? (i := 5) rfl))))), List.forall_mem_cons.mpr ⟨List.mem_cons_of_mem _ (List.mem_append_left _ (List.mem_append_left _ (List.mem_append_right _ (List.mem_append_right _ (List.mem_of_getElem? (i := 6) rfl))))), List.forall_mem_cons.mpr ⟨List.mem_cons_of_mem _ (List.mem_append_left _ (List.mem_append_left _ (List.mem_append_right _ (List.mem_append_right _ (List.mem_of_getElem? (i := 7) rfl))))), List.forall_mem_cons.mpr ⟨List.mem_cons_of_mem _ (List.mem_append_left _ (List.mem_append_left _ (List.mem_append_left _ (List.mem_of_getElem? (i := 3) rfl)))), List.forall_mem_cons.mpr ⟨List.mem_cons_of_mem _ (List.mem_append_left _ (List.mem_append_left _ (List.mem_append_right _ (List.mem_append_right _ (List.mem_of_getElem? (i := 8) rfl))))), List.forall_mem_cons.mpr ⟨List.mem_cons_of_mem _ (List.mem_append_left _ (List.mem_append_left _ (List.mem_append_right _ (List.mem_append_right _ (List.mem_of_getElem? (i := 9) rfl))))), List.forall_mem_cons.mpr ⟨List.mem_cons_of_mem _ (List.mem_append_left _ (List.mem_append_left _ (List.mem_append_right _ (List.mem_append_right _ (List.mem_of_getElem? (i := 10) rfl))))), List.forall_mem_cons.mpr ⟨List.mem_cons_of_mem _ (List.mem_append_left _ (List.mem_append_left _ (List.mem_append_right _ (List.mem_append_right _ (List.mem_of_getElem? (i := 11) rfl))))), List.forall_mem_cons.mpr ⟨List.mem_cons_of_mem _ (List.mem_append_left _ (List.mem_append_left _ (List.mem_append_right _ (List.mem_append_right _ (List.mem_of_getElem? (i := 12) rfl))))), List.forall_mem_cons.mpr ⟨List.mem_cons_of_mem _ (List.mem_append_left _ (List.mem_append_left _ (List.mem_append_right _ (List.mem_append_right _ (List.mem_of_getElem? (i := 13) rfl))))), nowords_in⟩⟩⟩⟩⟩⟩⟩⟩⟩⟩⟩⟩⟩⟩⟩⟩⟩⟩⟩⟩⟩⟩⟩, (fun _ h => List.mem_cons_of_mem _ (List.mem_append_right _ (h)))⟩⟩)
set_option maxRecDepth 20000 in
theorem gX10_flips_X0_fewestTurned : GoodIn wsX10_flips (wsV RX10 381 RX0 yX0_fewestTurned wsX0_fewestTurned) := goodIn_app (goodIn_by gd_X10_flips (List.forall_mem_cons.mpr ⟨List.mem_cons_of_mem _ (List.mem_append_left _ (List.mem_append_left _ (List.mem_append_left _ (List.mem_of_getElem? (i := 13) rfl)))), List.forall_mem_cons.mpr ⟨List.mem_cons_of_mem _ (List.mem_append_left _ (List.mem_append_left _ (List.mem_append_left _ (List.mem_of_getElem? (i := 14) rfl)))), List.forall_mem_cons.mpr ⟨List.mem_cons_of_mem _ (List.mem_append_left _ (List.mem_append_left _ (List.mem_append_left _ (List.mem_of_getElem? (i := 15) rfl)))), List.forall_mem_cons.mpr ⟨List.mem_cons_of_mem _ (List.mem_append_left _ (List.mem_append_left _ (List.mem_append_left _ (List.mem_of_getElem? (i := 16) rfl)))), nowords_in⟩⟩⟩⟩)) ggX10_flips_X0_fewestTurned
set_option maxRecDepth 20000 in
theorem ggX10_flips_X10_answerIfAny : GoodIn wsX10_flips wsX10_answerIfAny := goodIn_by gd_X10_flips (List.forall_mem_cons.mpr ⟨List.mem_cons_of_mem _ (List.mem_append_left _ (List.mem_append_left _ (List.mem_append_right _ (List.mem_append_right _ (List.mem_of_getElem? (i := 17) rfl))))), List.forall_mem_append.mpr ⟨List.forall_mem_cons.mpr ⟨List.mem_cons_of_mem _ (List.mem_append_left _ (List.mem_append_left _ (List.mem_append_left _ (List.mem_of_getElem? (i := 8) rfl)))), List.forall_mem_cons.mpr ⟨List.mem_cons_of_mem _ (List.mem_append_left _ (List.mem_append_left _ (List.mem_append_left _ (List.mem_of_getElem? (i := 9) rfl)))), List.forall_mem_cons.mpr ⟨List.mem_cons_of_mem _ (List.mem_append_left _ (List.mem_append_left _ (List.mem_append_left _ (List.mem_of_getElem? (i := 10) rfl)))), List.forall_mem_cons.mpr ⟨List.mem_cons_of_mem _ (List.mem_append_left _ (List.mem_append_left _ (List.mem_append_left _ (List.mem_of_getElem? (i := 3) rfl)))), List.forall_mem_cons.mpr ⟨List.mem_cons_of_mem _ (List.mem_append_left _ (List.mem_append_left _ (List.mem_append_left _ (List.mem_of_getElem? (i := 11) rfl)))), List.forall_mem_cons.mpr ⟨List.mem_cons_of_mem _ (List.mem_append_left _ (List.mem_append_left _ (List.mem_append_left _ (List.mem_of_getElem? (i := 12) rfl)))), List.forall_mem_cons.mpr ⟨List.mem_cons_of_mem _ (List.mem_append_left _ (List.mem_append_left _ (List.mem_append_right _ (List.mem_append_right _ (List.mem_of_getElem? (i := 18) rfl))))), List.forall_mem_cons.mpr ⟨List.mem_cons_of_mem _ (List.mem_append_left _ (List.mem_append_left _ (List.mem_append_right _ (List.mem_append_right _ (List.mem_of_getElem? (i := 19) rfl))))), List.forall_mem_cons.mpr ⟨List.mem_cons_of_mem _ (List.mem_append_left _ (List.mem_append_left _ (List.mem_append_right _ (List.mem_append_right _ (List.mem_of_getElem? (i := 20) rfl))))), List.forall_mem_cons.mpr ⟨List.mem_cons_of_mem _ (List.mem_append_left _ (List.mem_append_left _ (List.mem_append_right _ (List.mem_append_right _ (List.mem_of_getElem? (i := 21) rfl))))), nowords_in⟩⟩⟩⟩⟩⟩⟩⟩⟩⟩, (fun _ h => List.mem_cons_of_mem _ (List.mem_append_left _ (List.mem_append_right _ (h))))⟩⟩)
set_option maxRecDepth 20000 in
theorem gX10_flips_X10_answerIfAny : GoodIn wsX10_flips (wsV RX10 302 RX10 yX10_answerIfAny wsX10_answerIfAny) := goodIn_app (goodIn_by gd_X10_flips (List.forall_mem_cons.mpr ⟨List.mem_cons_of_mem _ (List.mem_append_left _ (List.mem_append_left _ (List.mem_append_right _ (List.mem_append_right _ (List.mem_of_getElem? (i := 14) rfl))))), List.forall_mem_cons.mpr ⟨List.mem_cons_of_mem _ (List.mem_append_left _ (List.mem_append_left _ (List.mem_append_right _ (List.mem_append_right _ (List.mem_of_getElem? (i := 15) rfl))))), List.forall_mem_cons.mpr ⟨List.mem_cons_of_mem _ (List.mem_append_left _ (List.mem_append_left _ (List.mem_append_right _ (List.mem_append_right _ (List.mem_of_getElem? (i := 16) rfl))))), List.forall_mem_cons.mpr ⟨List.mem_cons_of_mem _ (List.mem_append_left _ (List.mem_append_left _ (List.mem_append_left _ (List.mem_of_getElem? (i := 3) rfl)))), nowords_in⟩⟩⟩⟩)) ggX10_flips_X10_answerIfAny
theorem dX10_flips_0 : decode cX10_flips 0 = .ok (.iload_n 1, 1) := by decide +kernel
theorem dX10_flips_1 : decode cX10_flips 1 = .ok (.invokestatic 287, 3) := by decide +kernel
theorem dX10_flips_4 : decode cX10_flips 4 = .ok (.ifCond .eq 9, 3) := by decide +kernel
theorem dX10_flips_7 : decode cX10_flips 7 = .ok (.aload_n 0, 1) := by decide +kernel
theorem dX10_flips_8 : decode cX10_flips 8 = .ok (.iconst 1, 1) := by decide +kernel
theorem dX10_flips_9 : decode cX10_flips 9 = .ok (.invokevirtual 139, 3) := by decide +kernel
theorem dX10_flips_12 : decode cX10_flips 12 = .ok (.ireturn, 1) := by decide +kernel
theorem dX10_flips_13 : decode cX10_flips 13 = .ok (.aload_n 0, 1) := by decide +kernel
theorem dX10_flips_14 : decode cX10_flips 14 = .ok (.aload_n 0, 1) := by decide +kernel
theorem dX10_flips_15 : decode cX10_flips 15 = .ok (.getfield 10, 3) := by decide +kernel
theorem dX10_flips_18 : decode cX10_flips 18 = .ok (.iload_n 1, 1) := by decide +kernel
theorem dX10_flips_19 : decode cX10_flips 19 = .ok (.invokevirtual 381, 3) := by decide +kernel
theorem dX10_flips_22 : decode cX10_flips 22 = .ok (.invokevirtual 302, 3) := by decide +kernel
theorem dX10_flips_25 : decode cX10_flips 25 = .ok (.ireturn, 1) := by decide +kernel
abbrev rmX10_flips : Room := { frames := 4, cells := 0, slots := 0, locals := 95 }
set_option maxHeartbeats 4000000 in
set_option maxRecDepth 100000 in
theorem kX10_flips (l : Launch) (D : va_G) (cy : Nat → ClassId) (h0 : Nat) (a0 : Nat → Nat) (a1 : Nat → Nat) (s0 : Rc) (s1 : Rc) (p1 : Int32) (res : Int32 × Rc) (h : fX10_flips p1 s0 s1 = some res) : CI l D cy yX10_flips wsX10_flips rmX10_flips [.ref h0, .int p1] (flat [WX10 cy h0 a0 s0, WX0 cy (a0 0) a1 s1]) (flat [WX10 cy h0 a0 res.2, WX0 cy (a0 0) a1 s1]) res.1 := by
  refine CI.of (cc := cX10_flips) (maxL := 2) (by decide) rfl (Nat.le_of_ble_eq_true rfl) ?_
  intro p e s m args below meth c A QQ ls E hr
  obtain ⟨hx, hb, hml, hown, hts, hK, hN, hP, hD, hA, hl⟩ := E
  have hret : ∀ (pc : Nat) (H : Heap) (locs : List Loc) (ls : Array Slot) (u : Int32 × Rc), u = res → va_P D vwCl (flat [WX10 cy h0 a0 u.2, WX0 cy (a0 0) a1 s1]) H → va_D A (flat [WX10 cy h0 a0 u.2, WX0 cy (a0 0) a1 s1]) → va_S A s.heap H locs → decode cX10_flips pc = .ok (.ireturn, 1) → W p l e rmX10_flips s m args below meth c H locs 0 0 QQ (F0 m pc ls [.int u.1]) := by
    intro pc H locs ls u hu hP hD hS hd; subst hu; exact hr pc H locs ls _ rfl hP hD hS hd
  clear hr
  have hl : lv_has ls 2 [(0, .ref h0), (1, .int p1)] := hl
  have hinX10 : ∀ w ∈ wsX100, w ∈ wsX10_flips := fun _ h => List.mem_cons_of_mem _ (List.mem_append_left _ (List.mem_append_right _ h))
  unfold fX10_flips at h
  suffices key : ∀ (H : Heap) (locs : List Loc), va_P D vwCl (flat [WX10 cy h0 a0 s0, WX0 cy (a0 0) a1 s1]) H → va_S A s.heap H locs → W p l e rmX10_flips s m args below meth c H locs 0 0 QQ (F0 m 0 ls []) from key _ _ hP va_S.rf
  clear hP
  intro H locs hP hS
  refine lv_iload_n hx hb dX10_flips_0 rfl (lv_at hl 1 rfl) ?_
  refine ca_z (w' := [WX10 cy h0 a0 s0, WX0 cy (a0 0) a1 s1]) (rn_S (As := [.int p1]) (rest := []) ⟨hx, hb, hml, hown, hts⟩ (kX10_noToldDay l D cy p1 _ rfl H.size) (va_cwS 1 hts gX10_flips_X10_noToldDay rfl rfl rfl (by decide +kernel) ⟨Nat.le_of_ble_eq_true rfl, Nat.le_of_ble_eq_true rfl⟩) hK hN hP hD [] rfl rfl rfl hl.1 rfl (Nat.le_of_ble_eq_true rfl) dX10_flips_1 ⟨Nat.le_refl 0, Nat.le_refl 0⟩) hP hD hS hA [] ⟨rfl, rfl, rfl, rfl⟩ (fun b1 H locs hP hD hS => ?_)
  refine lv_if_eq (tgt := 13) hx hb dX10_flips_4 (by decide) (fun c2 => ?_) (fun c2 => ?_)
  · replace h := (if_pos c2).symm.trans h
    refine lv_aload_n hx hb dX10_flips_13 rfl (lv_at hl 0 rfl) ?_
    refine lv_aload_n hx hb dX10_flips_14 rfl (lv_at hl 0 rfl) ?_
    refine va_get (D := D) (ci := 10) (v := .ref (a0 0)) (C := RX10) (T := TX10) (N := 19) hx hb hts hinX10 hown hK hP 0 rfl rfl 0 (by decide) (hts (.fieldLink RX10 10 "KneeBench" "bench" "LKneeBench$Bench;") (List.mem_of_getElem? (i := 1) rfl)) (fun _ h9 => h9) rfl dX10_flips_15 ?_
    refine lv_iload_n hx hb dX10_flips_18 rfl (lv_at hl 1 rfl) ?_
    obtain ⟨r3, hr3, h⟩ := bd_elim h
    refine ca_i (w' := [WX10 cy h0 a0 s0, WX0 cy (a0 0) a1 s1]) (rn_V (As := [.int p1]) (rest := [.ref h0]) ⟨hx, hb, hml, hown, hts⟩ (kX0_fewestTurned l D cy (a0 0) a1 s1 p1 r3 hr3 H.size) (cwV 1 hts gX10_flips_X0_fewestTurned rfl rfl rfl (by decide +kernel) ⟨Nat.le_of_ble_eq_true rfl, Nat.le_of_ble_eq_true rfl⟩) hK hN hP hD [1] rfl rfl (ci := 0) (q0 := 1) rfl rfl rfl rfl hl.1 rfl (Nat.le_of_ble_eq_true rfl) dX10_flips_19 ⟨Nat.le_refl 0, Nat.le_refl 0⟩) hP hD hS hA [1] ⟨rfl, rfl, rfl, rfl⟩ (fun H locs hP hD hS => ?_)
    obtain ⟨r4, hr4, h⟩ := lt_elim h
    refine ca_i (w' := [WX10 cy h0 a0 r4.2, WX0 cy (a0 0) a1 s1]) (rn_V (As := [.int r3]) (rest := []) ⟨hx, hb, hml, hown, hts⟩ (kX10_answerIfAny l D cy h0 a0 s0 r3 r4 hr4.symm H.size) (cwV 1 hts gX10_flips_X10_answerIfAny rfl rfl rfl (by decide +kernel) ⟨Nat.le_of_ble_eq_true rfl, Nat.le_of_ble_eq_true rfl⟩) hK hN hP hD [0] rfl rfl (ci := 10) (q0 := 0) rfl rfl rfl rfl hl.1 rfl (Nat.le_of_ble_eq_true rfl) dX10_flips_22 ⟨Nat.le_refl 0, Nat.le_refl 0⟩) hP hD hS hA [0] ⟨rfl, rfl, rfl, rfl⟩ (fun H locs hP hD hS => ?_)
    exact hret 25 H locs ls (r4.1, r4.2) (Option.some.inj h) hP hD hS dX10_flips_25
  · replace h := (if_neg c2).symm.trans h
    refine lv_aload_n hx hb dX10_flips_7 rfl (lv_at hl 0 rfl) ?_
    refine lv_iconst (v := 1) hx hb dX10_flips_8 (by decide) ?_
    obtain ⟨r5, hr5, h⟩ := lt_elim h
    refine ca_i (w' := [WX10 cy h0 a0 r5.2, WX0 cy (a0 0) a1 s1]) (rn_V (As := [.int (1 : Int32)]) (rest := []) ⟨hx, hb, hml, hown, hts⟩ (kX10_refuse l D cy h0 a0 s0 (1 : Int32) r5 hr5.symm H.size) (cwV 1 hts gX10_flips_X10_refuse rfl rfl rfl (by decide +kernel) ⟨Nat.le_of_ble_eq_true rfl, Nat.le_of_ble_eq_true rfl⟩) hK hN hP hD [0] rfl rfl (ci := 10) (q0 := 0) rfl rfl rfl rfl hl.1 rfl (Nat.le_of_ble_eq_true rfl) dX10_flips_9 ⟨Nat.le_refl 0, Nat.le_refl 0⟩) hP hD hS hA [0] ⟨rfl, rfl, rfl, rfl⟩ (fun H locs hP hD hS => ?_)
    exact hret 12 H locs ls (r5.1, r5.2) (Option.some.inj h) hP hD hS dX10_flips_12
theorem gd_X10_foe : wsX10_foe.all goodWord = true := by decide +kernel
set_option maxRecDepth 20000 in
theorem ggX10_foe_X10_noFarmer : GoodIn wsX10_foe wsX10_noFarmer := goodIn_by gd_X10_foe (List.forall_mem_cons.mpr ⟨List.mem_cons_of_mem _ (List.mem_append_left _ (List.mem_append_left _ (List.mem_append_left _ (List.mem_of_getElem? (i := 5) rfl)))), List.forall_mem_append.mpr ⟨List.forall_mem_append.mpr ⟨List.forall_mem_cons.mpr ⟨List.mem_cons_of_mem _ (List.mem_append_left _ (List.mem_append_left _ (List.mem_append_left _ (List.mem_of_getElem? (i := 0) rfl)))), List.forall_mem_cons.mpr ⟨List.mem_cons_of_mem _ (List.mem_append_left _ (List.mem_append_left _ (List.mem_append_left _ (List.mem_of_getElem? (i := 6) rfl)))), List.forall_mem_cons.mpr ⟨List.mem_cons_of_mem _ (List.mem_append_left _ (List.mem_append_left _ (List.mem_append_left _ (List.mem_of_getElem? (i := 7) rfl)))), List.forall_mem_cons.mpr ⟨List.mem_cons_of_mem _ (List.mem_append_left _ (List.mem_append_left _ (List.mem_append_left _ (List.mem_of_getElem? (i := 8) rfl)))), List.forall_mem_cons.mpr ⟨List.mem_cons_of_mem _ (List.mem_append_left _ (List.mem_append_left _ (List.mem_append_left _ (List.mem_of_getElem? (i := 9) rfl)))), List.forall_mem_cons.mpr ⟨List.mem_cons_of_mem _ (List.mem_append_left _ (List.mem_append_left _ (List.mem_append_left _ (List.mem_of_getElem? (i := 10) rfl)))), List.forall_mem_cons.mpr ⟨List.mem_cons_of_mem _ (List.mem_append_left _ (List.mem_append_left _ (List.mem_append_left _ (List.mem_of_getElem? (i := 11) rfl)))), nowords_in⟩⟩⟩⟩⟩⟩⟩, (fun _ h => List.mem_cons_of_mem _ (List.mem_append_left _ (List.mem_append_right _ (h))))⟩, (fun _ h => List.mem_cons_of_mem _ (List.mem_append_right _ (h)))⟩⟩)
set_option maxRecDepth 20000 in
theorem gX10_foe_X10_noFarmer : GoodIn wsX10_foe (wsV RX10 215 RX10 yX10_noFarmer wsX10_noFarmer) := goodIn_app (goodIn_by gd_X10_foe (List.forall_mem_cons.mpr ⟨List.mem_cons_of_mem _ (List.mem_append_left _ (List.mem_append_left _ (List.mem_append_left _ (List.mem_of_getElem? (i := 1) rfl)))), List.forall_mem_cons.mpr ⟨List.mem_cons_of_mem _ (List.mem_append_left _ (List.mem_append_left _ (List.mem_append_left _ (List.mem_of_getElem? (i := 2) rfl)))), List.forall_mem_cons.mpr ⟨List.mem_cons_of_mem _ (List.mem_append_left _ (List.mem_append_left _ (List.mem_append_left _ (List.mem_of_getElem? (i := 3) rfl)))), List.forall_mem_cons.mpr ⟨List.mem_cons_of_mem _ (List.mem_append_left _ (List.mem_append_left _ (List.mem_append_left _ (List.mem_of_getElem? (i := 4) rfl)))), nowords_in⟩⟩⟩⟩)) ggX10_foe_X10_noFarmer
set_option maxRecDepth 20000 in
theorem ggX10_foe_X10_refuse : GoodIn wsX10_foe wsX10_refuse := goodIn_by gd_X10_foe (List.forall_mem_cons.mpr ⟨List.mem_cons_of_mem _ (List.mem_append_left _ (List.mem_append_left _ (List.mem_append_left _ (List.mem_of_getElem? (i := 15) rfl)))), List.forall_mem_append.mpr ⟨List.forall_mem_cons.mpr ⟨List.mem_cons_of_mem _ (List.mem_append_left _ (List.mem_append_left _ (List.mem_append_left _ (List.mem_of_getElem? (i := 16) rfl)))), nowords_in⟩, (fun _ h => List.mem_cons_of_mem _ (List.mem_append_left _ (List.mem_append_right _ (h))))⟩⟩)
set_option maxRecDepth 20000 in
theorem gX10_foe_X10_refuse : GoodIn wsX10_foe (wsV RX10 139 RX10 yX10_refuse wsX10_refuse) := goodIn_app (goodIn_by gd_X10_foe (List.forall_mem_cons.mpr ⟨List.mem_cons_of_mem _ (List.mem_append_left _ (List.mem_append_left _ (List.mem_append_left _ (List.mem_of_getElem? (i := 12) rfl)))), List.forall_mem_cons.mpr ⟨List.mem_cons_of_mem _ (List.mem_append_left _ (List.mem_append_left _ (List.mem_append_left _ (List.mem_of_getElem? (i := 13) rfl)))), List.forall_mem_cons.mpr ⟨List.mem_cons_of_mem _ (List.mem_append_left _ (List.mem_append_left _ (List.mem_append_left _ (List.mem_of_getElem? (i := 14) rfl)))), List.forall_mem_cons.mpr ⟨List.mem_cons_of_mem _ (List.mem_append_left _ (List.mem_append_left _ (List.mem_append_left _ (List.mem_of_getElem? (i := 4) rfl)))), nowords_in⟩⟩⟩⟩)) ggX10_foe_X10_refuse
set_option maxRecDepth 20000 in
theorem ggX10_foe_X0_dislike : GoodIn wsX10_foe wsX0_dislike := goodIn_by gd_X10_foe (List.forall_mem_cons.mpr ⟨List.mem_cons_of_mem _ (List.mem_append_left _ (List.mem_append_left _ (List.mem_append_left _ (List.mem_of_getElem? (i := 20) rfl)))), List.forall_mem_append.mpr ⟨List.forall_mem_cons.mpr ⟨List.mem_cons_of_mem _ (List.mem_append_left _ (List.mem_append_left _ (List.mem_append_left _ (List.mem_of_getElem? (i := 21) rfl)))), nowords_in⟩, (fun _ h => List.mem_cons_of_mem _ (List.mem_append_right _ (h)))⟩⟩)
set_option maxRecDepth 20000 in
theorem gX10_foe_X0_dislike : GoodIn wsX10_foe (wsV RX10 244 RX0 yX0_dislike wsX0_dislike) := goodIn_app (goodIn_by gd_X10_foe (List.forall_mem_cons.mpr ⟨List.mem_cons_of_mem _ (List.mem_append_left _ (List.mem_append_left _ (List.mem_append_left _ (List.mem_of_getElem? (i := 17) rfl)))), List.forall_mem_cons.mpr ⟨List.mem_cons_of_mem _ (List.mem_append_left _ (List.mem_append_left _ (List.mem_append_left _ (List.mem_of_getElem? (i := 18) rfl)))), List.forall_mem_cons.mpr ⟨List.mem_cons_of_mem _ (List.mem_append_left _ (List.mem_append_left _ (List.mem_append_left _ (List.mem_of_getElem? (i := 19) rfl)))), List.forall_mem_cons.mpr ⟨List.mem_cons_of_mem _ (List.mem_append_left _ (List.mem_append_left _ (List.mem_append_left _ (List.mem_of_getElem? (i := 9) rfl)))), nowords_in⟩⟩⟩⟩)) ggX10_foe_X0_dislike
set_option maxRecDepth 20000 in
theorem ggX10_foe_X10_answer : GoodIn wsX10_foe wsX10_answer := goodIn_by gd_X10_foe (List.forall_mem_cons.mpr ⟨List.mem_cons_of_mem _ (List.mem_append_left _ (List.mem_append_left _ (List.mem_append_right _ (List.mem_of_getElem? (i := 1) rfl)))), List.forall_mem_append.mpr ⟨List.forall_mem_cons.mpr ⟨List.mem_cons_of_mem _ (List.mem_append_left _ (List.mem_append_left _ (List.mem_append_left _ (List.mem_of_getElem? (i := 16) rfl)))), nowords_in⟩, (fun _ h => List.mem_cons_of_mem _ (List.mem_append_left _ (List.mem_append_right _ (h))))⟩⟩)
set_option maxRecDepth 20000 in
theorem gX10_foe_X10_answer : GoodIn wsX10_foe (wsV RX10 181 RX10 yX10_answer wsX10_answer) := goodIn_app (goodIn_by gd_X10_foe (List.forall_mem_cons.mpr ⟨List.mem_cons_of_mem _ (List.mem_append_left _ (List.mem_append_left _ (List.mem_append_left _ (List.mem_of_getElem? (i := 22) rfl)))), List.forall_mem_cons.mpr ⟨List.mem_cons_of_mem _ (List.mem_append_left _ (List.mem_append_left _ (List.mem_append_left _ (List.mem_of_getElem? (i := 23) rfl)))), List.forall_mem_cons.mpr ⟨List.mem_cons_of_mem _ (List.mem_append_left _ (List.mem_append_left _ (List.mem_append_right _ (List.mem_of_getElem? (i := 0) rfl)))), List.forall_mem_cons.mpr ⟨List.mem_cons_of_mem _ (List.mem_append_left _ (List.mem_append_left _ (List.mem_append_left _ (List.mem_of_getElem? (i := 4) rfl)))), nowords_in⟩⟩⟩⟩)) ggX10_foe_X10_answer
theorem dX10_foe_0 : decode cX10_foe 0 = .ok (.aload_n 0, 1) := by decide +kernel
theorem dX10_foe_1 : decode cX10_foe 1 = .ok (.iload_n 1, 1) := by decide +kernel
theorem dX10_foe_2 : decode cX10_foe 2 = .ok (.invokevirtual 215, 3) := by decide +kernel
theorem dX10_foe_5 : decode cX10_foe 5 = .ok (.ifCond .eq 9, 3) := by decide +kernel
theorem dX10_foe_8 : decode cX10_foe 8 = .ok (.aload_n 0, 1) := by decide +kernel
theorem dX10_foe_9 : decode cX10_foe 9 = .ok (.iconst 1, 1) := by decide +kernel
theorem dX10_foe_10 : decode cX10_foe 10 = .ok (.invokevirtual 139, 3) := by decide +kernel
theorem dX10_foe_13 : decode cX10_foe 13 = .ok (.ireturn, 1) := by decide +kernel
theorem dX10_foe_14 : decode cX10_foe 14 = .ok (.iload_n 1, 1) := by decide +kernel
theorem dX10_foe_15 : decode cX10_foe 15 = .ok (.istore_n 2, 1) := by decide +kernel
theorem dX10_foe_16 : decode cX10_foe 16 = .ok (.iconst 0, 1) := by decide +kernel
theorem dX10_foe_17 : decode cX10_foe 17 = .ok (.istore_n 3, 1) := by decide +kernel
theorem dX10_foe_18 : decode cX10_foe 18 = .ok (.iload_n 3, 1) := by decide +kernel
theorem dX10_foe_19 : decode cX10_foe 19 = .ok (.aload_n 0, 1) := by decide +kernel
theorem dX10_foe_20 : decode cX10_foe 20 = .ok (.getfield 10, 3) := by decide +kernel
theorem dX10_foe_23 : decode cX10_foe 23 = .ok (.getfield 178, 3) := by decide +kernel
theorem dX10_foe_26 : decode cX10_foe 26 = .ok (.if_icmp .ge 32, 3) := by decide +kernel
theorem dX10_foe_29 : decode cX10_foe 29 = .ok (.aload_n 0, 1) := by decide +kernel
theorem dX10_foe_30 : decode cX10_foe 30 = .ok (.getfield 10, 3) := by decide +kernel
theorem dX10_foe_33 : decode cX10_foe 33 = .ok (.iload_n 1, 1) := by decide +kernel
theorem dX10_foe_34 : decode cX10_foe 34 = .ok (.iload_n 3, 1) := by decide +kernel
theorem dX10_foe_35 : decode cX10_foe 35 = .ok (.invokevirtual 244, 3) := by decide +kernel
theorem dX10_foe_38 : decode cX10_foe 38 = .ok (.aload_n 0, 1) := by decide +kernel
theorem dX10_foe_39 : decode cX10_foe 39 = .ok (.getfield 10, 3) := by decide +kernel
theorem dX10_foe_42 : decode cX10_foe 42 = .ok (.iload_n 1, 1) := by decide +kernel
theorem dX10_foe_43 : decode cX10_foe 43 = .ok (.iload_n 2, 1) := by decide +kernel
theorem dX10_foe_44 : decode cX10_foe 44 = .ok (.invokevirtual 244, 3) := by decide +kernel
theorem dX10_foe_47 : decode cX10_foe 47 = .ok (.if_icmp .le 5, 3) := by decide +kernel
theorem dX10_foe_50 : decode cX10_foe 50 = .ok (.iload_n 3, 1) := by decide +kernel
theorem dX10_foe_51 : decode cX10_foe 51 = .ok (.istore_n 2, 1) := by decide +kernel
theorem dX10_foe_52 : decode cX10_foe 52 = .ok (.iinc 3 1, 3) := by decide +kernel
theorem dX10_foe_55 : decode cX10_foe 55 = .ok (.goto (-37), 3) := by decide +kernel
theorem dX10_foe_58 : decode cX10_foe 58 = .ok (.iload_n 2, 1) := by decide +kernel
theorem dX10_foe_59 : decode cX10_foe 59 = .ok (.iload_n 1, 1) := by decide +kernel
theorem dX10_foe_60 : decode cX10_foe 60 = .ok (.if_icmp .ne 12, 3) := by decide +kernel
theorem dX10_foe_63 : decode cX10_foe 63 = .ok (.aload_n 0, 1) := by decide +kernel
theorem dX10_foe_64 : decode cX10_foe 64 = .ok (.bipush 6, 2) := by decide +kernel
theorem dX10_foe_66 : decode cX10_foe 66 = .ok (.invokevirtual 139, 3) := by decide +kernel
theorem dX10_foe_69 : decode cX10_foe 69 = .ok (.goto 8, 3) := by decide +kernel
theorem dX10_foe_72 : decode cX10_foe 72 = .ok (.aload_n 0, 1) := by decide +kernel
theorem dX10_foe_73 : decode cX10_foe 73 = .ok (.iload_n 2, 1) := by decide +kernel
theorem dX10_foe_74 : decode cX10_foe 74 = .ok (.invokevirtual 181, 3) := by decide +kernel
theorem dX10_foe_77 : decode cX10_foe 77 = .ok (.ireturn, 1) := by decide +kernel
abbrev rmX10_foe : Room := { frames := 2, cells := 0, slots := 0, locals := 42 }
set_option maxHeartbeats 4000000 in
set_option maxRecDepth 100000 in
theorem kX10_foe (l : Launch) (D : va_G) (cy : Nat → ClassId) (h0 : Nat) (a0 : Nat → Nat) (a1 : Nat → Nat) (s0 : Rc) (s1 : Rc) (p1 : Int32) (res : Int32 × Rc) (h : fX10_foe p1 s0 s1 = some res) : CI l D cy yX10_foe wsX10_foe rmX10_foe [.ref h0, .int p1] (flat [WX10 cy h0 a0 s0, WX0 cy (a0 0) a1 s1]) (flat [WX10 cy h0 a0 res.2, WX0 cy (a0 0) a1 s1]) res.1 := by
  refine CI.of (cc := cX10_foe) (maxL := 4) (by decide) rfl (Nat.le_of_ble_eq_true rfl) ?_
  intro p e s m args below meth c A QQ ls E hr
  obtain ⟨hx, hb, hml, hown, hts, hK, hN, hP, hD, hA, hl⟩ := E
  have hret : ∀ (pc : Nat) (H : Heap) (locs : List Loc) (ls : Array Slot) (u : Int32 × Rc), u = res → va_P D vwCl (flat [WX10 cy h0 a0 u.2, WX0 cy (a0 0) a1 s1]) H → va_D A (flat [WX10 cy h0 a0 u.2, WX0 cy (a0 0) a1 s1]) → va_S A s.heap H locs → decode cX10_foe pc = .ok (.ireturn, 1) → W p l e rmX10_foe s m args below meth c H locs 0 0 QQ (F0 m pc ls [.int u.1]) := by
    intro pc H locs ls u hu hP hD hS hd; subst hu; exact hr pc H locs ls _ rfl hP hD hS hd
  clear hr
  have hl : lv_has ls 4 [(0, .ref h0), (1, .int p1)] := hl
  have hinX0 : ∀ w ∈ wsX00, w ∈ wsX10_foe := fun _ h => List.mem_cons_of_mem _ (List.mem_append_right _ h)
  have hinX10 : ∀ w ∈ wsX100, w ∈ wsX10_foe := fun _ h => List.mem_cons_of_mem _ (List.mem_append_left _ (List.mem_append_right _ h))
  unfold fX10_foe at h
  suffices key : ∀ (H : Heap) (locs : List Loc), va_P D vwCl (flat [WX10 cy h0 a0 s0, WX0 cy (a0 0) a1 s1]) H → va_S A s.heap H locs → W p l e rmX10_foe s m args below meth c H locs 0 0 QQ (F0 m 0 ls []) from key _ _ hP va_S.rf
  clear hP
  intro H locs hP hS
  refine lv_aload_n hx hb dX10_foe_0 rfl (lv_at hl 0 rfl) ?_
  refine lv_iload_n hx hb dX10_foe_1 rfl (lv_at hl 1 rfl) ?_
  refine ca_z (w' := [WX10 cy h0 a0 s0, WX0 cy (a0 0) a1 s1]) (rn_V (As := [.int p1]) (rest := []) ⟨hx, hb, hml, hown, hts⟩ (kX10_noFarmer l D cy h0 a0 a1 s0 s1 p1 _ rfl H.size) (cwV 1 hts gX10_foe_X10_noFarmer rfl rfl rfl (by decide +kernel) ⟨Nat.le_of_ble_eq_true rfl, Nat.le_of_ble_eq_true rfl⟩) hK hN hP hD [0, 1] rfl rfl (ci := 10) (q0 := 0) rfl rfl rfl rfl hl.1 rfl (Nat.le_of_ble_eq_true rfl) dX10_foe_2 ⟨Nat.le_refl 0, Nat.le_refl 0⟩) hP hD hS hA [0, 1] ⟨rfl, rfl, rfl, rfl⟩ (fun b1 H locs hP hD hS => ?_)
  refine lv_if_eq (tgt := 14) hx hb dX10_foe_5 (by decide) (fun c2 => ?_) (fun c2 => ?_)
  · replace h := (if_pos c2).symm.trans h
    refine lv_iload_n hx hb dX10_foe_14 rfl (lv_at hl 1 rfl) ?_
    refine lv_istore_n (lv' := [(2, .int p1), (0, .ref h0), (1, .int p1)]) hx hb dX10_foe_15 rfl hl (by decide) rfl (fun ls hl => ?_)
    refine lv_iconst (v := 0) hx hb dX10_foe_16 (by decide) ?_
    refine lv_istore_n (lv' := [(3, .int (0 : Int32)), (2, .int p1), (0, .ref h0), (1, .int p1)]) hx hb dX10_foe_17 rfl hl (by decide) rfl (fun ls hl => ?_)
    have L18 : ∀ (n : Nat) (q18 : Int32 × Int32) (o : Int32), loopO (fX10_foe_L18 p1 s1) n q18 = some o → ∀ (H : Heap) (locs : List Loc) (ls : Array Slot), lv_has ls 4 [(0, .ref h0), (1, .int p1), (2, .int q18.1), (3, .int q18.2)] → va_P D vwCl (flat [WX10 cy h0 a0 s0, WX0 cy (a0 0) a1 s1]) H → va_D A (flat [WX10 cy h0 a0 s0, WX0 cy (a0 0) a1 s1]) → va_S A s.heap H locs → ∀ (kk58 : ∀ (H : Heap) (locs : List Loc) (ls : Array Slot), lv_has ls 4 [(0, .ref h0), (1, .int p1), (2, .int o)] → va_P D vwCl (flat [WX10 cy h0 a0 s0, WX0 cy (a0 0) a1 s1]) H → va_D A (flat [WX10 cy h0 a0 s0, WX0 cy (a0 0) a1 s1]) → va_S A s.heap H locs → W p l e rmX10_foe s m args below meth c H locs 0 0 QQ (F0 m 58 ls [])), W p l e rmX10_foe s m args below meth c H locs 0 0 QQ (F0 m 18 ls []) := by
      intro n
      induction n with
      | zero => intro q18 o h; exact absurd h (by rw [loopO_zero]; intro z; cases z)
      | succ n ih =>
        intro q18 o h H locs ls hl hP hD hS kk58
        obtain ⟨w, h, hgo, hst⟩ := loopO_elim h
        unfold fX10_foe_L18 at h
        refine lv_iload_n hx hb dX10_foe_18 rfl (lv_at hl 3 rfl) ?_
        refine lv_aload_n hx hb dX10_foe_19 rfl (lv_at hl 0 rfl) ?_
        refine va_get (D := D) (ci := 10) (v := .ref (a0 0)) (C := RX10) (T := TX10) (N := 19) hx hb hts hinX10 hown hK hP 0 rfl rfl 0 (by decide) (hts (.fieldLink RX10 10 "KneeBench" "bench" "LKneeBench$Bench;") (List.mem_of_getElem? (i := 1) rfl)) (fun _ h9 => h9) rfl dX10_foe_20 ?_
        refine va_getN (D := D) (ci := 0) (v := .int (gi s1 8)) (C := RX0) (T := TX0) (N := 14) hx hb hts hinX0 hown hK hP 1 rfl rfl 8 (by decide) (NW.fld hN 14 rfl _) (fun _ h9 => h9) rfl dX10_foe_23 ?_
        refine lv_icmp_ge (tgt := 58) hx hb dX10_foe_26 (by decide) (fun c3 => ?_) (fun c3 => ?_)
        · replace h := (if_pos c3).symm.trans h
          have eo := hst _ (Option.some.inj h).symm
          subst eo
          exact kk58 H locs ls (lv_sub hl [0, 1, 2] rfl) hP hD hS
        · replace h := (if_neg c3).symm.trans h
          refine lv_aload_n hx hb dX10_foe_29 rfl (lv_at hl 0 rfl) ?_
          refine va_get (D := D) (ci := 10) (v := .ref (a0 0)) (C := RX10) (T := TX10) (N := 19) hx hb hts hinX10 hown hK hP 0 rfl rfl 0 (by decide) (hts (.fieldLink RX10 10 "KneeBench" "bench" "LKneeBench$Bench;") (List.mem_of_getElem? (i := 1) rfl)) (fun _ h9 => h9) rfl dX10_foe_30 ?_
          refine lv_iload_n hx hb dX10_foe_33 rfl (lv_at hl 1 rfl) ?_
          refine lv_iload_n hx hb dX10_foe_34 rfl (lv_at hl 3 rfl) ?_
          obtain ⟨r4, hr4, h⟩ := bd_elim h
          refine ca_i (w' := [WX10 cy h0 a0 s0, WX0 cy (a0 0) a1 s1]) (rn_V (As := [.int p1, .int q18.2]) (rest := []) ⟨hx, hb, hml, hown, hts⟩ (kX0_dislike l D cy (a0 0) a1 s1 p1 q18.2 r4 hr4 H.size) (cwV 2 hts gX10_foe_X0_dislike rfl rfl rfl (by decide +kernel) ⟨Nat.le_of_ble_eq_true rfl, Nat.le_of_ble_eq_true rfl⟩) hK hN hP hD [1] rfl rfl (ci := 0) (q0 := 1) rfl rfl rfl rfl hl.1 rfl (Nat.le_of_ble_eq_true rfl) dX10_foe_35 ⟨Nat.le_refl 0, Nat.le_refl 0⟩) hP hD hS hA [1] ⟨rfl, rfl, rfl, rfl⟩ (fun H locs hP hD hS => ?_)
          refine lv_aload_n hx hb dX10_foe_38 rfl (lv_at hl 0 rfl) ?_
          refine va_get (D := D) (ci := 10) (v := .ref (a0 0)) (C := RX10) (T := TX10) (N := 19) hx hb hts hinX10 hown hK hP 0 rfl rfl 0 (by decide) (hts (.fieldLink RX10 10 "KneeBench" "bench" "LKneeBench$Bench;") (List.mem_of_getElem? (i := 1) rfl)) (fun _ h9 => h9) rfl dX10_foe_39 ?_
          refine lv_iload_n hx hb dX10_foe_42 rfl (lv_at hl 1 rfl) ?_
          refine lv_iload_n hx hb dX10_foe_43 rfl (lv_at hl 2 rfl) ?_
          obtain ⟨r5, hr5, h⟩ := bd_elim h
          refine ca_i (w' := [WX10 cy h0 a0 s0, WX0 cy (a0 0) a1 s1]) (rn_V (As := [.int p1, .int q18.1]) (rest := [.int r4]) ⟨hx, hb, hml, hown, hts⟩ (kX0_dislike l D cy (a0 0) a1 s1 p1 q18.1 r5 hr5 H.size) (cwV 2 hts gX10_foe_X0_dislike rfl rfl rfl (by decide +kernel) ⟨Nat.le_of_ble_eq_true rfl, Nat.le_of_ble_eq_true rfl⟩) hK hN hP hD [1] rfl rfl (ci := 0) (q0 := 1) rfl rfl rfl rfl hl.1 rfl (Nat.le_of_ble_eq_true rfl) dX10_foe_44 ⟨Nat.le_refl 0, Nat.le_refl 0⟩) hP hD hS hA [1] ⟨rfl, rfl, rfl, rfl⟩ (fun H locs hP hD hS => ?_)
          refine lv_icmp_le (tgt := 52) hx hb dX10_foe_47 (by decide) (fun c6 => ?_) (fun c6 => ?_)
          · replace h := (if_pos c6).symm.trans h
            refine lv_iinc (v := (q18.2 + (1 : Int32))) (lv' := [(3, .int (q18.2 + (1 : Int32))), (0, .ref h0), (1, .int p1), (2, .int q18.1)]) hx hb dX10_foe_52 hl (k := 3) rfl rfl (by decide) rfl (fun ls hl => ?_)
            refine lv_goto (tgt := 18) hx hb dX10_foe_55 (by decide) ?_
            exact ih _ o (hgo _ (Option.some.inj h).symm) H locs ls (lv_sub hl [1, 2, 3, 0] rfl) hP hD hS kk58
          · replace h := (if_neg c6).symm.trans h
            refine lv_iload_n hx hb dX10_foe_50 rfl (lv_at hl 3 rfl) ?_
            refine lv_istore_n (lv' := [(2, .int q18.2), (0, .ref h0), (1, .int p1), (3, .int q18.2)]) hx hb dX10_foe_51 rfl hl (by decide) rfl (fun ls hl => ?_)
            refine lv_iinc (v := (q18.2 + (1 : Int32))) (lv' := [(3, .int (q18.2 + (1 : Int32))), (2, .int q18.2), (0, .ref h0), (1, .int p1)]) hx hb dX10_foe_52 hl (k := 3) rfl rfl (by decide) rfl (fun ls hl => ?_)
            refine lv_goto (tgt := 18) hx hb dX10_foe_55 (by decide) ?_
            exact ih _ o (hgo _ (Option.some.inj h).symm) H locs ls (lv_sub hl [2, 3, 1, 0] rfl) hP hD hS kk58
    obtain ⟨o18, ho18, h⟩ := bd_elim h
    obtain ⟨n18, hn18⟩ := loopF_some ho18
    refine L18 n18 _ o18 hn18 H locs ls (lv_sub hl [2, 3, 1, 0] rfl) hP hD hS (fun H locs ls hl hP hD hS => ?_)
    refine lv_iload_n hx hb dX10_foe_58 rfl (lv_at hl 2 rfl) ?_
    refine lv_iload_n hx hb dX10_foe_59 rfl (lv_at hl 1 rfl) ?_
    refine lv_icmp_ne (tgt := 72) hx hb dX10_foe_60 (by decide) (fun c7 => ?_) (fun c7 => ?_)
    · replace h := (if_neg c7).symm.trans h
      refine lv_aload_n hx hb dX10_foe_72 rfl (lv_at hl 0 rfl) ?_
      refine lv_iload_n hx hb dX10_foe_73 rfl (lv_at hl 2 rfl) ?_
      obtain ⟨r8, hr8, h⟩ := lt_elim h
      refine ca_i (w' := [WX10 cy h0 a0 r8.2, WX0 cy (a0 0) a1 s1]) (rn_V (As := [.int o18]) (rest := []) ⟨hx, hb, hml, hown, hts⟩ (kX10_answer l D cy h0 a0 s0 o18 r8 hr8.symm H.size) (cwV 1 hts gX10_foe_X10_answer rfl rfl rfl (by decide +kernel) ⟨Nat.le_of_ble_eq_true rfl, Nat.le_of_ble_eq_true rfl⟩) hK hN hP hD [0] rfl rfl (ci := 10) (q0 := 0) rfl rfl rfl rfl hl.1 rfl (Nat.le_of_ble_eq_true rfl) dX10_foe_74 ⟨Nat.le_refl 0, Nat.le_refl 0⟩) hP hD hS hA [0] ⟨rfl, rfl, rfl, rfl⟩ (fun H locs hP hD hS => ?_)
      exact hret 77 H locs ls (r8.1, r8.2) (Option.some.inj h) hP hD hS dX10_foe_77
    · replace h := (if_pos c7).symm.trans h
      refine lv_aload_n hx hb dX10_foe_63 rfl (lv_at hl 0 rfl) ?_
      refine lv_bipush (v := 6) hx hb dX10_foe_64 (by decide) ?_
      obtain ⟨r9, hr9, h⟩ := lt_elim h
      refine ca_i (w' := [WX10 cy h0 a0 r9.2, WX0 cy (a0 0) a1 s1]) (rn_V (As := [.int (6 : Int32)]) (rest := []) ⟨hx, hb, hml, hown, hts⟩ (kX10_refuse l D cy h0 a0 s0 (6 : Int32) r9 hr9.symm H.size) (cwV 1 hts gX10_foe_X10_refuse rfl rfl rfl (by decide +kernel) ⟨Nat.le_of_ble_eq_true rfl, Nat.le_of_ble_eq_true rfl⟩) hK hN hP hD [0] rfl rfl (ci := 10) (q0 := 0) rfl rfl rfl rfl hl.1 rfl (Nat.le_of_ble_eq_true rfl) dX10_foe_66 ⟨Nat.le_refl 0, Nat.le_refl 0⟩) hP hD hS hA [0] ⟨rfl, rfl, rfl, rfl⟩ (fun H locs hP hD hS => ?_)
      refine lv_goto (tgt := 77) hx hb dX10_foe_69 (by decide) ?_
      exact hret 77 H locs ls (r9.1, r9.2) (Option.some.inj h) hP hD hS dX10_foe_77
  · replace h := (if_neg c2).symm.trans h
    refine lv_aload_n hx hb dX10_foe_8 rfl (lv_at hl 0 rfl) ?_
    refine lv_iconst (v := 1) hx hb dX10_foe_9 (by decide) ?_
    obtain ⟨r10, hr10, h⟩ := lt_elim h
    refine ca_i (w' := [WX10 cy h0 a0 r10.2, WX0 cy (a0 0) a1 s1]) (rn_V (As := [.int (1 : Int32)]) (rest := []) ⟨hx, hb, hml, hown, hts⟩ (kX10_refuse l D cy h0 a0 s0 (1 : Int32) r10 hr10.symm H.size) (cwV 1 hts gX10_foe_X10_refuse rfl rfl rfl (by decide +kernel) ⟨Nat.le_of_ble_eq_true rfl, Nat.le_of_ble_eq_true rfl⟩) hK hN hP hD [0] rfl rfl (ci := 10) (q0 := 0) rfl rfl rfl rfl hl.1 rfl (Nat.le_of_ble_eq_true rfl) dX10_foe_10 ⟨Nat.le_refl 0, Nat.le_refl 0⟩) hP hD hS hA [0] ⟨rfl, rfl, rfl, rfl⟩ (fun H locs hP hD hS => ?_)
    exact hret 13 H locs ls (r10.1, r10.2) (Option.some.inj h) hP hD hS dX10_foe_13
