theorem dX0_canAddDay_0 : decode cX0_canAddDay 0 = .ok (.aload_n 0, 1) := by decide +kernel
theorem dX0_canAddDay_1 : decode cX0_canAddDay 1 = .ok (.getfield 41, 3) := by decide +kernel
theorem dX0_canAddDay_4 : decode cX0_canAddDay 4 = .ok (.bipush 60, 2) := by decide +kernel
theorem dX0_canAddDay_6 : decode cX0_canAddDay 6 = .ok (.if_icmp .ge 7, 3) := by decide +kernel
theorem dX0_canAddDay_9 : decode cX0_canAddDay 9 = .ok (.iconst 1, 1) := by decide +kernel
theorem dX0_canAddDay_10 : decode cX0_canAddDay 10 = .ok (.goto 4, 3) := by decide +kernel
theorem dX0_canAddDay_13 : decode cX0_canAddDay 13 = .ok (.iconst 0, 1) := by decide +kernel
theorem dX0_canAddDay_14 : decode cX0_canAddDay 14 = .ok (.ireturn, 1) := by decide +kernel
abbrev rmX0_canAddDay : Room := { frames := 0, cells := 0, slots := 0, locals := 0 }
set_option maxHeartbeats 4000000 in
set_option maxRecDepth 100000 in
theorem kX0_canAddDay (l : Launch) (D : va_G) (cy : Nat → ClassId) (h0 : Nat) (a0 : Nat → Nat) (s0 : Rc) (res : Int32) (h : fX0_canAddDay s0 = res) : CZ l D cy yX0_canAddDay wsX0_canAddDay rmX0_canAddDay [.ref h0] (flat [WX0 cy h0 a0 s0]) (flat [WX0 cy h0 a0 s0]) res := by
  refine CZ.of (cc := cX0_canAddDay) (maxL := 1) (by decide) rfl (Nat.le_of_ble_eq_true rfl) ?_
  intro p e s m args below meth c A QQ ls E hr
  obtain ⟨hx, hb, hml, hown, hts, hK, hN, hP, hD, hA, hl⟩ := E
  have hret : ∀ (pc : Nat) (H : Heap) (locs : List Loc) (ls : Array Slot) (u : Int32), u = res → va_P D vwCl (flat [WX0 cy h0 a0 s0]) H → va_D A (flat [WX0 cy h0 a0 s0]) → va_S A s.heap H locs → isb u = true → decode cX0_canAddDay pc = .ok (.ireturn, 1) → W p l e rmX0_canAddDay s m args below meth c H locs 0 0 QQ (F0 m pc ls [.int u]) := by
    intro pc H locs ls u hu hP hD hS hz hd; subst hu; exact hr pc H locs ls _ rfl hP hD hS hz hd
  clear hr
  have hl : lv_has ls 1 [(0, .ref h0)] := hl
  have hinX0 : ∀ w ∈ wsX00, w ∈ wsX0_canAddDay := fun _ h => List.mem_cons_of_mem _ (List.mem_append_right _ h)
  unfold fX0_canAddDay at h
  suffices key : ∀ (H : Heap) (locs : List Loc), va_P D vwCl (flat [WX0 cy h0 a0 s0]) H → va_S A s.heap H locs → W p l e rmX0_canAddDay s m args below meth c H locs 0 0 QQ (F0 m 0 ls []) from key _ _ hP va_S.rf
  clear hP
  intro H locs hP hS
  refine lv_aload_n hx hb dX0_canAddDay_0 rfl (lv_at hl 0 rfl) ?_
  refine va_get (D := D) (ci := 0) (v := .int (gi s0 9)) (C := RX0) (T := TX0) (N := 14) hx hb hts hinX0 hown hK hP 0 rfl rfl 9 (by decide) (hts (.fieldLink RX0 41 "KneeBench$Bench" "days" "I") (List.mem_of_getElem? (i := 1) rfl)) (fun _ h9 => h9) rfl dX0_canAddDay_1 ?_
  refine lv_bipush (v := 60) hx hb dX0_canAddDay_4 (by decide) ?_
  refine lv_icmp_ge (tgt := 13) hx hb dX0_canAddDay_6 (by decide) (fun c1 => ?_) (fun c1 => ?_)
  · replace h := (if_pos c1).symm.trans h
    refine lv_iconst (v := 0) hx hb dX0_canAddDay_13 (by decide) ?_
    exact hret 14 H locs ls (0 : Int32) h hP hD hS (show isb (0 : Int32) = true by decide) dX0_canAddDay_14
  · replace h := (if_neg c1).symm.trans h
    refine lv_iconst (v := 1) hx hb dX0_canAddDay_9 (by decide) ?_
    refine lv_goto (tgt := 14) hx hb dX0_canAddDay_10 (by decide) ?_
    exact hret 14 H locs ls (1 : Int32) h hP hD hS (show isb (1 : Int32) = true by decide) dX0_canAddDay_14
theorem gd_X0_addDay : wsX0_addDay.all goodWord = true := by decide +kernel
set_option maxRecDepth 20000 in
theorem ggX0_addDay_X0_canAddDay : GoodIn wsX0_addDay wsX0_canAddDay := goodIn_by gd_X0_addDay (List.forall_mem_cons.mpr ⟨List.mem_cons_of_mem _ (List.mem_append_left _ (List.mem_of_getElem? (i := 7) rfl)), List.forall_mem_append.mpr ⟨List.forall_mem_cons.mpr ⟨List.mem_cons_of_mem _ (List.mem_append_left _ (List.mem_of_getElem? (i := 1) rfl)), nowords_in⟩, (fun _ h => List.mem_cons_of_mem _ (List.mem_append_right _ (h)))⟩⟩)
set_option maxRecDepth 20000 in
theorem gX0_addDay_X0_canAddDay : GoodIn wsX0_addDay (wsV RX0 67 RX0 yX0_canAddDay wsX0_canAddDay) := goodIn_app (goodIn_by gd_X0_addDay (List.forall_mem_cons.mpr ⟨List.mem_cons_of_mem _ (List.mem_append_left _ (List.mem_of_getElem? (i := 3) rfl)), List.forall_mem_cons.mpr ⟨List.mem_cons_of_mem _ (List.mem_append_left _ (List.mem_of_getElem? (i := 4) rfl)), List.forall_mem_cons.mpr ⟨List.mem_cons_of_mem _ (List.mem_append_left _ (List.mem_of_getElem? (i := 5) rfl)), List.forall_mem_cons.mpr ⟨List.mem_cons_of_mem _ (List.mem_append_left _ (List.mem_of_getElem? (i := 6) rfl)), nowords_in⟩⟩⟩⟩)) ggX0_addDay_X0_canAddDay
theorem dX0_addDay_0 : decode cX0_addDay 0 = .ok (.aload_n 0, 1) := by decide +kernel
theorem dX0_addDay_1 : decode cX0_addDay 1 = .ok (.invokevirtual 67, 3) := by decide +kernel
theorem dX0_addDay_4 : decode cX0_addDay 4 = .ok (.ifCond .ne 4, 3) := by decide +kernel
theorem dX0_addDay_7 : decode cX0_addDay 7 = .ok (.return_, 1) := by decide +kernel
theorem dX0_addDay_8 : decode cX0_addDay 8 = .ok (.iload_n 1, 1) := by decide +kernel
theorem dX0_addDay_9 : decode cX0_addDay 9 = .ok (.ifCond .eq 18, 3) := by decide +kernel
theorem dX0_addDay_12 : decode cX0_addDay 12 = .ok (.aload_n 0, 1) := by decide +kernel
theorem dX0_addDay_13 : decode cX0_addDay 13 = .ok (.dup, 1) := by decide +kernel
theorem dX0_addDay_14 : decode cX0_addDay 14 = .ok (.getfield 44, 3) := by decide +kernel
theorem dX0_addDay_17 : decode cX0_addDay 17 = .ok (.lconst 1, 1) := by decide +kernel
theorem dX0_addDay_18 : decode cX0_addDay 18 = .ok (.aload_n 0, 1) := by decide +kernel
theorem dX0_addDay_19 : decode cX0_addDay 19 = .ok (.getfield 41, 3) := by decide +kernel
theorem dX0_addDay_22 : decode cX0_addDay 22 = .ok (.lshl, 1) := by decide +kernel
theorem dX0_addDay_23 : decode cX0_addDay 23 = .ok (.lor, 1) := by decide +kernel
theorem dX0_addDay_24 : decode cX0_addDay 24 = .ok (.putfield 44, 3) := by decide +kernel
theorem dX0_addDay_27 : decode cX0_addDay 27 = .ok (.iload_n 1, 1) := by decide +kernel
theorem dX0_addDay_28 : decode cX0_addDay 28 = .ok (.iconst 2, 1) := by decide +kernel
theorem dX0_addDay_29 : decode cX0_addDay 29 = .ok (.if_icmp .ne 18, 3) := by decide +kernel
theorem dX0_addDay_32 : decode cX0_addDay 32 = .ok (.aload_n 0, 1) := by decide +kernel
theorem dX0_addDay_33 : decode cX0_addDay 33 = .ok (.dup, 1) := by decide +kernel
theorem dX0_addDay_34 : decode cX0_addDay 34 = .ok (.getfield 48, 3) := by decide +kernel
theorem dX0_addDay_37 : decode cX0_addDay 37 = .ok (.lconst 1, 1) := by decide +kernel
theorem dX0_addDay_38 : decode cX0_addDay 38 = .ok (.aload_n 0, 1) := by decide +kernel
theorem dX0_addDay_39 : decode cX0_addDay 39 = .ok (.getfield 41, 3) := by decide +kernel
theorem dX0_addDay_42 : decode cX0_addDay 42 = .ok (.lshl, 1) := by decide +kernel
theorem dX0_addDay_43 : decode cX0_addDay 43 = .ok (.lor, 1) := by decide +kernel
theorem dX0_addDay_44 : decode cX0_addDay 44 = .ok (.putfield 48, 3) := by decide +kernel
theorem dX0_addDay_47 : decode cX0_addDay 47 = .ok (.aload_n 0, 1) := by decide +kernel
theorem dX0_addDay_48 : decode cX0_addDay 48 = .ok (.dup, 1) := by decide +kernel
theorem dX0_addDay_49 : decode cX0_addDay 49 = .ok (.getfield 41, 3) := by decide +kernel
theorem dX0_addDay_52 : decode cX0_addDay 52 = .ok (.iconst 1, 1) := by decide +kernel
theorem dX0_addDay_53 : decode cX0_addDay 53 = .ok (.iadd, 1) := by decide +kernel
theorem dX0_addDay_54 : decode cX0_addDay 54 = .ok (.putfield 41, 3) := by decide +kernel
theorem dX0_addDay_57 : decode cX0_addDay 57 = .ok (.return_, 1) := by decide +kernel
abbrev rmX0_addDay : Room := { frames := 1, cells := 0, slots := 0, locals := 20 }
set_option maxHeartbeats 4000000 in
set_option maxRecDepth 100000 in
theorem kX0_addDay (l : Launch) (D : va_G) (cy : Nat → ClassId) (h0 : Nat) (a0 : Nat → Nat) (s0 : Rc) (p1 : Int32) (res : Rc) (h : fX0_addDay p1 s0 = res) : CV l D cy yX0_addDay wsX0_addDay rmX0_addDay [.ref h0, .int p1] (flat [WX0 cy h0 a0 s0]) (flat [WX0 cy h0 a0 res]) := by
  refine CV.of (cc := cX0_addDay) (maxL := 2) (by decide) rfl (Nat.le_of_ble_eq_true rfl) ?_
  intro p e s m args below meth c A QQ ls E hr
  obtain ⟨hx, hb, hml, hown, hts, hK, hN, hP, hD, hA, hl⟩ := E
  have hret : ∀ (pc : Nat) (H : Heap) (locs : List Loc) (ls : Array Slot) (u : Rc), u = res → va_P D vwCl (flat [WX0 cy h0 a0 u]) H → va_D A (flat [WX0 cy h0 a0 u]) → va_S A s.heap H locs → decode cX0_addDay pc = .ok (.return_, 1) → W p l e rmX0_addDay s m args below meth c H locs 0 0 QQ (F0 m pc ls []) := by
    intro pc H locs ls u hu hP hD hS hd; subst hu; exact hr pc H locs ls hP hD hS hd
  clear hr
  have hl : lv_has ls 2 [(0, .ref h0), (1, .int p1)] := hl
  have hinX0 : ∀ w ∈ wsX00, w ∈ wsX0_addDay := fun _ h => List.mem_cons_of_mem _ (List.mem_append_right _ h)
  unfold fX0_addDay at h
  suffices key : ∀ (H : Heap) (locs : List Loc), va_P D vwCl (flat [WX0 cy h0 a0 s0]) H → va_S A s.heap H locs → W p l e rmX0_addDay s m args below meth c H locs 0 0 QQ (F0 m 0 ls []) from key _ _ hP va_S.rf
  clear hP
  intro H locs hP hS
  have J27 : ∀ (t27_0 : Rc) (H : Heap) (locs : List Loc) (ls : Array Slot), lv_has ls 2 [(0, .ref h0), (1, .int p1)] → va_P D vwCl (flat [WX0 cy h0 a0 t27_0]) H → va_D A (flat [WX0 cy h0 a0 t27_0]) → va_S A s.heap H locs → fX0_addDay_J27 p1 t27_0 = res → W p l e rmX0_addDay s m args below meth c H locs 0 0 QQ (F0 m 27 ls []) := by
    intro t27_0 H locs ls hl hP hD hS h
    unfold fX0_addDay_J27 at h
    refine lv_iload_n hx hb dX0_addDay_27 rfl (lv_at hl 1 rfl) ?_
    refine lv_iconst (v := 2) hx hb dX0_addDay_28 (by decide) ?_
    refine lv_icmp_ne (tgt := 47) hx hb dX0_addDay_29 (by decide) (fun c1 => ?_) (fun c1 => ?_)
    · replace h := (if_neg c1).symm.trans h
      refine lv_aload_n hx hb dX0_addDay_47 rfl (lv_at hl 0 rfl) ?_
      refine lv_dup hx hb dX0_addDay_48 rfl ?_
      refine va_get (D := D) (ci := 0) (v := .int (gi t27_0 9)) (C := RX0) (T := TX0) (N := 14) hx hb hts hinX0 hown hK hP 0 rfl rfl 9 (by decide) (hts (.fieldLink RX0 41 "KneeBench$Bench" "days" "I") (List.mem_of_getElem? (i := 2) rfl)) (fun _ h9 => h9) rfl dX0_addDay_49 ?_
      refine lv_iconst (v := 1) hx hb dX0_addDay_52 (by decide) ?_
      refine lv_iadd hx hb dX0_addDay_53 ?_
      obtain ⟨s0_2, es, h⟩ := lt_elim h
      refine va_put (D := D) (ci := 0) (v := .int ((gi t27_0 9) + (1 : Int32))) (ty := .int) (C := RX0) (T := TX0) (N := 14) hx hb hts hinX0 tyX0 tyX0_ok nmX0 hown hK hP hD hS 0 rfl rfl 9 (by decide) (hts (.fieldLink RX0 41 "KneeBench$Bench" "days" "I") (List.mem_of_getElem? (i := 2) rfl)) (fun _ h9 => h9) rfl (by decide +kernel) rfl rfl (Nat.le_of_ble_eq_true rfl) dX0_addDay_54 (fun H locs hP hD hS => ?_)
      have hP : va_P D vwCl (flat [WX0 cy h0 a0 s0_2]) H := by rw [es]; exact hP
      have hD : va_D A (flat [WX0 cy h0 a0 s0_2]) := by rw [es]; exact hD
      clear es
      exact hret 57 H locs ls s0_2 h hP hD hS dX0_addDay_57
    · replace h := (if_pos c1).symm.trans h
      refine lv_aload_n hx hb dX0_addDay_32 rfl (lv_at hl 0 rfl) ?_
      refine lv_dup hx hb dX0_addDay_33 rfl ?_
      refine va_get (D := D) (ci := 0) (v := .long (gl t27_0 11)) (C := RX0) (T := TX0) (N := 14) hx hb hts hinX0 hown hK hP 0 rfl rfl 11 (by decide) (hts (.fieldLink RX0 48 "KneeBench$Bench" "hail" "J") (List.mem_of_getElem? (i := 3) rfl)) (fun _ h9 => h9) rfl dX0_addDay_34 ?_
      refine lv_lconst (v := 1) hx hb dX0_addDay_37 (by decide) ?_
      refine lv_aload_n hx hb dX0_addDay_38 rfl (lv_at hl 0 rfl) ?_
      refine va_get (D := D) (ci := 0) (v := .int (gi t27_0 9)) (C := RX0) (T := TX0) (N := 14) hx hb hts hinX0 hown hK hP 0 rfl rfl 9 (by decide) (hts (.fieldLink RX0 41 "KneeBench$Bench" "days" "I") (List.mem_of_getElem? (i := 2) rfl)) (fun _ h9 => h9) rfl dX0_addDay_39 ?_
      refine lv_lshl hx hb dX0_addDay_42 rfl ?_
      refine lv_lor hx hb dX0_addDay_43 ?_
      obtain ⟨s0_3, es, h⟩ := lt_elim h
      refine va_put (D := D) (ci := 0) (v := .long ((gl t27_0 11) ||| ((1 : Int64) <<< ((gi t27_0 9).toInt64 &&& 63)))) (ty := .long) (C := RX0) (T := TX0) (N := 14) hx hb hts hinX0 tyX0 tyX0_ok nmX0 hown hK hP hD hS 0 rfl rfl 11 (by decide) (hts (.fieldLink RX0 48 "KneeBench$Bench" "hail" "J") (List.mem_of_getElem? (i := 3) rfl)) (fun _ h9 => h9) rfl (by decide +kernel) rfl rfl (Nat.le_of_ble_eq_true rfl) dX0_addDay_44 (fun H locs hP hD hS => ?_)
      have hP : va_P D vwCl (flat [WX0 cy h0 a0 s0_3]) H := by rw [es]; exact hP
      have hD : va_D A (flat [WX0 cy h0 a0 s0_3]) := by rw [es]; exact hD
      clear es
      refine lv_aload_n hx hb dX0_addDay_47 rfl (lv_at hl 0 rfl) ?_
      refine lv_dup hx hb dX0_addDay_48 rfl ?_
      refine va_get (D := D) (ci := 0) (v := .int (gi s0_3 9)) (C := RX0) (T := TX0) (N := 14) hx hb hts hinX0 hown hK hP 0 rfl rfl 9 (by decide) (hts (.fieldLink RX0 41 "KneeBench$Bench" "days" "I") (List.mem_of_getElem? (i := 2) rfl)) (fun _ h9 => h9) rfl dX0_addDay_49 ?_
      refine lv_iconst (v := 1) hx hb dX0_addDay_52 (by decide) ?_
      refine lv_iadd hx hb dX0_addDay_53 ?_
      obtain ⟨s0_4, es, h⟩ := lt_elim h
      refine va_put (D := D) (ci := 0) (v := .int ((gi s0_3 9) + (1 : Int32))) (ty := .int) (C := RX0) (T := TX0) (N := 14) hx hb hts hinX0 tyX0 tyX0_ok nmX0 hown hK hP hD hS 0 rfl rfl 9 (by decide) (hts (.fieldLink RX0 41 "KneeBench$Bench" "days" "I") (List.mem_of_getElem? (i := 2) rfl)) (fun _ h9 => h9) rfl (by decide +kernel) rfl rfl (Nat.le_of_ble_eq_true rfl) dX0_addDay_54 (fun H locs hP hD hS => ?_)
      have hP : va_P D vwCl (flat [WX0 cy h0 a0 s0_4]) H := by rw [es]; exact hP
      have hD : va_D A (flat [WX0 cy h0 a0 s0_4]) := by rw [es]; exact hD
      clear es
      exact hret 57 H locs ls s0_4 h hP hD hS dX0_addDay_57
  refine lv_aload_n hx hb dX0_addDay_0 rfl (lv_at hl 0 rfl) ?_
  refine ca_z (w' := [WX0 cy h0 a0 s0]) (rn_V (As := []) (rest := []) ⟨hx, hb, hml, hown, hts⟩ (kX0_canAddDay l D cy h0 a0 s0 _ rfl H.size) (cwV 0 hts gX0_addDay_X0_canAddDay rfl rfl rfl (by decide +kernel) ⟨Nat.le_of_ble_eq_true rfl, Nat.le_of_ble_eq_true rfl⟩) hK hN hP hD [0] rfl rfl (ci := 0) (q0 := 0) rfl rfl rfl rfl hl.1 rfl (Nat.le_of_ble_eq_true rfl) dX0_addDay_1 ⟨Nat.le_refl 0, Nat.le_refl 0⟩) hP hD hS hA [0] ⟨rfl, rfl, rfl, rfl⟩ (fun b5 H locs hP hD hS => ?_)
  refine lv_if_ne (tgt := 8) hx hb dX0_addDay_4 (by decide) (fun c6 => ?_) (fun c6 => ?_)
  · replace h := (if_neg c6).symm.trans h
    refine lv_iload_n hx hb dX0_addDay_8 rfl (lv_at hl 1 rfl) ?_
    refine lv_if_eq (tgt := 27) hx hb dX0_addDay_9 (by decide) (fun c7 => ?_) (fun c7 => ?_)
    · replace h := (if_pos c7).symm.trans h
      exact J27 s0 H locs ls (lv_sub hl [0, 1] rfl) hP hD hS h
    · replace h := (if_neg c7).symm.trans h
      refine lv_aload_n hx hb dX0_addDay_12 rfl (lv_at hl 0 rfl) ?_
      refine lv_dup hx hb dX0_addDay_13 rfl ?_
      refine va_get (D := D) (ci := 0) (v := .long (gl s0 10)) (C := RX0) (T := TX0) (N := 14) hx hb hts hinX0 hown hK hP 0 rfl rfl 10 (by decide) (hts (.fieldLink RX0 44 "KneeBench$Bench" "wet" "J") (List.mem_of_getElem? (i := 1) rfl)) (fun _ h9 => h9) rfl dX0_addDay_14 ?_
      refine lv_lconst (v := 1) hx hb dX0_addDay_17 (by decide) ?_
      refine lv_aload_n hx hb dX0_addDay_18 rfl (lv_at hl 0 rfl) ?_
      refine va_get (D := D) (ci := 0) (v := .int (gi s0 9)) (C := RX0) (T := TX0) (N := 14) hx hb hts hinX0 hown hK hP 0 rfl rfl 9 (by decide) (hts (.fieldLink RX0 41 "KneeBench$Bench" "days" "I") (List.mem_of_getElem? (i := 2) rfl)) (fun _ h9 => h9) rfl dX0_addDay_19 ?_
      refine lv_lshl hx hb dX0_addDay_22 rfl ?_
      refine lv_lor hx hb dX0_addDay_23 ?_
      obtain ⟨s0_8, es, h⟩ := lt_elim h
      refine va_put (D := D) (ci := 0) (v := .long ((gl s0 10) ||| ((1 : Int64) <<< ((gi s0 9).toInt64 &&& 63)))) (ty := .long) (C := RX0) (T := TX0) (N := 14) hx hb hts hinX0 tyX0 tyX0_ok nmX0 hown hK hP hD hS 0 rfl rfl 10 (by decide) (hts (.fieldLink RX0 44 "KneeBench$Bench" "wet" "J") (List.mem_of_getElem? (i := 1) rfl)) (fun _ h9 => h9) rfl (by decide +kernel) rfl rfl (Nat.le_of_ble_eq_true rfl) dX0_addDay_24 (fun H locs hP hD hS => ?_)
      have hP : va_P D vwCl (flat [WX0 cy h0 a0 s0_8]) H := by rw [es]; exact hP
      have hD : va_D A (flat [WX0 cy h0 a0 s0_8]) := by rw [es]; exact hD
      clear es
      exact J27 s0_8 H locs ls (lv_sub hl [0, 1] rfl) hP hD hS h
  · replace h := (if_pos c6).symm.trans h
    exact hret 7 H locs ls s0 h hP hD hS dX0_addDay_7
theorem dJ13_bitCount_95d88_0 : decode cJ13_bitCount_95d88 0 = .ok (.lload_n 0, 1) := by decide +kernel
theorem dJ13_bitCount_95d88_1 : decode cJ13_bitCount_95d88 1 = .ok (.lload_n 0, 1) := by decide +kernel
theorem dJ13_bitCount_95d88_2 : decode cJ13_bitCount_95d88 2 = .ok (.iconst 1, 1) := by decide +kernel
theorem dJ13_bitCount_95d88_3 : decode cJ13_bitCount_95d88 3 = .ok (.lushr, 1) := by decide +kernel
theorem dJ13_bitCount_95d88_4 : decode cJ13_bitCount_95d88 4 = .ok (.ldc2_w 314, 3) := by decide +kernel
theorem dJ13_bitCount_95d88_7 : decode cJ13_bitCount_95d88 7 = .ok (.land, 1) := by decide +kernel
theorem dJ13_bitCount_95d88_8 : decode cJ13_bitCount_95d88 8 = .ok (.lsub, 1) := by decide +kernel
theorem dJ13_bitCount_95d88_9 : decode cJ13_bitCount_95d88 9 = .ok (.lstore_n 0, 1) := by decide +kernel
theorem dJ13_bitCount_95d88_10 : decode cJ13_bitCount_95d88 10 = .ok (.lload_n 0, 1) := by decide +kernel
theorem dJ13_bitCount_95d88_11 : decode cJ13_bitCount_95d88 11 = .ok (.ldc2_w 316, 3) := by decide +kernel
theorem dJ13_bitCount_95d88_14 : decode cJ13_bitCount_95d88 14 = .ok (.land, 1) := by decide +kernel
theorem dJ13_bitCount_95d88_15 : decode cJ13_bitCount_95d88 15 = .ok (.lload_n 0, 1) := by decide +kernel
theorem dJ13_bitCount_95d88_16 : decode cJ13_bitCount_95d88 16 = .ok (.iconst 2, 1) := by decide +kernel
theorem dJ13_bitCount_95d88_17 : decode cJ13_bitCount_95d88 17 = .ok (.lushr, 1) := by decide +kernel
theorem dJ13_bitCount_95d88_18 : decode cJ13_bitCount_95d88 18 = .ok (.ldc2_w 316, 3) := by decide +kernel
theorem dJ13_bitCount_95d88_21 : decode cJ13_bitCount_95d88 21 = .ok (.land, 1) := by decide +kernel
theorem dJ13_bitCount_95d88_22 : decode cJ13_bitCount_95d88 22 = .ok (.ladd, 1) := by decide +kernel
theorem dJ13_bitCount_95d88_23 : decode cJ13_bitCount_95d88 23 = .ok (.lstore_n 0, 1) := by decide +kernel
theorem dJ13_bitCount_95d88_24 : decode cJ13_bitCount_95d88 24 = .ok (.lload_n 0, 1) := by decide +kernel
theorem dJ13_bitCount_95d88_25 : decode cJ13_bitCount_95d88 25 = .ok (.lload_n 0, 1) := by decide +kernel
theorem dJ13_bitCount_95d88_26 : decode cJ13_bitCount_95d88 26 = .ok (.iconst 4, 1) := by decide +kernel
theorem dJ13_bitCount_95d88_27 : decode cJ13_bitCount_95d88 27 = .ok (.lushr, 1) := by decide +kernel
theorem dJ13_bitCount_95d88_28 : decode cJ13_bitCount_95d88 28 = .ok (.ladd, 1) := by decide +kernel
theorem dJ13_bitCount_95d88_29 : decode cJ13_bitCount_95d88 29 = .ok (.ldc2_w 318, 3) := by decide +kernel
theorem dJ13_bitCount_95d88_32 : decode cJ13_bitCount_95d88 32 = .ok (.land, 1) := by decide +kernel
theorem dJ13_bitCount_95d88_33 : decode cJ13_bitCount_95d88 33 = .ok (.lstore_n 0, 1) := by decide +kernel
theorem dJ13_bitCount_95d88_34 : decode cJ13_bitCount_95d88 34 = .ok (.lload_n 0, 1) := by decide +kernel
theorem dJ13_bitCount_95d88_35 : decode cJ13_bitCount_95d88 35 = .ok (.lload_n 0, 1) := by decide +kernel
theorem dJ13_bitCount_95d88_36 : decode cJ13_bitCount_95d88 36 = .ok (.bipush 8, 2) := by decide +kernel
theorem dJ13_bitCount_95d88_38 : decode cJ13_bitCount_95d88 38 = .ok (.lushr, 1) := by decide +kernel
theorem dJ13_bitCount_95d88_39 : decode cJ13_bitCount_95d88 39 = .ok (.ladd, 1) := by decide +kernel
theorem dJ13_bitCount_95d88_40 : decode cJ13_bitCount_95d88 40 = .ok (.lstore_n 0, 1) := by decide +kernel
theorem dJ13_bitCount_95d88_41 : decode cJ13_bitCount_95d88 41 = .ok (.lload_n 0, 1) := by decide +kernel
theorem dJ13_bitCount_95d88_42 : decode cJ13_bitCount_95d88 42 = .ok (.lload_n 0, 1) := by decide +kernel
theorem dJ13_bitCount_95d88_43 : decode cJ13_bitCount_95d88 43 = .ok (.bipush 16, 2) := by decide +kernel
theorem dJ13_bitCount_95d88_45 : decode cJ13_bitCount_95d88 45 = .ok (.lushr, 1) := by decide +kernel
theorem dJ13_bitCount_95d88_46 : decode cJ13_bitCount_95d88 46 = .ok (.ladd, 1) := by decide +kernel
theorem dJ13_bitCount_95d88_47 : decode cJ13_bitCount_95d88 47 = .ok (.lstore_n 0, 1) := by decide +kernel
theorem dJ13_bitCount_95d88_48 : decode cJ13_bitCount_95d88 48 = .ok (.lload_n 0, 1) := by decide +kernel
theorem dJ13_bitCount_95d88_49 : decode cJ13_bitCount_95d88 49 = .ok (.lload_n 0, 1) := by decide +kernel
theorem dJ13_bitCount_95d88_50 : decode cJ13_bitCount_95d88 50 = .ok (.bipush 32, 2) := by decide +kernel
theorem dJ13_bitCount_95d88_52 : decode cJ13_bitCount_95d88 52 = .ok (.lushr, 1) := by decide +kernel
theorem dJ13_bitCount_95d88_53 : decode cJ13_bitCount_95d88 53 = .ok (.ladd, 1) := by decide +kernel
theorem dJ13_bitCount_95d88_54 : decode cJ13_bitCount_95d88 54 = .ok (.lstore_n 0, 1) := by decide +kernel
theorem dJ13_bitCount_95d88_55 : decode cJ13_bitCount_95d88 55 = .ok (.lload_n 0, 1) := by decide +kernel
theorem dJ13_bitCount_95d88_56 : decode cJ13_bitCount_95d88 56 = .ok (.l2i, 1) := by decide +kernel
theorem dJ13_bitCount_95d88_57 : decode cJ13_bitCount_95d88 57 = .ok (.bipush 127, 2) := by decide +kernel
theorem dJ13_bitCount_95d88_59 : decode cJ13_bitCount_95d88 59 = .ok (.iand, 1) := by decide +kernel
theorem dJ13_bitCount_95d88_60 : decode cJ13_bitCount_95d88 60 = .ok (.ireturn, 1) := by decide +kernel
abbrev rmJ13_bitCount_95d88 : Room := { frames := 0, cells := 0, slots := 0, locals := 0 }
set_option maxHeartbeats 4000000 in
set_option maxRecDepth 100000 in
theorem kJ13_bitCount_95d88 (l : Launch) (D : va_G) (cy : Nat → ClassId) (p1 : Int64) (res : Int32) (h : fJ13_bitCount_95d88 p1 = res) : CI l D cy yJ13_bitCount_95d88 wsJ13_bitCount_95d88 rmJ13_bitCount_95d88 [.long p1] (flat []) (flat []) res := by
  refine CI.of (cc := cJ13_bitCount_95d88) (maxL := 2) (by decide) rfl (Nat.le_of_ble_eq_true rfl) ?_
  intro p e s m args below meth c A QQ ls E hr
  obtain ⟨hx, hb, hml, hown, hts, hK, hN, hP, hD, hA, hl⟩ := E
  have hret : ∀ (pc : Nat) (H : Heap) (locs : List Loc) (ls : Array Slot) (u : Int32), u = res → va_P D vwCl (flat []) H → va_D A (flat []) → va_S A s.heap H locs → decode cJ13_bitCount_95d88 pc = .ok (.ireturn, 1) → W p l e rmJ13_bitCount_95d88 s m args below meth c H locs 0 0 QQ (F0 m pc ls [.int u]) := by
    intro pc H locs ls u hu hP hD hS hd; subst hu; exact hr pc H locs ls _ rfl hP hD hS hd
  clear hr
  have hl : lv_has ls 2 [(0, .long p1)] := hl
  unfold fJ13_bitCount_95d88 at h
  suffices key : ∀ (H : Heap) (locs : List Loc), va_P D vwCl (flat []) H → va_S A s.heap H locs → W p l e rmJ13_bitCount_95d88 s m args below meth c H locs 0 0 QQ (F0 m 0 ls []) from key _ _ hP va_S.rf
  clear hP
  intro H locs hP hS
  refine lv_lload_n hx hb dJ13_bitCount_95d88_0 rfl (lv_at hl 0 rfl) ?_
  refine lv_lload_n hx hb dJ13_bitCount_95d88_1 rfl (lv_at hl 0 rfl) ?_
  refine lv_iconst (v := 1) hx hb dJ13_bitCount_95d88_2 (by decide) ?_
  refine lv_lushr hx hb dJ13_bitCount_95d88_3 rfl ?_
  refine lv_ldc2 (v := 6148914691236517205) hx hb hown (hts (.constantLong RJ13 314 (6148914691236517205)) (List.mem_of_getElem? (i := 1) rfl)) dJ13_bitCount_95d88_4 ?_
  refine lv_land hx hb dJ13_bitCount_95d88_7 ?_
  refine lv_lsub hx hb dJ13_bitCount_95d88_8 ?_
  refine lv_topl (fun x1 ex1 => ?_)
  replace h := lt_use h x1 ex1
  refine lv_lstore_n (lv' := [(0, .long x1)]) hx hb dJ13_bitCount_95d88_9 rfl hl (by decide) rfl (fun ls hl => ?_)
  refine lv_lload_n hx hb dJ13_bitCount_95d88_10 rfl (lv_at hl 0 rfl) ?_
  refine lv_ldc2 (v := 3689348814741910323) hx hb hown (hts (.constantLong RJ13 316 (3689348814741910323)) (List.mem_of_getElem? (i := 2) rfl)) dJ13_bitCount_95d88_11 ?_
  refine lv_land hx hb dJ13_bitCount_95d88_14 ?_
  refine lv_lload_n hx hb dJ13_bitCount_95d88_15 rfl (lv_at hl 0 rfl) ?_
  refine lv_iconst (v := 2) hx hb dJ13_bitCount_95d88_16 (by decide) ?_
  refine lv_lushr hx hb dJ13_bitCount_95d88_17 rfl ?_
  refine lv_ldc2 (v := 3689348814741910323) hx hb hown (hts (.constantLong RJ13 316 (3689348814741910323)) (List.mem_of_getElem? (i := 2) rfl)) dJ13_bitCount_95d88_18 ?_
  refine lv_land hx hb dJ13_bitCount_95d88_21 ?_
  refine lv_ladd hx hb dJ13_bitCount_95d88_22 ?_
  refine lv_topl (fun x2 ex2 => ?_)
  replace h := lt_use h x2 ex2
  refine lv_lstore_n (lv' := [(0, .long x2)]) hx hb dJ13_bitCount_95d88_23 rfl hl (by decide) rfl (fun ls hl => ?_)
  refine lv_lload_n hx hb dJ13_bitCount_95d88_24 rfl (lv_at hl 0 rfl) ?_
  refine lv_lload_n hx hb dJ13_bitCount_95d88_25 rfl (lv_at hl 0 rfl) ?_
  refine lv_iconst (v := 4) hx hb dJ13_bitCount_95d88_26 (by decide) ?_
  refine lv_lushr hx hb dJ13_bitCount_95d88_27 rfl ?_
  refine lv_ladd hx hb dJ13_bitCount_95d88_28 ?_
  refine lv_ldc2 (v := 1085102592571150095) hx hb hown (hts (.constantLong RJ13 318 (1085102592571150095)) (List.mem_of_getElem? (i := 3) rfl)) dJ13_bitCount_95d88_29 ?_
  refine lv_land hx hb dJ13_bitCount_95d88_32 ?_
  refine lv_topl (fun x3 ex3 => ?_)
  replace h := lt_use h x3 ex3
  refine lv_lstore_n (lv' := [(0, .long x3)]) hx hb dJ13_bitCount_95d88_33 rfl hl (by decide) rfl (fun ls hl => ?_)
  refine lv_lload_n hx hb dJ13_bitCount_95d88_34 rfl (lv_at hl 0 rfl) ?_
  refine lv_lload_n hx hb dJ13_bitCount_95d88_35 rfl (lv_at hl 0 rfl) ?_
  refine lv_bipush (v := 8) hx hb dJ13_bitCount_95d88_36 (by decide) ?_
  refine lv_lushr hx hb dJ13_bitCount_95d88_38 rfl ?_
  refine lv_ladd hx hb dJ13_bitCount_95d88_39 ?_
  refine lv_topl (fun x4 ex4 => ?_)
  replace h := lt_use h x4 ex4
  refine lv_lstore_n (lv' := [(0, .long x4)]) hx hb dJ13_bitCount_95d88_40 rfl hl (by decide) rfl (fun ls hl => ?_)
  refine lv_lload_n hx hb dJ13_bitCount_95d88_41 rfl (lv_at hl 0 rfl) ?_
  refine lv_lload_n hx hb dJ13_bitCount_95d88_42 rfl (lv_at hl 0 rfl) ?_
  refine lv_bipush (v := 16) hx hb dJ13_bitCount_95d88_43 (by decide) ?_
  refine lv_lushr hx hb dJ13_bitCount_95d88_45 rfl ?_
  refine lv_ladd hx hb dJ13_bitCount_95d88_46 ?_
  refine lv_topl (fun x5 ex5 => ?_)
  replace h := lt_use h x5 ex5
  refine lv_lstore_n (lv' := [(0, .long x5)]) hx hb dJ13_bitCount_95d88_47 rfl hl (by decide) rfl (fun ls hl => ?_)
  refine lv_lload_n hx hb dJ13_bitCount_95d88_48 rfl (lv_at hl 0 rfl) ?_
  refine lv_lload_n hx hb dJ13_bitCount_95d88_49 rfl (lv_at hl 0 rfl) ?_
  refine lv_bipush (v := 32) hx hb dJ13_bitCount_95d88_50 (by decide) ?_
  refine lv_lushr hx hb dJ13_bitCount_95d88_52 rfl ?_
  refine lv_ladd hx hb dJ13_bitCount_95d88_53 ?_
  refine lv_topl (fun x6 ex6 => ?_)
  replace h := lt_use h x6 ex6
  refine lv_lstore_n (lv' := [(0, .long x6)]) hx hb dJ13_bitCount_95d88_54 rfl hl (by decide) rfl (fun ls hl => ?_)
  refine lv_lload_n hx hb dJ13_bitCount_95d88_55 rfl (lv_at hl 0 rfl) ?_
  refine lv_l2i hx hb dJ13_bitCount_95d88_56 rfl ?_
  refine lv_bipush (v := 127) hx hb dJ13_bitCount_95d88_57 (by decide) ?_
  refine lv_iand hx hb dJ13_bitCount_95d88_59 ?_
  exact hret 60 H locs ls (x6.toInt32 &&& (127 : Int32)) h hP hD hS dJ13_bitCount_95d88_60
theorem gd_X0_allTwinges : wsX0_allTwinges.all goodWord = true := by decide +kernel
set_option maxRecDepth 20000 in
theorem ggX0_allTwinges_J13_bitCount_95d88 : GoodIn wsX0_allTwinges wsJ13_bitCount_95d88 := goodIn_by gd_X0_allTwinges (List.forall_mem_cons.mpr ⟨List.mem_cons_of_mem _ (List.mem_append_left _ (List.mem_of_getElem? (i := 5) rfl)), List.forall_mem_cons.mpr ⟨List.mem_cons_of_mem _ (List.mem_append_left _ (List.mem_of_getElem? (i := 6) rfl)), List.forall_mem_cons.mpr ⟨List.mem_cons_of_mem _ (List.mem_append_left _ (List.mem_of_getElem? (i := 7) rfl)), List.forall_mem_cons.mpr ⟨List.mem_cons_of_mem _ (List.mem_append_left _ (List.mem_of_getElem? (i := 8) rfl)), nowords_in⟩⟩⟩⟩)
set_option maxRecDepth 20000 in
theorem gX0_allTwinges_J13_bitCount_95d88 : GoodIn wsX0_allTwinges (va_wsS RX0 103 yJ13_bitCount_95d88 wsJ13_bitCount_95d88) := goodIn_app (goodIn_by gd_X0_allTwinges (List.forall_mem_cons.mpr ⟨List.mem_cons_of_mem _ (List.mem_append_left _ (List.mem_of_getElem? (i := 2) rfl)), List.forall_mem_cons.mpr ⟨List.mem_cons_of_mem _ (List.mem_append_left _ (List.mem_of_getElem? (i := 3) rfl)), List.forall_mem_cons.mpr ⟨List.mem_cons_of_mem _ (List.mem_append_left _ (List.mem_of_getElem? (i := 4) rfl)), nowords_in⟩⟩⟩)) ggX0_allTwinges_J13_bitCount_95d88
theorem dX0_allTwinges_0 : decode cX0_allTwinges 0 = .ok (.iconst 0, 1) := by decide +kernel
theorem dX0_allTwinges_1 : decode cX0_allTwinges 1 = .ok (.istore_n 1, 1) := by decide +kernel
theorem dX0_allTwinges_2 : decode cX0_allTwinges 2 = .ok (.iconst 0, 1) := by decide +kernel
theorem dX0_allTwinges_3 : decode cX0_allTwinges 3 = .ok (.istore_n 2, 1) := by decide +kernel
theorem dX0_allTwinges_4 : decode cX0_allTwinges 4 = .ok (.iload_n 2, 1) := by decide +kernel
theorem dX0_allTwinges_5 : decode cX0_allTwinges 5 = .ok (.aload_n 0, 1) := by decide +kernel
theorem dX0_allTwinges_6 : decode cX0_allTwinges 6 = .ok (.getfield 37, 3) := by decide +kernel
theorem dX0_allTwinges_9 : decode cX0_allTwinges 9 = .ok (.if_icmp .ge 21, 3) := by decide +kernel
theorem dX0_allTwinges_12 : decode cX0_allTwinges 12 = .ok (.iload_n 1, 1) := by decide +kernel
theorem dX0_allTwinges_13 : decode cX0_allTwinges 13 = .ok (.aload_n 0, 1) := by decide +kernel
theorem dX0_allTwinges_14 : decode cX0_allTwinges 14 = .ok (.getfield 31, 3) := by decide +kernel
theorem dX0_allTwinges_17 : decode cX0_allTwinges 17 = .ok (.iload_n 2, 1) := by decide +kernel
theorem dX0_allTwinges_18 : decode cX0_allTwinges 18 = .ok (.laload, 1) := by decide +kernel
theorem dX0_allTwinges_19 : decode cX0_allTwinges 19 = .ok (.invokestatic 103, 3) := by decide +kernel
theorem dX0_allTwinges_22 : decode cX0_allTwinges 22 = .ok (.iadd, 1) := by decide +kernel
theorem dX0_allTwinges_23 : decode cX0_allTwinges 23 = .ok (.istore_n 1, 1) := by decide +kernel
theorem dX0_allTwinges_24 : decode cX0_allTwinges 24 = .ok (.iinc 2 1, 3) := by decide +kernel
theorem dX0_allTwinges_27 : decode cX0_allTwinges 27 = .ok (.goto (-23), 3) := by decide +kernel
theorem dX0_allTwinges_30 : decode cX0_allTwinges 30 = .ok (.iload_n 1, 1) := by decide +kernel
theorem dX0_allTwinges_31 : decode cX0_allTwinges 31 = .ok (.ireturn, 1) := by decide +kernel
abbrev rmX0_allTwinges : Room := { frames := 1, cells := 0, slots := 0, locals := 21 }
set_option maxHeartbeats 4000000 in
set_option maxRecDepth 100000 in
theorem kX0_allTwinges (l : Launch) (D : va_G) (cy : Nat → ClassId) (h0 : Nat) (a0 : Nat → Nat) (s0 : Rc) (res : Int32) (h : fX0_allTwinges s0 = some res) : CI l D cy yX0_allTwinges wsX0_allTwinges rmX0_allTwinges [.ref h0] (flat [WX0 cy h0 a0 s0]) (flat [WX0 cy h0 a0 s0]) res := by
  refine CI.of (cc := cX0_allTwinges) (maxL := 3) (by decide) rfl (Nat.le_of_ble_eq_true rfl) ?_
  intro p e s m args below meth c A QQ ls E hr
  obtain ⟨hx, hb, hml, hown, hts, hK, hN, hP, hD, hA, hl⟩ := E
  have hret : ∀ (pc : Nat) (H : Heap) (locs : List Loc) (ls : Array Slot) (u : Int32), u = res → va_P D vwCl (flat [WX0 cy h0 a0 s0]) H → va_D A (flat [WX0 cy h0 a0 s0]) → va_S A s.heap H locs → decode cX0_allTwinges pc = .ok (.ireturn, 1) → W p l e rmX0_allTwinges s m args below meth c H locs 0 0 QQ (F0 m pc ls [.int u]) := by
    intro pc H locs ls u hu hP hD hS hd; subst hu; exact hr pc H locs ls _ rfl hP hD hS hd
  clear hr
  have hl : lv_has ls 3 [(0, .ref h0)] := hl
  have hinX0 : ∀ w ∈ wsX00, w ∈ wsX0_allTwinges := fun _ h => List.mem_cons_of_mem _ (List.mem_append_right _ h)
  unfold fX0_allTwinges at h
  suffices key : ∀ (H : Heap) (locs : List Loc), va_P D vwCl (flat [WX0 cy h0 a0 s0]) H → va_S A s.heap H locs → W p l e rmX0_allTwinges s m args below meth c H locs 0 0 QQ (F0 m 0 ls []) from key _ _ hP va_S.rf
  clear hP
  intro H locs hP hS
  refine lv_iconst (v := 0) hx hb dX0_allTwinges_0 (by decide) ?_
  refine lv_istore_n (lv' := [(1, .int (0 : Int32)), (0, .ref h0)]) hx hb dX0_allTwinges_1 rfl hl (by decide) rfl (fun ls hl => ?_)
  refine lv_iconst (v := 0) hx hb dX0_allTwinges_2 (by decide) ?_
  refine lv_istore_n (lv' := [(2, .int (0 : Int32)), (1, .int (0 : Int32)), (0, .ref h0)]) hx hb dX0_allTwinges_3 rfl hl (by decide) rfl (fun ls hl => ?_)
  have L4 : ∀ (n : Nat) (q4 : Int32 × Int32) (o : Int32), loopO (fX0_allTwinges_L4 s0) n q4 = some o → ∀ (H : Heap) (locs : List Loc) (ls : Array Slot), lv_has ls 3 [(0, .ref h0), (1, .int q4.1), (2, .int q4.2)] → va_P D vwCl (flat [WX0 cy h0 a0 s0]) H → va_D A (flat [WX0 cy h0 a0 s0]) → va_S A s.heap H locs → ∀ (kk30 : ∀ (H : Heap) (locs : List Loc) (ls : Array Slot), lv_has ls 3 [(1, .int o)] → va_P D vwCl (flat [WX0 cy h0 a0 s0]) H → va_D A (flat [WX0 cy h0 a0 s0]) → va_S A s.heap H locs → W p l e rmX0_allTwinges s m args below meth c H locs 0 0 QQ (F0 m 30 ls [])), W p l e rmX0_allTwinges s m args below meth c H locs 0 0 QQ (F0 m 4 ls []) := by
    intro n
    induction n with
    | zero => intro q4 o h; exact absurd h (by rw [loopO_zero]; intro z; cases z)
    | succ n ih =>
      intro q4 o h H locs ls hl hP hD hS kk30
      obtain ⟨w, h, hgo, hst⟩ := loopO_elim h
      unfold fX0_allTwinges_L4 at h
      refine lv_iload_n hx hb dX0_allTwinges_4 rfl (lv_at hl 2 rfl) ?_
      refine lv_aload_n hx hb dX0_allTwinges_5 rfl (lv_at hl 0 rfl) ?_
      refine va_get (D := D) (ci := 0) (v := .int (gi s0 8)) (C := RX0) (T := TX0) (N := 14) hx hb hts hinX0 hown hK hP 0 rfl rfl 8 (by decide) (hts (.fieldLink RX0 37 "KneeBench$Bench" "farmers" "I") (List.mem_of_getElem? (i := 1) rfl)) (fun _ h9 => h9) rfl dX0_allTwinges_6 ?_
      refine lv_icmp_ge (tgt := 30) hx hb dX0_allTwinges_9 (by decide) (fun c1 => ?_) (fun c1 => ?_)
      · replace h := (if_pos c1).symm.trans h
        have eo := hst _ (Option.some.inj h).symm
        subst eo
        exact kk30 H locs ls (lv_sub hl [1] rfl) hP hD hS
      · replace h := (if_neg c1).symm.trans h
        refine lv_iload_n hx hb dX0_allTwinges_12 rfl (lv_at hl 1 rfl) ?_
        refine lv_aload_n hx hb dX0_allTwinges_13 rfl (lv_at hl 0 rfl) ?_
        refine va_get (D := D) (ci := 0) (v := .ref (a0 6)) (C := RX0) (T := TX0) (N := 14) hx hb hts hinX0 hown hK hP 0 rfl rfl 6 (by decide) (hts (.fieldLink RX0 31 "KneeBench$Bench" "twinges" "[J") (List.mem_of_getElem? (i := 2) rfl)) (fun _ h9 => h9) rfl dX0_allTwinges_14 ?_
        refine lv_iload_n hx hb dX0_allTwinges_17 rfl (lv_at hl 2 rfl) ?_
        obtain ⟨g2, h⟩ := gd_elim h
        refine va_lald hx hb hK hP 7 2 rfl rfl (inb_in g2) dX0_allTwinges_18 ?_
        refine ca_i (w' := [WX0 cy h0 a0 s0]) (rn_S (As := [.long (gb s0 6 q4.2.toNatClampNeg)]) (rest := [.int q4.1]) ⟨hx, hb, hml, hown, hts⟩ (kJ13_bitCount_95d88 l D cy (gb s0 6 q4.2.toNatClampNeg) _ rfl H.size) (va_cwS 1 hts gX0_allTwinges_J13_bitCount_95d88 rfl rfl rfl (by decide +kernel) ⟨Nat.le_of_ble_eq_true rfl, Nat.le_of_ble_eq_true rfl⟩) hK hN hP hD [] rfl rfl rfl hl.1 rfl (Nat.le_of_ble_eq_true rfl) dX0_allTwinges_19 ⟨Nat.le_refl 0, Nat.le_refl 0⟩) hP hD hS hA [] ⟨rfl, rfl, rfl, rfl⟩ (fun H locs hP hD hS => ?_)
        refine lv_iadd hx hb dX0_allTwinges_22 ?_
        refine lv_topi (fun x3 ex3 => ?_)
        replace h := lt_use h x3 ex3
        refine lv_istore_n (lv' := [(1, .int x3), (0, .ref h0), (2, .int q4.2)]) hx hb dX0_allTwinges_23 rfl hl (by decide) rfl (fun ls hl => ?_)
        refine lv_iinc (v := (q4.2 + (1 : Int32))) (lv' := [(2, .int (q4.2 + (1 : Int32))), (1, .int x3), (0, .ref h0)]) hx hb dX0_allTwinges_24 hl (k := 2) rfl rfl (by decide) rfl (fun ls hl => ?_)
        refine lv_goto (tgt := 4) hx hb dX0_allTwinges_27 (by decide) ?_
        exact ih _ o (hgo _ (Option.some.inj h).symm) H locs ls (lv_sub hl [2, 1, 0] rfl) hP hD hS kk30
  obtain ⟨o4, ho4, h⟩ := bd_elim h
  obtain ⟨n4, hn4⟩ := loopF_some ho4
  refine L4 n4 _ o4 hn4 H locs ls (lv_sub hl [2, 1, 0] rfl) hP hD hS (fun H locs ls hl hP hD hS => ?_)
  refine lv_iload_n hx hb dX0_allTwinges_30 rfl (lv_at hl 0 rfl) ?_
  exact hret 31 H locs ls o4 (Option.some.inj h) hP hD hS dX0_allTwinges_31
theorem dX0_hasWord_0 : decode cX0_hasWord 0 = .ok (.iload_n 2, 1) := by decide +kernel
theorem dX0_hasWord_1 : decode cX0_hasWord 1 = .ok (.aload_n 0, 1) := by decide +kernel
theorem dX0_hasWord_2 : decode cX0_hasWord 2 = .ok (.getfield 15, 3) := by decide +kernel
theorem dX0_hasWord_5 : decode cX0_hasWord 5 = .ok (.iload_n 1, 1) := by decide +kernel
theorem dX0_hasWord_6 : decode cX0_hasWord 6 = .ok (.iaload, 1) := by decide +kernel
theorem dX0_hasWord_7 : decode cX0_hasWord 7 = .ok (.isub, 1) := by decide +kernel
theorem dX0_hasWord_8 : decode cX0_hasWord 8 = .ok (.istore_n 3, 1) := by decide +kernel
theorem dX0_hasWord_9 : decode cX0_hasWord 9 = .ok (.iload_n 3, 1) := by decide +kernel
theorem dX0_hasWord_10 : decode cX0_hasWord 10 = .ok (.ifCond .lt 25, 3) := by decide +kernel
theorem dX0_hasWord_13 : decode cX0_hasWord 13 = .ok (.iload_n 3, 1) := by decide +kernel
theorem dX0_hasWord_14 : decode cX0_hasWord 14 = .ok (.aload_n 0, 1) := by decide +kernel
theorem dX0_hasWord_15 : decode cX0_hasWord 15 = .ok (.getfield 41, 3) := by decide +kernel
theorem dX0_hasWord_18 : decode cX0_hasWord 18 = .ok (.if_icmp .ge 17, 3) := by decide +kernel
theorem dX0_hasWord_21 : decode cX0_hasWord 21 = .ok (.iload_n 3, 1) := by decide +kernel
theorem dX0_hasWord_22 : decode cX0_hasWord 22 = .ok (.aload_n 0, 1) := by decide +kernel
theorem dX0_hasWord_23 : decode cX0_hasWord 23 = .ok (.getfield 25, 3) := by decide +kernel
theorem dX0_hasWord_26 : decode cX0_hasWord 26 = .ok (.iload_n 1, 1) := by decide +kernel
theorem dX0_hasWord_27 : decode cX0_hasWord 27 = .ok (.iaload, 1) := by decide +kernel
theorem dX0_hasWord_28 : decode cX0_hasWord 28 = .ok (.if_icmp .ge 7, 3) := by decide +kernel
theorem dX0_hasWord_31 : decode cX0_hasWord 31 = .ok (.iconst 1, 1) := by decide +kernel
theorem dX0_hasWord_32 : decode cX0_hasWord 32 = .ok (.goto 4, 3) := by decide +kernel
theorem dX0_hasWord_35 : decode cX0_hasWord 35 = .ok (.iconst 0, 1) := by decide +kernel
theorem dX0_hasWord_36 : decode cX0_hasWord 36 = .ok (.ireturn, 1) := by decide +kernel
abbrev rmX0_hasWord : Room := { frames := 0, cells := 0, slots := 0, locals := 0 }
set_option maxHeartbeats 4000000 in
set_option maxRecDepth 100000 in
theorem kX0_hasWord (l : Launch) (D : va_G) (cy : Nat → ClassId) (h0 : Nat) (a0 : Nat → Nat) (s0 : Rc) (p1 : Int32) (p2 : Int32) (res : Int32) (h : fX0_hasWord p1 p2 s0 = some res) : CZ l D cy yX0_hasWord wsX0_hasWord rmX0_hasWord [.ref h0, .int p1, .int p2] (flat [WX0 cy h0 a0 s0]) (flat [WX0 cy h0 a0 s0]) res := by
  refine CZ.of (cc := cX0_hasWord) (maxL := 4) (by decide) rfl (Nat.le_of_ble_eq_true rfl) ?_
  intro p e s m args below meth c A QQ ls E hr
  obtain ⟨hx, hb, hml, hown, hts, hK, hN, hP, hD, hA, hl⟩ := E
  have hret : ∀ (pc : Nat) (H : Heap) (locs : List Loc) (ls : Array Slot) (u : Int32), u = res → va_P D vwCl (flat [WX0 cy h0 a0 s0]) H → va_D A (flat [WX0 cy h0 a0 s0]) → va_S A s.heap H locs → isb u = true → decode cX0_hasWord pc = .ok (.ireturn, 1) → W p l e rmX0_hasWord s m args below meth c H locs 0 0 QQ (F0 m pc ls [.int u]) := by
    intro pc H locs ls u hu hP hD hS hz hd; subst hu; exact hr pc H locs ls _ rfl hP hD hS hz hd
  clear hr
  have hl : lv_has ls 4 [(0, .ref h0), (1, .int p1), (2, .int p2)] := hl
  have hinX0 : ∀ w ∈ wsX00, w ∈ wsX0_hasWord := fun _ h => List.mem_cons_of_mem _ (List.mem_append_right _ h)
  unfold fX0_hasWord at h
  suffices key : ∀ (H : Heap) (locs : List Loc), va_P D vwCl (flat [WX0 cy h0 a0 s0]) H → va_S A s.heap H locs → W p l e rmX0_hasWord s m args below meth c H locs 0 0 QQ (F0 m 0 ls []) from key _ _ hP va_S.rf
  clear hP
  intro H locs hP hS
  refine lv_iload_n hx hb dX0_hasWord_0 rfl (lv_at hl 2 rfl) ?_
  refine lv_aload_n hx hb dX0_hasWord_1 rfl (lv_at hl 0 rfl) ?_
  refine va_get (D := D) (ci := 0) (v := .ref (a0 1)) (C := RX0) (T := TX0) (N := 14) hx hb hts hinX0 hown hK hP 0 rfl rfl 1 (by decide) (hts (.fieldLink RX0 15 "KneeBench$Bench" "lags" "[I") (List.mem_of_getElem? (i := 1) rfl)) (fun _ h9 => h9) rfl dX0_hasWord_2 ?_
  refine lv_iload_n hx hb dX0_hasWord_5 rfl (lv_at hl 1 rfl) ?_
  obtain ⟨g1, h⟩ := gd_elim h
  refine va_iald hx hb hK hP 2 1 rfl rfl (inb_in g1) dX0_hasWord_6 ?_
  refine lv_isub hx hb dX0_hasWord_7 ?_
  refine lv_topi (fun x2 ex2 => ?_)
  replace h := lt_use h x2 ex2
  refine lv_istore_n (lv' := [(3, .int x2), (0, .ref h0), (1, .int p1), (2, .int p2)]) hx hb dX0_hasWord_8 rfl hl (by decide) rfl (fun ls hl => ?_)
  refine lv_iload_n hx hb dX0_hasWord_9 rfl (lv_at hl 0 rfl) ?_
  refine lv_if_lt (tgt := 35) hx hb dX0_hasWord_10 (by decide) (fun c3 => ?_) (fun c3 => ?_)
  · replace h := (if_pos c3).symm.trans h
    refine lv_iconst (v := 0) hx hb dX0_hasWord_35 (by decide) ?_
    exact hret 36 H locs ls (0 : Int32) (Option.some.inj h) hP hD hS (show isb (0 : Int32) = true by decide) dX0_hasWord_36
  · replace h := (if_neg c3).symm.trans h
    refine lv_iload_n hx hb dX0_hasWord_13 rfl (lv_at hl 0 rfl) ?_
    refine lv_aload_n hx hb dX0_hasWord_14 rfl (lv_at hl 1 rfl) ?_
    refine va_get (D := D) (ci := 0) (v := .int (gi s0 9)) (C := RX0) (T := TX0) (N := 14) hx hb hts hinX0 hown hK hP 0 rfl rfl 9 (by decide) (hts (.fieldLink RX0 41 "KneeBench$Bench" "days" "I") (List.mem_of_getElem? (i := 2) rfl)) (fun _ h9 => h9) rfl dX0_hasWord_15 ?_
    refine lv_icmp_ge (tgt := 35) hx hb dX0_hasWord_18 (by decide) (fun c4 => ?_) (fun c4 => ?_)
    · replace h := (if_pos c4).symm.trans h
      refine lv_iconst (v := 0) hx hb dX0_hasWord_35 (by decide) ?_
      exact hret 36 H locs ls (0 : Int32) (Option.some.inj h) hP hD hS (show isb (0 : Int32) = true by decide) dX0_hasWord_36
    · replace h := (if_neg c4).symm.trans h
      refine lv_iload_n hx hb dX0_hasWord_21 rfl (lv_at hl 0 rfl) ?_
      refine lv_aload_n hx hb dX0_hasWord_22 rfl (lv_at hl 1 rfl) ?_
      refine va_get (D := D) (ci := 0) (v := .ref (a0 4)) (C := RX0) (T := TX0) (N := 14) hx hb hts hinX0 hown hK hP 0 rfl rfl 4 (by decide) (hts (.fieldLink RX0 25 "KneeBench$Bench" "cures" "[I") (List.mem_of_getElem? (i := 3) rfl)) (fun _ h9 => h9) rfl dX0_hasWord_23 ?_
      refine lv_iload_n hx hb dX0_hasWord_26 rfl (lv_at hl 2 rfl) ?_
      refine va_iald hx hb hK hP 5 1 rfl rfl (inb_in g1) dX0_hasWord_27 ?_
      refine lv_icmp_ge (tgt := 35) hx hb dX0_hasWord_28 (by decide) (fun c5 => ?_) (fun c5 => ?_)
      · replace h := (if_pos c5).symm.trans h
        refine lv_iconst (v := 0) hx hb dX0_hasWord_35 (by decide) ?_
        exact hret 36 H locs ls (0 : Int32) (Option.some.inj h) hP hD hS (show isb (0 : Int32) = true by decide) dX0_hasWord_36
      · replace h := (if_neg c5).symm.trans h
        refine lv_iconst (v := 1) hx hb dX0_hasWord_31 (by decide) ?_
        refine lv_goto (tgt := 36) hx hb dX0_hasWord_32 (by decide) ?_
        exact hret 36 H locs ls (1 : Int32) (Option.some.inj h) hP hD hS (show isb (1 : Int32) = true by decide) dX0_hasWord_36
theorem dX0_feltOn_0 : decode cX0_feltOn 0 = .ok (.aload_n 0, 1) := by decide +kernel
theorem dX0_feltOn_1 : decode cX0_feltOn 1 = .ok (.getfield 31, 3) := by decide +kernel
theorem dX0_feltOn_4 : decode cX0_feltOn 4 = .ok (.iload_n 1, 1) := by decide +kernel
theorem dX0_feltOn_5 : decode cX0_feltOn 5 = .ok (.laload, 1) := by decide +kernel
theorem dX0_feltOn_6 : decode cX0_feltOn 6 = .ok (.iload_n 2, 1) := by decide +kernel
theorem dX0_feltOn_7 : decode cX0_feltOn 7 = .ok (.lushr, 1) := by decide +kernel
theorem dX0_feltOn_8 : decode cX0_feltOn 8 = .ok (.lconst 1, 1) := by decide +kernel
theorem dX0_feltOn_9 : decode cX0_feltOn 9 = .ok (.land, 1) := by decide +kernel
theorem dX0_feltOn_10 : decode cX0_feltOn 10 = .ok (.l2i, 1) := by decide +kernel
theorem dX0_feltOn_11 : decode cX0_feltOn 11 = .ok (.ireturn, 1) := by decide +kernel
abbrev rmX0_feltOn : Room := { frames := 0, cells := 0, slots := 0, locals := 0 }
set_option maxHeartbeats 4000000 in
set_option maxRecDepth 100000 in
theorem kX0_feltOn (l : Launch) (D : va_G) (cy : Nat → ClassId) (h0 : Nat) (a0 : Nat → Nat) (s0 : Rc) (p1 : Int32) (p2 : Int32) (res : Int32) (h : fX0_feltOn p1 p2 s0 = some res) : CI l D cy yX0_feltOn wsX0_feltOn rmX0_feltOn [.ref h0, .int p1, .int p2] (flat [WX0 cy h0 a0 s0]) (flat [WX0 cy h0 a0 s0]) res := by
  refine CI.of (cc := cX0_feltOn) (maxL := 3) (by decide) rfl (Nat.le_of_ble_eq_true rfl) ?_
  intro p e s m args below meth c A QQ ls E hr
  obtain ⟨hx, hb, hml, hown, hts, hK, hN, hP, hD, hA, hl⟩ := E
  have hret : ∀ (pc : Nat) (H : Heap) (locs : List Loc) (ls : Array Slot) (u : Int32), u = res → va_P D vwCl (flat [WX0 cy h0 a0 s0]) H → va_D A (flat [WX0 cy h0 a0 s0]) → va_S A s.heap H locs → decode cX0_feltOn pc = .ok (.ireturn, 1) → W p l e rmX0_feltOn s m args below meth c H locs 0 0 QQ (F0 m pc ls [.int u]) := by
    intro pc H locs ls u hu hP hD hS hd; subst hu; exact hr pc H locs ls _ rfl hP hD hS hd
  clear hr
  have hl : lv_has ls 3 [(0, .ref h0), (1, .int p1), (2, .int p2)] := hl
  have hinX0 : ∀ w ∈ wsX00, w ∈ wsX0_feltOn := fun _ h => List.mem_cons_of_mem _ (List.mem_append_right _ h)
  unfold fX0_feltOn at h
  suffices key : ∀ (H : Heap) (locs : List Loc), va_P D vwCl (flat [WX0 cy h0 a0 s0]) H → va_S A s.heap H locs → W p l e rmX0_feltOn s m args below meth c H locs 0 0 QQ (F0 m 0 ls []) from key _ _ hP va_S.rf
  clear hP
  intro H locs hP hS
  refine lv_aload_n hx hb dX0_feltOn_0 rfl (lv_at hl 0 rfl) ?_
  refine va_get (D := D) (ci := 0) (v := .ref (a0 6)) (C := RX0) (T := TX0) (N := 14) hx hb hts hinX0 hown hK hP 0 rfl rfl 6 (by decide) (hts (.fieldLink RX0 31 "KneeBench$Bench" "twinges" "[J") (List.mem_of_getElem? (i := 1) rfl)) (fun _ h9 => h9) rfl dX0_feltOn_1 ?_
  refine lv_iload_n hx hb dX0_feltOn_4 rfl (lv_at hl 1 rfl) ?_
  obtain ⟨g1, h⟩ := gd_elim h
  refine va_lald hx hb hK hP 7 2 rfl rfl (inb_in g1) dX0_feltOn_5 ?_
  refine lv_iload_n hx hb dX0_feltOn_6 rfl (lv_at hl 2 rfl) ?_
  refine lv_lushr hx hb dX0_feltOn_7 rfl ?_
  refine lv_lconst (v := 1) hx hb dX0_feltOn_8 (by decide) ?_
  refine lv_land hx hb dX0_feltOn_9 ?_
  refine lv_l2i hx hb dX0_feltOn_10 rfl ?_
  exact hret 11 H locs ls (((((gb s0 6 p1.toNatClampNeg).toUInt64 >>> (p2.toInt64.toUInt64 &&& Int64.toUInt64 63)).toInt64) &&& (1 : Int64)).toInt32) (Option.some.inj h) hP hD hS dX0_feltOn_11
theorem gd_X0_believes : wsX0_believes.all goodWord = true := by decide +kernel
set_option maxRecDepth 20000 in
theorem ggX0_believes_X0_hasWord : GoodIn wsX0_believes wsX0_hasWord := goodIn_by gd_X0_believes (List.forall_mem_cons.mpr ⟨List.mem_cons_of_mem _ (List.mem_append_left _ (List.mem_of_getElem? (i := 5) rfl)), List.forall_mem_append.mpr ⟨List.forall_mem_cons.mpr ⟨List.mem_cons_of_mem _ (List.mem_append_left _ (List.mem_of_getElem? (i := 0) rfl)), List.forall_mem_cons.mpr ⟨List.mem_cons_of_mem _ (List.mem_append_left _ (List.mem_of_getElem? (i := 6) rfl)), List.forall_mem_cons.mpr ⟨List.mem_cons_of_mem _ (List.mem_append_left _ (List.mem_of_getElem? (i := 7) rfl)), nowords_in⟩⟩⟩, (fun _ h => List.mem_cons_of_mem _ (List.mem_append_right _ (h)))⟩⟩)
set_option maxRecDepth 20000 in
theorem gX0_believes_X0_hasWord : GoodIn wsX0_believes (wsV RX0 118 RX0 yX0_hasWord wsX0_hasWord) := goodIn_app (goodIn_by gd_X0_believes (List.forall_mem_cons.mpr ⟨List.mem_cons_of_mem _ (List.mem_append_left _ (List.mem_of_getElem? (i := 1) rfl)), List.forall_mem_cons.mpr ⟨List.mem_cons_of_mem _ (List.mem_append_left _ (List.mem_of_getElem? (i := 2) rfl)), List.forall_mem_cons.mpr ⟨List.mem_cons_of_mem _ (List.mem_append_left _ (List.mem_of_getElem? (i := 3) rfl)), List.forall_mem_cons.mpr ⟨List.mem_cons_of_mem _ (List.mem_append_left _ (List.mem_of_getElem? (i := 4) rfl)), nowords_in⟩⟩⟩⟩)) ggX0_believes_X0_hasWord
set_option maxRecDepth 20000 in
theorem ggX0_believes_X0_feltOn : GoodIn wsX0_believes wsX0_feltOn := goodIn_by gd_X0_believes (List.forall_mem_cons.mpr ⟨List.mem_cons_of_mem _ (List.mem_append_left _ (List.mem_of_getElem? (i := 11) rfl)), List.forall_mem_append.mpr ⟨List.forall_mem_cons.mpr ⟨List.mem_cons_of_mem _ (List.mem_append_left _ (List.mem_of_getElem? (i := 12) rfl)), nowords_in⟩, (fun _ h => List.mem_cons_of_mem _ (List.mem_append_right _ (h)))⟩⟩)
set_option maxRecDepth 20000 in
theorem gX0_believes_X0_feltOn : GoodIn wsX0_believes (wsV RX0 109 RX0 yX0_feltOn wsX0_feltOn) := goodIn_app (goodIn_by gd_X0_believes (List.forall_mem_cons.mpr ⟨List.mem_cons_of_mem _ (List.mem_append_left _ (List.mem_of_getElem? (i := 8) rfl)), List.forall_mem_cons.mpr ⟨List.mem_cons_of_mem _ (List.mem_append_left _ (List.mem_of_getElem? (i := 9) rfl)), List.forall_mem_cons.mpr ⟨List.mem_cons_of_mem _ (List.mem_append_left _ (List.mem_of_getElem? (i := 10) rfl)), List.forall_mem_cons.mpr ⟨List.mem_cons_of_mem _ (List.mem_append_left _ (List.mem_of_getElem? (i := 4) rfl)), nowords_in⟩⟩⟩⟩)) ggX0_believes_X0_feltOn
theorem dX0_believes_0 : decode cX0_believes 0 = .ok (.aload_n 0, 1) := by decide +kernel
theorem dX0_believes_1 : decode cX0_believes 1 = .ok (.iload_n 1, 1) := by decide +kernel
theorem dX0_believes_2 : decode cX0_believes 2 = .ok (.iload_n 2, 1) := by decide +kernel
theorem dX0_believes_3 : decode cX0_believes 3 = .ok (.invokevirtual 118, 3) := by decide +kernel
theorem dX0_believes_6 : decode cX0_believes 6 = .ok (.ifCond .eq 24, 3) := by decide +kernel
theorem dX0_believes_9 : decode cX0_believes 9 = .ok (.aload_n 0, 1) := by decide +kernel
theorem dX0_believes_10 : decode cX0_believes 10 = .ok (.iload_n 1, 1) := by decide +kernel
theorem dX0_believes_11 : decode cX0_believes 11 = .ok (.iload_n 2, 1) := by decide +kernel
theorem dX0_believes_12 : decode cX0_believes 12 = .ok (.aload_n 0, 1) := by decide +kernel
theorem dX0_believes_13 : decode cX0_believes 13 = .ok (.getfield 15, 3) := by decide +kernel
theorem dX0_believes_16 : decode cX0_believes 16 = .ok (.iload_n 1, 1) := by decide +kernel
theorem dX0_believes_17 : decode cX0_believes 17 = .ok (.iaload, 1) := by decide +kernel
theorem dX0_believes_18 : decode cX0_believes 18 = .ok (.isub, 1) := by decide +kernel
theorem dX0_believes_19 : decode cX0_believes 19 = .ok (.invokevirtual 109, 3) := by decide +kernel
theorem dX0_believes_22 : decode cX0_believes 22 = .ok (.iconst 1, 1) := by decide +kernel
theorem dX0_believes_23 : decode cX0_believes 23 = .ok (.if_icmp .ne 7, 3) := by decide +kernel
theorem dX0_believes_26 : decode cX0_believes 26 = .ok (.iconst 1, 1) := by decide +kernel
theorem dX0_believes_27 : decode cX0_believes 27 = .ok (.goto 4, 3) := by decide +kernel
theorem dX0_believes_30 : decode cX0_believes 30 = .ok (.iconst 0, 1) := by decide +kernel
theorem dX0_believes_31 : decode cX0_believes 31 = .ok (.ireturn, 1) := by decide +kernel
abbrev rmX0_believes : Room := { frames := 1, cells := 0, slots := 0, locals := 23 }
set_option maxHeartbeats 4000000 in
set_option maxRecDepth 100000 in
theorem kX0_believes (l : Launch) (D : va_G) (cy : Nat → ClassId) (h0 : Nat) (a0 : Nat → Nat) (s0 : Rc) (p1 : Int32) (p2 : Int32) (res : Int32) (h : fX0_believes p1 p2 s0 = some res) : CZ l D cy yX0_believes wsX0_believes rmX0_believes [.ref h0, .int p1, .int p2] (flat [WX0 cy h0 a0 s0]) (flat [WX0 cy h0 a0 s0]) res := by
  refine CZ.of (cc := cX0_believes) (maxL := 3) (by decide) rfl (Nat.le_of_ble_eq_true rfl) ?_
  intro p e s m args below meth c A QQ ls E hr
  obtain ⟨hx, hb, hml, hown, hts, hK, hN, hP, hD, hA, hl⟩ := E
  have hret : ∀ (pc : Nat) (H : Heap) (locs : List Loc) (ls : Array Slot) (u : Int32), u = res → va_P D vwCl (flat [WX0 cy h0 a0 s0]) H → va_D A (flat [WX0 cy h0 a0 s0]) → va_S A s.heap H locs → isb u = true → decode cX0_believes pc = .ok (.ireturn, 1) → W p l e rmX0_believes s m args below meth c H locs 0 0 QQ (F0 m pc ls [.int u]) := by
    intro pc H locs ls u hu hP hD hS hz hd; subst hu; exact hr pc H locs ls _ rfl hP hD hS hz hd
  clear hr
  have hl : lv_has ls 3 [(0, .ref h0), (1, .int p1), (2, .int p2)] := hl
  have hinX0 : ∀ w ∈ wsX00, w ∈ wsX0_believes := fun _ h => List.mem_cons_of_mem _ (List.mem_append_right _ h)
  unfold fX0_believes at h
  suffices key : ∀ (H : Heap) (locs : List Loc), va_P D vwCl (flat [WX0 cy h0 a0 s0]) H → va_S A s.heap H locs → W p l e rmX0_believes s m args below meth c H locs 0 0 QQ (F0 m 0 ls []) from key _ _ hP va_S.rf
  clear hP
  intro H locs hP hS
  refine lv_aload_n hx hb dX0_believes_0 rfl (lv_at hl 0 rfl) ?_
  refine lv_iload_n hx hb dX0_believes_1 rfl (lv_at hl 1 rfl) ?_
  refine lv_iload_n hx hb dX0_believes_2 rfl (lv_at hl 2 rfl) ?_
  obtain ⟨r1, hr1, h⟩ := bd_elim h
  refine ca_z (w' := [WX0 cy h0 a0 s0]) (rn_V (As := [.int p1, .int p2]) (rest := []) ⟨hx, hb, hml, hown, hts⟩ (kX0_hasWord l D cy h0 a0 s0 p1 p2 r1 hr1 H.size) (cwV 2 hts gX0_believes_X0_hasWord rfl rfl rfl (by decide +kernel) ⟨Nat.le_of_ble_eq_true rfl, Nat.le_of_ble_eq_true rfl⟩) hK hN hP hD [0] rfl rfl (ci := 0) (q0 := 0) rfl rfl rfl rfl hl.1 rfl (Nat.le_of_ble_eq_true rfl) dX0_believes_3 ⟨Nat.le_refl 0, Nat.le_refl 0⟩) hP hD hS hA [0] ⟨rfl, rfl, rfl, rfl⟩ (fun b2 H locs hP hD hS => ?_)
  refine lv_if_eq (tgt := 30) hx hb dX0_believes_6 (by decide) (fun c3 => ?_) (fun c3 => ?_)
  · replace h := (if_pos c3).symm.trans h
    refine lv_iconst (v := 0) hx hb dX0_believes_30 (by decide) ?_
    exact hret 31 H locs ls (0 : Int32) (Option.some.inj h) hP hD hS (show isb (0 : Int32) = true by decide) dX0_believes_31
  · replace h := (if_neg c3).symm.trans h
    refine lv_aload_n hx hb dX0_believes_9 rfl (lv_at hl 0 rfl) ?_
    refine lv_iload_n hx hb dX0_believes_10 rfl (lv_at hl 1 rfl) ?_
    refine lv_iload_n hx hb dX0_believes_11 rfl (lv_at hl 2 rfl) ?_
    refine lv_aload_n hx hb dX0_believes_12 rfl (lv_at hl 0 rfl) ?_
    refine va_get (D := D) (ci := 0) (v := .ref (a0 1)) (C := RX0) (T := TX0) (N := 14) hx hb hts hinX0 hown hK hP 0 rfl rfl 1 (by decide) (hts (.fieldLink RX0 15 "KneeBench$Bench" "lags" "[I") (List.mem_of_getElem? (i := 1) rfl)) (fun _ h9 => h9) rfl dX0_believes_13 ?_
    refine lv_iload_n hx hb dX0_believes_16 rfl (lv_at hl 1 rfl) ?_
    obtain ⟨g4, h⟩ := gd_elim h
    refine va_iald hx hb hK hP 2 1 rfl rfl (inb_in g4) dX0_believes_17 ?_
    refine lv_isub hx hb dX0_believes_18 ?_
    obtain ⟨r5, hr5, h⟩ := bd_elim h
    refine ca_i (w' := [WX0 cy h0 a0 s0]) (rn_V (As := [.int p1, .int (p2 - (ga s0 1 p1.toNatClampNeg))]) (rest := []) ⟨hx, hb, hml, hown, hts⟩ (kX0_feltOn l D cy h0 a0 s0 p1 (p2 - (ga s0 1 p1.toNatClampNeg)) r5 hr5 H.size) (cwV 2 hts gX0_believes_X0_feltOn rfl rfl rfl (by decide +kernel) ⟨Nat.le_of_ble_eq_true rfl, Nat.le_of_ble_eq_true rfl⟩) hK hN hP hD [0] rfl rfl (ci := 0) (q0 := 0) rfl rfl rfl rfl hl.1 rfl (Nat.le_of_ble_eq_true rfl) dX0_believes_19 ⟨Nat.le_refl 0, Nat.le_refl 0⟩) hP hD hS hA [0] ⟨rfl, rfl, rfl, rfl⟩ (fun H locs hP hD hS => ?_)
    refine lv_iconst (v := 1) hx hb dX0_believes_22 (by decide) ?_
    refine lv_icmp_ne (tgt := 30) hx hb dX0_believes_23 (by decide) (fun c6 => ?_) (fun c6 => ?_)
    · replace h := (if_neg c6).symm.trans h
      refine lv_iconst (v := 0) hx hb dX0_believes_30 (by decide) ?_
      exact hret 31 H locs ls (0 : Int32) (Option.some.inj h) hP hD hS (show isb (0 : Int32) = true by decide) dX0_believes_31
    · replace h := (if_pos c6).symm.trans h
      refine lv_iconst (v := 1) hx hb dX0_believes_26 (by decide) ?_
      refine lv_goto (tgt := 31) hx hb dX0_believes_27 (by decide) ?_
      exact hret 31 H locs ls (1 : Int32) (Option.some.inj h) hP hD hS (show isb (1 : Int32) = true by decide) dX0_believes_31
theorem gd_X0_believersOf : wsX0_believersOf.all goodWord = true := by decide +kernel
set_option maxRecDepth 20000 in
theorem ggX0_believersOf_X0_believes : GoodIn wsX0_believersOf wsX0_believes := goodIn_by gd_X0_believersOf (List.forall_mem_cons.mpr ⟨List.mem_cons_of_mem _ (List.mem_append_left _ (List.mem_of_getElem? (i := 5) rfl)), List.forall_mem_append.mpr ⟨List.forall_mem_cons.mpr ⟨List.mem_cons_of_mem _ (List.mem_append_left _ (List.mem_of_getElem? (i := 6) rfl)), List.forall_mem_cons.mpr ⟨List.mem_cons_of_mem _ (List.mem_append_left _ (List.mem_of_getElem? (i := 7) rfl)), List.forall_mem_cons.mpr ⟨List.mem_cons_of_mem _ (List.mem_append_left _ (List.mem_of_getElem? (i := 8) rfl)), List.forall_mem_cons.mpr ⟨List.mem_cons_of_mem _ (List.mem_append_left _ (List.mem_of_getElem? (i := 9) rfl)), List.forall_mem_cons.mpr ⟨List.mem_cons_of_mem _ (List.mem_append_left _ (List.mem_of_getElem? (i := 4) rfl)), List.forall_mem_cons.mpr ⟨List.mem_cons_of_mem _ (List.mem_append_left _ (List.mem_of_getElem? (i := 10) rfl)), List.forall_mem_cons.mpr ⟨List.mem_cons_of_mem _ (List.mem_append_left _ (List.mem_of_getElem? (i := 11) rfl)), List.forall_mem_cons.mpr ⟨List.mem_cons_of_mem _ (List.mem_append_left _ (List.mem_of_getElem? (i := 12) rfl)), List.forall_mem_cons.mpr ⟨List.mem_cons_of_mem _ (List.mem_append_left _ (List.mem_of_getElem? (i := 13) rfl)), List.forall_mem_cons.mpr ⟨List.mem_cons_of_mem _ (List.mem_append_left _ (List.mem_of_getElem? (i := 14) rfl)), List.forall_mem_cons.mpr ⟨List.mem_cons_of_mem _ (List.mem_append_left _ (List.mem_of_getElem? (i := 15) rfl)), List.forall_mem_cons.mpr ⟨List.mem_cons_of_mem _ (List.mem_append_left _ (List.mem_of_getElem? (i := 16) rfl)), List.forall_mem_cons.mpr ⟨List.mem_cons_of_mem _ (List.mem_append_left _ (List.mem_of_getElem? (i := 17) rfl)), nowords_in⟩⟩⟩⟩⟩⟩⟩⟩⟩⟩⟩⟩⟩, (fun _ h => List.mem_cons_of_mem _ (List.mem_append_right _ (h)))⟩⟩)
set_option maxRecDepth 20000 in
theorem gX0_believersOf_X0_believes : GoodIn wsX0_believersOf (wsV RX0 122 RX0 yX0_believes wsX0_believes) := goodIn_app (goodIn_by gd_X0_believersOf (List.forall_mem_cons.mpr ⟨List.mem_cons_of_mem _ (List.mem_append_left _ (List.mem_of_getElem? (i := 1) rfl)), List.forall_mem_cons.mpr ⟨List.mem_cons_of_mem _ (List.mem_append_left _ (List.mem_of_getElem? (i := 2) rfl)), List.forall_mem_cons.mpr ⟨List.mem_cons_of_mem _ (List.mem_append_left _ (List.mem_of_getElem? (i := 3) rfl)), List.forall_mem_cons.mpr ⟨List.mem_cons_of_mem _ (List.mem_append_left _ (List.mem_of_getElem? (i := 4) rfl)), nowords_in⟩⟩⟩⟩)) ggX0_believersOf_X0_believes
theorem dX0_believersOf_0 : decode cX0_believersOf 0 = .ok (.iconst 0, 1) := by decide +kernel
theorem dX0_believersOf_1 : decode cX0_believersOf 1 = .ok (.istore_n 2, 1) := by decide +kernel
theorem dX0_believersOf_2 : decode cX0_believersOf 2 = .ok (.iconst 0, 1) := by decide +kernel
theorem dX0_believersOf_3 : decode cX0_believersOf 3 = .ok (.istore_n 3, 1) := by decide +kernel
theorem dX0_believersOf_4 : decode cX0_believersOf 4 = .ok (.iload_n 3, 1) := by decide +kernel
theorem dX0_believersOf_5 : decode cX0_believersOf 5 = .ok (.aload_n 0, 1) := by decide +kernel
theorem dX0_believersOf_6 : decode cX0_believersOf 6 = .ok (.getfield 37, 3) := by decide +kernel
theorem dX0_believersOf_9 : decode cX0_believersOf 9 = .ok (.if_icmp .ge 24, 3) := by decide +kernel
theorem dX0_believersOf_12 : decode cX0_believersOf 12 = .ok (.aload_n 0, 1) := by decide +kernel
theorem dX0_believersOf_13 : decode cX0_believersOf 13 = .ok (.iload_n 3, 1) := by decide +kernel
theorem dX0_believersOf_14 : decode cX0_believersOf 14 = .ok (.iload_n 1, 1) := by decide +kernel
theorem dX0_believersOf_15 : decode cX0_believersOf 15 = .ok (.invokevirtual 122, 3) := by decide +kernel
theorem dX0_believersOf_18 : decode cX0_believersOf 18 = .ok (.ifCond .eq 9, 3) := by decide +kernel
theorem dX0_believersOf_21 : decode cX0_believersOf 21 = .ok (.iload_n 2, 1) := by decide +kernel
theorem dX0_believersOf_22 : decode cX0_believersOf 22 = .ok (.iconst 1, 1) := by decide +kernel
theorem dX0_believersOf_23 : decode cX0_believersOf 23 = .ok (.iload_n 3, 1) := by decide +kernel
theorem dX0_believersOf_24 : decode cX0_believersOf 24 = .ok (.ishl, 1) := by decide +kernel
theorem dX0_believersOf_25 : decode cX0_believersOf 25 = .ok (.ior, 1) := by decide +kernel
theorem dX0_believersOf_26 : decode cX0_believersOf 26 = .ok (.istore_n 2, 1) := by decide +kernel
theorem dX0_believersOf_27 : decode cX0_believersOf 27 = .ok (.iinc 3 1, 3) := by decide +kernel
theorem dX0_believersOf_30 : decode cX0_believersOf 30 = .ok (.goto (-26), 3) := by decide +kernel
theorem dX0_believersOf_33 : decode cX0_believersOf 33 = .ok (.iload_n 2, 1) := by decide +kernel
theorem dX0_believersOf_34 : decode cX0_believersOf 34 = .ok (.ireturn, 1) := by decide +kernel
abbrev rmX0_believersOf : Room := { frames := 2, cells := 0, slots := 0, locals := 45 }
set_option maxHeartbeats 4000000 in
set_option maxRecDepth 100000 in
theorem kX0_believersOf (l : Launch) (D : va_G) (cy : Nat → ClassId) (h0 : Nat) (a0 : Nat → Nat) (s0 : Rc) (p1 : Int32) (res : Int32) (h : fX0_believersOf p1 s0 = some res) : CI l D cy yX0_believersOf wsX0_believersOf rmX0_believersOf [.ref h0, .int p1] (flat [WX0 cy h0 a0 s0]) (flat [WX0 cy h0 a0 s0]) res := by
  refine CI.of (cc := cX0_believersOf) (maxL := 4) (by decide) rfl (Nat.le_of_ble_eq_true rfl) ?_
  intro p e s m args below meth c A QQ ls E hr
  obtain ⟨hx, hb, hml, hown, hts, hK, hN, hP, hD, hA, hl⟩ := E
  have hret : ∀ (pc : Nat) (H : Heap) (locs : List Loc) (ls : Array Slot) (u : Int32), u = res → va_P D vwCl (flat [WX0 cy h0 a0 s0]) H → va_D A (flat [WX0 cy h0 a0 s0]) → va_S A s.heap H locs → decode cX0_believersOf pc = .ok (.ireturn, 1) → W p l e rmX0_believersOf s m args below meth c H locs 0 0 QQ (F0 m pc ls [.int u]) := by
    intro pc H locs ls u hu hP hD hS hd; subst hu; exact hr pc H locs ls _ rfl hP hD hS hd
  clear hr
  have hl : lv_has ls 4 [(0, .ref h0), (1, .int p1)] := hl
  have hinX0 : ∀ w ∈ wsX00, w ∈ wsX0_believersOf := fun _ h => List.mem_cons_of_mem _ (List.mem_append_right _ h)
  unfold fX0_believersOf at h
  suffices key : ∀ (H : Heap) (locs : List Loc), va_P D vwCl (flat [WX0 cy h0 a0 s0]) H → va_S A s.heap H locs → W p l e rmX0_believersOf s m args below meth c H locs 0 0 QQ (F0 m 0 ls []) from key _ _ hP va_S.rf
  clear hP
  intro H locs hP hS
  refine lv_iconst (v := 0) hx hb dX0_believersOf_0 (by decide) ?_
  refine lv_istore_n (lv' := [(2, .int (0 : Int32)), (0, .ref h0), (1, .int p1)]) hx hb dX0_believersOf_1 rfl hl (by decide) rfl (fun ls hl => ?_)
  refine lv_iconst (v := 0) hx hb dX0_believersOf_2 (by decide) ?_
  refine lv_istore_n (lv' := [(3, .int (0 : Int32)), (2, .int (0 : Int32)), (0, .ref h0), (1, .int p1)]) hx hb dX0_believersOf_3 rfl hl (by decide) rfl (fun ls hl => ?_)
  have L4 : ∀ (n : Nat) (q4 : Int32 × Int32) (o : Int32), loopO (fX0_believersOf_L4 p1 s0) n q4 = some o → ∀ (H : Heap) (locs : List Loc) (ls : Array Slot), lv_has ls 4 [(0, .ref h0), (1, .int p1), (2, .int q4.1), (3, .int q4.2)] → va_P D vwCl (flat [WX0 cy h0 a0 s0]) H → va_D A (flat [WX0 cy h0 a0 s0]) → va_S A s.heap H locs → ∀ (kk33 : ∀ (H : Heap) (locs : List Loc) (ls : Array Slot), lv_has ls 4 [(2, .int o)] → va_P D vwCl (flat [WX0 cy h0 a0 s0]) H → va_D A (flat [WX0 cy h0 a0 s0]) → va_S A s.heap H locs → W p l e rmX0_believersOf s m args below meth c H locs 0 0 QQ (F0 m 33 ls [])), W p l e rmX0_believersOf s m args below meth c H locs 0 0 QQ (F0 m 4 ls []) := by
    intro n
    induction n with
    | zero => intro q4 o h; exact absurd h (by rw [loopO_zero]; intro z; cases z)
    | succ n ih =>
      intro q4 o h H locs ls hl hP hD hS kk33
      obtain ⟨w, h, hgo, hst⟩ := loopO_elim h
      unfold fX0_believersOf_L4 at h
      refine lv_iload_n hx hb dX0_believersOf_4 rfl (lv_at hl 3 rfl) ?_
      refine lv_aload_n hx hb dX0_believersOf_5 rfl (lv_at hl 0 rfl) ?_
      refine va_get (D := D) (ci := 0) (v := .int (gi s0 8)) (C := RX0) (T := TX0) (N := 14) hx hb hts hinX0 hown hK hP 0 rfl rfl 8 (by decide) (hts (.fieldLink RX0 37 "KneeBench$Bench" "farmers" "I") (List.mem_of_getElem? (i := 1) rfl)) (fun _ h9 => h9) rfl dX0_believersOf_6 ?_
      refine lv_icmp_ge (tgt := 33) hx hb dX0_believersOf_9 (by decide) (fun c1 => ?_) (fun c1 => ?_)
      · replace h := (if_pos c1).symm.trans h
        have eo := hst _ (Option.some.inj h).symm
        subst eo
        exact kk33 H locs ls (lv_sub hl [2] rfl) hP hD hS
      · replace h := (if_neg c1).symm.trans h
        refine lv_aload_n hx hb dX0_believersOf_12 rfl (lv_at hl 0 rfl) ?_
        refine lv_iload_n hx hb dX0_believersOf_13 rfl (lv_at hl 3 rfl) ?_
        refine lv_iload_n hx hb dX0_believersOf_14 rfl (lv_at hl 1 rfl) ?_
        obtain ⟨r2, hr2, h⟩ := bd_elim h
        refine ca_z (w' := [WX0 cy h0 a0 s0]) (rn_V (As := [.int q4.2, .int p1]) (rest := []) ⟨hx, hb, hml, hown, hts⟩ (kX0_believes l D cy h0 a0 s0 q4.2 p1 r2 hr2 H.size) (cwV 2 hts gX0_believersOf_X0_believes rfl rfl rfl (by decide +kernel) ⟨Nat.le_of_ble_eq_true rfl, Nat.le_of_ble_eq_true rfl⟩) hK hN hP hD [0] rfl rfl (ci := 0) (q0 := 0) rfl rfl rfl rfl hl.1 rfl (Nat.le_of_ble_eq_true rfl) dX0_believersOf_15 ⟨Nat.le_refl 0, Nat.le_refl 0⟩) hP hD hS hA [0] ⟨rfl, rfl, rfl, rfl⟩ (fun b3 H locs hP hD hS => ?_)
        refine lv_if_eq (tgt := 27) hx hb dX0_believersOf_18 (by decide) (fun c4 => ?_) (fun c4 => ?_)
        · replace h := (if_pos c4).symm.trans h
          refine lv_iinc (v := (q4.2 + (1 : Int32))) (lv' := [(3, .int (q4.2 + (1 : Int32))), (0, .ref h0), (1, .int p1), (2, .int q4.1)]) hx hb dX0_believersOf_27 hl (k := 3) rfl rfl (by decide) rfl (fun ls hl => ?_)
          refine lv_goto (tgt := 4) hx hb dX0_believersOf_30 (by decide) ?_
          exact ih _ o (hgo _ (Option.some.inj h).symm) H locs ls (lv_sub hl [1, 2, 3, 0] rfl) hP hD hS kk33
        · replace h := (if_neg c4).symm.trans h
          refine lv_iload_n hx hb dX0_believersOf_21 rfl (lv_at hl 2 rfl) ?_
          refine lv_iconst (v := 1) hx hb dX0_believersOf_22 (by decide) ?_
          refine lv_iload_n hx hb dX0_believersOf_23 rfl (lv_at hl 3 rfl) ?_
          refine lv_ishl hx hb dX0_believersOf_24 ?_
          refine lv_ior hx hb dX0_believersOf_25 ?_
          refine lv_topi (fun x5 ex5 => ?_)
          replace h := lt_use h x5 ex5
          refine lv_istore_n (lv' := [(2, .int x5), (0, .ref h0), (1, .int p1), (3, .int q4.2)]) hx hb dX0_believersOf_26 rfl hl (by decide) rfl (fun ls hl => ?_)
          refine lv_iinc (v := (q4.2 + (1 : Int32))) (lv' := [(3, .int (q4.2 + (1 : Int32))), (2, .int x5), (0, .ref h0), (1, .int p1)]) hx hb dX0_believersOf_27 hl (k := 3) rfl rfl (by decide) rfl (fun ls hl => ?_)
          refine lv_goto (tgt := 4) hx hb dX0_believersOf_30 (by decide) ?_
          exact ih _ o (hgo _ (Option.some.inj h).symm) H locs ls (lv_sub hl [2, 3, 1, 0] rfl) hP hD hS kk33
  obtain ⟨o4, ho4, h⟩ := bd_elim h
  obtain ⟨n4, hn4⟩ := loopF_some ho4
  refine L4 n4 _ o4 hn4 H locs ls (lv_sub hl [2, 3, 1, 0] rfl) hP hD hS (fun H locs ls hl hP hD hS => ?_)
  refine lv_iload_n hx hb dX0_believersOf_33 rfl (lv_at hl 0 rfl) ?_
  exact hret 34 H locs ls o4 (Option.some.inj h) hP hD hS dX0_believersOf_34
theorem dX0_copyFrom_0 : decode cX0_copyFrom 0 = .ok (.aload_n 1, 1) := by decide +kernel
theorem dX0_copyFrom_1 : decode cX0_copyFrom 1 = .ok (.getfield 9, 3) := by decide +kernel
theorem dX0_copyFrom_4 : decode cX0_copyFrom 4 = .ok (.iconst 0, 1) := by decide +kernel
theorem dX0_copyFrom_5 : decode cX0_copyFrom 5 = .ok (.aload_n 0, 1) := by decide +kernel
theorem dX0_copyFrom_6 : decode cX0_copyFrom 6 = .ok (.getfield 9, 3) := by decide +kernel
theorem dX0_copyFrom_9 : decode cX0_copyFrom 9 = .ok (.iconst 0, 1) := by decide +kernel
theorem dX0_copyFrom_10 : decode cX0_copyFrom 10 = .ok (.bipush 8, 2) := by decide +kernel
theorem dX0_copyFrom_12 : decode cX0_copyFrom 12 = .ok (.invokestatic 57, 3) := by decide +kernel
theorem dX0_copyFrom_15 : decode cX0_copyFrom 15 = .ok (.aload_n 1, 1) := by decide +kernel
theorem dX0_copyFrom_16 : decode cX0_copyFrom 16 = .ok (.getfield 15, 3) := by decide +kernel
theorem dX0_copyFrom_19 : decode cX0_copyFrom 19 = .ok (.iconst 0, 1) := by decide +kernel
theorem dX0_copyFrom_20 : decode cX0_copyFrom 20 = .ok (.aload_n 0, 1) := by decide +kernel
theorem dX0_copyFrom_21 : decode cX0_copyFrom 21 = .ok (.getfield 15, 3) := by decide +kernel
theorem dX0_copyFrom_24 : decode cX0_copyFrom 24 = .ok (.iconst 0, 1) := by decide +kernel
theorem dX0_copyFrom_25 : decode cX0_copyFrom 25 = .ok (.bipush 8, 2) := by decide +kernel
theorem dX0_copyFrom_27 : decode cX0_copyFrom 27 = .ok (.invokestatic 57, 3) := by decide +kernel
theorem dX0_copyFrom_30 : decode cX0_copyFrom 30 = .ok (.aload_n 1, 1) := by decide +kernel
theorem dX0_copyFrom_31 : decode cX0_copyFrom 31 = .ok (.getfield 19, 3) := by decide +kernel
theorem dX0_copyFrom_34 : decode cX0_copyFrom 34 = .ok (.iconst 0, 1) := by decide +kernel
theorem dX0_copyFrom_35 : decode cX0_copyFrom 35 = .ok (.aload_n 0, 1) := by decide +kernel
theorem dX0_copyFrom_36 : decode cX0_copyFrom 36 = .ok (.getfield 19, 3) := by decide +kernel
theorem dX0_copyFrom_39 : decode cX0_copyFrom 39 = .ok (.iconst 0, 1) := by decide +kernel
theorem dX0_copyFrom_40 : decode cX0_copyFrom 40 = .ok (.bipush 8, 2) := by decide +kernel
theorem dX0_copyFrom_42 : decode cX0_copyFrom 42 = .ok (.invokestatic 57, 3) := by decide +kernel
theorem dX0_copyFrom_45 : decode cX0_copyFrom 45 = .ok (.aload_n 1, 1) := by decide +kernel
theorem dX0_copyFrom_46 : decode cX0_copyFrom 46 = .ok (.getfield 22, 3) := by decide +kernel
theorem dX0_copyFrom_49 : decode cX0_copyFrom 49 = .ok (.iconst 0, 1) := by decide +kernel
theorem dX0_copyFrom_50 : decode cX0_copyFrom 50 = .ok (.aload_n 0, 1) := by decide +kernel
theorem dX0_copyFrom_51 : decode cX0_copyFrom 51 = .ok (.getfield 22, 3) := by decide +kernel
theorem dX0_copyFrom_54 : decode cX0_copyFrom 54 = .ok (.iconst 0, 1) := by decide +kernel
theorem dX0_copyFrom_55 : decode cX0_copyFrom 55 = .ok (.bipush 8, 2) := by decide +kernel
theorem dX0_copyFrom_57 : decode cX0_copyFrom 57 = .ok (.invokestatic 57, 3) := by decide +kernel
theorem dX0_copyFrom_60 : decode cX0_copyFrom 60 = .ok (.aload_n 1, 1) := by decide +kernel
theorem dX0_copyFrom_61 : decode cX0_copyFrom 61 = .ok (.getfield 25, 3) := by decide +kernel
theorem dX0_copyFrom_64 : decode cX0_copyFrom 64 = .ok (.iconst 0, 1) := by decide +kernel
theorem dX0_copyFrom_65 : decode cX0_copyFrom 65 = .ok (.aload_n 0, 1) := by decide +kernel
theorem dX0_copyFrom_66 : decode cX0_copyFrom 66 = .ok (.getfield 25, 3) := by decide +kernel
theorem dX0_copyFrom_69 : decode cX0_copyFrom 69 = .ok (.iconst 0, 1) := by decide +kernel
theorem dX0_copyFrom_70 : decode cX0_copyFrom 70 = .ok (.bipush 8, 2) := by decide +kernel
theorem dX0_copyFrom_72 : decode cX0_copyFrom 72 = .ok (.invokestatic 57, 3) := by decide +kernel
theorem dX0_copyFrom_75 : decode cX0_copyFrom 75 = .ok (.aload_n 1, 1) := by decide +kernel
theorem dX0_copyFrom_76 : decode cX0_copyFrom 76 = .ok (.getfield 28, 3) := by decide +kernel
theorem dX0_copyFrom_79 : decode cX0_copyFrom 79 = .ok (.iconst 0, 1) := by decide +kernel
theorem dX0_copyFrom_80 : decode cX0_copyFrom 80 = .ok (.aload_n 0, 1) := by decide +kernel
theorem dX0_copyFrom_81 : decode cX0_copyFrom 81 = .ok (.getfield 28, 3) := by decide +kernel
theorem dX0_copyFrom_84 : decode cX0_copyFrom 84 = .ok (.iconst 0, 1) := by decide +kernel
theorem dX0_copyFrom_85 : decode cX0_copyFrom 85 = .ok (.bipush 8, 2) := by decide +kernel
theorem dX0_copyFrom_87 : decode cX0_copyFrom 87 = .ok (.invokestatic 57, 3) := by decide +kernel
theorem dX0_copyFrom_90 : decode cX0_copyFrom 90 = .ok (.aload_n 1, 1) := by decide +kernel
theorem dX0_copyFrom_91 : decode cX0_copyFrom 91 = .ok (.getfield 31, 3) := by decide +kernel
theorem dX0_copyFrom_94 : decode cX0_copyFrom 94 = .ok (.iconst 0, 1) := by decide +kernel
theorem dX0_copyFrom_95 : decode cX0_copyFrom 95 = .ok (.aload_n 0, 1) := by decide +kernel
theorem dX0_copyFrom_96 : decode cX0_copyFrom 96 = .ok (.getfield 31, 3) := by decide +kernel
theorem dX0_copyFrom_99 : decode cX0_copyFrom 99 = .ok (.iconst 0, 1) := by decide +kernel
theorem dX0_copyFrom_100 : decode cX0_copyFrom 100 = .ok (.bipush 8, 2) := by decide +kernel
theorem dX0_copyFrom_102 : decode cX0_copyFrom 102 = .ok (.invokestatic 57, 3) := by decide +kernel
theorem dX0_copyFrom_105 : decode cX0_copyFrom 105 = .ok (.aload_n 1, 1) := by decide +kernel
theorem dX0_copyFrom_106 : decode cX0_copyFrom 106 = .ok (.getfield 34, 3) := by decide +kernel
theorem dX0_copyFrom_109 : decode cX0_copyFrom 109 = .ok (.iconst 0, 1) := by decide +kernel
theorem dX0_copyFrom_110 : decode cX0_copyFrom 110 = .ok (.aload_n 0, 1) := by decide +kernel
theorem dX0_copyFrom_111 : decode cX0_copyFrom 111 = .ok (.getfield 34, 3) := by decide +kernel
theorem dX0_copyFrom_114 : decode cX0_copyFrom 114 = .ok (.iconst 0, 1) := by decide +kernel
theorem dX0_copyFrom_115 : decode cX0_copyFrom 115 = .ok (.bipush 64, 2) := by decide +kernel
theorem dX0_copyFrom_117 : decode cX0_copyFrom 117 = .ok (.invokestatic 57, 3) := by decide +kernel
theorem dX0_copyFrom_120 : decode cX0_copyFrom 120 = .ok (.aload_n 0, 1) := by decide +kernel
theorem dX0_copyFrom_121 : decode cX0_copyFrom 121 = .ok (.aload_n 1, 1) := by decide +kernel
theorem dX0_copyFrom_122 : decode cX0_copyFrom 122 = .ok (.getfield 37, 3) := by decide +kernel
theorem dX0_copyFrom_125 : decode cX0_copyFrom 125 = .ok (.putfield 37, 3) := by decide +kernel
theorem dX0_copyFrom_128 : decode cX0_copyFrom 128 = .ok (.aload_n 0, 1) := by decide +kernel
theorem dX0_copyFrom_129 : decode cX0_copyFrom 129 = .ok (.aload_n 1, 1) := by decide +kernel
theorem dX0_copyFrom_130 : decode cX0_copyFrom 130 = .ok (.getfield 54, 3) := by decide +kernel
theorem dX0_copyFrom_133 : decode cX0_copyFrom 133 = .ok (.putfield 54, 3) := by decide +kernel
theorem dX0_copyFrom_136 : decode cX0_copyFrom 136 = .ok (.aload_n 0, 1) := by decide +kernel
theorem dX0_copyFrom_137 : decode cX0_copyFrom 137 = .ok (.aload_n 1, 1) := by decide +kernel
theorem dX0_copyFrom_138 : decode cX0_copyFrom 138 = .ok (.getfield 41, 3) := by decide +kernel
theorem dX0_copyFrom_141 : decode cX0_copyFrom 141 = .ok (.putfield 41, 3) := by decide +kernel
theorem dX0_copyFrom_144 : decode cX0_copyFrom 144 = .ok (.aload_n 0, 1) := by decide +kernel
theorem dX0_copyFrom_145 : decode cX0_copyFrom 145 = .ok (.aload_n 1, 1) := by decide +kernel
theorem dX0_copyFrom_146 : decode cX0_copyFrom 146 = .ok (.getfield 44, 3) := by decide +kernel
theorem dX0_copyFrom_149 : decode cX0_copyFrom 149 = .ok (.putfield 44, 3) := by decide +kernel
theorem dX0_copyFrom_152 : decode cX0_copyFrom 152 = .ok (.aload_n 0, 1) := by decide +kernel
theorem dX0_copyFrom_153 : decode cX0_copyFrom 153 = .ok (.aload_n 1, 1) := by decide +kernel
theorem dX0_copyFrom_154 : decode cX0_copyFrom 154 = .ok (.getfield 48, 3) := by decide +kernel
theorem dX0_copyFrom_157 : decode cX0_copyFrom 157 = .ok (.putfield 48, 3) := by decide +kernel
theorem dX0_copyFrom_160 : decode cX0_copyFrom 160 = .ok (.aload_n 0, 1) := by decide +kernel
theorem dX0_copyFrom_161 : decode cX0_copyFrom 161 = .ok (.aload_n 1, 1) := by decide +kernel
theorem dX0_copyFrom_162 : decode cX0_copyFrom 162 = .ok (.getfield 51, 3) := by decide +kernel
theorem dX0_copyFrom_165 : decode cX0_copyFrom 165 = .ok (.putfield 51, 3) := by decide +kernel
theorem dX0_copyFrom_168 : decode cX0_copyFrom 168 = .ok (.return_, 1) := by decide +kernel
abbrev rmX0_copyFrom : Room := { frames := 1, cells := 0, slots := 0, locals := 40 }
set_option maxHeartbeats 4000000 in
set_option maxRecDepth 100000 in
theorem kX0_copyFrom (l : Launch) (D : va_G) (cy : Nat → ClassId) (h0 : Nat) (h_p1 : Nat) (a0 : Nat → Nat) (a1 : Nat → Nat) (s0 : Rc) (s1 : Rc) (res : Rc) (h : fX0_copyFrom s0 s1 = some res) : CV l D cy yX0_copyFrom wsX0_copyFrom rmX0_copyFrom [.ref h0, .ref h_p1] (flat [WX0 cy h0 a0 s0, WX0 cy h_p1 a1 s1]) (flat [WX0 cy h0 a0 res, WX0 cy h_p1 a1 s1]) := by
  refine CV.of (cc := cX0_copyFrom) (maxL := 2) (by decide) rfl (Nat.le_of_ble_eq_true rfl) ?_
  intro p e s m args below meth c A QQ ls E hr
  obtain ⟨hx, hb, hml, hown, hts, hK, hN, hP, hD, hA, hl⟩ := E
  have hret : ∀ (pc : Nat) (H : Heap) (locs : List Loc) (ls : Array Slot) (u : Rc), u = res → va_P D vwCl (flat [WX0 cy h0 a0 u, WX0 cy h_p1 a1 s1]) H → va_D A (flat [WX0 cy h0 a0 u, WX0 cy h_p1 a1 s1]) → va_S A s.heap H locs → decode cX0_copyFrom pc = .ok (.return_, 1) → W p l e rmX0_copyFrom s m args below meth c H locs 0 0 QQ (F0 m pc ls []) := by
    intro pc H locs ls u hu hP hD hS hd; subst hu; exact hr pc H locs ls hP hD hS hd
  clear hr
  have hl : lv_has ls 2 [(0, .ref h0), (1, .ref h_p1)] := hl
  have hinX0 : ∀ w ∈ wsX00, w ∈ wsX0_copyFrom := fun _ h => List.mem_cons_of_mem _ (List.mem_append_right _ h)
  unfold fX0_copyFrom at h
  suffices key : ∀ (H : Heap) (locs : List Loc), va_P D vwCl (flat [WX0 cy h0 a0 s0, WX0 cy h_p1 a1 s1]) H → va_S A s.heap H locs → W p l e rmX0_copyFrom s m args below meth c H locs 0 0 QQ (F0 m 0 ls []) from key _ _ hP va_S.rf
  clear hP
  intro H locs hP hS
  refine lv_aload_n hx hb dX0_copyFrom_0 rfl (lv_at hl 1 rfl) ?_
  refine va_get (D := D) (ci := 0) (v := .ref (a1 0)) (C := RX0) (T := TX0) (N := 14) hx hb hts hinX0 hown hK hP 9 rfl rfl 0 (by decide) (hts (.fieldLink RX0 9 "KneeBench$Bench" "names" "[J") (List.mem_of_getElem? (i := 1) rfl)) (fun _ h9 => h9) rfl dX0_copyFrom_1 ?_
  refine lv_iconst (v := 0) hx hb dX0_copyFrom_4 (by decide) ?_
  refine lv_aload_n hx hb dX0_copyFrom_5 rfl (lv_at hl 0 rfl) ?_
  refine va_get (D := D) (ci := 0) (v := .ref (a0 0)) (C := RX0) (T := TX0) (N := 14) hx hb hts hinX0 hown hK hP 0 rfl rfl 0 (by decide) (hts (.fieldLink RX0 9 "KneeBench$Bench" "names" "[J") (List.mem_of_getElem? (i := 1) rfl)) (fun _ h9 => h9) rfl dX0_copyFrom_6 ?_
  refine lv_iconst (v := 0) hx hb dX0_copyFrom_9 (by decide) ?_
  refine lv_bipush (v := 8) hx hb dX0_copyFrom_10 (by decide) ?_
  obtain ⟨s0_1, es, h⟩ := lt_elim h
  refine va_copyl hx hb (hml.trans hl.1.symm) hown (hts (.methodLink RX0 57 arraycopyName) (List.mem_of_getElem? (i := 2) rfl)) (hts (.native arraycopyName) (List.mem_of_getElem? (i := 3) rfl)) (hts (.static arraycopyName) (List.mem_of_getElem? (i := 4) rfl)) (hts (.initialized "java/lang/System") (List.mem_of_getElem? (i := 5) rfl)) hK hP hD hS 10 1 2 2 rfl rfl rfl rfl rfl (cpb_1 (show cpb (0 : Int32) (8 : Int32) 8 = true by decide)) (cpb_1 (show cpb (0 : Int32) (8 : Int32) 8 = true by decide)) (cpb_2 (show cpb (0 : Int32) (8 : Int32) 8 = true by decide)) (cpb_3 (show cpb (0 : Int32) (8 : Int32) 8 = true by decide)) (cpb_3 (show cpb (0 : Int32) (8 : Int32) 8 = true by decide)) (fun _ _ => rfl) (Nat.le_of_ble_eq_true rfl) (Nat.le_of_ble_eq_true rfl) dX0_copyFrom_12 (fun H locs hP hD hS => ?_)
  have hP : va_P D vwCl (flat [WX0 cy h0 a0 s0_1, WX0 cy h_p1 a1 s1]) H := by rw [es]; exact hP
  have hD : va_D A (flat [WX0 cy h0 a0 s0_1, WX0 cy h_p1 a1 s1]) := by rw [es]; exact hD
  clear es
  refine lv_aload_n hx hb dX0_copyFrom_15 rfl (lv_at hl 1 rfl) ?_
  refine va_get (D := D) (ci := 0) (v := .ref (a1 1)) (C := RX0) (T := TX0) (N := 14) hx hb hts hinX0 hown hK hP 9 rfl rfl 1 (by decide) (hts (.fieldLink RX0 15 "KneeBench$Bench" "lags" "[I") (List.mem_of_getElem? (i := 6) rfl)) (fun _ h9 => h9) rfl dX0_copyFrom_16 ?_
  refine lv_iconst (v := 0) hx hb dX0_copyFrom_19 (by decide) ?_
  refine lv_aload_n hx hb dX0_copyFrom_20 rfl (lv_at hl 0 rfl) ?_
  refine va_get (D := D) (ci := 0) (v := .ref (a0 1)) (C := RX0) (T := TX0) (N := 14) hx hb hts hinX0 hown hK hP 0 rfl rfl 1 (by decide) (hts (.fieldLink RX0 15 "KneeBench$Bench" "lags" "[I") (List.mem_of_getElem? (i := 6) rfl)) (fun _ h9 => h9) rfl dX0_copyFrom_21 ?_
  refine lv_iconst (v := 0) hx hb dX0_copyFrom_24 (by decide) ?_
  refine lv_bipush (v := 8) hx hb dX0_copyFrom_25 (by decide) ?_
  obtain ⟨s0_2, es, h⟩ := lt_elim h
  refine va_copyi hx hb (hml.trans hl.1.symm) hown (hts (.methodLink RX0 57 arraycopyName) (List.mem_of_getElem? (i := 2) rfl)) (hts (.native arraycopyName) (List.mem_of_getElem? (i := 3) rfl)) (hts (.static arraycopyName) (List.mem_of_getElem? (i := 4) rfl)) (hts (.initialized "java/lang/System") (List.mem_of_getElem? (i := 5) rfl)) hK hP hD hS 11 2 1 1 rfl rfl rfl rfl rfl (cpb_1 (show cpb (0 : Int32) (8 : Int32) 8 = true by decide)) (cpb_1 (show cpb (0 : Int32) (8 : Int32) 8 = true by decide)) (cpb_2 (show cpb (0 : Int32) (8 : Int32) 8 = true by decide)) (cpb_3 (show cpb (0 : Int32) (8 : Int32) 8 = true by decide)) (cpb_3 (show cpb (0 : Int32) (8 : Int32) 8 = true by decide)) (fun _ _ => rfl) (Nat.le_of_ble_eq_true rfl) (Nat.le_of_ble_eq_true rfl) dX0_copyFrom_27 (fun H locs hP hD hS => ?_)
  have hP : va_P D vwCl (flat [WX0 cy h0 a0 s0_2, WX0 cy h_p1 a1 s1]) H := by rw [es]; exact hP
  have hD : va_D A (flat [WX0 cy h0 a0 s0_2, WX0 cy h_p1 a1 s1]) := by rw [es]; exact hD
  clear es
  refine lv_aload_n hx hb dX0_copyFrom_30 rfl (lv_at hl 1 rfl) ?_
  refine va_get (D := D) (ci := 0) (v := .ref (a1 2)) (C := RX0) (T := TX0) (N := 14) hx hb hts hinX0 hown hK hP 9 rfl rfl 2 (by decide) (hts (.fieldLink RX0 19 "KneeBench$Bench" "fails" "[I") (List.mem_of_getElem? (i := 7) rfl)) (fun _ h9 => h9) rfl dX0_copyFrom_31 ?_
  refine lv_iconst (v := 0) hx hb dX0_copyFrom_34 (by decide) ?_
  refine lv_aload_n hx hb dX0_copyFrom_35 rfl (lv_at hl 0 rfl) ?_
  refine va_get (D := D) (ci := 0) (v := .ref (a0 2)) (C := RX0) (T := TX0) (N := 14) hx hb hts hinX0 hown hK hP 0 rfl rfl 2 (by decide) (hts (.fieldLink RX0 19 "KneeBench$Bench" "fails" "[I") (List.mem_of_getElem? (i := 7) rfl)) (fun _ h9 => h9) rfl dX0_copyFrom_36 ?_
  refine lv_iconst (v := 0) hx hb dX0_copyFrom_39 (by decide) ?_
  refine lv_bipush (v := 8) hx hb dX0_copyFrom_40 (by decide) ?_
  obtain ⟨s0_3, es, h⟩ := lt_elim h
  refine va_copyi hx hb (hml.trans hl.1.symm) hown (hts (.methodLink RX0 57 arraycopyName) (List.mem_of_getElem? (i := 2) rfl)) (hts (.native arraycopyName) (List.mem_of_getElem? (i := 3) rfl)) (hts (.static arraycopyName) (List.mem_of_getElem? (i := 4) rfl)) (hts (.initialized "java/lang/System") (List.mem_of_getElem? (i := 5) rfl)) hK hP hD hS 12 3 1 1 rfl rfl rfl rfl rfl (cpb_1 (show cpb (0 : Int32) (8 : Int32) 8 = true by decide)) (cpb_1 (show cpb (0 : Int32) (8 : Int32) 8 = true by decide)) (cpb_2 (show cpb (0 : Int32) (8 : Int32) 8 = true by decide)) (cpb_3 (show cpb (0 : Int32) (8 : Int32) 8 = true by decide)) (cpb_3 (show cpb (0 : Int32) (8 : Int32) 8 = true by decide)) (fun _ _ => rfl) (Nat.le_of_ble_eq_true rfl) (Nat.le_of_ble_eq_true rfl) dX0_copyFrom_42 (fun H locs hP hD hS => ?_)
  have hP : va_P D vwCl (flat [WX0 cy h0 a0 s0_3, WX0 cy h_p1 a1 s1]) H := by rw [es]; exact hP
  have hD : va_D A (flat [WX0 cy h0 a0 s0_3, WX0 cy h_p1 a1 s1]) := by rw [es]; exact hD
  clear es
  refine lv_aload_n hx hb dX0_copyFrom_45 rfl (lv_at hl 1 rfl) ?_
  refine va_get (D := D) (ci := 0) (v := .ref (a1 3)) (C := RX0) (T := TX0) (N := 14) hx hb hts hinX0 hown hK hP 9 rfl rfl 3 (by decide) (hts (.fieldLink RX0 22 "KneeBench$Bench" "falses" "[I") (List.mem_of_getElem? (i := 8) rfl)) (fun _ h9 => h9) rfl dX0_copyFrom_46 ?_
  refine lv_iconst (v := 0) hx hb dX0_copyFrom_49 (by decide) ?_
  refine lv_aload_n hx hb dX0_copyFrom_50 rfl (lv_at hl 0 rfl) ?_
  refine va_get (D := D) (ci := 0) (v := .ref (a0 3)) (C := RX0) (T := TX0) (N := 14) hx hb hts hinX0 hown hK hP 0 rfl rfl 3 (by decide) (hts (.fieldLink RX0 22 "KneeBench$Bench" "falses" "[I") (List.mem_of_getElem? (i := 8) rfl)) (fun _ h9 => h9) rfl dX0_copyFrom_51 ?_
  refine lv_iconst (v := 0) hx hb dX0_copyFrom_54 (by decide) ?_
  refine lv_bipush (v := 8) hx hb dX0_copyFrom_55 (by decide) ?_
  obtain ⟨s0_4, es, h⟩ := lt_elim h
  refine va_copyi hx hb (hml.trans hl.1.symm) hown (hts (.methodLink RX0 57 arraycopyName) (List.mem_of_getElem? (i := 2) rfl)) (hts (.native arraycopyName) (List.mem_of_getElem? (i := 3) rfl)) (hts (.static arraycopyName) (List.mem_of_getElem? (i := 4) rfl)) (hts (.initialized "java/lang/System") (List.mem_of_getElem? (i := 5) rfl)) hK hP hD hS 13 4 1 1 rfl rfl rfl rfl rfl (cpb_1 (show cpb (0 : Int32) (8 : Int32) 8 = true by decide)) (cpb_1 (show cpb (0 : Int32) (8 : Int32) 8 = true by decide)) (cpb_2 (show cpb (0 : Int32) (8 : Int32) 8 = true by decide)) (cpb_3 (show cpb (0 : Int32) (8 : Int32) 8 = true by decide)) (cpb_3 (show cpb (0 : Int32) (8 : Int32) 8 = true by decide)) (fun _ _ => rfl) (Nat.le_of_ble_eq_true rfl) (Nat.le_of_ble_eq_true rfl) dX0_copyFrom_57 (fun H locs hP hD hS => ?_)
  have hP : va_P D vwCl (flat [WX0 cy h0 a0 s0_4, WX0 cy h_p1 a1 s1]) H := by rw [es]; exact hP
  have hD : va_D A (flat [WX0 cy h0 a0 s0_4, WX0 cy h_p1 a1 s1]) := by rw [es]; exact hD
  clear es
  refine lv_aload_n hx hb dX0_copyFrom_60 rfl (lv_at hl 1 rfl) ?_
  refine va_get (D := D) (ci := 0) (v := .ref (a1 4)) (C := RX0) (T := TX0) (N := 14) hx hb hts hinX0 hown hK hP 9 rfl rfl 4 (by decide) (hts (.fieldLink RX0 25 "KneeBench$Bench" "cures" "[I") (List.mem_of_getElem? (i := 9) rfl)) (fun _ h9 => h9) rfl dX0_copyFrom_61 ?_
  refine lv_iconst (v := 0) hx hb dX0_copyFrom_64 (by decide) ?_
  refine lv_aload_n hx hb dX0_copyFrom_65 rfl (lv_at hl 0 rfl) ?_
  refine va_get (D := D) (ci := 0) (v := .ref (a0 4)) (C := RX0) (T := TX0) (N := 14) hx hb hts hinX0 hown hK hP 0 rfl rfl 4 (by decide) (hts (.fieldLink RX0 25 "KneeBench$Bench" "cures" "[I") (List.mem_of_getElem? (i := 9) rfl)) (fun _ h9 => h9) rfl dX0_copyFrom_66 ?_
  refine lv_iconst (v := 0) hx hb dX0_copyFrom_69 (by decide) ?_
  refine lv_bipush (v := 8) hx hb dX0_copyFrom_70 (by decide) ?_
  obtain ⟨s0_5, es, h⟩ := lt_elim h
  refine va_copyi hx hb (hml.trans hl.1.symm) hown (hts (.methodLink RX0 57 arraycopyName) (List.mem_of_getElem? (i := 2) rfl)) (hts (.native arraycopyName) (List.mem_of_getElem? (i := 3) rfl)) (hts (.static arraycopyName) (List.mem_of_getElem? (i := 4) rfl)) (hts (.initialized "java/lang/System") (List.mem_of_getElem? (i := 5) rfl)) hK hP hD hS 14 5 1 1 rfl rfl rfl rfl rfl (cpb_1 (show cpb (0 : Int32) (8 : Int32) 8 = true by decide)) (cpb_1 (show cpb (0 : Int32) (8 : Int32) 8 = true by decide)) (cpb_2 (show cpb (0 : Int32) (8 : Int32) 8 = true by decide)) (cpb_3 (show cpb (0 : Int32) (8 : Int32) 8 = true by decide)) (cpb_3 (show cpb (0 : Int32) (8 : Int32) 8 = true by decide)) (fun _ _ => rfl) (Nat.le_of_ble_eq_true rfl) (Nat.le_of_ble_eq_true rfl) dX0_copyFrom_72 (fun H locs hP hD hS => ?_)
  have hP : va_P D vwCl (flat [WX0 cy h0 a0 s0_5, WX0 cy h_p1 a1 s1]) H := by rw [es]; exact hP
  have hD : va_D A (flat [WX0 cy h0 a0 s0_5, WX0 cy h_p1 a1 s1]) := by rw [es]; exact hD
  clear es
  refine lv_aload_n hx hb dX0_copyFrom_75 rfl (lv_at hl 1 rfl) ?_
  refine va_get (D := D) (ci := 0) (v := .ref (a1 5)) (C := RX0) (T := TX0) (N := 14) hx hb hts hinX0 hown hK hP 9 rfl rfl 5 (by decide) (hts (.fieldLink RX0 28 "KneeBench$Bench" "weights" "[I") (List.mem_of_getElem? (i := 10) rfl)) (fun _ h9 => h9) rfl dX0_copyFrom_76 ?_
  refine lv_iconst (v := 0) hx hb dX0_copyFrom_79 (by decide) ?_
  refine lv_aload_n hx hb dX0_copyFrom_80 rfl (lv_at hl 0 rfl) ?_
  refine va_get (D := D) (ci := 0) (v := .ref (a0 5)) (C := RX0) (T := TX0) (N := 14) hx hb hts hinX0 hown hK hP 0 rfl rfl 5 (by decide) (hts (.fieldLink RX0 28 "KneeBench$Bench" "weights" "[I") (List.mem_of_getElem? (i := 10) rfl)) (fun _ h9 => h9) rfl dX0_copyFrom_81 ?_
  refine lv_iconst (v := 0) hx hb dX0_copyFrom_84 (by decide) ?_
  refine lv_bipush (v := 8) hx hb dX0_copyFrom_85 (by decide) ?_
  obtain ⟨s0_6, es, h⟩ := lt_elim h
  refine va_copyi hx hb (hml.trans hl.1.symm) hown (hts (.methodLink RX0 57 arraycopyName) (List.mem_of_getElem? (i := 2) rfl)) (hts (.native arraycopyName) (List.mem_of_getElem? (i := 3) rfl)) (hts (.static arraycopyName) (List.mem_of_getElem? (i := 4) rfl)) (hts (.initialized "java/lang/System") (List.mem_of_getElem? (i := 5) rfl)) hK hP hD hS 15 6 1 1 rfl rfl rfl rfl rfl (cpb_1 (show cpb (0 : Int32) (8 : Int32) 8 = true by decide)) (cpb_1 (show cpb (0 : Int32) (8 : Int32) 8 = true by decide)) (cpb_2 (show cpb (0 : Int32) (8 : Int32) 8 = true by decide)) (cpb_3 (show cpb (0 : Int32) (8 : Int32) 8 = true by decide)) (cpb_3 (show cpb (0 : Int32) (8 : Int32) 8 = true by decide)) (fun _ _ => rfl) (Nat.le_of_ble_eq_true rfl) (Nat.le_of_ble_eq_true rfl) dX0_copyFrom_87 (fun H locs hP hD hS => ?_)
  have hP : va_P D vwCl (flat [WX0 cy h0 a0 s0_6, WX0 cy h_p1 a1 s1]) H := by rw [es]; exact hP
  have hD : va_D A (flat [WX0 cy h0 a0 s0_6, WX0 cy h_p1 a1 s1]) := by rw [es]; exact hD
  clear es
  refine lv_aload_n hx hb dX0_copyFrom_90 rfl (lv_at hl 1 rfl) ?_
  refine va_get (D := D) (ci := 0) (v := .ref (a1 6)) (C := RX0) (T := TX0) (N := 14) hx hb hts hinX0 hown hK hP 9 rfl rfl 6 (by decide) (hts (.fieldLink RX0 31 "KneeBench$Bench" "twinges" "[J") (List.mem_of_getElem? (i := 11) rfl)) (fun _ h9 => h9) rfl dX0_copyFrom_91 ?_
  refine lv_iconst (v := 0) hx hb dX0_copyFrom_94 (by decide) ?_
  refine lv_aload_n hx hb dX0_copyFrom_95 rfl (lv_at hl 0 rfl) ?_
  refine va_get (D := D) (ci := 0) (v := .ref (a0 6)) (C := RX0) (T := TX0) (N := 14) hx hb hts hinX0 hown hK hP 0 rfl rfl 6 (by decide) (hts (.fieldLink RX0 31 "KneeBench$Bench" "twinges" "[J") (List.mem_of_getElem? (i := 11) rfl)) (fun _ h9 => h9) rfl dX0_copyFrom_96 ?_
  refine lv_iconst (v := 0) hx hb dX0_copyFrom_99 (by decide) ?_
  refine lv_bipush (v := 8) hx hb dX0_copyFrom_100 (by decide) ?_
  obtain ⟨s0_7, es, h⟩ := lt_elim h
  refine va_copyl hx hb (hml.trans hl.1.symm) hown (hts (.methodLink RX0 57 arraycopyName) (List.mem_of_getElem? (i := 2) rfl)) (hts (.native arraycopyName) (List.mem_of_getElem? (i := 3) rfl)) (hts (.static arraycopyName) (List.mem_of_getElem? (i := 4) rfl)) (hts (.initialized "java/lang/System") (List.mem_of_getElem? (i := 5) rfl)) hK hP hD hS 16 7 2 2 rfl rfl rfl rfl rfl (cpb_1 (show cpb (0 : Int32) (8 : Int32) 8 = true by decide)) (cpb_1 (show cpb (0 : Int32) (8 : Int32) 8 = true by decide)) (cpb_2 (show cpb (0 : Int32) (8 : Int32) 8 = true by decide)) (cpb_3 (show cpb (0 : Int32) (8 : Int32) 8 = true by decide)) (cpb_3 (show cpb (0 : Int32) (8 : Int32) 8 = true by decide)) (fun _ _ => rfl) (Nat.le_of_ble_eq_true rfl) (Nat.le_of_ble_eq_true rfl) dX0_copyFrom_102 (fun H locs hP hD hS => ?_)
  have hP : va_P D vwCl (flat [WX0 cy h0 a0 s0_7, WX0 cy h_p1 a1 s1]) H := by rw [es]; exact hP
  have hD : va_D A (flat [WX0 cy h0 a0 s0_7, WX0 cy h_p1 a1 s1]) := by rw [es]; exact hD
  clear es
  refine lv_aload_n hx hb dX0_copyFrom_105 rfl (lv_at hl 1 rfl) ?_
  refine va_get (D := D) (ci := 0) (v := .ref (a1 7)) (C := RX0) (T := TX0) (N := 14) hx hb hts hinX0 hown hK hP 9 rfl rfl 7 (by decide) (hts (.fieldLink RX0 34 "KneeBench$Bench" "grudges" "[I") (List.mem_of_getElem? (i := 12) rfl)) (fun _ h9 => h9) rfl dX0_copyFrom_106 ?_
  refine lv_iconst (v := 0) hx hb dX0_copyFrom_109 (by decide) ?_
  refine lv_aload_n hx hb dX0_copyFrom_110 rfl (lv_at hl 0 rfl) ?_
  refine va_get (D := D) (ci := 0) (v := .ref (a0 7)) (C := RX0) (T := TX0) (N := 14) hx hb hts hinX0 hown hK hP 0 rfl rfl 7 (by decide) (hts (.fieldLink RX0 34 "KneeBench$Bench" "grudges" "[I") (List.mem_of_getElem? (i := 12) rfl)) (fun _ h9 => h9) rfl dX0_copyFrom_111 ?_
  refine lv_iconst (v := 0) hx hb dX0_copyFrom_114 (by decide) ?_
  refine lv_bipush (v := 64) hx hb dX0_copyFrom_115 (by decide) ?_
  obtain ⟨s0_8, es, h⟩ := lt_elim h
  refine va_copyi hx hb (hml.trans hl.1.symm) hown (hts (.methodLink RX0 57 arraycopyName) (List.mem_of_getElem? (i := 2) rfl)) (hts (.native arraycopyName) (List.mem_of_getElem? (i := 3) rfl)) (hts (.static arraycopyName) (List.mem_of_getElem? (i := 4) rfl)) (hts (.initialized "java/lang/System") (List.mem_of_getElem? (i := 5) rfl)) hK hP hD hS 17 8 1 1 rfl rfl rfl rfl rfl (cpb_1 (show cpb (0 : Int32) (64 : Int32) 64 = true by decide)) (cpb_1 (show cpb (0 : Int32) (64 : Int32) 64 = true by decide)) (cpb_2 (show cpb (0 : Int32) (64 : Int32) 64 = true by decide)) (cpb_3 (show cpb (0 : Int32) (64 : Int32) 64 = true by decide)) (cpb_3 (show cpb (0 : Int32) (64 : Int32) 64 = true by decide)) (fun _ _ => rfl) (Nat.le_of_ble_eq_true rfl) (Nat.le_of_ble_eq_true rfl) dX0_copyFrom_117 (fun H locs hP hD hS => ?_)
  have hP : va_P D vwCl (flat [WX0 cy h0 a0 s0_8, WX0 cy h_p1 a1 s1]) H := by rw [es]; exact hP
  have hD : va_D A (flat [WX0 cy h0 a0 s0_8, WX0 cy h_p1 a1 s1]) := by rw [es]; exact hD
  clear es
  refine lv_aload_n hx hb dX0_copyFrom_120 rfl (lv_at hl 0 rfl) ?_
  refine lv_aload_n hx hb dX0_copyFrom_121 rfl (lv_at hl 1 rfl) ?_
  refine va_get (D := D) (ci := 0) (v := .int (gi s1 8)) (C := RX0) (T := TX0) (N := 14) hx hb hts hinX0 hown hK hP 9 rfl rfl 8 (by decide) (hts (.fieldLink RX0 37 "KneeBench$Bench" "farmers" "I") (List.mem_of_getElem? (i := 13) rfl)) (fun _ h9 => h9) rfl dX0_copyFrom_122 ?_
  obtain ⟨s0_9, es, h⟩ := lt_elim h
  refine va_put (D := D) (ci := 0) (v := .int (gi s1 8)) (ty := .int) (C := RX0) (T := TX0) (N := 14) hx hb hts hinX0 tyX0 tyX0_ok nmX0 hown hK hP hD hS 0 rfl rfl 8 (by decide) (hts (.fieldLink RX0 37 "KneeBench$Bench" "farmers" "I") (List.mem_of_getElem? (i := 13) rfl)) (fun _ h9 => h9) rfl (by decide +kernel) rfl rfl (Nat.le_of_ble_eq_true rfl) dX0_copyFrom_125 (fun H locs hP hD hS => ?_)
  have hP : va_P D vwCl (flat [WX0 cy h0 a0 s0_9, WX0 cy h_p1 a1 s1]) H := by rw [es]; exact hP
  have hD : va_D A (flat [WX0 cy h0 a0 s0_9, WX0 cy h_p1 a1 s1]) := by rw [es]; exact hD
  clear es
  refine lv_aload_n hx hb dX0_copyFrom_128 rfl (lv_at hl 0 rfl) ?_
  refine lv_aload_n hx hb dX0_copyFrom_129 rfl (lv_at hl 1 rfl) ?_
  refine va_get (D := D) (ci := 0) (v := .int (gi s1 13)) (C := RX0) (T := TX0) (N := 14) hx hb hts hinX0 hown hK hP 9 rfl rfl 13 (by decide) (hts (.fieldLink RX0 54 "KneeBench$Bench" "elbows" "I") (List.mem_of_getElem? (i := 14) rfl)) (fun _ h9 => h9) rfl dX0_copyFrom_130 ?_
  obtain ⟨s0_10, es, h⟩ := lt_elim h
  refine va_put (D := D) (ci := 0) (v := .int (gi s1 13)) (ty := .int) (C := RX0) (T := TX0) (N := 14) hx hb hts hinX0 tyX0 tyX0_ok nmX0 hown hK hP hD hS 0 rfl rfl 13 (by decide) (hts (.fieldLink RX0 54 "KneeBench$Bench" "elbows" "I") (List.mem_of_getElem? (i := 14) rfl)) (fun _ h9 => h9) rfl (by decide +kernel) rfl rfl (Nat.le_of_ble_eq_true rfl) dX0_copyFrom_133 (fun H locs hP hD hS => ?_)
  have hP : va_P D vwCl (flat [WX0 cy h0 a0 s0_10, WX0 cy h_p1 a1 s1]) H := by rw [es]; exact hP
  have hD : va_D A (flat [WX0 cy h0 a0 s0_10, WX0 cy h_p1 a1 s1]) := by rw [es]; exact hD
  clear es
  refine lv_aload_n hx hb dX0_copyFrom_136 rfl (lv_at hl 0 rfl) ?_
  refine lv_aload_n hx hb dX0_copyFrom_137 rfl (lv_at hl 1 rfl) ?_
  refine va_get (D := D) (ci := 0) (v := .int (gi s1 9)) (C := RX0) (T := TX0) (N := 14) hx hb hts hinX0 hown hK hP 9 rfl rfl 9 (by decide) (hts (.fieldLink RX0 41 "KneeBench$Bench" "days" "I") (List.mem_of_getElem? (i := 15) rfl)) (fun _ h9 => h9) rfl dX0_copyFrom_138 ?_
  obtain ⟨s0_11, es, h⟩ := lt_elim h
  refine va_put (D := D) (ci := 0) (v := .int (gi s1 9)) (ty := .int) (C := RX0) (T := TX0) (N := 14) hx hb hts hinX0 tyX0 tyX0_ok nmX0 hown hK hP hD hS 0 rfl rfl 9 (by decide) (hts (.fieldLink RX0 41 "KneeBench$Bench" "days" "I") (List.mem_of_getElem? (i := 15) rfl)) (fun _ h9 => h9) rfl (by decide +kernel) rfl rfl (Nat.le_of_ble_eq_true rfl) dX0_copyFrom_141 (fun H locs hP hD hS => ?_)
  have hP : va_P D vwCl (flat [WX0 cy h0 a0 s0_11, WX0 cy h_p1 a1 s1]) H := by rw [es]; exact hP
  have hD : va_D A (flat [WX0 cy h0 a0 s0_11, WX0 cy h_p1 a1 s1]) := by rw [es]; exact hD
  clear es
  refine lv_aload_n hx hb dX0_copyFrom_144 rfl (lv_at hl 0 rfl) ?_
  refine lv_aload_n hx hb dX0_copyFrom_145 rfl (lv_at hl 1 rfl) ?_
  refine va_get (D := D) (ci := 0) (v := .long (gl s1 10)) (C := RX0) (T := TX0) (N := 14) hx hb hts hinX0 hown hK hP 9 rfl rfl 10 (by decide) (hts (.fieldLink RX0 44 "KneeBench$Bench" "wet" "J") (List.mem_of_getElem? (i := 16) rfl)) (fun _ h9 => h9) rfl dX0_copyFrom_146 ?_
  obtain ⟨s0_12, es, h⟩ := lt_elim h
  refine va_put (D := D) (ci := 0) (v := .long (gl s1 10)) (ty := .long) (C := RX0) (T := TX0) (N := 14) hx hb hts hinX0 tyX0 tyX0_ok nmX0 hown hK hP hD hS 0 rfl rfl 10 (by decide) (hts (.fieldLink RX0 44 "KneeBench$Bench" "wet" "J") (List.mem_of_getElem? (i := 16) rfl)) (fun _ h9 => h9) rfl (by decide +kernel) rfl rfl (Nat.le_of_ble_eq_true rfl) dX0_copyFrom_149 (fun H locs hP hD hS => ?_)
  have hP : va_P D vwCl (flat [WX0 cy h0 a0 s0_12, WX0 cy h_p1 a1 s1]) H := by rw [es]; exact hP
  have hD : va_D A (flat [WX0 cy h0 a0 s0_12, WX0 cy h_p1 a1 s1]) := by rw [es]; exact hD
  clear es
  refine lv_aload_n hx hb dX0_copyFrom_152 rfl (lv_at hl 0 rfl) ?_
  refine lv_aload_n hx hb dX0_copyFrom_153 rfl (lv_at hl 1 rfl) ?_
  refine va_get (D := D) (ci := 0) (v := .long (gl s1 11)) (C := RX0) (T := TX0) (N := 14) hx hb hts hinX0 hown hK hP 9 rfl rfl 11 (by decide) (hts (.fieldLink RX0 48 "KneeBench$Bench" "hail" "J") (List.mem_of_getElem? (i := 17) rfl)) (fun _ h9 => h9) rfl dX0_copyFrom_154 ?_
  obtain ⟨s0_13, es, h⟩ := lt_elim h
  refine va_put (D := D) (ci := 0) (v := .long (gl s1 11)) (ty := .long) (C := RX0) (T := TX0) (N := 14) hx hb hts hinX0 tyX0 tyX0_ok nmX0 hown hK hP hD hS 0 rfl rfl 11 (by decide) (hts (.fieldLink RX0 48 "KneeBench$Bench" "hail" "J") (List.mem_of_getElem? (i := 17) rfl)) (fun _ h9 => h9) rfl (by decide +kernel) rfl rfl (Nat.le_of_ble_eq_true rfl) dX0_copyFrom_157 (fun H locs hP hD hS => ?_)
  have hP : va_P D vwCl (flat [WX0 cy h0 a0 s0_13, WX0 cy h_p1 a1 s1]) H := by rw [es]; exact hP
  have hD : va_D A (flat [WX0 cy h0 a0 s0_13, WX0 cy h_p1 a1 s1]) := by rw [es]; exact hD
  clear es
  refine lv_aload_n hx hb dX0_copyFrom_160 rfl (lv_at hl 0 rfl) ?_
  refine lv_aload_n hx hb dX0_copyFrom_161 rfl (lv_at hl 1 rfl) ?_
  refine va_get (D := D) (ci := 0) (v := .int (gi s1 12)) (C := RX0) (T := TX0) (N := 14) hx hb hts hinX0 hown hK hP 9 rfl rfl 12 (by decide) (hts (.fieldLink RX0 51 "KneeBench$Bench" "vote" "I") (List.mem_of_getElem? (i := 18) rfl)) (fun _ h9 => h9) rfl dX0_copyFrom_162 ?_
  obtain ⟨s0_14, es, h⟩ := lt_elim h
  refine va_put (D := D) (ci := 0) (v := .int (gi s1 12)) (ty := .int) (C := RX0) (T := TX0) (N := 14) hx hb hts hinX0 tyX0 tyX0_ok nmX0 hown hK hP hD hS 0 rfl rfl 12 (by decide) (hts (.fieldLink RX0 51 "KneeBench$Bench" "vote" "I") (List.mem_of_getElem? (i := 18) rfl)) (fun _ h9 => h9) rfl (by decide +kernel) rfl rfl (Nat.le_of_ble_eq_true rfl) dX0_copyFrom_165 (fun H locs hP hD hS => ?_)
  have hP : va_P D vwCl (flat [WX0 cy h0 a0 s0_14, WX0 cy h_p1 a1 s1]) H := by rw [es]; exact hP
  have hD : va_D A (flat [WX0 cy h0 a0 s0_14, WX0 cy h_p1 a1 s1]) := by rw [es]; exact hD
  clear es
  exact hret 168 H locs ls s0_14 (Option.some.inj h) hP hD hS dX0_copyFrom_168
theorem dX0_hasFarmer_0 : decode cX0_hasFarmer 0 = .ok (.iload_n 1, 1) := by decide +kernel
theorem dX0_hasFarmer_1 : decode cX0_hasFarmer 1 = .ok (.ifCond .lt 15, 3) := by decide +kernel
theorem dX0_hasFarmer_4 : decode cX0_hasFarmer 4 = .ok (.iload_n 1, 1) := by decide +kernel
theorem dX0_hasFarmer_5 : decode cX0_hasFarmer 5 = .ok (.aload_n 0, 1) := by decide +kernel
theorem dX0_hasFarmer_6 : decode cX0_hasFarmer 6 = .ok (.getfield 37, 3) := by decide +kernel
theorem dX0_hasFarmer_9 : decode cX0_hasFarmer 9 = .ok (.if_icmp .ge 7, 3) := by decide +kernel
theorem dX0_hasFarmer_12 : decode cX0_hasFarmer 12 = .ok (.iconst 1, 1) := by decide +kernel
theorem dX0_hasFarmer_13 : decode cX0_hasFarmer 13 = .ok (.goto 4, 3) := by decide +kernel
theorem dX0_hasFarmer_16 : decode cX0_hasFarmer 16 = .ok (.iconst 0, 1) := by decide +kernel
theorem dX0_hasFarmer_17 : decode cX0_hasFarmer 17 = .ok (.ireturn, 1) := by decide +kernel
abbrev rmX0_hasFarmer : Room := { frames := 0, cells := 0, slots := 0, locals := 0 }
set_option maxHeartbeats 4000000 in
set_option maxRecDepth 100000 in
theorem kX0_hasFarmer (l : Launch) (D : va_G) (cy : Nat → ClassId) (h0 : Nat) (a0 : Nat → Nat) (s0 : Rc) (p1 : Int32) (res : Int32) (h : fX0_hasFarmer p1 s0 = res) : CZ l D cy yX0_hasFarmer wsX0_hasFarmer rmX0_hasFarmer [.ref h0, .int p1] (flat [WX0 cy h0 a0 s0]) (flat [WX0 cy h0 a0 s0]) res := by
  refine CZ.of (cc := cX0_hasFarmer) (maxL := 2) (by decide) rfl (Nat.le_of_ble_eq_true rfl) ?_
  intro p e s m args below meth c A QQ ls E hr
  obtain ⟨hx, hb, hml, hown, hts, hK, hN, hP, hD, hA, hl⟩ := E
  have hret : ∀ (pc : Nat) (H : Heap) (locs : List Loc) (ls : Array Slot) (u : Int32), u = res → va_P D vwCl (flat [WX0 cy h0 a0 s0]) H → va_D A (flat [WX0 cy h0 a0 s0]) → va_S A s.heap H locs → isb u = true → decode cX0_hasFarmer pc = .ok (.ireturn, 1) → W p l e rmX0_hasFarmer s m args below meth c H locs 0 0 QQ (F0 m pc ls [.int u]) := by
    intro pc H locs ls u hu hP hD hS hz hd; subst hu; exact hr pc H locs ls _ rfl hP hD hS hz hd
  clear hr
  have hl : lv_has ls 2 [(0, .ref h0), (1, .int p1)] := hl
  have hinX0 : ∀ w ∈ wsX00, w ∈ wsX0_hasFarmer := fun _ h => List.mem_cons_of_mem _ (List.mem_append_right _ h)
  unfold fX0_hasFarmer at h
  suffices key : ∀ (H : Heap) (locs : List Loc), va_P D vwCl (flat [WX0 cy h0 a0 s0]) H → va_S A s.heap H locs → W p l e rmX0_hasFarmer s m args below meth c H locs 0 0 QQ (F0 m 0 ls []) from key _ _ hP va_S.rf
  clear hP
  intro H locs hP hS
  refine lv_iload_n hx hb dX0_hasFarmer_0 rfl (lv_at hl 1 rfl) ?_
  refine lv_if_lt (tgt := 16) hx hb dX0_hasFarmer_1 (by decide) (fun c1 => ?_) (fun c1 => ?_)
  · replace h := (if_pos c1).symm.trans h
    refine lv_iconst (v := 0) hx hb dX0_hasFarmer_16 (by decide) ?_
    exact hret 17 H locs ls (0 : Int32) h hP hD hS (show isb (0 : Int32) = true by decide) dX0_hasFarmer_17
  · replace h := (if_neg c1).symm.trans h
    refine lv_iload_n hx hb dX0_hasFarmer_4 rfl (lv_at hl 1 rfl) ?_
    refine lv_aload_n hx hb dX0_hasFarmer_5 rfl (lv_at hl 0 rfl) ?_
    refine va_get (D := D) (ci := 0) (v := .int (gi s0 8)) (C := RX0) (T := TX0) (N := 14) hx hb hts hinX0 hown hK hP 0 rfl rfl 8 (by decide) (hts (.fieldLink RX0 37 "KneeBench$Bench" "farmers" "I") (List.mem_of_getElem? (i := 1) rfl)) (fun _ h9 => h9) rfl dX0_hasFarmer_6 ?_
    refine lv_icmp_ge (tgt := 16) hx hb dX0_hasFarmer_9 (by decide) (fun c2 => ?_) (fun c2 => ?_)
    · replace h := (if_pos c2).symm.trans h
      refine lv_iconst (v := 0) hx hb dX0_hasFarmer_16 (by decide) ?_
      exact hret 17 H locs ls (0 : Int32) h hP hD hS (show isb (0 : Int32) = true by decide) dX0_hasFarmer_17
    · replace h := (if_neg c2).symm.trans h
      refine lv_iconst (v := 1) hx hb dX0_hasFarmer_12 (by decide) ?_
      refine lv_goto (tgt := 17) hx hb dX0_hasFarmer_13 (by decide) ?_
      exact hret 17 H locs ls (1 : Int32) h hP hD hS (show isb (1 : Int32) = true by decide) dX0_hasFarmer_17
theorem gd_X0_cureOn : wsX0_cureOn.all goodWord = true := by decide +kernel
set_option maxRecDepth 20000 in
theorem ggX0_cureOn_X0_hasFarmer : GoodIn wsX0_cureOn wsX0_hasFarmer := goodIn_by gd_X0_cureOn (List.forall_mem_cons.mpr ⟨List.mem_cons_of_mem _ (List.mem_append_left _ (List.mem_of_getElem? (i := 5) rfl)), List.forall_mem_append.mpr ⟨List.forall_mem_cons.mpr ⟨List.mem_cons_of_mem _ (List.mem_append_left _ (List.mem_of_getElem? (i := 6) rfl)), nowords_in⟩, (fun _ h => List.mem_cons_of_mem _ (List.mem_append_right _ (h)))⟩⟩)
set_option maxRecDepth 20000 in
theorem gX0_cureOn_X0_hasFarmer : GoodIn wsX0_cureOn (wsV RX0 94 RX0 yX0_hasFarmer wsX0_hasFarmer) := goodIn_app (goodIn_by gd_X0_cureOn (List.forall_mem_cons.mpr ⟨List.mem_cons_of_mem _ (List.mem_append_left _ (List.mem_of_getElem? (i := 1) rfl)), List.forall_mem_cons.mpr ⟨List.mem_cons_of_mem _ (List.mem_append_left _ (List.mem_of_getElem? (i := 2) rfl)), List.forall_mem_cons.mpr ⟨List.mem_cons_of_mem _ (List.mem_append_left _ (List.mem_of_getElem? (i := 3) rfl)), List.forall_mem_cons.mpr ⟨List.mem_cons_of_mem _ (List.mem_append_left _ (List.mem_of_getElem? (i := 4) rfl)), nowords_in⟩⟩⟩⟩)) ggX0_cureOn_X0_hasFarmer
theorem dX0_cureOn_0 : decode cX0_cureOn 0 = .ok (.aload_n 0, 1) := by decide +kernel
theorem dX0_cureOn_1 : decode cX0_cureOn 1 = .ok (.iload_n 1, 1) := by decide +kernel
theorem dX0_cureOn_2 : decode cX0_cureOn 2 = .ok (.invokevirtual 94, 3) := by decide +kernel
theorem dX0_cureOn_5 : decode cX0_cureOn 5 = .ok (.ifCond .eq 10, 3) := by decide +kernel
theorem dX0_cureOn_8 : decode cX0_cureOn 8 = .ok (.aload_n 0, 1) := by decide +kernel
theorem dX0_cureOn_9 : decode cX0_cureOn 9 = .ok (.getfield 25, 3) := by decide +kernel
theorem dX0_cureOn_12 : decode cX0_cureOn 12 = .ok (.iload_n 1, 1) := by decide +kernel
theorem dX0_cureOn_13 : decode cX0_cureOn 13 = .ok (.iload_n 2, 1) := by decide +kernel
theorem dX0_cureOn_14 : decode cX0_cureOn 14 = .ok (.iastore, 1) := by decide +kernel
theorem dX0_cureOn_15 : decode cX0_cureOn 15 = .ok (.return_, 1) := by decide +kernel
abbrev rmX0_cureOn : Room := { frames := 1, cells := 0, slots := 0, locals := 21 }
set_option maxHeartbeats 4000000 in
set_option maxRecDepth 100000 in
theorem kX0_cureOn (l : Launch) (D : va_G) (cy : Nat → ClassId) (h0 : Nat) (a0 : Nat → Nat) (s0 : Rc) (p1 : Int32) (p2 : Int32) (res : Rc) (h : fX0_cureOn p1 p2 s0 = some res) : CV l D cy yX0_cureOn wsX0_cureOn rmX0_cureOn [.ref h0, .int p1, .int p2] (flat [WX0 cy h0 a0 s0]) (flat [WX0 cy h0 a0 res]) := by
  refine CV.of (cc := cX0_cureOn) (maxL := 3) (by decide) rfl (Nat.le_of_ble_eq_true rfl) ?_
  intro p e s m args below meth c A QQ ls E hr
  obtain ⟨hx, hb, hml, hown, hts, hK, hN, hP, hD, hA, hl⟩ := E
  have hret : ∀ (pc : Nat) (H : Heap) (locs : List Loc) (ls : Array Slot) (u : Rc), u = res → va_P D vwCl (flat [WX0 cy h0 a0 u]) H → va_D A (flat [WX0 cy h0 a0 u]) → va_S A s.heap H locs → decode cX0_cureOn pc = .ok (.return_, 1) → W p l e rmX0_cureOn s m args below meth c H locs 0 0 QQ (F0 m pc ls []) := by
    intro pc H locs ls u hu hP hD hS hd; subst hu; exact hr pc H locs ls hP hD hS hd
  clear hr
  have hl : lv_has ls 3 [(0, .ref h0), (1, .int p1), (2, .int p2)] := hl
  have hinX0 : ∀ w ∈ wsX00, w ∈ wsX0_cureOn := fun _ h => List.mem_cons_of_mem _ (List.mem_append_right _ h)
  unfold fX0_cureOn at h
  suffices key : ∀ (H : Heap) (locs : List Loc), va_P D vwCl (flat [WX0 cy h0 a0 s0]) H → va_S A s.heap H locs → W p l e rmX0_cureOn s m args below meth c H locs 0 0 QQ (F0 m 0 ls []) from key _ _ hP va_S.rf
  clear hP
  intro H locs hP hS
  refine lv_aload_n hx hb dX0_cureOn_0 rfl (lv_at hl 0 rfl) ?_
  refine lv_iload_n hx hb dX0_cureOn_1 rfl (lv_at hl 1 rfl) ?_
  refine ca_z (w' := [WX0 cy h0 a0 s0]) (rn_V (As := [.int p1]) (rest := []) ⟨hx, hb, hml, hown, hts⟩ (kX0_hasFarmer l D cy h0 a0 s0 p1 _ rfl H.size) (cwV 1 hts gX0_cureOn_X0_hasFarmer rfl rfl rfl (by decide +kernel) ⟨Nat.le_of_ble_eq_true rfl, Nat.le_of_ble_eq_true rfl⟩) hK hN hP hD [0] rfl rfl (ci := 0) (q0 := 0) rfl rfl rfl rfl hl.1 rfl (Nat.le_of_ble_eq_true rfl) dX0_cureOn_2 ⟨Nat.le_refl 0, Nat.le_refl 0⟩) hP hD hS hA [0] ⟨rfl, rfl, rfl, rfl⟩ (fun b1 H locs hP hD hS => ?_)
  refine lv_if_eq (tgt := 15) hx hb dX0_cureOn_5 (by decide) (fun c2 => ?_) (fun c2 => ?_)
  · replace h := (if_pos c2).symm.trans h
    exact hret 15 H locs ls s0 (Option.some.inj h) hP hD hS dX0_cureOn_15
  · replace h := (if_neg c2).symm.trans h
    refine lv_aload_n hx hb dX0_cureOn_8 rfl (lv_at hl 0 rfl) ?_
    refine va_get (D := D) (ci := 0) (v := .ref (a0 4)) (C := RX0) (T := TX0) (N := 14) hx hb hts hinX0 hown hK hP 0 rfl rfl 4 (by decide) (hts (.fieldLink RX0 25 "KneeBench$Bench" "cures" "[I") (List.mem_of_getElem? (i := 1) rfl)) (fun _ h9 => h9) rfl dX0_cureOn_9 ?_
    refine lv_iload_n hx hb dX0_cureOn_12 rfl (lv_at hl 1 rfl) ?_
    refine lv_iload_n hx hb dX0_cureOn_13 rfl (lv_at hl 2 rfl) ?_
    obtain ⟨g3, h⟩ := gd_elim h
    obtain ⟨s0_4, es, h⟩ := lt_elim h
    refine va_iast hx hb hK hP hD hS 5 1 rfl rfl (inb_in g3) dX0_cureOn_14 (fun H locs hP hD hS => ?_)
    have hP : va_P D vwCl (flat [WX0 cy h0 a0 s0_4]) H := by rw [es]; exact hP
    have hD : va_D A (flat [WX0 cy h0 a0 s0_4]) := by rw [es]; exact hD
    clear es
    exact hret 15 H locs ls s0_4 (Option.some.inj h) hP hD hS dX0_cureOn_15
theorem dX10_firstDays_0 : decode cX10_firstDays 0 = .ok (.lconst 1, 1) := by decide +kernel
theorem dX10_firstDays_1 : decode cX10_firstDays 1 = .ok (.iload_n 0, 1) := by decide +kernel
theorem dX10_firstDays_2 : decode cX10_firstDays 2 = .ok (.lshl, 1) := by decide +kernel
theorem dX10_firstDays_3 : decode cX10_firstDays 3 = .ok (.lconst 1, 1) := by decide +kernel
theorem dX10_firstDays_4 : decode cX10_firstDays 4 = .ok (.lsub, 1) := by decide +kernel
theorem dX10_firstDays_5 : decode cX10_firstDays 5 = .ok (.lreturn, 1) := by decide +kernel
abbrev rmX10_firstDays : Room := { frames := 0, cells := 0, slots := 0, locals := 0 }
set_option maxHeartbeats 4000000 in
set_option maxRecDepth 100000 in
theorem kX10_firstDays (l : Launch) (D : va_G) (cy : Nat → ClassId) (p1 : Int32) (res : Int64) (h : fX10_firstDays p1 = res) : CL l D cy yX10_firstDays wsX10_firstDays rmX10_firstDays [.int p1] (flat []) (flat []) res := by
  refine CL.of (cc := cX10_firstDays) (maxL := 1) (by decide) rfl (Nat.le_of_ble_eq_true rfl) ?_
  intro p e s m args below meth c A QQ ls E hr
  obtain ⟨hx, hb, hml, hown, hts, hK, hN, hP, hD, hA, hl⟩ := E
  have hret : ∀ (pc : Nat) (H : Heap) (locs : List Loc) (ls : Array Slot) (u : Int64), u = res → va_P D vwCl (flat []) H → va_D A (flat []) → va_S A s.heap H locs → decode cX10_firstDays pc = .ok (.lreturn, 1) → W p l e rmX10_firstDays s m args below meth c H locs 0 0 QQ (F0 m pc ls [.long u]) := by
    intro pc H locs ls u hu hP hD hS hd; subst hu; exact hr pc H locs ls _ rfl hP hD hS hd
  clear hr
  have hl : lv_has ls 1 [(0, .int p1)] := hl
  unfold fX10_firstDays at h
  suffices key : ∀ (H : Heap) (locs : List Loc), va_P D vwCl (flat []) H → va_S A s.heap H locs → W p l e rmX10_firstDays s m args below meth c H locs 0 0 QQ (F0 m 0 ls []) from key _ _ hP va_S.rf
  clear hP
  intro H locs hP hS
  refine lv_lconst (v := 1) hx hb dX10_firstDays_0 (by decide) ?_
  refine lv_iload_n hx hb dX10_firstDays_1 rfl (lv_at hl 0 rfl) ?_
  refine lv_lshl hx hb dX10_firstDays_2 rfl ?_
  refine lv_lconst (v := 1) hx hb dX10_firstDays_3 (by decide) ?_
  refine lv_lsub hx hb dX10_firstDays_4 ?_
  exact hret 5 H locs ls (((1 : Int64) <<< (p1.toInt64 &&& 63)) - (1 : Int64)) h hP hD hS dX10_firstDays_5
theorem gd_X0_daysThere : wsX0_daysThere.all goodWord = true := by decide +kernel
set_option maxRecDepth 20000 in
theorem ggX0_daysThere_X10_firstDays : GoodIn wsX0_daysThere wsX10_firstDays := goodIn_by gd_X0_daysThere (List.forall_mem_cons.mpr ⟨List.mem_cons_of_mem _ (List.mem_append_left _ (List.mem_of_getElem? (i := 3) rfl)), nowords_in⟩)
set_option maxRecDepth 20000 in
theorem gX0_daysThere_X10_firstDays_n71 : GoodIn wsX0_daysThere (wsX10_firstDays) := ggX0_daysThere_X10_firstDays
theorem dX0_daysThere_0 : decode cX0_daysThere 0 = .ok (.aload_n 0, 1) := by decide +kernel
theorem dX0_daysThere_1 : decode cX0_daysThere 1 = .ok (.getfield 41, 3) := by decide +kernel
theorem dX0_daysThere_4 : decode cX0_daysThere 4 = .ok (.invokestatic 71, 3) := by decide +kernel
theorem dX0_daysThere_7 : decode cX0_daysThere 7 = .ok (.lreturn, 1) := by decide +kernel
abbrev rmX0_daysThere : Room := { frames := 1, cells := 0, slots := 0, locals := 20 }
set_option maxHeartbeats 4000000 in
set_option maxRecDepth 100000 in
theorem kX0_daysThere (l : Launch) (D : va_G) (cy : Nat → ClassId) (h0 : Nat) (a0 : Nat → Nat) (s0 : Rc) (res : Int64) (h : fX0_daysThere s0 = res) : CL l D cy yX0_daysThere wsX0_daysThere rmX0_daysThere [.ref h0] (flat [WX0 cy h0 a0 s0]) (flat [WX0 cy h0 a0 s0]) res := by
  refine CL.of (cc := cX0_daysThere) (maxL := 1) (by decide) rfl (Nat.le_of_ble_eq_true rfl) ?_
  intro p e s m args below meth c A QQ ls E hr
  obtain ⟨hx, hb, hml, hown, hts, hK, hN, hP, hD, hA, hl⟩ := E
  have hret : ∀ (pc : Nat) (H : Heap) (locs : List Loc) (ls : Array Slot) (u : Int64), u = res → va_P D vwCl (flat [WX0 cy h0 a0 s0]) H → va_D A (flat [WX0 cy h0 a0 s0]) → va_S A s.heap H locs → decode cX0_daysThere pc = .ok (.lreturn, 1) → W p l e rmX0_daysThere s m args below meth c H locs 0 0 QQ (F0 m pc ls [.long u]) := by
    intro pc H locs ls u hu hP hD hS hd; subst hu; exact hr pc H locs ls _ rfl hP hD hS hd
  clear hr
  have hl : lv_has ls 1 [(0, .ref h0)] := hl
  have hinX0 : ∀ w ∈ wsX00, w ∈ wsX0_daysThere := fun _ h => List.mem_cons_of_mem _ (List.mem_append_right _ h)
  unfold fX0_daysThere at h
  suffices key : ∀ (H : Heap) (locs : List Loc), va_P D vwCl (flat [WX0 cy h0 a0 s0]) H → va_S A s.heap H locs → W p l e rmX0_daysThere s m args below meth c H locs 0 0 QQ (F0 m 0 ls []) from key _ _ hP va_S.rf
  clear hP
  intro H locs hP hS
  refine lv_aload_n hx hb dX0_daysThere_0 rfl (lv_at hl 0 rfl) ?_
  refine va_get (D := D) (ci := 0) (v := .int (gi s0 9)) (C := RX0) (T := TX0) (N := 14) hx hb hts hinX0 hown hK hP 0 rfl rfl 9 (by decide) (hts (.fieldLink RX0 41 "KneeBench$Bench" "days" "I") (List.mem_of_getElem? (i := 1) rfl)) (fun _ h9 => h9) rfl dX0_daysThere_1 ?_
  refine ca_l (w' := [WX0 cy h0 a0 s0]) (rn_SN (As := [.int (gi s0 9)]) (rest := []) ⟨hx, hb, hml, hown, hts⟩ (kX10_firstDays l D cy (gi s0 9) _ rfl H.size) ⟨va_cnB 1 hts gX0_daysThere_X10_firstDays_n71 rfl rfl rfl (NW.met hN 13 rfl) (hts (.initialized RX10) (List.mem_of_getElem? (i := 3) rfl)) (by decide +kernel) ⟨Nat.le_of_ble_eq_true rfl, Nat.le_of_ble_eq_true rfl⟩, hts (.static yX10_firstDays) (List.mem_of_getElem? (i := 2) rfl), trivial⟩ hK hN hP hD [] rfl rfl rfl hl.1 rfl (Nat.le_of_ble_eq_true rfl) dX0_daysThere_4 ⟨Nat.le_refl 0, Nat.le_refl 0⟩) hP hD hS hA [] ⟨rfl, rfl, rfl, rfl⟩ (fun H locs hP hD hS => ?_)
  exact hret 7 H locs ls (fX10_firstDays (gi s0 9)) h hP hD hS dX0_daysThere_7
theorem dX0_dislike_0 : decode cX0_dislike 0 = .ok (.aload_n 0, 1) := by decide +kernel
theorem dX0_dislike_1 : decode cX0_dislike 1 = .ok (.getfield 34, 3) := by decide +kernel
theorem dX0_dislike_4 : decode cX0_dislike 4 = .ok (.iload_n 1, 1) := by decide +kernel
theorem dX0_dislike_5 : decode cX0_dislike 5 = .ok (.bipush 8, 2) := by decide +kernel
theorem dX0_dislike_7 : decode cX0_dislike 7 = .ok (.imul, 1) := by decide +kernel
theorem dX0_dislike_8 : decode cX0_dislike 8 = .ok (.iload_n 2, 1) := by decide +kernel
theorem dX0_dislike_9 : decode cX0_dislike 9 = .ok (.iadd, 1) := by decide +kernel
theorem dX0_dislike_10 : decode cX0_dislike 10 = .ok (.iaload, 1) := by decide +kernel
theorem dX0_dislike_11 : decode cX0_dislike 11 = .ok (.ireturn, 1) := by decide +kernel
abbrev rmX0_dislike : Room := { frames := 0, cells := 0, slots := 0, locals := 0 }
set_option maxHeartbeats 4000000 in
set_option maxRecDepth 100000 in
theorem kX0_dislike (l : Launch) (D : va_G) (cy : Nat → ClassId) (h0 : Nat) (a0 : Nat → Nat) (s0 : Rc) (p1 : Int32) (p2 : Int32) (res : Int32) (h : fX0_dislike p1 p2 s0 = some res) : CI l D cy yX0_dislike wsX0_dislike rmX0_dislike [.ref h0, .int p1, .int p2] (flat [WX0 cy h0 a0 s0]) (flat [WX0 cy h0 a0 s0]) res := by
  refine CI.of (cc := cX0_dislike) (maxL := 3) (by decide) rfl (Nat.le_of_ble_eq_true rfl) ?_
  intro p e s m args below meth c A QQ ls E hr
  obtain ⟨hx, hb, hml, hown, hts, hK, hN, hP, hD, hA, hl⟩ := E
  have hret : ∀ (pc : Nat) (H : Heap) (locs : List Loc) (ls : Array Slot) (u : Int32), u = res → va_P D vwCl (flat [WX0 cy h0 a0 s0]) H → va_D A (flat [WX0 cy h0 a0 s0]) → va_S A s.heap H locs → decode cX0_dislike pc = .ok (.ireturn, 1) → W p l e rmX0_dislike s m args below meth c H locs 0 0 QQ (F0 m pc ls [.int u]) := by
    intro pc H locs ls u hu hP hD hS hd; subst hu; exact hr pc H locs ls _ rfl hP hD hS hd
  clear hr
  have hl : lv_has ls 3 [(0, .ref h0), (1, .int p1), (2, .int p2)] := hl
  have hinX0 : ∀ w ∈ wsX00, w ∈ wsX0_dislike := fun _ h => List.mem_cons_of_mem _ (List.mem_append_right _ h)
  unfold fX0_dislike at h
  suffices key : ∀ (H : Heap) (locs : List Loc), va_P D vwCl (flat [WX0 cy h0 a0 s0]) H → va_S A s.heap H locs → W p l e rmX0_dislike s m args below meth c H locs 0 0 QQ (F0 m 0 ls []) from key _ _ hP va_S.rf
  clear hP
  intro H locs hP hS
  refine lv_aload_n hx hb dX0_dislike_0 rfl (lv_at hl 0 rfl) ?_
  refine va_get (D := D) (ci := 0) (v := .ref (a0 7)) (C := RX0) (T := TX0) (N := 14) hx hb hts hinX0 hown hK hP 0 rfl rfl 7 (by decide) (hts (.fieldLink RX0 34 "KneeBench$Bench" "grudges" "[I") (List.mem_of_getElem? (i := 1) rfl)) (fun _ h9 => h9) rfl dX0_dislike_1 ?_
  refine lv_iload_n hx hb dX0_dislike_4 rfl (lv_at hl 1 rfl) ?_
  refine lv_bipush (v := 8) hx hb dX0_dislike_5 (by decide) ?_
  refine lv_imul hx hb dX0_dislike_7 ?_
  refine lv_iload_n hx hb dX0_dislike_8 rfl (lv_at hl 2 rfl) ?_
  refine lv_iadd hx hb dX0_dislike_9 ?_
  obtain ⟨g1, h⟩ := gd_elim h
  refine va_iald hx hb hK hP 8 1 rfl rfl (inb_in g1) dX0_dislike_10 ?_
  exact hret 11 H locs ls (ga s0 7 ((p1 * (8 : Int32)) + p2).toNatClampNeg) (Option.some.inj h) hP hD hS dX0_dislike_11
theorem dX0_hasElbow_0 : decode cX0_hasElbow 0 = .ok (.aload_n 0, 1) := by decide +kernel
theorem dX0_hasElbow_1 : decode cX0_hasElbow 1 = .ok (.getfield 54, 3) := by decide +kernel
theorem dX0_hasElbow_4 : decode cX0_hasElbow 4 = .ok (.iload_n 1, 1) := by decide +kernel
theorem dX0_hasElbow_5 : decode cX0_hasElbow 5 = .ok (.iushr, 1) := by decide +kernel
theorem dX0_hasElbow_6 : decode cX0_hasElbow 6 = .ok (.iconst 1, 1) := by decide +kernel
theorem dX0_hasElbow_7 : decode cX0_hasElbow 7 = .ok (.iand, 1) := by decide +kernel
theorem dX0_hasElbow_8 : decode cX0_hasElbow 8 = .ok (.ifCond .eq 7, 3) := by decide +kernel
theorem dX0_hasElbow_11 : decode cX0_hasElbow 11 = .ok (.iconst 1, 1) := by decide +kernel
theorem dX0_hasElbow_12 : decode cX0_hasElbow 12 = .ok (.goto 4, 3) := by decide +kernel
theorem dX0_hasElbow_15 : decode cX0_hasElbow 15 = .ok (.iconst 0, 1) := by decide +kernel
theorem dX0_hasElbow_16 : decode cX0_hasElbow 16 = .ok (.ireturn, 1) := by decide +kernel
abbrev rmX0_hasElbow : Room := { frames := 0, cells := 0, slots := 0, locals := 0 }
set_option maxHeartbeats 4000000 in
set_option maxRecDepth 100000 in
theorem kX0_hasElbow (l : Launch) (D : va_G) (cy : Nat → ClassId) (h0 : Nat) (a0 : Nat → Nat) (s0 : Rc) (p1 : Int32) (res : Int32) (h : fX0_hasElbow p1 s0 = res) : CZ l D cy yX0_hasElbow wsX0_hasElbow rmX0_hasElbow [.ref h0, .int p1] (flat [WX0 cy h0 a0 s0]) (flat [WX0 cy h0 a0 s0]) res := by
  refine CZ.of (cc := cX0_hasElbow) (maxL := 2) (by decide) rfl (Nat.le_of_ble_eq_true rfl) ?_
  intro p e s m args below meth c A QQ ls E hr
  obtain ⟨hx, hb, hml, hown, hts, hK, hN, hP, hD, hA, hl⟩ := E
  have hret : ∀ (pc : Nat) (H : Heap) (locs : List Loc) (ls : Array Slot) (u : Int32), u = res → va_P D vwCl (flat [WX0 cy h0 a0 s0]) H → va_D A (flat [WX0 cy h0 a0 s0]) → va_S A s.heap H locs → isb u = true → decode cX0_hasElbow pc = .ok (.ireturn, 1) → W p l e rmX0_hasElbow s m args below meth c H locs 0 0 QQ (F0 m pc ls [.int u]) := by
    intro pc H locs ls u hu hP hD hS hz hd; subst hu; exact hr pc H locs ls _ rfl hP hD hS hz hd
  clear hr
  have hl : lv_has ls 2 [(0, .ref h0), (1, .int p1)] := hl
  have hinX0 : ∀ w ∈ wsX00, w ∈ wsX0_hasElbow := fun _ h => List.mem_cons_of_mem _ (List.mem_append_right _ h)
  unfold fX0_hasElbow at h
  suffices key : ∀ (H : Heap) (locs : List Loc), va_P D vwCl (flat [WX0 cy h0 a0 s0]) H → va_S A s.heap H locs → W p l e rmX0_hasElbow s m args below meth c H locs 0 0 QQ (F0 m 0 ls []) from key _ _ hP va_S.rf
  clear hP
  intro H locs hP hS
  refine lv_aload_n hx hb dX0_hasElbow_0 rfl (lv_at hl 0 rfl) ?_
  refine va_get (D := D) (ci := 0) (v := .int (gi s0 13)) (C := RX0) (T := TX0) (N := 14) hx hb hts hinX0 hown hK hP 0 rfl rfl 13 (by decide) (hts (.fieldLink RX0 54 "KneeBench$Bench" "elbows" "I") (List.mem_of_getElem? (i := 1) rfl)) (fun _ h9 => h9) rfl dX0_hasElbow_1 ?_
  refine lv_iload_n hx hb dX0_hasElbow_4 rfl (lv_at hl 1 rfl) ?_
  refine lv_iushr hx hb dX0_hasElbow_5 rfl ?_
  refine lv_iconst (v := 1) hx hb dX0_hasElbow_6 (by decide) ?_
  refine lv_iand hx hb dX0_hasElbow_7 ?_
  refine lv_if_eq (tgt := 15) hx hb dX0_hasElbow_8 (by decide) (fun c1 => ?_) (fun c1 => ?_)
  · replace h := (if_pos c1).symm.trans h
    refine lv_iconst (v := 0) hx hb dX0_hasElbow_15 (by decide) ?_
    exact hret 16 H locs ls (0 : Int32) h hP hD hS (show isb (0 : Int32) = true by decide) dX0_hasElbow_16
  · replace h := (if_neg c1).symm.trans h
    refine lv_iconst (v := 1) hx hb dX0_hasElbow_11 (by decide) ?_
    refine lv_goto (tgt := 16) hx hb dX0_hasElbow_12 (by decide) ?_
    exact hret 16 H locs ls (1 : Int32) h hP hD hS (show isb (1 : Int32) = true by decide) dX0_hasElbow_16
theorem gd_X0_likelihood : wsX0_likelihood.all goodWord = true := by decide +kernel
set_option maxRecDepth 20000 in
theorem ggX0_likelihood_X0_hasWord : GoodIn wsX0_likelihood wsX0_hasWord := goodIn_by gd_X0_likelihood (List.forall_mem_cons.mpr ⟨List.mem_cons_of_mem _ (List.mem_append_left _ (List.mem_append_left _ (List.mem_of_getElem? (i := 7) rfl))), List.forall_mem_append.mpr ⟨List.forall_mem_cons.mpr ⟨List.mem_cons_of_mem _ (List.mem_append_left _ (List.mem_append_left _ (List.mem_of_getElem? (i := 8) rfl))), List.forall_mem_cons.mpr ⟨List.mem_cons_of_mem _ (List.mem_append_left _ (List.mem_append_left _ (List.mem_of_getElem? (i := 9) rfl))), List.forall_mem_cons.mpr ⟨List.mem_cons_of_mem _ (List.mem_append_left _ (List.mem_append_left _ (List.mem_of_getElem? (i := 10) rfl))), nowords_in⟩⟩⟩, (fun _ h => List.mem_cons_of_mem _ (List.mem_append_right _ (h)))⟩⟩)
set_option maxRecDepth 20000 in
theorem gX0_likelihood_X0_hasWord : GoodIn wsX0_likelihood (wsV RX0 118 RX0 yX0_hasWord wsX0_hasWord) := goodIn_app (goodIn_by gd_X0_likelihood (List.forall_mem_cons.mpr ⟨List.mem_cons_of_mem _ (List.mem_append_left _ (List.mem_append_left _ (List.mem_of_getElem? (i := 3) rfl))), List.forall_mem_cons.mpr ⟨List.mem_cons_of_mem _ (List.mem_append_left _ (List.mem_append_left _ (List.mem_of_getElem? (i := 4) rfl))), List.forall_mem_cons.mpr ⟨List.mem_cons_of_mem _ (List.mem_append_left _ (List.mem_append_left _ (List.mem_of_getElem? (i := 5) rfl))), List.forall_mem_cons.mpr ⟨List.mem_cons_of_mem _ (List.mem_append_left _ (List.mem_append_left _ (List.mem_of_getElem? (i := 6) rfl))), nowords_in⟩⟩⟩⟩)) ggX0_likelihood_X0_hasWord
set_option maxRecDepth 20000 in
theorem ggX0_likelihood_X0_hasElbow : GoodIn wsX0_likelihood wsX0_hasElbow := goodIn_by gd_X0_likelihood (List.forall_mem_cons.mpr ⟨List.mem_cons_of_mem _ (List.mem_append_left _ (List.mem_append_left _ (List.mem_of_getElem? (i := 14) rfl))), List.forall_mem_append.mpr ⟨List.forall_mem_cons.mpr ⟨List.mem_cons_of_mem _ (List.mem_append_left _ (List.mem_append_left _ (List.mem_of_getElem? (i := 15) rfl))), nowords_in⟩, (fun _ h => List.mem_cons_of_mem _ (List.mem_append_right _ (h)))⟩⟩)
set_option maxRecDepth 20000 in
theorem gX0_likelihood_X0_hasElbow : GoodIn wsX0_likelihood (wsV RX0 74 RX0 yX0_hasElbow wsX0_hasElbow) := goodIn_app (goodIn_by gd_X0_likelihood (List.forall_mem_cons.mpr ⟨List.mem_cons_of_mem _ (List.mem_append_left _ (List.mem_append_left _ (List.mem_of_getElem? (i := 11) rfl))), List.forall_mem_cons.mpr ⟨List.mem_cons_of_mem _ (List.mem_append_left _ (List.mem_append_left _ (List.mem_of_getElem? (i := 12) rfl))), List.forall_mem_cons.mpr ⟨List.mem_cons_of_mem _ (List.mem_append_left _ (List.mem_append_left _ (List.mem_of_getElem? (i := 13) rfl))), List.forall_mem_cons.mpr ⟨List.mem_cons_of_mem _ (List.mem_append_left _ (List.mem_append_left _ (List.mem_of_getElem? (i := 6) rfl))), nowords_in⟩⟩⟩⟩)) ggX0_likelihood_X0_hasElbow
set_option maxRecDepth 20000 in
theorem ggX0_likelihood_X0_believes : GoodIn wsX0_likelihood wsX0_believes := goodIn_by gd_X0_likelihood (List.forall_mem_cons.mpr ⟨List.mem_cons_of_mem _ (List.mem_append_left _ (List.mem_append_left _ (List.mem_of_getElem? (i := 19) rfl))), List.forall_mem_append.mpr ⟨List.forall_mem_cons.mpr ⟨List.mem_cons_of_mem _ (List.mem_append_left _ (List.mem_append_left _ (List.mem_of_getElem? (i := 8) rfl))), List.forall_mem_cons.mpr ⟨List.mem_cons_of_mem _ (List.mem_append_left _ (List.mem_append_left _ (List.mem_of_getElem? (i := 3) rfl))), List.forall_mem_cons.mpr ⟨List.mem_cons_of_mem _ (List.mem_append_left _ (List.mem_append_left _ (List.mem_of_getElem? (i := 4) rfl))), List.forall_mem_cons.mpr ⟨List.mem_cons_of_mem _ (List.mem_append_left _ (List.mem_append_left _ (List.mem_of_getElem? (i := 5) rfl))), List.forall_mem_cons.mpr ⟨List.mem_cons_of_mem _ (List.mem_append_left _ (List.mem_append_left _ (List.mem_of_getElem? (i := 6) rfl))), List.forall_mem_cons.mpr ⟨List.mem_cons_of_mem _ (List.mem_append_left _ (List.mem_append_left _ (List.mem_of_getElem? (i := 7) rfl))), List.forall_mem_cons.mpr ⟨List.mem_cons_of_mem _ (List.mem_append_left _ (List.mem_append_left _ (List.mem_of_getElem? (i := 9) rfl))), List.forall_mem_cons.mpr ⟨List.mem_cons_of_mem _ (List.mem_append_left _ (List.mem_append_left _ (List.mem_of_getElem? (i := 10) rfl))), List.forall_mem_cons.mpr ⟨List.mem_cons_of_mem _ (List.mem_append_left _ (List.mem_append_left _ (List.mem_of_getElem? (i := 20) rfl))), List.forall_mem_cons.mpr ⟨List.mem_cons_of_mem _ (List.mem_append_left _ (List.mem_append_left _ (List.mem_of_getElem? (i := 21) rfl))), List.forall_mem_cons.mpr ⟨List.mem_cons_of_mem _ (List.mem_append_left _ (List.mem_append_left _ (List.mem_of_getElem? (i := 22) rfl))), List.forall_mem_cons.mpr ⟨List.mem_cons_of_mem _ (List.mem_append_left _ (List.mem_append_left _ (List.mem_of_getElem? (i := 23) rfl))), List.forall_mem_cons.mpr ⟨List.mem_cons_of_mem _ (List.mem_append_left _ (List.mem_append_right _ (List.mem_of_getElem? (i := 0) rfl))), nowords_in⟩⟩⟩⟩⟩⟩⟩⟩⟩⟩⟩⟩⟩, (fun _ h => List.mem_cons_of_mem _ (List.mem_append_right _ (h)))⟩⟩)
set_option maxRecDepth 20000 in
theorem gX0_likelihood_X0_believes : GoodIn wsX0_likelihood (wsV RX0 122 RX0 yX0_believes wsX0_believes) := goodIn_app (goodIn_by gd_X0_likelihood (List.forall_mem_cons.mpr ⟨List.mem_cons_of_mem _ (List.mem_append_left _ (List.mem_append_left _ (List.mem_of_getElem? (i := 16) rfl))), List.forall_mem_cons.mpr ⟨List.mem_cons_of_mem _ (List.mem_append_left _ (List.mem_append_left _ (List.mem_of_getElem? (i := 17) rfl))), List.forall_mem_cons.mpr ⟨List.mem_cons_of_mem _ (List.mem_append_left _ (List.mem_append_left _ (List.mem_of_getElem? (i := 18) rfl))), List.forall_mem_cons.mpr ⟨List.mem_cons_of_mem _ (List.mem_append_left _ (List.mem_append_left _ (List.mem_of_getElem? (i := 6) rfl))), nowords_in⟩⟩⟩⟩)) ggX0_likelihood_X0_believes
theorem dX0_likelihood_0 : decode cX0_likelihood 0 = .ok (.lconst 1, 1) := by decide +kernel
theorem dX0_likelihood_1 : decode cX0_likelihood 1 = .ok (.lstore_n 3, 1) := by decide +kernel
theorem dX0_likelihood_2 : decode cX0_likelihood 2 = .ok (.iconst 0, 1) := by decide +kernel
theorem dX0_likelihood_3 : decode cX0_likelihood 3 = .ok (.istore 5, 2) := by decide +kernel
theorem dX0_likelihood_5 : decode cX0_likelihood 5 = .ok (.iload 5, 2) := by decide +kernel
theorem dX0_likelihood_7 : decode cX0_likelihood 7 = .ok (.aload_n 0, 1) := by decide +kernel
theorem dX0_likelihood_8 : decode cX0_likelihood 8 = .ok (.getfield 37, 3) := by decide +kernel
theorem dX0_likelihood_11 : decode cX0_likelihood 11 = .ok (.if_icmp .ge 79, 3) := by decide +kernel
theorem dX0_likelihood_14 : decode cX0_likelihood 14 = .ok (.aload_n 0, 1) := by decide +kernel
theorem dX0_likelihood_15 : decode cX0_likelihood 15 = .ok (.iload 5, 2) := by decide +kernel
theorem dX0_likelihood_17 : decode cX0_likelihood 17 = .ok (.iload_n 1, 1) := by decide +kernel
theorem dX0_likelihood_18 : decode cX0_likelihood 18 = .ok (.invokevirtual 118, 3) := by decide +kernel
theorem dX0_likelihood_21 : decode cX0_likelihood 21 = .ok (.ifCond .eq 63, 3) := by decide +kernel
theorem dX0_likelihood_24 : decode cX0_likelihood 24 = .ok (.aload_n 0, 1) := by decide +kernel
theorem dX0_likelihood_25 : decode cX0_likelihood 25 = .ok (.iload 5, 2) := by decide +kernel
theorem dX0_likelihood_27 : decode cX0_likelihood 27 = .ok (.invokevirtual 74, 3) := by decide +kernel
theorem dX0_likelihood_30 : decode cX0_likelihood 30 = .ok (.ifCond .ne 54, 3) := by decide +kernel
theorem dX0_likelihood_33 : decode cX0_likelihood 33 = .ok (.iload_n 2, 1) := by decide +kernel
theorem dX0_likelihood_34 : decode cX0_likelihood 34 = .ok (.ifCond .eq 16, 3) := by decide +kernel
theorem dX0_likelihood_37 : decode cX0_likelihood 37 = .ok (.bipush 16, 2) := by decide +kernel
theorem dX0_likelihood_39 : decode cX0_likelihood 39 = .ok (.aload_n 0, 1) := by decide +kernel
theorem dX0_likelihood_40 : decode cX0_likelihood 40 = .ok (.getfield 19, 3) := by decide +kernel
theorem dX0_likelihood_43 : decode cX0_likelihood 43 = .ok (.iload 5, 2) := by decide +kernel
theorem dX0_likelihood_45 : decode cX0_likelihood 45 = .ok (.iaload, 1) := by decide +kernel
theorem dX0_likelihood_46 : decode cX0_likelihood 46 = .ok (.isub, 1) := by decide +kernel
theorem dX0_likelihood_47 : decode cX0_likelihood 47 = .ok (.goto 10, 3) := by decide +kernel
theorem dX0_likelihood_50 : decode cX0_likelihood 50 = .ok (.aload_n 0, 1) := by decide +kernel
theorem dX0_likelihood_51 : decode cX0_likelihood 51 = .ok (.getfield 22, 3) := by decide +kernel
theorem dX0_likelihood_54 : decode cX0_likelihood 54 = .ok (.iload 5, 2) := by decide +kernel
theorem dX0_likelihood_56 : decode cX0_likelihood 56 = .ok (.iaload, 1) := by decide +kernel
theorem dX0_likelihood_57 : decode cX0_likelihood 57 = .ok (.istore 6, 2) := by decide +kernel
theorem dX0_likelihood_59 : decode cX0_likelihood 59 = .ok (.lload_n 3, 1) := by decide +kernel
theorem dX0_likelihood_60 : decode cX0_likelihood 60 = .ok (.aload_n 0, 1) := by decide +kernel
theorem dX0_likelihood_61 : decode cX0_likelihood 61 = .ok (.iload 5, 2) := by decide +kernel
theorem dX0_likelihood_63 : decode cX0_likelihood 63 = .ok (.iload_n 1, 1) := by decide +kernel
theorem dX0_likelihood_64 : decode cX0_likelihood 64 = .ok (.invokevirtual 122, 3) := by decide +kernel
theorem dX0_likelihood_67 : decode cX0_likelihood 67 = .ok (.ifCond .eq 9, 3) := by decide +kernel
theorem dX0_likelihood_70 : decode cX0_likelihood 70 = .ok (.iload 6, 2) := by decide +kernel
theorem dX0_likelihood_72 : decode cX0_likelihood 72 = .ok (.i2l, 1) := by decide +kernel
theorem dX0_likelihood_73 : decode cX0_likelihood 73 = .ok (.goto 9, 3) := by decide +kernel
theorem dX0_likelihood_76 : decode cX0_likelihood 76 = .ok (.bipush 16, 2) := by decide +kernel
theorem dX0_likelihood_78 : decode cX0_likelihood 78 = .ok (.iload 6, 2) := by decide +kernel
theorem dX0_likelihood_80 : decode cX0_likelihood 80 = .ok (.isub, 1) := by decide +kernel
theorem dX0_likelihood_81 : decode cX0_likelihood 81 = .ok (.i2l, 1) := by decide +kernel
theorem dX0_likelihood_82 : decode cX0_likelihood 82 = .ok (.lmul, 1) := by decide +kernel
theorem dX0_likelihood_83 : decode cX0_likelihood 83 = .ok (.lstore_n 3, 1) := by decide +kernel
theorem dX0_likelihood_84 : decode cX0_likelihood 84 = .ok (.iinc 5 1, 3) := by decide +kernel
theorem dX0_likelihood_87 : decode cX0_likelihood 87 = .ok (.goto (-82), 3) := by decide +kernel
theorem dX0_likelihood_90 : decode cX0_likelihood 90 = .ok (.lload_n 3, 1) := by decide +kernel
theorem dX0_likelihood_91 : decode cX0_likelihood 91 = .ok (.lreturn, 1) := by decide +kernel
abbrev rmX0_likelihood : Room := { frames := 2, cells := 0, slots := 0, locals := 45 }
set_option maxHeartbeats 4000000 in
set_option maxRecDepth 100000 in
theorem kX0_likelihood (l : Launch) (D : va_G) (cy : Nat → ClassId) (h0 : Nat) (a0 : Nat → Nat) (s0 : Rc) (p1 : Int32) (p2 : Int32) (res : Int64) (h : fX0_likelihood p1 p2 s0 = some res) : CL l D cy yX0_likelihood wsX0_likelihood rmX0_likelihood [.ref h0, .int p1, .int p2] (flat [WX0 cy h0 a0 s0]) (flat [WX0 cy h0 a0 s0]) res := by
  refine CL.of (cc := cX0_likelihood) (maxL := 7) (by decide) rfl (Nat.le_of_ble_eq_true rfl) ?_
  intro p e s m args below meth c A QQ ls E hr
  obtain ⟨hx, hb, hml, hown, hts, hK, hN, hP, hD, hA, hl⟩ := E
  have hret : ∀ (pc : Nat) (H : Heap) (locs : List Loc) (ls : Array Slot) (u : Int64), u = res → va_P D vwCl (flat [WX0 cy h0 a0 s0]) H → va_D A (flat [WX0 cy h0 a0 s0]) → va_S A s.heap H locs → decode cX0_likelihood pc = .ok (.lreturn, 1) → W p l e rmX0_likelihood s m args below meth c H locs 0 0 QQ (F0 m pc ls [.long u]) := by
    intro pc H locs ls u hu hP hD hS hd; subst hu; exact hr pc H locs ls _ rfl hP hD hS hd
  clear hr
  have hl : lv_has ls 7 [(0, .ref h0), (1, .int p1), (2, .int p2)] := hl
  have hinX0 : ∀ w ∈ wsX00, w ∈ wsX0_likelihood := fun _ h => List.mem_cons_of_mem _ (List.mem_append_right _ h)
  unfold fX0_likelihood at h
  suffices key : ∀ (H : Heap) (locs : List Loc), va_P D vwCl (flat [WX0 cy h0 a0 s0]) H → va_S A s.heap H locs → W p l e rmX0_likelihood s m args below meth c H locs 0 0 QQ (F0 m 0 ls []) from key _ _ hP va_S.rf
  clear hP
  intro H locs hP hS
  refine lv_lconst (v := 1) hx hb dX0_likelihood_0 (by decide) ?_
  refine lv_lstore_n (lv' := [(3, .long (1 : Int64)), (0, .ref h0), (1, .int p1), (2, .int p2)]) hx hb dX0_likelihood_1 rfl hl (by decide) rfl (fun ls hl => ?_)
  refine lv_iconst (v := 0) hx hb dX0_likelihood_2 (by decide) ?_
  refine lv_istore (lv' := [(5, .int (0 : Int32)), (3, .long (1 : Int64)), (0, .ref h0), (1, .int p1), (2, .int p2)]) hx hb dX0_likelihood_3 hl (by decide) rfl (fun ls hl => ?_)
  have L5 : ∀ (n : Nat) (q5 : Int64 × Int32) (o : Int64), loopO (fX0_likelihood_L5 p1 p2 s0) n q5 = some o → ∀ (H : Heap) (locs : List Loc) (ls : Array Slot), lv_has ls 7 [(0, .ref h0), (1, .int p1), (2, .int p2), (3, .long q5.1), (5, .int q5.2)] → va_P D vwCl (flat [WX0 cy h0 a0 s0]) H → va_D A (flat [WX0 cy h0 a0 s0]) → va_S A s.heap H locs → ∀ (kk90 : ∀ (H : Heap) (locs : List Loc) (ls : Array Slot), lv_has ls 7 [(3, .long o)] → va_P D vwCl (flat [WX0 cy h0 a0 s0]) H → va_D A (flat [WX0 cy h0 a0 s0]) → va_S A s.heap H locs → W p l e rmX0_likelihood s m args below meth c H locs 0 0 QQ (F0 m 90 ls [])), W p l e rmX0_likelihood s m args below meth c H locs 0 0 QQ (F0 m 5 ls []) := by
    intro n
    induction n with
    | zero => intro q5 o h; exact absurd h (by rw [loopO_zero]; intro z; cases z)
    | succ n ih =>
      intro q5 o h H locs ls hl hP hD hS kk90
      obtain ⟨w, h, hgo, hst⟩ := loopO_elim h
      unfold fX0_likelihood_L5 at h
      have J57 : ∀ (z57_0 : Int32) (H : Heap) (locs : List Loc) (ls : Array Slot), lv_has ls 7 [(0, .ref h0), (1, .int p1), (2, .int p2), (3, .long q5.1), (5, .int q5.2)] → va_P D vwCl (flat [WX0 cy h0 a0 s0]) H → va_D A (flat [WX0 cy h0 a0 s0]) → va_S A s.heap H locs → fX0_likelihood_J57 p1 s0 q5 z57_0 = some w → W p l e rmX0_likelihood s m args below meth c H locs 0 0 QQ (F0 m 57 ls [.int z57_0]) := by
        intro z57_0 H locs ls hl hP hD hS h
        unfold fX0_likelihood_J57 at h
        refine lv_istore (lv' := [(6, .int z57_0), (0, .ref h0), (1, .int p1), (2, .int p2), (3, .long q5.1), (5, .int q5.2)]) hx hb dX0_likelihood_57 hl (by decide) rfl (fun ls hl => ?_)
        refine lv_lload_n hx hb dX0_likelihood_59 rfl (lv_at hl 4 rfl) ?_
        refine lv_aload_n hx hb dX0_likelihood_60 rfl (lv_at hl 1 rfl) ?_
        refine lv_iload hx hb dX0_likelihood_61 (lv_at hl 5 rfl) ?_
        refine lv_iload_n hx hb dX0_likelihood_63 rfl (lv_at hl 2 rfl) ?_
        obtain ⟨r1, hr1, h⟩ := bd_elim h
        refine ca_z (w' := [WX0 cy h0 a0 s0]) (rn_V (As := [.int q5.2, .int p1]) (rest := [.long q5.1]) ⟨hx, hb, hml, hown, hts⟩ (kX0_believes l D cy h0 a0 s0 q5.2 p1 r1 hr1 H.size) (cwV 2 hts gX0_likelihood_X0_believes rfl rfl rfl (by decide +kernel) ⟨Nat.le_of_ble_eq_true rfl, Nat.le_of_ble_eq_true rfl⟩) hK hN hP hD [0] rfl rfl (ci := 0) (q0 := 0) rfl rfl rfl rfl hl.1 rfl (Nat.le_of_ble_eq_true rfl) dX0_likelihood_64 ⟨Nat.le_refl 0, Nat.le_refl 0⟩) hP hD hS hA [0] ⟨rfl, rfl, rfl, rfl⟩ (fun b2 H locs hP hD hS => ?_)
        refine lv_if_eq (tgt := 76) hx hb dX0_likelihood_67 (by decide) (fun c3 => ?_) (fun c3 => ?_)
        · replace h := (if_pos c3).symm.trans h
          refine lv_bipush (v := 16) hx hb dX0_likelihood_76 (by decide) ?_
          refine lv_iload hx hb dX0_likelihood_78 (lv_at hl 0 rfl) ?_
          refine lv_isub hx hb dX0_likelihood_80 ?_
          refine lv_i2l hx hb dX0_likelihood_81 rfl ?_
          refine lv_lmul hx hb dX0_likelihood_82 ?_
          refine lv_topl (fun x4 ex4 => ?_)
          replace h := lt_use h x4 ex4
          refine lv_lstore_n (lv' := [(3, .long x4), (6, .int z57_0), (0, .ref h0), (1, .int p1), (2, .int p2), (5, .int q5.2)]) hx hb dX0_likelihood_83 rfl hl (by decide) rfl (fun ls hl => ?_)
          refine lv_iinc (v := (q5.2 + (1 : Int32))) (lv' := [(5, .int (q5.2 + (1 : Int32))), (3, .long x4), (6, .int z57_0), (0, .ref h0), (1, .int p1), (2, .int p2)]) hx hb dX0_likelihood_84 hl (k := 5) rfl rfl (by decide) rfl (fun ls hl => ?_)
          refine lv_goto (tgt := 5) hx hb dX0_likelihood_87 (by decide) ?_
          exact ih _ o (hgo _ (Option.some.inj h).symm) H locs ls (lv_sub hl [3, 4, 5, 1, 0] rfl) hP hD hS kk90
        · replace h := (if_neg c3).symm.trans h
          refine lv_iload hx hb dX0_likelihood_70 (lv_at hl 0 rfl) ?_
          refine lv_i2l hx hb dX0_likelihood_72 rfl ?_
          refine lv_goto (tgt := 82) hx hb dX0_likelihood_73 (by decide) ?_
          refine lv_lmul hx hb dX0_likelihood_82 ?_
          refine lv_topl (fun x5 ex5 => ?_)
          replace h := lt_use h x5 ex5
          refine lv_lstore_n (lv' := [(3, .long x5), (6, .int z57_0), (0, .ref h0), (1, .int p1), (2, .int p2), (5, .int q5.2)]) hx hb dX0_likelihood_83 rfl hl (by decide) rfl (fun ls hl => ?_)
          refine lv_iinc (v := (q5.2 + (1 : Int32))) (lv' := [(5, .int (q5.2 + (1 : Int32))), (3, .long x5), (6, .int z57_0), (0, .ref h0), (1, .int p1), (2, .int p2)]) hx hb dX0_likelihood_84 hl (k := 5) rfl rfl (by decide) rfl (fun ls hl => ?_)
          refine lv_goto (tgt := 5) hx hb dX0_likelihood_87 (by decide) ?_
          exact ih _ o (hgo _ (Option.some.inj h).symm) H locs ls (lv_sub hl [3, 4, 5, 1, 0] rfl) hP hD hS kk90
      refine lv_iload hx hb dX0_likelihood_5 (lv_at hl 4 rfl) ?_
      refine lv_aload_n hx hb dX0_likelihood_7 rfl (lv_at hl 0 rfl) ?_
      refine va_get (D := D) (ci := 0) (v := .int (gi s0 8)) (C := RX0) (T := TX0) (N := 14) hx hb hts hinX0 hown hK hP 0 rfl rfl 8 (by decide) (hts (.fieldLink RX0 37 "KneeBench$Bench" "farmers" "I") (List.mem_of_getElem? (i := 1) rfl)) (fun _ h9 => h9) rfl dX0_likelihood_8 ?_
      refine lv_icmp_ge (tgt := 90) hx hb dX0_likelihood_11 (by decide) (fun c6 => ?_) (fun c6 => ?_)
      · replace h := (if_pos c6).symm.trans h
        have eo := hst _ (Option.some.inj h).symm
        subst eo
        exact kk90 H locs ls (lv_sub hl [3] rfl) hP hD hS
      · replace h := (if_neg c6).symm.trans h
        refine lv_aload_n hx hb dX0_likelihood_14 rfl (lv_at hl 0 rfl) ?_
        refine lv_iload hx hb dX0_likelihood_15 (lv_at hl 4 rfl) ?_
        refine lv_iload_n hx hb dX0_likelihood_17 rfl (lv_at hl 1 rfl) ?_
        obtain ⟨r7, hr7, h⟩ := bd_elim h
        refine ca_z (w' := [WX0 cy h0 a0 s0]) (rn_V (As := [.int q5.2, .int p1]) (rest := []) ⟨hx, hb, hml, hown, hts⟩ (kX0_hasWord l D cy h0 a0 s0 q5.2 p1 r7 hr7 H.size) (cwV 2 hts gX0_likelihood_X0_hasWord rfl rfl rfl (by decide +kernel) ⟨Nat.le_of_ble_eq_true rfl, Nat.le_of_ble_eq_true rfl⟩) hK hN hP hD [0] rfl rfl (ci := 0) (q0 := 0) rfl rfl rfl rfl hl.1 rfl (Nat.le_of_ble_eq_true rfl) dX0_likelihood_18 ⟨Nat.le_refl 0, Nat.le_refl 0⟩) hP hD hS hA [0] ⟨rfl, rfl, rfl, rfl⟩ (fun b8 H locs hP hD hS => ?_)
        refine lv_if_eq (tgt := 84) hx hb dX0_likelihood_21 (by decide) (fun c9 => ?_) (fun c9 => ?_)
        · replace h := (if_pos c9).symm.trans h
          refine lv_iinc (v := (q5.2 + (1 : Int32))) (lv' := [(5, .int (q5.2 + (1 : Int32))), (0, .ref h0), (1, .int p1), (2, .int p2), (3, .long q5.1)]) hx hb dX0_likelihood_84 hl (k := 4) rfl rfl (by decide) rfl (fun ls hl => ?_)
          refine lv_goto (tgt := 5) hx hb dX0_likelihood_87 (by decide) ?_
          exact ih _ o (hgo _ (Option.some.inj h).symm) H locs ls (lv_sub hl [1, 2, 3, 4, 0] rfl) hP hD hS kk90
        · replace h := (if_neg c9).symm.trans h
          refine lv_aload_n hx hb dX0_likelihood_24 rfl (lv_at hl 0 rfl) ?_
          refine lv_iload hx hb dX0_likelihood_25 (lv_at hl 4 rfl) ?_
          refine ca_z (w' := [WX0 cy h0 a0 s0]) (rn_V (As := [.int q5.2]) (rest := []) ⟨hx, hb, hml, hown, hts⟩ (kX0_hasElbow l D cy h0 a0 s0 q5.2 _ rfl H.size) (cwV 1 hts gX0_likelihood_X0_hasElbow rfl rfl rfl (by decide +kernel) ⟨Nat.le_of_ble_eq_true rfl, Nat.le_of_ble_eq_true rfl⟩) hK hN hP hD [0] rfl rfl (ci := 0) (q0 := 0) rfl rfl rfl rfl hl.1 rfl (Nat.le_of_ble_eq_true rfl) dX0_likelihood_27 ⟨Nat.le_refl 0, Nat.le_refl 0⟩) hP hD hS hA [0] ⟨rfl, rfl, rfl, rfl⟩ (fun b10 H locs hP hD hS => ?_)
          refine lv_if_ne (tgt := 84) hx hb dX0_likelihood_30 (by decide) (fun c11 => ?_) (fun c11 => ?_)
          · replace h := (if_neg c11).symm.trans h
            refine lv_iinc (v := (q5.2 + (1 : Int32))) (lv' := [(5, .int (q5.2 + (1 : Int32))), (0, .ref h0), (1, .int p1), (2, .int p2), (3, .long q5.1)]) hx hb dX0_likelihood_84 hl (k := 4) rfl rfl (by decide) rfl (fun ls hl => ?_)
            refine lv_goto (tgt := 5) hx hb dX0_likelihood_87 (by decide) ?_
            exact ih _ o (hgo _ (Option.some.inj h).symm) H locs ls (lv_sub hl [1, 2, 3, 4, 0] rfl) hP hD hS kk90
          · replace h := (if_pos c11).symm.trans h
            refine lv_iload_n hx hb dX0_likelihood_33 rfl (lv_at hl 2 rfl) ?_
            refine lv_if_eq (tgt := 50) hx hb dX0_likelihood_34 (by decide) (fun c12 => ?_) (fun c12 => ?_)
            · replace h := (if_pos c12).symm.trans h
              refine lv_aload_n hx hb dX0_likelihood_50 rfl (lv_at hl 0 rfl) ?_
              refine va_get (D := D) (ci := 0) (v := .ref (a0 3)) (C := RX0) (T := TX0) (N := 14) hx hb hts hinX0 hown hK hP 0 rfl rfl 3 (by decide) (hts (.fieldLink RX0 22 "KneeBench$Bench" "falses" "[I") (List.mem_of_getElem? (i := 3) rfl)) (fun _ h9 => h9) rfl dX0_likelihood_51 ?_
              refine lv_iload hx hb dX0_likelihood_54 (lv_at hl 4 rfl) ?_
              obtain ⟨g13, h⟩ := gd_elim h
              refine va_iald hx hb hK hP 4 1 rfl rfl (inb_in g13) dX0_likelihood_56 ?_
              exact J57 (ga s0 3 q5.2.toNatClampNeg) H locs ls (lv_sub hl [0, 1, 2, 3, 4] rfl) hP hD hS h
            · replace h := (if_neg c12).symm.trans h
              refine lv_bipush (v := 16) hx hb dX0_likelihood_37 (by decide) ?_
              refine lv_aload_n hx hb dX0_likelihood_39 rfl (lv_at hl 0 rfl) ?_
              refine va_get (D := D) (ci := 0) (v := .ref (a0 2)) (C := RX0) (T := TX0) (N := 14) hx hb hts hinX0 hown hK hP 0 rfl rfl 2 (by decide) (hts (.fieldLink RX0 19 "KneeBench$Bench" "fails" "[I") (List.mem_of_getElem? (i := 2) rfl)) (fun _ h9 => h9) rfl dX0_likelihood_40 ?_
              refine lv_iload hx hb dX0_likelihood_43 (lv_at hl 4 rfl) ?_
              obtain ⟨g14, h⟩ := gd_elim h
              refine va_iald hx hb hK hP 3 1 rfl rfl (inb_in g14) dX0_likelihood_45 ?_
              refine lv_isub hx hb dX0_likelihood_46 ?_
              refine lv_goto (tgt := 57) hx hb dX0_likelihood_47 (by decide) ?_
              exact J57 ((16 : Int32) - (ga s0 2 q5.2.toNatClampNeg)) H locs ls (lv_sub hl [0, 1, 2, 3, 4] rfl) hP hD hS h
  obtain ⟨o5, ho5, h⟩ := bd_elim h
  obtain ⟨n5, hn5⟩ := loopF_some ho5
  refine L5 n5 _ o5 hn5 H locs ls (lv_sub hl [2, 3, 4, 1, 0] rfl) hP hD hS (fun H locs ls hl hP hD hS => ?_)
  refine lv_lload_n hx hb dX0_likelihood_90 rfl (lv_at hl 0 rfl) ?_
  exact hret 91 H locs ls o5 (Option.some.inj h) hP hD hS dX0_likelihood_91
theorem gd_X0_dryShare : wsX0_dryShare.all goodWord = true := by decide +kernel
set_option maxRecDepth 20000 in
theorem ggX0_dryShare_X0_likelihood : GoodIn wsX0_dryShare wsX0_likelihood := goodIn_by gd_X0_dryShare (List.forall_mem_cons.mpr ⟨List.mem_cons_of_mem _ (List.mem_append_left _ (List.mem_append_left _ (List.mem_of_getElem? (i := 4) rfl))), List.forall_mem_append.mpr ⟨List.forall_mem_append.mpr ⟨List.forall_mem_cons.mpr ⟨List.mem_cons_of_mem _ (List.mem_append_left _ (List.mem_append_left _ (List.mem_of_getElem? (i := 5) rfl))), List.forall_mem_cons.mpr ⟨List.mem_cons_of_mem _ (List.mem_append_left _ (List.mem_append_left _ (List.mem_of_getElem? (i := 6) rfl))), List.forall_mem_cons.mpr ⟨List.mem_cons_of_mem _ (List.mem_append_left _ (List.mem_append_left _ (List.mem_of_getElem? (i := 7) rfl))), List.forall_mem_cons.mpr ⟨List.mem_cons_of_mem _ (List.mem_append_left _ (List.mem_append_left _ (List.mem_of_getElem? (i := 8) rfl))), List.forall_mem_cons.mpr ⟨List.mem_cons_of_mem _ (List.mem_append_left _ (List.mem_append_left _ (List.mem_of_getElem? (i := 9) rfl))), List.forall_mem_cons.mpr ⟨List.mem_cons_of_mem _ (List.mem_append_left _ (List.mem_append_left _ (List.mem_of_getElem? (i := 10) rfl))), List.forall_mem_cons.mpr ⟨List.mem_cons_of_mem _ (List.mem_append_left _ (List.mem_append_left _ (List.mem_of_getElem? (i := 3) rfl))), List.forall_mem_cons.mpr ⟨List.mem_cons_of_mem _ (List.mem_append_left _ (List.mem_append_left _ (List.mem_of_getElem? (i := 11) rfl))), List.forall_mem_cons.mpr ⟨List.mem_cons_of_mem _ (List.mem_append_left _ (List.mem_append_left _ (List.mem_of_getElem? (i := 12) rfl))), List.forall_mem_cons.mpr ⟨List.mem_cons_of_mem _ (List.mem_append_left _ (List.mem_append_left _ (List.mem_of_getElem? (i := 13) rfl))), List.forall_mem_cons.mpr ⟨List.mem_cons_of_mem _ (List.mem_append_left _ (List.mem_append_left _ (List.mem_of_getElem? (i := 14) rfl))), List.forall_mem_cons.mpr ⟨List.mem_cons_of_mem _ (List.mem_append_left _ (List.mem_append_left _ (List.mem_of_getElem? (i := 15) rfl))), List.forall_mem_cons.mpr ⟨List.mem_cons_of_mem _ (List.mem_append_left _ (List.mem_append_left _ (List.mem_of_getElem? (i := 16) rfl))), List.forall_mem_cons.mpr ⟨List.mem_cons_of_mem _ (List.mem_append_left _ (List.mem_append_left _ (List.mem_of_getElem? (i := 17) rfl))), List.forall_mem_cons.mpr ⟨List.mem_cons_of_mem _ (List.mem_append_left _ (List.mem_append_left _ (List.mem_of_getElem? (i := 18) rfl))), List.forall_mem_cons.mpr ⟨List.mem_cons_of_mem _ (List.mem_append_left _ (List.mem_append_left _ (List.mem_of_getElem? (i := 19) rfl))), List.forall_mem_cons.mpr ⟨List.mem_cons_of_mem _ (List.mem_append_left _ (List.mem_append_left _ (List.mem_of_getElem? (i := 20) rfl))), List.forall_mem_cons.mpr ⟨List.mem_cons_of_mem _ (List.mem_append_left _ (List.mem_append_left _ (List.mem_of_getElem? (i := 21) rfl))), List.forall_mem_cons.mpr ⟨List.mem_cons_of_mem _ (List.mem_append_left _ (List.mem_append_left _ (List.mem_of_getElem? (i := 22) rfl))), List.forall_mem_cons.mpr ⟨List.mem_cons_of_mem _ (List.mem_append_left _ (List.mem_append_left _ (List.mem_of_getElem? (i := 23) rfl))), List.forall_mem_cons.mpr ⟨List.mem_cons_of_mem _ (List.mem_append_left _ (List.mem_append_right _ (List.mem_of_getElem? (i := 0) rfl))), List.forall_mem_cons.mpr ⟨List.mem_cons_of_mem _ (List.mem_append_left _ (List.mem_append_right _ (List.mem_of_getElem? (i := 1) rfl))), List.forall_mem_cons.mpr ⟨List.mem_cons_of_mem _ (List.mem_append_left _ (List.mem_append_right _ (List.mem_of_getElem? (i := 2) rfl))), List.forall_mem_cons.mpr ⟨List.mem_cons_of_mem _ (List.mem_append_left _ (List.mem_append_right _ (List.mem_of_getElem? (i := 3) rfl))), nowords_in⟩⟩⟩⟩⟩⟩⟩⟩⟩⟩⟩⟩⟩⟩⟩⟩⟩⟩⟩⟩⟩⟩⟩⟩, List.forall_mem_cons.mpr ⟨List.mem_cons_of_mem _ (List.mem_append_left _ (List.mem_append_right _ (List.mem_of_getElem? (i := 4) rfl))), nowords_in⟩⟩, (fun _ h => List.mem_cons_of_mem _ (List.mem_append_right _ (h)))⟩⟩)
set_option maxRecDepth 20000 in
theorem gX0_dryShare_X0_likelihood : GoodIn wsX0_dryShare (wsV RX0 162 RX0 yX0_likelihood wsX0_likelihood) := goodIn_app (goodIn_by gd_X0_dryShare (List.forall_mem_cons.mpr ⟨List.mem_cons_of_mem _ (List.mem_append_left _ (List.mem_append_left _ (List.mem_of_getElem? (i := 0) rfl))), List.forall_mem_cons.mpr ⟨List.mem_cons_of_mem _ (List.mem_append_left _ (List.mem_append_left _ (List.mem_of_getElem? (i := 1) rfl))), List.forall_mem_cons.mpr ⟨List.mem_cons_of_mem _ (List.mem_append_left _ (List.mem_append_left _ (List.mem_of_getElem? (i := 2) rfl))), List.forall_mem_cons.mpr ⟨List.mem_cons_of_mem _ (List.mem_append_left _ (List.mem_append_left _ (List.mem_of_getElem? (i := 3) rfl))), nowords_in⟩⟩⟩⟩)) ggX0_dryShare_X0_likelihood
theorem dX0_dryShare_0 : decode cX0_dryShare 0 = .ok (.bipush 16, 2) := by decide +kernel
theorem dX0_dryShare_2 : decode cX0_dryShare 2 = .ok (.iload_n 2, 1) := by decide +kernel
theorem dX0_dryShare_3 : decode cX0_dryShare 3 = .ok (.isub, 1) := by decide +kernel
theorem dX0_dryShare_4 : decode cX0_dryShare 4 = .ok (.i2l, 1) := by decide +kernel
theorem dX0_dryShare_5 : decode cX0_dryShare 5 = .ok (.aload_n 0, 1) := by decide +kernel
theorem dX0_dryShare_6 : decode cX0_dryShare 6 = .ok (.iload_n 1, 1) := by decide +kernel
theorem dX0_dryShare_7 : decode cX0_dryShare 7 = .ok (.iconst 0, 1) := by decide +kernel
theorem dX0_dryShare_8 : decode cX0_dryShare 8 = .ok (.invokevirtual 162, 3) := by decide +kernel
theorem dX0_dryShare_11 : decode cX0_dryShare 11 = .ok (.lmul, 1) := by decide +kernel
theorem dX0_dryShare_12 : decode cX0_dryShare 12 = .ok (.lreturn, 1) := by decide +kernel
abbrev rmX0_dryShare : Room := { frames := 3, cells := 0, slots := 0, locals := 71 }
set_option maxHeartbeats 4000000 in
set_option maxRecDepth 100000 in
theorem kX0_dryShare (l : Launch) (D : va_G) (cy : Nat → ClassId) (h0 : Nat) (a0 : Nat → Nat) (s0 : Rc) (p1 : Int32) (p2 : Int32) (res : Int64) (h : fX0_dryShare p1 p2 s0 = some res) : CL l D cy yX0_dryShare wsX0_dryShare rmX0_dryShare [.ref h0, .int p1, .int p2] (flat [WX0 cy h0 a0 s0]) (flat [WX0 cy h0 a0 s0]) res := by
  refine CL.of (cc := cX0_dryShare) (maxL := 3) (by decide) rfl (Nat.le_of_ble_eq_true rfl) ?_
  intro p e s m args below meth c A QQ ls E hr
  obtain ⟨hx, hb, hml, hown, hts, hK, hN, hP, hD, hA, hl⟩ := E
  have hret : ∀ (pc : Nat) (H : Heap) (locs : List Loc) (ls : Array Slot) (u : Int64), u = res → va_P D vwCl (flat [WX0 cy h0 a0 s0]) H → va_D A (flat [WX0 cy h0 a0 s0]) → va_S A s.heap H locs → decode cX0_dryShare pc = .ok (.lreturn, 1) → W p l e rmX0_dryShare s m args below meth c H locs 0 0 QQ (F0 m pc ls [.long u]) := by
    intro pc H locs ls u hu hP hD hS hd; subst hu; exact hr pc H locs ls _ rfl hP hD hS hd
  clear hr
  have hl : lv_has ls 3 [(0, .ref h0), (1, .int p1), (2, .int p2)] := hl
  unfold fX0_dryShare at h
  suffices key : ∀ (H : Heap) (locs : List Loc), va_P D vwCl (flat [WX0 cy h0 a0 s0]) H → va_S A s.heap H locs → W p l e rmX0_dryShare s m args below meth c H locs 0 0 QQ (F0 m 0 ls []) from key _ _ hP va_S.rf
  clear hP
  intro H locs hP hS
  refine lv_bipush (v := 16) hx hb dX0_dryShare_0 (by decide) ?_
  refine lv_iload_n hx hb dX0_dryShare_2 rfl (lv_at hl 2 rfl) ?_
  refine lv_isub hx hb dX0_dryShare_3 ?_
  refine lv_i2l hx hb dX0_dryShare_4 rfl ?_
  refine lv_aload_n hx hb dX0_dryShare_5 rfl (lv_at hl 0 rfl) ?_
  refine lv_iload_n hx hb dX0_dryShare_6 rfl (lv_at hl 1 rfl) ?_
  refine lv_iconst (v := 0) hx hb dX0_dryShare_7 (by decide) ?_
  obtain ⟨r1, hr1, h⟩ := bd_elim h
  refine ca_l (w' := [WX0 cy h0 a0 s0]) (rn_V (As := [.int p1, .int (0 : Int32)]) (rest := [.long (((16 : Int32) - p2).toInt64)]) ⟨hx, hb, hml, hown, hts⟩ (kX0_likelihood l D cy h0 a0 s0 p1 (0 : Int32) r1 hr1 H.size) (cwV 2 hts gX0_dryShare_X0_likelihood rfl rfl rfl (by decide +kernel) ⟨Nat.le_of_ble_eq_true rfl, Nat.le_of_ble_eq_true rfl⟩) hK hN hP hD [0] rfl rfl (ci := 0) (q0 := 0) rfl rfl rfl rfl hl.1 rfl (Nat.le_of_ble_eq_true rfl) dX0_dryShare_8 ⟨Nat.le_refl 0, Nat.le_refl 0⟩) hP hD hS hA [0] ⟨rfl, rfl, rfl, rfl⟩ (fun H locs hP hD hS => ?_)
  refine lv_lmul hx hb dX0_dryShare_11 ?_
  exact hret 12 H locs ls ((((16 : Int32) - p2).toInt64) * r1) (Option.some.inj h) hP hD hS dX0_dryShare_12
theorem gd_X0_feltWeather : wsX0_feltWeather.all goodWord = true := by decide +kernel
set_option maxRecDepth 20000 in
theorem ggX0_feltWeather_X0_hasElbow : GoodIn wsX0_feltWeather wsX0_hasElbow := goodIn_by gd_X0_feltWeather (List.forall_mem_cons.mpr ⟨List.mem_cons_of_mem _ (List.mem_append_left _ (List.mem_of_getElem? (i := 6) rfl)), List.forall_mem_append.mpr ⟨List.forall_mem_cons.mpr ⟨List.mem_cons_of_mem _ (List.mem_append_left _ (List.mem_of_getElem? (i := 7) rfl)), nowords_in⟩, (fun _ h => List.mem_cons_of_mem _ (List.mem_append_right _ (h)))⟩⟩)
set_option maxRecDepth 20000 in
theorem gX0_feltWeather_X0_hasElbow : GoodIn wsX0_feltWeather (wsV RX0 74 RX0 yX0_hasElbow wsX0_hasElbow) := goodIn_app (goodIn_by gd_X0_feltWeather (List.forall_mem_cons.mpr ⟨List.mem_cons_of_mem _ (List.mem_append_left _ (List.mem_of_getElem? (i := 2) rfl)), List.forall_mem_cons.mpr ⟨List.mem_cons_of_mem _ (List.mem_append_left _ (List.mem_of_getElem? (i := 3) rfl)), List.forall_mem_cons.mpr ⟨List.mem_cons_of_mem _ (List.mem_append_left _ (List.mem_of_getElem? (i := 4) rfl)), List.forall_mem_cons.mpr ⟨List.mem_cons_of_mem _ (List.mem_append_left _ (List.mem_of_getElem? (i := 5) rfl)), nowords_in⟩⟩⟩⟩)) ggX0_feltWeather_X0_hasElbow
theorem dX0_feltWeather_0 : decode cX0_feltWeather 0 = .ok (.aload_n 0, 1) := by decide +kernel
theorem dX0_feltWeather_1 : decode cX0_feltWeather 1 = .ok (.iload_n 1, 1) := by decide +kernel
theorem dX0_feltWeather_2 : decode cX0_feltWeather 2 = .ok (.invokevirtual 74, 3) := by decide +kernel
theorem dX0_feltWeather_5 : decode cX0_feltWeather 5 = .ok (.ifCond .eq 10, 3) := by decide +kernel
theorem dX0_feltWeather_8 : decode cX0_feltWeather 8 = .ok (.aload_n 0, 1) := by decide +kernel
theorem dX0_feltWeather_9 : decode cX0_feltWeather 9 = .ok (.getfield 48, 3) := by decide +kernel
theorem dX0_feltWeather_12 : decode cX0_feltWeather 12 = .ok (.goto 7, 3) := by decide +kernel
theorem dX0_feltWeather_15 : decode cX0_feltWeather 15 = .ok (.aload_n 0, 1) := by decide +kernel
theorem dX0_feltWeather_16 : decode cX0_feltWeather 16 = .ok (.getfield 44, 3) := by decide +kernel
theorem dX0_feltWeather_19 : decode cX0_feltWeather 19 = .ok (.lreturn, 1) := by decide +kernel
abbrev rmX0_feltWeather : Room := { frames := 1, cells := 0, slots := 0, locals := 21 }
set_option maxHeartbeats 4000000 in
set_option maxRecDepth 100000 in
theorem kX0_feltWeather (l : Launch) (D : va_G) (cy : Nat → ClassId) (h0 : Nat) (a0 : Nat → Nat) (s0 : Rc) (p1 : Int32) (res : Int64) (h : fX0_feltWeather p1 s0 = res) : CL l D cy yX0_feltWeather wsX0_feltWeather rmX0_feltWeather [.ref h0, .int p1] (flat [WX0 cy h0 a0 s0]) (flat [WX0 cy h0 a0 s0]) res := by
  refine CL.of (cc := cX0_feltWeather) (maxL := 2) (by decide) rfl (Nat.le_of_ble_eq_true rfl) ?_
  intro p e s m args below meth c A QQ ls E hr
  obtain ⟨hx, hb, hml, hown, hts, hK, hN, hP, hD, hA, hl⟩ := E
  have hret : ∀ (pc : Nat) (H : Heap) (locs : List Loc) (ls : Array Slot) (u : Int64), u = res → va_P D vwCl (flat [WX0 cy h0 a0 s0]) H → va_D A (flat [WX0 cy h0 a0 s0]) → va_S A s.heap H locs → decode cX0_feltWeather pc = .ok (.lreturn, 1) → W p l e rmX0_feltWeather s m args below meth c H locs 0 0 QQ (F0 m pc ls [.long u]) := by
    intro pc H locs ls u hu hP hD hS hd; subst hu; exact hr pc H locs ls _ rfl hP hD hS hd
  clear hr
  have hl : lv_has ls 2 [(0, .ref h0), (1, .int p1)] := hl
  have hinX0 : ∀ w ∈ wsX00, w ∈ wsX0_feltWeather := fun _ h => List.mem_cons_of_mem _ (List.mem_append_right _ h)
  unfold fX0_feltWeather at h
  suffices key : ∀ (H : Heap) (locs : List Loc), va_P D vwCl (flat [WX0 cy h0 a0 s0]) H → va_S A s.heap H locs → W p l e rmX0_feltWeather s m args below meth c H locs 0 0 QQ (F0 m 0 ls []) from key _ _ hP va_S.rf
  clear hP
  intro H locs hP hS
  refine lv_aload_n hx hb dX0_feltWeather_0 rfl (lv_at hl 0 rfl) ?_
  refine lv_iload_n hx hb dX0_feltWeather_1 rfl (lv_at hl 1 rfl) ?_
  refine ca_z (w' := [WX0 cy h0 a0 s0]) (rn_V (As := [.int p1]) (rest := []) ⟨hx, hb, hml, hown, hts⟩ (kX0_hasElbow l D cy h0 a0 s0 p1 _ rfl H.size) (cwV 1 hts gX0_feltWeather_X0_hasElbow rfl rfl rfl (by decide +kernel) ⟨Nat.le_of_ble_eq_true rfl, Nat.le_of_ble_eq_true rfl⟩) hK hN hP hD [0] rfl rfl (ci := 0) (q0 := 0) rfl rfl rfl rfl hl.1 rfl (Nat.le_of_ble_eq_true rfl) dX0_feltWeather_2 ⟨Nat.le_refl 0, Nat.le_refl 0⟩) hP hD hS hA [0] ⟨rfl, rfl, rfl, rfl⟩ (fun b1 H locs hP hD hS => ?_)
  refine lv_if_eq (tgt := 15) hx hb dX0_feltWeather_5 (by decide) (fun c2 => ?_) (fun c2 => ?_)
  · replace h := (if_pos c2).symm.trans h
    refine lv_aload_n hx hb dX0_feltWeather_15 rfl (lv_at hl 0 rfl) ?_
    refine va_get (D := D) (ci := 0) (v := .long (gl s0 10)) (C := RX0) (T := TX0) (N := 14) hx hb hts hinX0 hown hK hP 0 rfl rfl 10 (by decide) (hts (.fieldLink RX0 44 "KneeBench$Bench" "wet" "J") (List.mem_of_getElem? (i := 2) rfl)) (fun _ h9 => h9) rfl dX0_feltWeather_16 ?_
    exact hret 19 H locs ls (gl s0 10) h hP hD hS dX0_feltWeather_19
  · replace h := (if_neg c2).symm.trans h
    refine lv_aload_n hx hb dX0_feltWeather_8 rfl (lv_at hl 0 rfl) ?_
    refine va_get (D := D) (ci := 0) (v := .long (gl s0 11)) (C := RX0) (T := TX0) (N := 14) hx hb hts hinX0 hown hK hP 0 rfl rfl 11 (by decide) (hts (.fieldLink RX0 48 "KneeBench$Bench" "hail" "J") (List.mem_of_getElem? (i := 1) rfl)) (fun _ h9 => h9) rfl dX0_feltWeather_9 ?_
    refine lv_goto (tgt := 19) hx hb dX0_feltWeather_12 (by decide) ?_
    exact hret 19 H locs ls (gl s0 11) h hP hD hS dX0_feltWeather_19
theorem dX10_later_0 : decode cX10_later 0 = .ok (.iload_n 2, 1) := by decide +kernel
theorem dX10_later_1 : decode cX10_later 1 = .ok (.ifCond .ge 10, 3) := by decide +kernel
theorem dX10_later_4 : decode cX10_later 4 = .ok (.lload_n 0, 1) := by decide +kernel
theorem dX10_later_5 : decode cX10_later 5 = .ok (.iload_n 2, 1) := by decide +kernel
theorem dX10_later_6 : decode cX10_later 6 = .ok (.ineg, 1) := by decide +kernel
theorem dX10_later_7 : decode cX10_later 7 = .ok (.lushr, 1) := by decide +kernel
theorem dX10_later_8 : decode cX10_later 8 = .ok (.goto 6, 3) := by decide +kernel
theorem dX10_later_11 : decode cX10_later 11 = .ok (.lload_n 0, 1) := by decide +kernel
theorem dX10_later_12 : decode cX10_later 12 = .ok (.iload_n 2, 1) := by decide +kernel
theorem dX10_later_13 : decode cX10_later 13 = .ok (.lshl, 1) := by decide +kernel
theorem dX10_later_14 : decode cX10_later 14 = .ok (.lreturn, 1) := by decide +kernel
abbrev rmX10_later : Room := { frames := 0, cells := 0, slots := 0, locals := 0 }
set_option maxHeartbeats 4000000 in
set_option maxRecDepth 100000 in
theorem kX10_later (l : Launch) (D : va_G) (cy : Nat → ClassId) (p1 : Int64) (p2 : Int32) (res : Int64) (h : fX10_later p1 p2 = res) : CL l D cy yX10_later wsX10_later rmX10_later [.long p1, .int p2] (flat []) (flat []) res := by
  refine CL.of (cc := cX10_later) (maxL := 3) (by decide) rfl (Nat.le_of_ble_eq_true rfl) ?_
  intro p e s m args below meth c A QQ ls E hr
  obtain ⟨hx, hb, hml, hown, hts, hK, hN, hP, hD, hA, hl⟩ := E
  have hret : ∀ (pc : Nat) (H : Heap) (locs : List Loc) (ls : Array Slot) (u : Int64), u = res → va_P D vwCl (flat []) H → va_D A (flat []) → va_S A s.heap H locs → decode cX10_later pc = .ok (.lreturn, 1) → W p l e rmX10_later s m args below meth c H locs 0 0 QQ (F0 m pc ls [.long u]) := by
    intro pc H locs ls u hu hP hD hS hd; subst hu; exact hr pc H locs ls _ rfl hP hD hS hd
  clear hr
  have hl : lv_has ls 3 [(0, .long p1), (2, .int p2)] := hl
  unfold fX10_later at h
  suffices key : ∀ (H : Heap) (locs : List Loc), va_P D vwCl (flat []) H → va_S A s.heap H locs → W p l e rmX10_later s m args below meth c H locs 0 0 QQ (F0 m 0 ls []) from key _ _ hP va_S.rf
  clear hP
  intro H locs hP hS
  refine lv_iload_n hx hb dX10_later_0 rfl (lv_at hl 1 rfl) ?_
  refine lv_if_ge (tgt := 11) hx hb dX10_later_1 (by decide) (fun c1 => ?_) (fun c1 => ?_)
  · replace h := (if_pos c1).symm.trans h
    refine lv_lload_n hx hb dX10_later_11 rfl (lv_at hl 0 rfl) ?_
    refine lv_iload_n hx hb dX10_later_12 rfl (lv_at hl 1 rfl) ?_
    refine lv_lshl hx hb dX10_later_13 rfl ?_
    exact hret 14 H locs ls (p1 <<< (p2.toInt64 &&& 63)) h hP hD hS dX10_later_14
  · replace h := (if_neg c1).symm.trans h
    refine lv_lload_n hx hb dX10_later_4 rfl (lv_at hl 0 rfl) ?_
    refine lv_iload_n hx hb dX10_later_5 rfl (lv_at hl 1 rfl) ?_
    refine lv_ineg hx hb dX10_later_6 ?_
    refine lv_lushr hx hb dX10_later_7 rfl ?_
    refine lv_goto (tgt := 14) hx hb dX10_later_8 (by decide) ?_
    exact hret 14 H locs ls ((p1.toUInt64 >>> ((-p2).toInt64.toUInt64 &&& Int64.toUInt64 63)).toInt64) h hP hD hS dX10_later_14
theorem gd_X0_feelingDays : wsX0_feelingDays.all goodWord = true := by decide +kernel
set_option maxRecDepth 20000 in
theorem ggX0_feelingDays_X10_firstDays : GoodIn wsX0_feelingDays wsX10_firstDays := goodIn_by gd_X0_feelingDays (List.forall_mem_cons.mpr ⟨List.mem_cons_of_mem _ (List.mem_append_left _ (List.mem_of_getElem? (i := 8) rfl)), nowords_in⟩)
set_option maxRecDepth 20000 in
theorem gX0_feelingDays_X10_firstDays_n71 : GoodIn wsX0_feelingDays (wsX10_firstDays) := ggX0_feelingDays_X10_firstDays
theorem dX0_feelingDays_0 : decode cX0_feelingDays 0 = .ok (.aload_n 0, 1) := by decide +kernel
theorem dX0_feelingDays_1 : decode cX0_feelingDays 1 = .ok (.getfield 41, 3) := by decide +kernel
theorem dX0_feelingDays_4 : decode cX0_feelingDays 4 = .ok (.aload_n 0, 1) := by decide +kernel
theorem dX0_feelingDays_5 : decode cX0_feelingDays 5 = .ok (.getfield 25, 3) := by decide +kernel
theorem dX0_feelingDays_8 : decode cX0_feelingDays 8 = .ok (.iload_n 1, 1) := by decide +kernel
theorem dX0_feelingDays_9 : decode cX0_feelingDays 9 = .ok (.iaload, 1) := by decide +kernel
theorem dX0_feelingDays_10 : decode cX0_feelingDays 10 = .ok (.invokestatic 78, 3) := by decide +kernel
theorem dX0_feelingDays_13 : decode cX0_feelingDays 13 = .ok (.invokestatic 71, 3) := by decide +kernel
theorem dX0_feelingDays_16 : decode cX0_feelingDays 16 = .ok (.lreturn, 1) := by decide +kernel
abbrev rmX0_feelingDays : Room := { frames := 1, cells := 0, slots := 0, locals := 20 }
set_option maxHeartbeats 4000000 in
set_option maxRecDepth 100000 in
theorem kX0_feelingDays (l : Launch) (D : va_G) (cy : Nat → ClassId) (h0 : Nat) (a0 : Nat → Nat) (s0 : Rc) (p1 : Int32) (res : Int64) (h : fX0_feelingDays p1 s0 = some res) : CL l D cy yX0_feelingDays wsX0_feelingDays rmX0_feelingDays [.ref h0, .int p1] (flat [WX0 cy h0 a0 s0]) (flat [WX0 cy h0 a0 s0]) res := by
  refine CL.of (cc := cX0_feelingDays) (maxL := 2) (by decide) rfl (Nat.le_of_ble_eq_true rfl) ?_
  intro p e s m args below meth c A QQ ls E hr
  obtain ⟨hx, hb, hml, hown, hts, hK, hN, hP, hD, hA, hl⟩ := E
  have hret : ∀ (pc : Nat) (H : Heap) (locs : List Loc) (ls : Array Slot) (u : Int64), u = res → va_P D vwCl (flat [WX0 cy h0 a0 s0]) H → va_D A (flat [WX0 cy h0 a0 s0]) → va_S A s.heap H locs → decode cX0_feelingDays pc = .ok (.lreturn, 1) → W p l e rmX0_feelingDays s m args below meth c H locs 0 0 QQ (F0 m pc ls [.long u]) := by
    intro pc H locs ls u hu hP hD hS hd; subst hu; exact hr pc H locs ls _ rfl hP hD hS hd
  clear hr
  have hl : lv_has ls 2 [(0, .ref h0), (1, .int p1)] := hl
  have hinX0 : ∀ w ∈ wsX00, w ∈ wsX0_feelingDays := fun _ h => List.mem_cons_of_mem _ (List.mem_append_right _ h)
  unfold fX0_feelingDays at h
  suffices key : ∀ (H : Heap) (locs : List Loc), va_P D vwCl (flat [WX0 cy h0 a0 s0]) H → va_S A s.heap H locs → W p l e rmX0_feelingDays s m args below meth c H locs 0 0 QQ (F0 m 0 ls []) from key _ _ hP va_S.rf
  clear hP
  intro H locs hP hS
  refine lv_aload_n hx hb dX0_feelingDays_0 rfl (lv_at hl 0 rfl) ?_
  refine va_get (D := D) (ci := 0) (v := .int (gi s0 9)) (C := RX0) (T := TX0) (N := 14) hx hb hts hinX0 hown hK hP 0 rfl rfl 9 (by decide) (hts (.fieldLink RX0 41 "KneeBench$Bench" "days" "I") (List.mem_of_getElem? (i := 1) rfl)) (fun _ h9 => h9) rfl dX0_feelingDays_1 ?_
  refine lv_aload_n hx hb dX0_feelingDays_4 rfl (lv_at hl 0 rfl) ?_
  refine va_get (D := D) (ci := 0) (v := .ref (a0 4)) (C := RX0) (T := TX0) (N := 14) hx hb hts hinX0 hown hK hP 0 rfl rfl 4 (by decide) (hts (.fieldLink RX0 25 "KneeBench$Bench" "cures" "[I") (List.mem_of_getElem? (i := 2) rfl)) (fun _ h9 => h9) rfl dX0_feelingDays_5 ?_
  refine lv_iload_n hx hb dX0_feelingDays_8 rfl (lv_at hl 1 rfl) ?_
  obtain ⟨g1, h⟩ := gd_elim h
  refine va_iald hx hb hK hP 5 1 rfl rfl (inb_in g1) dX0_feelingDays_9 ?_
  refine va_mmin hx hb (hml.trans hl.1.symm) hown (hts (.methodLink RX0 78 Lib.Math.min.name) (List.mem_of_getElem? (i := 3) rfl)) (hts (.static Lib.Math.min.name) (List.mem_of_getElem? (i := 4) rfl)) (hts (.initialized "java/lang/Math") (List.mem_of_getElem? (i := 5) rfl)) (hts (.code Lib.Math.min.name Lib.Math.min.code 2 (some .int)) (List.mem_of_getElem? (i := 6) rfl)) (Nat.le_of_ble_eq_true rfl) (Nat.le_of_ble_eq_true rfl) (Nat.le_refl 0) (Nat.le_refl 0) dX0_feelingDays_10 ?_
  refine ca_l (w' := [WX0 cy h0 a0 s0]) (rn_SN (As := [.int (if (ga s0 4 p1.toNatClampNeg) < (gi s0 9) then (ga s0 4 p1.toNatClampNeg) else (gi s0 9))]) (rest := []) ⟨hx, hb, hml, hown, hts⟩ (kX10_firstDays l D cy (if (ga s0 4 p1.toNatClampNeg) < (gi s0 9) then (ga s0 4 p1.toNatClampNeg) else (gi s0 9)) _ rfl H.size) ⟨va_cnB 1 hts gX0_feelingDays_X10_firstDays_n71 rfl rfl rfl (NW.met hN 13 rfl) (hts (.initialized RX10) (List.mem_of_getElem? (i := 8) rfl)) (by decide +kernel) ⟨Nat.le_of_ble_eq_true rfl, Nat.le_of_ble_eq_true rfl⟩, hts (.static yX10_firstDays) (List.mem_of_getElem? (i := 7) rfl), trivial⟩ hK hN hP hD [] rfl rfl rfl hl.1 rfl (Nat.le_of_ble_eq_true rfl) dX0_feelingDays_13 ⟨Nat.le_refl 0, Nat.le_refl 0⟩) hP hD hS hA [] ⟨rfl, rfl, rfl, rfl⟩ (fun H locs hP hD hS => ?_)
  exact hret 16 H locs ls (fX10_firstDays (if (ga s0 4 p1.toNatClampNeg) < (gi s0 9) then (ga s0 4 p1.toNatClampNeg) else (gi s0 9))) (Option.some.inj h) hP hD hS dX0_feelingDays_16
