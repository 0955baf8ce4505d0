theorem gd_X0_dueDays : wsX0_dueDays.all goodWord = true := by decide +kernel
set_option maxRecDepth 20000 in
theorem ggX0_dueDays_X0_feltWeather : GoodIn wsX0_dueDays wsX0_feltWeather := goodIn_by gd_X0_dueDays (List.forall_mem_cons.mpr ⟨List.mem_cons_of_mem _ (List.mem_append_left _ (List.mem_append_left _ (List.mem_of_getElem? (i := 5) rfl))), List.forall_mem_append.mpr ⟨List.forall_mem_cons.mpr ⟨List.mem_cons_of_mem _ (List.mem_append_left _ (List.mem_append_left _ (List.mem_of_getElem? (i := 6) rfl))), List.forall_mem_cons.mpr ⟨List.mem_cons_of_mem _ (List.mem_append_left _ (List.mem_append_left _ (List.mem_of_getElem? (i := 7) rfl))), List.forall_mem_cons.mpr ⟨List.mem_cons_of_mem _ (List.mem_append_left _ (List.mem_append_left _ (List.mem_of_getElem? (i := 8) rfl))), List.forall_mem_cons.mpr ⟨List.mem_cons_of_mem _ (List.mem_append_left _ (List.mem_append_left _ (List.mem_of_getElem? (i := 9) rfl))), List.forall_mem_cons.mpr ⟨List.mem_cons_of_mem _ (List.mem_append_left _ (List.mem_append_left _ (List.mem_of_getElem? (i := 10) rfl))), List.forall_mem_cons.mpr ⟨List.mem_cons_of_mem _ (List.mem_append_left _ (List.mem_append_left _ (List.mem_of_getElem? (i := 4) rfl))), List.forall_mem_cons.mpr ⟨List.mem_cons_of_mem _ (List.mem_append_left _ (List.mem_append_left _ (List.mem_of_getElem? (i := 11) rfl))), List.forall_mem_cons.mpr ⟨List.mem_cons_of_mem _ (List.mem_append_left _ (List.mem_append_left _ (List.mem_of_getElem? (i := 12) rfl))), nowords_in⟩⟩⟩⟩⟩⟩⟩⟩, (fun _ h => List.mem_cons_of_mem _ (List.mem_append_right _ (h)))⟩⟩)
set_option maxRecDepth 20000 in
theorem gX0_dueDays_X0_feltWeather : GoodIn wsX0_dueDays (wsV RX0 84 RX0 yX0_feltWeather wsX0_feltWeather) := goodIn_app (goodIn_by gd_X0_dueDays (List.forall_mem_cons.mpr ⟨List.mem_cons_of_mem _ (List.mem_append_left _ (List.mem_append_left _ (List.mem_of_getElem? (i := 1) rfl))), List.forall_mem_cons.mpr ⟨List.mem_cons_of_mem _ (List.mem_append_left _ (List.mem_append_left _ (List.mem_of_getElem? (i := 2) rfl))), List.forall_mem_cons.mpr ⟨List.mem_cons_of_mem _ (List.mem_append_left _ (List.mem_append_left _ (List.mem_of_getElem? (i := 3) rfl))), List.forall_mem_cons.mpr ⟨List.mem_cons_of_mem _ (List.mem_append_left _ (List.mem_append_left _ (List.mem_of_getElem? (i := 4) rfl))), nowords_in⟩⟩⟩⟩)) ggX0_dueDays_X0_feltWeather
set_option maxRecDepth 20000 in
theorem ggX0_dueDays_X10_later : GoodIn wsX0_dueDays wsX10_later := goodIn_by gd_X0_dueDays (List.forall_mem_cons.mpr ⟨List.mem_cons_of_mem _ (List.mem_append_left _ (List.mem_append_left _ (List.mem_of_getElem? (i := 15) rfl))), nowords_in⟩)
set_option maxRecDepth 20000 in
theorem gX0_dueDays_X10_later_n87 : GoodIn wsX0_dueDays (wsX10_later) := ggX0_dueDays_X10_later
set_option maxRecDepth 20000 in
theorem ggX0_dueDays_X0_feelingDays : GoodIn wsX0_dueDays wsX0_feelingDays := goodIn_by gd_X0_dueDays (List.forall_mem_cons.mpr ⟨List.mem_cons_of_mem _ (List.mem_append_left _ (List.mem_append_left _ (List.mem_of_getElem? (i := 19) rfl))), List.forall_mem_append.mpr ⟨List.forall_mem_cons.mpr ⟨List.mem_cons_of_mem _ (List.mem_append_left _ (List.mem_append_left _ (List.mem_of_getElem? (i := 20) rfl))), List.forall_mem_cons.mpr ⟨List.mem_cons_of_mem _ (List.mem_append_left _ (List.mem_append_left _ (List.mem_of_getElem? (i := 21) rfl))), List.forall_mem_cons.mpr ⟨List.mem_cons_of_mem _ (List.mem_append_left _ (List.mem_append_left _ (List.mem_of_getElem? (i := 22) rfl))), List.forall_mem_cons.mpr ⟨List.mem_cons_of_mem _ (List.mem_append_left _ (List.mem_append_left _ (List.mem_of_getElem? (i := 23) rfl))), List.forall_mem_cons.mpr ⟨List.mem_cons_of_mem _ (List.mem_append_left _ (List.mem_append_right _ (List.mem_of_getElem? (i := 0) rfl))), List.forall_mem_cons.mpr ⟨List.mem_cons_of_mem _ (List.mem_append_left _ (List.mem_append_right _ (List.mem_of_getElem? (i := 1) rfl))), List.forall_mem_cons.mpr ⟨List.mem_cons_of_mem _ (List.mem_append_left _ (List.mem_append_right _ (List.mem_of_getElem? (i := 2) rfl))), List.forall_mem_cons.mpr ⟨List.mem_cons_of_mem _ (List.mem_append_left _ (List.mem_append_left _ (List.mem_of_getElem? (i := 14) rfl))), List.forall_mem_cons.mpr ⟨List.mem_cons_of_mem _ (List.mem_append_left _ (List.mem_append_right _ (List.mem_of_getElem? (i := 3) rfl))), nowords_in⟩⟩⟩⟩⟩⟩⟩⟩⟩, (fun _ h => List.mem_cons_of_mem _ (List.mem_append_right _ (h)))⟩⟩)
set_option maxRecDepth 20000 in
theorem gX0_dueDays_X0_feelingDays : GoodIn wsX0_dueDays (wsV RX0 91 RX0 yX0_feelingDays wsX0_feelingDays) := goodIn_app (goodIn_by gd_X0_dueDays (List.forall_mem_cons.mpr ⟨List.mem_cons_of_mem _ (List.mem_append_left _ (List.mem_append_left _ (List.mem_of_getElem? (i := 16) rfl))), List.forall_mem_cons.mpr ⟨List.mem_cons_of_mem _ (List.mem_append_left _ (List.mem_append_left _ (List.mem_of_getElem? (i := 17) rfl))), List.forall_mem_cons.mpr ⟨List.mem_cons_of_mem _ (List.mem_append_left _ (List.mem_append_left _ (List.mem_of_getElem? (i := 18) rfl))), List.forall_mem_cons.mpr ⟨List.mem_cons_of_mem _ (List.mem_append_left _ (List.mem_append_left _ (List.mem_of_getElem? (i := 4) rfl))), nowords_in⟩⟩⟩⟩)) ggX0_dueDays_X0_feelingDays
theorem dX0_dueDays_0 : decode cX0_dueDays 0 = .ok (.aload_n 0, 1) := by decide +kernel
theorem dX0_dueDays_1 : decode cX0_dueDays 1 = .ok (.iload_n 1, 1) := by decide +kernel
theorem dX0_dueDays_2 : decode cX0_dueDays 2 = .ok (.invokevirtual 84, 3) := by decide +kernel
theorem dX0_dueDays_5 : decode cX0_dueDays 5 = .ok (.aload_n 0, 1) := by decide +kernel
theorem dX0_dueDays_6 : decode cX0_dueDays 6 = .ok (.getfield 15, 3) := by decide +kernel
theorem dX0_dueDays_9 : decode cX0_dueDays 9 = .ok (.iload_n 1, 1) := by decide +kernel
theorem dX0_dueDays_10 : decode cX0_dueDays 10 = .ok (.iaload, 1) := by decide +kernel
theorem dX0_dueDays_11 : decode cX0_dueDays 11 = .ok (.ineg, 1) := by decide +kernel
theorem dX0_dueDays_12 : decode cX0_dueDays 12 = .ok (.invokestatic 87, 3) := by decide +kernel
theorem dX0_dueDays_15 : decode cX0_dueDays 15 = .ok (.aload_n 0, 1) := by decide +kernel
theorem dX0_dueDays_16 : decode cX0_dueDays 16 = .ok (.iload_n 1, 1) := by decide +kernel
theorem dX0_dueDays_17 : decode cX0_dueDays 17 = .ok (.invokevirtual 91, 3) := by decide +kernel
theorem dX0_dueDays_20 : decode cX0_dueDays 20 = .ok (.land, 1) := by decide +kernel
theorem dX0_dueDays_21 : decode cX0_dueDays 21 = .ok (.lreturn, 1) := by decide +kernel
abbrev rmX0_dueDays : Room := { frames := 2, cells := 0, slots := 0, locals := 42 }
set_option maxHeartbeats 4000000 in
set_option maxRecDepth 100000 in
theorem kX0_dueDays (l : Launch) (D : va_G) (cy : Nat → ClassId) (h0 : Nat) (a0 : Nat → Nat) (s0 : Rc) (p1 : Int32) (res : Int64) (h : fX0_dueDays p1 s0 = some res) : CL l D cy yX0_dueDays wsX0_dueDays rmX0_dueDays [.ref h0, .int p1] (flat [WX0 cy h0 a0 s0]) (flat [WX0 cy h0 a0 s0]) res := by
  refine CL.of (cc := cX0_dueDays) (maxL := 2) (by decide) rfl (Nat.le_of_ble_eq_true rfl) ?_
  intro p e s m args below meth c A QQ ls E hr
  obtain ⟨hx, hb, hml, hown, hts, hK, hN, hP, hD, hA, hl⟩ := E
  have hret : ∀ (pc : Nat) (H : Heap) (locs : List Loc) (ls : Array Slot) (u : Int64), u = res → va_P D vwCl (flat [WX0 cy h0 a0 s0]) H → va_D A (flat [WX0 cy h0 a0 s0]) → va_S A s.heap H locs → decode cX0_dueDays pc = .ok (.lreturn, 1) → W p l e rmX0_dueDays s m args below meth c H locs 0 0 QQ (F0 m pc ls [.long u]) := by
    intro pc H locs ls u hu hP hD hS hd; subst hu; exact hr pc H locs ls _ rfl hP hD hS hd
  clear hr
  have hl : lv_has ls 2 [(0, .ref h0), (1, .int p1)] := hl
  have hinX0 : ∀ w ∈ wsX00, w ∈ wsX0_dueDays := fun _ h => List.mem_cons_of_mem _ (List.mem_append_right _ h)
  unfold fX0_dueDays at h
  suffices key : ∀ (H : Heap) (locs : List Loc), va_P D vwCl (flat [WX0 cy h0 a0 s0]) H → va_S A s.heap H locs → W p l e rmX0_dueDays s m args below meth c H locs 0 0 QQ (F0 m 0 ls []) from key _ _ hP va_S.rf
  clear hP
  intro H locs hP hS
  refine lv_aload_n hx hb dX0_dueDays_0 rfl (lv_at hl 0 rfl) ?_
  refine lv_iload_n hx hb dX0_dueDays_1 rfl (lv_at hl 1 rfl) ?_
  refine ca_l (w' := [WX0 cy h0 a0 s0]) (rn_V (As := [.int p1]) (rest := []) ⟨hx, hb, hml, hown, hts⟩ (kX0_feltWeather l D cy h0 a0 s0 p1 _ rfl H.size) (cwV 1 hts gX0_dueDays_X0_feltWeather rfl rfl rfl (by decide +kernel) ⟨Nat.le_of_ble_eq_true rfl, Nat.le_of_ble_eq_true rfl⟩) hK hN hP hD [0] rfl rfl (ci := 0) (q0 := 0) rfl rfl rfl rfl hl.1 rfl (Nat.le_of_ble_eq_true rfl) dX0_dueDays_2 ⟨Nat.le_refl 0, Nat.le_refl 0⟩) hP hD hS hA [0] ⟨rfl, rfl, rfl, rfl⟩ (fun H locs hP hD hS => ?_)
  refine lv_aload_n hx hb dX0_dueDays_5 rfl (lv_at hl 0 rfl) ?_
  refine va_get (D := D) (ci := 0) (v := .ref (a0 1)) (C := RX0) (T := TX0) (N := 14) hx hb hts hinX0 hown hK hP 0 rfl rfl 1 (by decide) (hts (.fieldLink RX0 15 "KneeBench$Bench" "lags" "[I") (List.mem_of_getElem? (i := 1) rfl)) (fun _ h9 => h9) rfl dX0_dueDays_6 ?_
  refine lv_iload_n hx hb dX0_dueDays_9 rfl (lv_at hl 1 rfl) ?_
  obtain ⟨g1, h⟩ := gd_elim h
  refine va_iald hx hb hK hP 2 1 rfl rfl (inb_in g1) dX0_dueDays_10 ?_
  refine lv_ineg hx hb dX0_dueDays_11 ?_
  refine ca_l (w' := [WX0 cy h0 a0 s0]) (rn_SN (As := [.long (fX0_feltWeather p1 s0), .int (-(ga s0 1 p1.toNatClampNeg))]) (rest := []) ⟨hx, hb, hml, hown, hts⟩ (kX10_later l D cy (fX0_feltWeather p1 s0) (-(ga s0 1 p1.toNatClampNeg)) _ rfl H.size) ⟨va_cnB 2 hts gX0_dueDays_X10_later_n87 rfl rfl rfl (NW.met hN 12 rfl) (hts (.initialized RX10) (List.mem_of_getElem? (i := 15) rfl)) (by decide +kernel) ⟨Nat.le_of_ble_eq_true rfl, Nat.le_of_ble_eq_true rfl⟩, hts (.static yX10_later) (List.mem_of_getElem? (i := 14) rfl), trivial⟩ hK hN hP hD [] rfl rfl rfl hl.1 rfl (Nat.le_of_ble_eq_true rfl) dX0_dueDays_12 ⟨Nat.le_refl 0, Nat.le_refl 0⟩) hP hD hS hA [] ⟨rfl, rfl, rfl, rfl⟩ (fun H locs hP hD hS => ?_)
  refine lv_aload_n hx hb dX0_dueDays_15 rfl (lv_at hl 0 rfl) ?_
  refine lv_iload_n hx hb dX0_dueDays_16 rfl (lv_at hl 1 rfl) ?_
  obtain ⟨r2, hr2, h⟩ := bd_elim h
  refine ca_l (w' := [WX0 cy h0 a0 s0]) (rn_V (As := [.int p1]) (rest := [.long (fX10_later (fX0_feltWeather p1 s0) (-(ga s0 1 p1.toNatClampNeg)))]) ⟨hx, hb, hml, hown, hts⟩ (kX0_feelingDays l D cy h0 a0 s0 p1 r2 hr2 H.size) (cwV 1 hts gX0_dueDays_X0_feelingDays rfl rfl rfl (by decide +kernel) ⟨Nat.le_of_ble_eq_true rfl, Nat.le_of_ble_eq_true rfl⟩) hK hN hP hD [0] rfl rfl (ci := 0) (q0 := 0) rfl rfl rfl rfl hl.1 rfl (Nat.le_of_ble_eq_true rfl) dX0_dueDays_17 ⟨Nat.le_refl 0, Nat.le_refl 0⟩) hP hD hS hA [0] ⟨rfl, rfl, rfl, rfl⟩ (fun H locs hP hD hS => ?_)
  refine lv_land hx hb dX0_dueDays_20 ?_
  exact hret 21 H locs ls ((fX10_later (fX0_feltWeather p1 s0) (-(ga s0 1 p1.toNatClampNeg))) &&& r2) (Option.some.inj h) hP hD hS dX0_dueDays_21
theorem dX0_empty_0 : decode cX0_empty 0 = .ok (.aload_n 0, 1) := by decide +kernel
theorem dX0_empty_1 : decode cX0_empty 1 = .ok (.iconst 0, 1) := by decide +kernel
theorem dX0_empty_2 : decode cX0_empty 2 = .ok (.putfield 37, 3) := by decide +kernel
theorem dX0_empty_5 : decode cX0_empty 5 = .ok (.aload_n 0, 1) := by decide +kernel
theorem dX0_empty_6 : decode cX0_empty 6 = .ok (.iconst 0, 1) := by decide +kernel
theorem dX0_empty_7 : decode cX0_empty 7 = .ok (.putfield 54, 3) := by decide +kernel
theorem dX0_empty_10 : decode cX0_empty 10 = .ok (.aload_n 0, 1) := by decide +kernel
theorem dX0_empty_11 : decode cX0_empty 11 = .ok (.iconst 0, 1) := by decide +kernel
theorem dX0_empty_12 : decode cX0_empty 12 = .ok (.putfield 41, 3) := by decide +kernel
theorem dX0_empty_15 : decode cX0_empty 15 = .ok (.aload_n 0, 1) := by decide +kernel
theorem dX0_empty_16 : decode cX0_empty 16 = .ok (.lconst 0, 1) := by decide +kernel
theorem dX0_empty_17 : decode cX0_empty 17 = .ok (.putfield 44, 3) := by decide +kernel
theorem dX0_empty_20 : decode cX0_empty 20 = .ok (.aload_n 0, 1) := by decide +kernel
theorem dX0_empty_21 : decode cX0_empty 21 = .ok (.lconst 0, 1) := by decide +kernel
theorem dX0_empty_22 : decode cX0_empty 22 = .ok (.putfield 48, 3) := by decide +kernel
theorem dX0_empty_25 : decode cX0_empty 25 = .ok (.aload_n 0, 1) := by decide +kernel
theorem dX0_empty_26 : decode cX0_empty 26 = .ok (.iconst 0, 1) := by decide +kernel
theorem dX0_empty_27 : decode cX0_empty 27 = .ok (.putfield 51, 3) := by decide +kernel
theorem dX0_empty_30 : decode cX0_empty 30 = .ok (.iconst 0, 1) := by decide +kernel
theorem dX0_empty_31 : decode cX0_empty 31 = .ok (.istore_n 1, 1) := by decide +kernel
theorem dX0_empty_32 : decode cX0_empty 32 = .ok (.iload_n 1, 1) := by decide +kernel
theorem dX0_empty_33 : decode cX0_empty 33 = .ok (.aload_n 0, 1) := by decide +kernel
theorem dX0_empty_34 : decode cX0_empty 34 = .ok (.getfield 34, 3) := by decide +kernel
theorem dX0_empty_37 : decode cX0_empty 37 = .ok (.arraylength, 1) := by decide +kernel
theorem dX0_empty_38 : decode cX0_empty 38 = .ok (.if_icmp .ge 16, 3) := by decide +kernel
theorem dX0_empty_41 : decode cX0_empty 41 = .ok (.aload_n 0, 1) := by decide +kernel
theorem dX0_empty_42 : decode cX0_empty 42 = .ok (.getfield 34, 3) := by decide +kernel
theorem dX0_empty_45 : decode cX0_empty 45 = .ok (.iload_n 1, 1) := by decide +kernel
theorem dX0_empty_46 : decode cX0_empty 46 = .ok (.iconst 0, 1) := by decide +kernel
theorem dX0_empty_47 : decode cX0_empty 47 = .ok (.iastore, 1) := by decide +kernel
theorem dX0_empty_48 : decode cX0_empty 48 = .ok (.iinc 1 1, 3) := by decide +kernel
theorem dX0_empty_51 : decode cX0_empty 51 = .ok (.goto (-19), 3) := by decide +kernel
theorem dX0_empty_54 : decode cX0_empty 54 = .ok (.return_, 1) := by decide +kernel
abbrev rmX0_empty : Room := { frames := 0, cells := 0, slots := 0, locals := 0 }
set_option maxHeartbeats 4000000 in
set_option maxRecDepth 100000 in
theorem kX0_empty (l : Launch) (D : va_G) (cy : Nat → ClassId) (h0 : Nat) (a0 : Nat → Nat) (s0 : Rc) (res : Rc) (h : fX0_empty s0 = some res) : CV l D cy yX0_empty wsX0_empty rmX0_empty [.ref h0] (flat [WX0 cy h0 a0 s0]) (flat [WX0 cy h0 a0 res]) := by
  refine CV.of (cc := cX0_empty) (maxL := 2) (by decide) rfl (Nat.le_of_ble_eq_true rfl) ?_
  intro p e s m args below meth c A QQ ls E hr
  obtain ⟨hx, hb, hml, hown, hts, hK, hN, hP, hD, hA, hl⟩ := E
  have hret : ∀ (pc : Nat) (H : Heap) (locs : List Loc) (ls : Array Slot) (u : Rc), u = res → va_P D vwCl (flat [WX0 cy h0 a0 u]) H → va_D A (flat [WX0 cy h0 a0 u]) → va_S A s.heap H locs → decode cX0_empty pc = .ok (.return_, 1) → W p l e rmX0_empty s m args below meth c H locs 0 0 QQ (F0 m pc ls []) := by
    intro pc H locs ls u hu hP hD hS hd; subst hu; exact hr pc H locs ls hP hD hS hd
  clear hr
  have hl : lv_has ls 2 [(0, .ref h0)] := hl
  have hinX0 : ∀ w ∈ wsX00, w ∈ wsX0_empty := fun _ h => List.mem_cons_of_mem _ (List.mem_append_right _ h)
  unfold fX0_empty at h
  suffices key : ∀ (H : Heap) (locs : List Loc), va_P D vwCl (flat [WX0 cy h0 a0 s0]) H → va_S A s.heap H locs → W p l e rmX0_empty s m args below meth c H locs 0 0 QQ (F0 m 0 ls []) from key _ _ hP va_S.rf
  clear hP
  intro H locs hP hS
  refine lv_aload_n hx hb dX0_empty_0 rfl (lv_at hl 0 rfl) ?_
  refine lv_iconst (v := 0) hx hb dX0_empty_1 (by decide) ?_
  obtain ⟨s0_1, es, h⟩ := lt_elim h
  refine va_put (D := D) (ci := 0) (v := .int (0 : Int32)) (ty := .int) (C := RX0) (T := TX0) (N := 14) hx hb hts hinX0 tyX0 tyX0_ok nmX0 hown hK hP hD hS 0 rfl rfl 8 (by decide) (hts (.fieldLink RX0 37 "KneeBench$Bench" "farmers" "I") (List.mem_of_getElem? (i := 1) rfl)) (fun _ h9 => h9) rfl (by decide +kernel) rfl rfl (Nat.le_of_ble_eq_true rfl) dX0_empty_2 (fun H locs hP hD hS => ?_)
  have hP : va_P D vwCl (flat [WX0 cy h0 a0 s0_1]) H := by rw [es]; exact hP
  have hD : va_D A (flat [WX0 cy h0 a0 s0_1]) := by rw [es]; exact hD
  clear es
  refine lv_aload_n hx hb dX0_empty_5 rfl (lv_at hl 0 rfl) ?_
  refine lv_iconst (v := 0) hx hb dX0_empty_6 (by decide) ?_
  obtain ⟨s0_2, es, h⟩ := lt_elim h
  refine va_put (D := D) (ci := 0) (v := .int (0 : Int32)) (ty := .int) (C := RX0) (T := TX0) (N := 14) hx hb hts hinX0 tyX0 tyX0_ok nmX0 hown hK hP hD hS 0 rfl rfl 13 (by decide) (hts (.fieldLink RX0 54 "KneeBench$Bench" "elbows" "I") (List.mem_of_getElem? (i := 2) rfl)) (fun _ h9 => h9) rfl (by decide +kernel) rfl rfl (Nat.le_of_ble_eq_true rfl) dX0_empty_7 (fun H locs hP hD hS => ?_)
  have hP : va_P D vwCl (flat [WX0 cy h0 a0 s0_2]) H := by rw [es]; exact hP
  have hD : va_D A (flat [WX0 cy h0 a0 s0_2]) := by rw [es]; exact hD
  clear es
  refine lv_aload_n hx hb dX0_empty_10 rfl (lv_at hl 0 rfl) ?_
  refine lv_iconst (v := 0) hx hb dX0_empty_11 (by decide) ?_
  obtain ⟨s0_3, es, h⟩ := lt_elim h
  refine va_put (D := D) (ci := 0) (v := .int (0 : Int32)) (ty := .int) (C := RX0) (T := TX0) (N := 14) hx hb hts hinX0 tyX0 tyX0_ok nmX0 hown hK hP hD hS 0 rfl rfl 9 (by decide) (hts (.fieldLink RX0 41 "KneeBench$Bench" "days" "I") (List.mem_of_getElem? (i := 3) rfl)) (fun _ h9 => h9) rfl (by decide +kernel) rfl rfl (Nat.le_of_ble_eq_true rfl) dX0_empty_12 (fun H locs hP hD hS => ?_)
  have hP : va_P D vwCl (flat [WX0 cy h0 a0 s0_3]) H := by rw [es]; exact hP
  have hD : va_D A (flat [WX0 cy h0 a0 s0_3]) := by rw [es]; exact hD
  clear es
  refine lv_aload_n hx hb dX0_empty_15 rfl (lv_at hl 0 rfl) ?_
  refine lv_lconst (v := 0) hx hb dX0_empty_16 (by decide) ?_
  obtain ⟨s0_4, es, h⟩ := lt_elim h
  refine va_put (D := D) (ci := 0) (v := .long (0 : Int64)) (ty := .long) (C := RX0) (T := TX0) (N := 14) hx hb hts hinX0 tyX0 tyX0_ok nmX0 hown hK hP hD hS 0 rfl rfl 10 (by decide) (hts (.fieldLink RX0 44 "KneeBench$Bench" "wet" "J") (List.mem_of_getElem? (i := 4) rfl)) (fun _ h9 => h9) rfl (by decide +kernel) rfl rfl (Nat.le_of_ble_eq_true rfl) dX0_empty_17 (fun H locs hP hD hS => ?_)
  have hP : va_P D vwCl (flat [WX0 cy h0 a0 s0_4]) H := by rw [es]; exact hP
  have hD : va_D A (flat [WX0 cy h0 a0 s0_4]) := by rw [es]; exact hD
  clear es
  refine lv_aload_n hx hb dX0_empty_20 rfl (lv_at hl 0 rfl) ?_
  refine lv_lconst (v := 0) hx hb dX0_empty_21 (by decide) ?_
  obtain ⟨s0_5, es, h⟩ := lt_elim h
  refine va_put (D := D) (ci := 0) (v := .long (0 : Int64)) (ty := .long) (C := RX0) (T := TX0) (N := 14) hx hb hts hinX0 tyX0 tyX0_ok nmX0 hown hK hP hD hS 0 rfl rfl 11 (by decide) (hts (.fieldLink RX0 48 "KneeBench$Bench" "hail" "J") (List.mem_of_getElem? (i := 5) rfl)) (fun _ h9 => h9) rfl (by decide +kernel) rfl rfl (Nat.le_of_ble_eq_true rfl) dX0_empty_22 (fun H locs hP hD hS => ?_)
  have hP : va_P D vwCl (flat [WX0 cy h0 a0 s0_5]) H := by rw [es]; exact hP
  have hD : va_D A (flat [WX0 cy h0 a0 s0_5]) := by rw [es]; exact hD
  clear es
  refine lv_aload_n hx hb dX0_empty_25 rfl (lv_at hl 0 rfl) ?_
  refine lv_iconst (v := 0) hx hb dX0_empty_26 (by decide) ?_
  obtain ⟨s0_6, es, h⟩ := lt_elim h
  refine va_put (D := D) (ci := 0) (v := .int (0 : Int32)) (ty := .int) (C := RX0) (T := TX0) (N := 14) hx hb hts hinX0 tyX0 tyX0_ok nmX0 hown hK hP hD hS 0 rfl rfl 12 (by decide) (hts (.fieldLink RX0 51 "KneeBench$Bench" "vote" "I") (List.mem_of_getElem? (i := 6) rfl)) (fun _ h9 => h9) rfl (by decide +kernel) rfl rfl (Nat.le_of_ble_eq_true rfl) dX0_empty_27 (fun H locs hP hD hS => ?_)
  have hP : va_P D vwCl (flat [WX0 cy h0 a0 s0_6]) H := by rw [es]; exact hP
  have hD : va_D A (flat [WX0 cy h0 a0 s0_6]) := by rw [es]; exact hD
  clear es
  refine lv_iconst (v := 0) hx hb dX0_empty_30 (by decide) ?_
  refine lv_istore_n (lv' := [(1, .int (0 : Int32)), (0, .ref h0)]) hx hb dX0_empty_31 rfl hl (by decide) rfl (fun ls hl => ?_)
  have L32 : ∀ (n : Nat) (q32 : Int32 × Rc) (o : Rc), loopO (fX0_empty_L32) n q32 = some o → ∀ (H : Heap) (locs : List Loc) (ls : Array Slot), lv_has ls 2 [(0, .ref h0), (1, .int q32.1)] → va_P D vwCl (flat [WX0 cy h0 a0 q32.2]) H → va_D A (flat [WX0 cy h0 a0 q32.2]) → va_S A s.heap H locs → ∀ (kk54 : ∀ (H : Heap) (locs : List Loc) (ls : Array Slot), lv_has ls 2 [] → va_P D vwCl (flat [WX0 cy h0 a0 o]) H → va_D A (flat [WX0 cy h0 a0 o]) → va_S A s.heap H locs → W p l e rmX0_empty s m args below meth c H locs 0 0 QQ (F0 m 54 ls [])), W p l e rmX0_empty s m args below meth c H locs 0 0 QQ (F0 m 32 ls []) := by
    intro n
    induction n with
    | zero => intro q32 o h; exact absurd h (by rw [loopO_zero]; intro z; cases z)
    | succ n ih =>
      intro q32 o h H locs ls hl hP hD hS kk54
      obtain ⟨w, h, hgo, hst⟩ := loopO_elim h
      unfold fX0_empty_L32 at h
      refine lv_iload_n hx hb dX0_empty_32 rfl (lv_at hl 1 rfl) ?_
      refine lv_aload_n hx hb dX0_empty_33 rfl (lv_at hl 0 rfl) ?_
      refine va_get (D := D) (ci := 0) (v := .ref (a0 7)) (C := RX0) (T := TX0) (N := 14) hx hb hts hinX0 hown hK hP 0 rfl rfl 7 (by decide) (hts (.fieldLink RX0 34 "KneeBench$Bench" "grudges" "[I") (List.mem_of_getElem? (i := 7) rfl)) (fun _ h9 => h9) rfl dX0_empty_34 ?_
      refine va_alen (v := 64) hx hb hK hP 8 1 rfl rfl rfl dX0_empty_37 ?_
      refine lv_icmp_ge (tgt := 54) hx hb dX0_empty_38 (by decide) (fun c7 => ?_) (fun c7 => ?_)
      · replace h := (if_pos c7).symm.trans h
        have eo := hst _ (Option.some.inj h).symm
        subst eo
        exact kk54 H locs ls (lv_sub hl [] rfl) hP hD hS
      · replace h := (if_neg c7).symm.trans h
        refine lv_aload_n hx hb dX0_empty_41 rfl (lv_at hl 0 rfl) ?_
        refine va_get (D := D) (ci := 0) (v := .ref (a0 7)) (C := RX0) (T := TX0) (N := 14) hx hb hts hinX0 hown hK hP 0 rfl rfl 7 (by decide) (hts (.fieldLink RX0 34 "KneeBench$Bench" "grudges" "[I") (List.mem_of_getElem? (i := 7) rfl)) (fun _ h9 => h9) rfl dX0_empty_42 ?_
        refine lv_iload_n hx hb dX0_empty_45 rfl (lv_at hl 1 rfl) ?_
        refine lv_iconst (v := 0) hx hb dX0_empty_46 (by decide) ?_
        obtain ⟨g8, h⟩ := gd_elim h
        obtain ⟨s0_9, es, h⟩ := lt_elim h
        refine va_iast hx hb hK hP hD hS 8 1 rfl rfl (inb_in g8) dX0_empty_47 (fun H locs hP hD hS => ?_)
        have hP : va_P D vwCl (flat [WX0 cy h0 a0 s0_9]) H := by rw [es]; exact hP
        have hD : va_D A (flat [WX0 cy h0 a0 s0_9]) := by rw [es]; exact hD
        clear es
        refine lv_iinc (v := (q32.1 + (1 : Int32))) (lv' := [(1, .int (q32.1 + (1 : Int32))), (0, .ref h0)]) hx hb dX0_empty_48 hl (k := 1) rfl rfl (by decide) rfl (fun ls hl => ?_)
        refine lv_goto (tgt := 32) hx hb dX0_empty_51 (by decide) ?_
        exact ih _ o (hgo _ (Option.some.inj h).symm) H locs ls (lv_sub hl [1, 0] rfl) hP hD hS kk54
  obtain ⟨o32, ho32, h⟩ := bd_elim h
  obtain ⟨n32, hn32⟩ := loopF_some ho32
  refine L32 n32 _ o32 hn32 H locs ls (lv_sub hl [1, 0] rfl) hP hD hS (fun H locs ls hl hP hD hS => ?_)
  exact hret 54 H locs ls o32 (Option.some.inj h) hP hD hS dX0_empty_54
theorem dX0_farmerNamed_0 : decode cX0_farmerNamed 0 = .ok (.iconst 0, 1) := by decide +kernel
theorem dX0_farmerNamed_1 : decode cX0_farmerNamed 1 = .ok (.istore_n 3, 1) := by decide +kernel
theorem dX0_farmerNamed_2 : decode cX0_farmerNamed 2 = .ok (.iload_n 3, 1) := by decide +kernel
theorem dX0_farmerNamed_3 : decode cX0_farmerNamed 3 = .ok (.aload_n 0, 1) := by decide +kernel
theorem dX0_farmerNamed_4 : decode cX0_farmerNamed 4 = .ok (.getfield 37, 3) := by decide +kernel
theorem dX0_farmerNamed_7 : decode cX0_farmerNamed 7 = .ok (.if_icmp .ge 22, 3) := by decide +kernel
theorem dX0_farmerNamed_10 : decode cX0_farmerNamed 10 = .ok (.aload_n 0, 1) := by decide +kernel
theorem dX0_farmerNamed_11 : decode cX0_farmerNamed 11 = .ok (.getfield 9, 3) := by decide +kernel
theorem dX0_farmerNamed_14 : decode cX0_farmerNamed 14 = .ok (.iload_n 3, 1) := by decide +kernel
theorem dX0_farmerNamed_15 : decode cX0_farmerNamed 15 = .ok (.laload, 1) := by decide +kernel
theorem dX0_farmerNamed_16 : decode cX0_farmerNamed 16 = .ok (.lload_n 1, 1) := by decide +kernel
theorem dX0_farmerNamed_17 : decode cX0_farmerNamed 17 = .ok (.lcmp, 1) := by decide +kernel
theorem dX0_farmerNamed_18 : decode cX0_farmerNamed 18 = .ok (.ifCond .ne 5, 3) := by decide +kernel
theorem dX0_farmerNamed_21 : decode cX0_farmerNamed 21 = .ok (.iload_n 3, 1) := by decide +kernel
theorem dX0_farmerNamed_22 : decode cX0_farmerNamed 22 = .ok (.ireturn, 1) := by decide +kernel
theorem dX0_farmerNamed_23 : decode cX0_farmerNamed 23 = .ok (.iinc 3 1, 3) := by decide +kernel
theorem dX0_farmerNamed_26 : decode cX0_farmerNamed 26 = .ok (.goto (-24), 3) := by decide +kernel
theorem dX0_farmerNamed_29 : decode cX0_farmerNamed 29 = .ok (.iconst (-1), 1) := by decide +kernel
theorem dX0_farmerNamed_30 : decode cX0_farmerNamed 30 = .ok (.ireturn, 1) := by decide +kernel
abbrev rmX0_farmerNamed : Room := { frames := 0, cells := 0, slots := 0, locals := 0 }
set_option maxHeartbeats 4000000 in
set_option maxRecDepth 100000 in
theorem kX0_farmerNamed (l : Launch) (D : va_G) (cy : Nat → ClassId) (h0 : Nat) (a0 : Nat → Nat) (s0 : Rc) (p1 : Int64) (res : Int32) (h : fX0_farmerNamed p1 s0 = some res) : CI l D cy yX0_farmerNamed wsX0_farmerNamed rmX0_farmerNamed [.ref h0, .long p1] (flat [WX0 cy h0 a0 s0]) (flat [WX0 cy h0 a0 s0]) res := by
  refine CI.of (cc := cX0_farmerNamed) (maxL := 4) (by decide) rfl (Nat.le_of_ble_eq_true rfl) ?_
  intro p e s m args below meth c A QQ ls E hr
  obtain ⟨hx, hb, hml, hown, hts, hK, hN, hP, hD, hA, hl⟩ := E
  have hret : ∀ (pc : Nat) (H : Heap) (locs : List Loc) (ls : Array Slot) (u : Int32), u = res → va_P D vwCl (flat [WX0 cy h0 a0 s0]) H → va_D A (flat [WX0 cy h0 a0 s0]) → va_S A s.heap H locs → decode cX0_farmerNamed pc = .ok (.ireturn, 1) → W p l e rmX0_farmerNamed s m args below meth c H locs 0 0 QQ (F0 m pc ls [.int u]) := by
    intro pc H locs ls u hu hP hD hS hd; subst hu; exact hr pc H locs ls _ rfl hP hD hS hd
  clear hr
  have hl : lv_has ls 4 [(0, .ref h0), (1, .long p1)] := hl
  have hinX0 : ∀ w ∈ wsX00, w ∈ wsX0_farmerNamed := fun _ h => List.mem_cons_of_mem _ (List.mem_append_right _ h)
  unfold fX0_farmerNamed at h
  suffices key : ∀ (H : Heap) (locs : List Loc), va_P D vwCl (flat [WX0 cy h0 a0 s0]) H → va_S A s.heap H locs → W p l e rmX0_farmerNamed s m args below meth c H locs 0 0 QQ (F0 m 0 ls []) from key _ _ hP va_S.rf
  clear hP
  intro H locs hP hS
  refine lv_iconst (v := 0) hx hb dX0_farmerNamed_0 (by decide) ?_
  refine lv_istore_n (lv' := [(3, .int (0 : Int32)), (0, .ref h0), (1, .long p1)]) hx hb dX0_farmerNamed_1 rfl hl (by decide) rfl (fun ls hl => ?_)
  have L2 : ∀ (n : Nat) (q2 : Int32) (o : (Int32) ⊕ (Unit)), loopO (fX0_farmerNamed_L2 p1 s0) n q2 = some o → ∀ (H : Heap) (locs : List Loc) (ls : Array Slot), lv_has ls 4 [(0, .ref h0), (1, .long p1), (3, .int q2)] → va_P D vwCl (flat [WX0 cy h0 a0 s0]) H → va_D A (flat [WX0 cy h0 a0 s0]) → va_S A s.heap H locs → ∀ (kk21 : ∀ v : Int32, o = (.inl v) → ∀ (H : Heap) (locs : List Loc) (ls : Array Slot), lv_has ls 4 [(3, .int v)] → va_P D vwCl (flat [WX0 cy h0 a0 s0]) H → va_D A (flat [WX0 cy h0 a0 s0]) → va_S A s.heap H locs → W p l e rmX0_farmerNamed s m args below meth c H locs 0 0 QQ (F0 m 21 ls [])) (kk29 : ∀ v : Unit, o = (.inr v) → ∀ (H : Heap) (locs : List Loc) (ls : Array Slot), lv_has ls 4 [] → va_P D vwCl (flat [WX0 cy h0 a0 s0]) H → va_D A (flat [WX0 cy h0 a0 s0]) → va_S A s.heap H locs → W p l e rmX0_farmerNamed s m args below meth c H locs 0 0 QQ (F0 m 29 ls [])), W p l e rmX0_farmerNamed s m args below meth c H locs 0 0 QQ (F0 m 2 ls []) := by
    intro n
    induction n with
    | zero => intro q2 o h; exact absurd h (by rw [loopO_zero]; intro z; cases z)
    | succ n ih =>
      intro q2 o h H locs ls hl hP hD hS kk21 kk29
      obtain ⟨w, h, hgo, hst⟩ := loopO_elim h
      unfold fX0_farmerNamed_L2 at h
      refine lv_iload_n hx hb dX0_farmerNamed_2 rfl (lv_at hl 2 rfl) ?_
      refine lv_aload_n hx hb dX0_farmerNamed_3 rfl (lv_at hl 0 rfl) ?_
      refine va_get (D := D) (ci := 0) (v := .int (gi s0 8)) (C := RX0) (T := TX0) (N := 14) hx hb hts hinX0 hown hK hP 0 rfl rfl 8 (by decide) (hts (.fieldLink RX0 37 "KneeBench$Bench" "farmers" "I") (List.mem_of_getElem? (i := 1) rfl)) (fun _ h9 => h9) rfl dX0_farmerNamed_4 ?_
      refine lv_icmp_ge (tgt := 29) hx hb dX0_farmerNamed_7 (by decide) (fun c1 => ?_) (fun c1 => ?_)
      · replace h := (if_pos c1).symm.trans h
        have eo := hst _ (Option.some.inj h).symm
        exact kk29 _ eo.symm H locs ls (lv_sub hl [] rfl) hP hD hS
      · replace h := (if_neg c1).symm.trans h
        refine lv_aload_n hx hb dX0_farmerNamed_10 rfl (lv_at hl 0 rfl) ?_
        refine va_get (D := D) (ci := 0) (v := .ref (a0 0)) (C := RX0) (T := TX0) (N := 14) hx hb hts hinX0 hown hK hP 0 rfl rfl 0 (by decide) (hts (.fieldLink RX0 9 "KneeBench$Bench" "names" "[J") (List.mem_of_getElem? (i := 2) rfl)) (fun _ h9 => h9) rfl dX0_farmerNamed_11 ?_
        refine lv_iload_n hx hb dX0_farmerNamed_14 rfl (lv_at hl 2 rfl) ?_
        obtain ⟨g2, h⟩ := gd_elim h
        refine va_lald hx hb hK hP 1 2 rfl rfl (inb_in g2) dX0_farmerNamed_15 ?_
        refine lv_lload_n hx hb dX0_farmerNamed_16 rfl (lv_at hl 1 rfl) ?_
        refine W.lcmp hx hb dX0_farmerNamed_17 ?_
        refine lv_if_ne (tgt := 23) hx hb dX0_farmerNamed_18 (by decide) (fun c3 => ?_) (fun c3 => ?_)
        · replace h := (if_neg (fun z => c3 (lg_ceq.mpr z))).symm.trans h
          refine lv_iinc (v := (q2 + (1 : Int32))) (lv' := [(3, .int (q2 + (1 : Int32))), (0, .ref h0), (1, .long p1)]) hx hb dX0_farmerNamed_23 hl (k := 2) rfl rfl (by decide) rfl (fun ls hl => ?_)
          refine lv_goto (tgt := 2) hx hb dX0_farmerNamed_26 (by decide) ?_
          exact ih _ o (hgo _ (Option.some.inj h).symm) H locs ls (lv_sub hl [1, 2, 0] rfl) hP hD hS kk21 kk29
        · replace h := (if_pos (lg_ceq.mp c3)).symm.trans h
          have eo := hst _ (Option.some.inj h).symm
          exact kk21 _ eo.symm H locs ls (lv_sub hl [2] rfl) hP hD hS
  obtain ⟨o2, ho2, h⟩ := bd_elim h
  obtain ⟨n2, hn2⟩ := loopF_some ho2
  refine L2 n2 _ o2 hn2 H locs ls (lv_sub hl [1, 2, 0] rfl) hP hD hS (fun o2a eo H locs ls hl hP hD hS => ?_) (fun o2b eo H locs ls hl hP hD hS => ?_)
  · subst eo
    rw [Sum.elim_inl] at h
    refine lv_iload_n hx hb dX0_farmerNamed_21 rfl (lv_at hl 0 rfl) ?_
    exact hret 22 H locs ls o2a (Option.some.inj h) hP hD hS dX0_farmerNamed_22
  · subst eo
    rw [Sum.elim_inr] at h
    refine lv_iconst (v := -1) hx hb dX0_farmerNamed_29 (by decide) ?_
    exact hret 30 H locs ls (-1 : Int32) (Option.some.inj h) hP hD hS dX0_farmerNamed_30
theorem dX2_drawBy16_0 : decode cX2_drawBy16 0 = .ok (.aload_n 0, 1) := by decide +kernel
theorem dX2_drawBy16_1 : decode cX2_drawBy16 1 = .ok (.aload_n 0, 1) := by decide +kernel
theorem dX2_drawBy16_2 : decode cX2_drawBy16 2 = .ok (.getfield 9, 3) := by decide +kernel
theorem dX2_drawBy16_5 : decode cX2_drawBy16 5 = .ok (.sipush 2857, 3) := by decide +kernel
theorem dX2_drawBy16_8 : decode cX2_drawBy16 8 = .ok (.imul, 1) := by decide +kernel
theorem dX2_drawBy16_9 : decode cX2_drawBy16 9 = .ok (.sipush 11059, 3) := by decide +kernel
theorem dX2_drawBy16_12 : decode cX2_drawBy16 12 = .ok (.iadd, 1) := by decide +kernel
theorem dX2_drawBy16_13 : decode cX2_drawBy16 13 = .ok (.ldc 15, 2) := by decide +kernel
theorem dX2_drawBy16_15 : decode cX2_drawBy16 15 = .ok (.irem, 1) := by decide +kernel
theorem dX2_drawBy16_16 : decode cX2_drawBy16 16 = .ok (.putfield 9, 3) := by decide +kernel
theorem dX2_drawBy16_19 : decode cX2_drawBy16 19 = .ok (.aload_n 0, 1) := by decide +kernel
theorem dX2_drawBy16_20 : decode cX2_drawBy16 20 = .ok (.getfield 9, 3) := by decide +kernel
theorem dX2_drawBy16_23 : decode cX2_drawBy16 23 = .ok (.bipush 8, 2) := by decide +kernel
theorem dX2_drawBy16_25 : decode cX2_drawBy16 25 = .ok (.idiv, 1) := by decide +kernel
theorem dX2_drawBy16_26 : decode cX2_drawBy16 26 = .ok (.bipush 16, 2) := by decide +kernel
theorem dX2_drawBy16_28 : decode cX2_drawBy16 28 = .ok (.irem, 1) := by decide +kernel
theorem dX2_drawBy16_29 : decode cX2_drawBy16 29 = .ok (.ireturn, 1) := by decide +kernel
abbrev rmX2_drawBy16 : Room := { frames := 0, cells := 0, slots := 0, locals := 0 }
set_option maxHeartbeats 4000000 in
set_option maxRecDepth 100000 in
theorem kX2_drawBy16 (l : Launch) (D : va_G) (cy : Nat → ClassId) (h0 : Nat) (a0 : Nat → Nat) (s0 : Rc) (res : Int32 × Rc) (h : fX2_drawBy16 s0 = res) : CI l D cy yX2_drawBy16 wsX2_drawBy16 rmX2_drawBy16 [.ref h0] (flat [WX2 cy h0 a0 s0]) (flat [WX2 cy h0 a0 res.2]) res.1 := by
  refine CI.of (cc := cX2_drawBy16) (maxL := 1) (by decide) rfl (Nat.le_of_ble_eq_true rfl) ?_
  intro p e s m args below meth c A QQ ls E hr
  obtain ⟨hx, hb, hml, hown, hts, hK, hN, hP, hD, hA, hl⟩ := E
  have hret : ∀ (pc : Nat) (H : Heap) (locs : List Loc) (ls : Array Slot) (u : Int32 × Rc), u = res → va_P D vwCl (flat [WX2 cy h0 a0 u.2]) H → va_D A (flat [WX2 cy h0 a0 u.2]) → va_S A s.heap H locs → decode cX2_drawBy16 pc = .ok (.ireturn, 1) → W p l e rmX2_drawBy16 s m args below meth c H locs 0 0 QQ (F0 m pc ls [.int u.1]) := by
    intro pc H locs ls u hu hP hD hS hd; subst hu; exact hr pc H locs ls _ rfl hP hD hS hd
  clear hr
  have hl : lv_has ls 1 [(0, .ref h0)] := hl
  have hinX2 : ∀ w ∈ wsX20, w ∈ wsX2_drawBy16 := fun _ h => List.mem_cons_of_mem _ (List.mem_append_right _ h)
  unfold fX2_drawBy16 at h
  suffices key : ∀ (H : Heap) (locs : List Loc), va_P D vwCl (flat [WX2 cy h0 a0 s0]) H → va_S A s.heap H locs → W p l e rmX2_drawBy16 s m args below meth c H locs 0 0 QQ (F0 m 0 ls []) from key _ _ hP va_S.rf
  clear hP
  intro H locs hP hS
  refine lv_aload_n hx hb dX2_drawBy16_0 rfl (lv_at hl 0 rfl) ?_
  refine lv_aload_n hx hb dX2_drawBy16_1 rfl (lv_at hl 0 rfl) ?_
  refine va_get (D := D) (ci := 2) (v := .int (gi s0 0)) (C := RX2) (T := TX2) (N := 1) hx hb hts hinX2 hown hK hP 0 rfl rfl 0 (by decide) (hts (.fieldLink RX2 9 "KneeBench$Draws" "s" "I") (List.mem_of_getElem? (i := 1) rfl)) (fun _ h9 => h9) rfl dX2_drawBy16_2 ?_
  refine lv_sipush (v := 2857) hx hb dX2_drawBy16_5 (by decide) ?_
  refine lv_imul hx hb dX2_drawBy16_8 ?_
  refine lv_sipush (v := 11059) hx hb dX2_drawBy16_9 (by decide) ?_
  refine lv_iadd hx hb dX2_drawBy16_12 ?_
  refine lv_ldc (v := 65536) hx hb hown (hts (.constant RX2 15 (65536)) (List.mem_of_getElem? (i := 2) rfl)) dX2_drawBy16_13 ?_
  refine lv_irem hx hb dX2_drawBy16_15 (by decide) ?_
  obtain ⟨s0_1, es, h⟩ := lt_elim h
  refine va_put (D := D) (ci := 2) (v := .int ((((gi s0 0) * (2857 : Int32)) + (11059 : Int32)) - (((gi s0 0) * (2857 : Int32)) + (11059 : Int32)) / (65536 : Int32) * (65536 : Int32))) (ty := .int) (C := RX2) (T := TX2) (N := 1) hx hb hts hinX2 tyX2 tyX2_ok nmX2 hown hK hP hD hS 0 rfl rfl 0 (by decide) (hts (.fieldLink RX2 9 "KneeBench$Draws" "s" "I") (List.mem_of_getElem? (i := 1) rfl)) (fun _ h9 => h9) rfl (by decide +kernel) rfl rfl (Nat.le_of_ble_eq_true rfl) dX2_drawBy16_16 (fun H locs hP hD hS => ?_)
  have hP : va_P D vwCl (flat [WX2 cy h0 a0 s0_1]) H := by rw [es]; exact hP
  have hD : va_D A (flat [WX2 cy h0 a0 s0_1]) := by rw [es]; exact hD
  clear es
  refine lv_aload_n hx hb dX2_drawBy16_19 rfl (lv_at hl 0 rfl) ?_
  refine va_get (D := D) (ci := 2) (v := .int (gi s0_1 0)) (C := RX2) (T := TX2) (N := 1) hx hb hts hinX2 hown hK hP 0 rfl rfl 0 (by decide) (hts (.fieldLink RX2 9 "KneeBench$Draws" "s" "I") (List.mem_of_getElem? (i := 1) rfl)) (fun _ h9 => h9) rfl dX2_drawBy16_20 ?_
  refine lv_bipush (v := 8) hx hb dX2_drawBy16_23 (by decide) ?_
  refine lv_idiv hx hb dX2_drawBy16_25 (by decide) ?_
  refine lv_bipush (v := 16) hx hb dX2_drawBy16_26 (by decide) ?_
  refine lv_irem hx hb dX2_drawBy16_28 (by decide) ?_
  exact hret 29 H locs ls ((((gi s0_1 0) / (8 : Int32)) - ((gi s0_1 0) / (8 : Int32)) / (16 : Int32) * (16 : Int32)), s0_1) h hP hD hS dX2_drawBy16_29
theorem gd_X0_feelBy : wsX0_feelBy.all goodWord = true := by decide +kernel
set_option maxRecDepth 20000 in
theorem ggX0_feelBy_X0_dueDays : GoodIn wsX0_feelBy wsX0_dueDays := goodIn_by gd_X0_feelBy (List.forall_mem_cons.mpr ⟨List.mem_cons_of_mem _ (List.mem_append_left _ (List.mem_append_left _ (List.mem_append_left _ (List.mem_of_getElem? (i := 9) rfl)))), List.forall_mem_append.mpr ⟨List.forall_mem_append.mpr ⟨List.forall_mem_cons.mpr ⟨List.mem_cons_of_mem _ (List.mem_append_left _ (List.mem_append_left _ (List.mem_append_left _ (List.mem_of_getElem? (i := 10) rfl)))), List.forall_mem_cons.mpr ⟨List.mem_cons_of_mem _ (List.mem_append_left _ (List.mem_append_left _ (List.mem_append_left _ (List.mem_of_getElem? (i := 11) rfl)))), List.forall_mem_cons.mpr ⟨List.mem_cons_of_mem _ (List.mem_append_left _ (List.mem_append_left _ (List.mem_append_left _ (List.mem_of_getElem? (i := 12) rfl)))), List.forall_mem_cons.mpr ⟨List.mem_cons_of_mem _ (List.mem_append_left _ (List.mem_append_left _ (List.mem_append_left _ (List.mem_of_getElem? (i := 13) rfl)))), List.forall_mem_cons.mpr ⟨List.mem_cons_of_mem _ (List.mem_append_left _ (List.mem_append_left _ (List.mem_append_left _ (List.mem_of_getElem? (i := 8) rfl)))), List.forall_mem_cons.mpr ⟨List.mem_cons_of_mem _ (List.mem_append_left _ (List.mem_append_left _ (List.mem_append_left _ (List.mem_of_getElem? (i := 14) rfl)))), List.forall_mem_cons.mpr ⟨List.mem_cons_of_mem _ (List.mem_append_left _ (List.mem_append_left _ (List.mem_append_left _ (List.mem_of_getElem? (i := 15) rfl)))), List.forall_mem_cons.mpr ⟨List.mem_cons_of_mem _ (List.mem_append_left _ (List.mem_append_left _ (List.mem_append_left _ (List.mem_of_getElem? (i := 16) rfl)))), List.forall_mem_cons.mpr ⟨List.mem_cons_of_mem _ (List.mem_append_left _ (List.mem_append_left _ (List.mem_append_left _ (List.mem_of_getElem? (i := 17) rfl)))), List.forall_mem_cons.mpr ⟨List.mem_cons_of_mem _ (List.mem_append_left _ (List.mem_append_left _ (List.mem_append_left _ (List.mem_of_getElem? (i := 18) rfl)))), List.forall_mem_cons.mpr ⟨List.mem_cons_of_mem _ (List.mem_append_left _ (List.mem_append_left _ (List.mem_append_left _ (List.mem_of_getElem? (i := 19) rfl)))), List.forall_mem_cons.mpr ⟨List.mem_cons_of_mem _ (List.mem_append_left _ (List.mem_append_left _ (List.mem_append_left _ (List.mem_of_getElem? (i := 20) rfl)))), List.forall_mem_cons.mpr ⟨List.mem_cons_of_mem _ (List.mem_append_left _ (List.mem_append_left _ (List.mem_append_left _ (List.mem_of_getElem? (i := 21) rfl)))), List.forall_mem_cons.mpr ⟨List.mem_cons_of_mem _ (List.mem_append_left _ (List.mem_append_left _ (List.mem_append_left _ (List.mem_of_getElem? (i := 22) rfl)))), List.forall_mem_cons.mpr ⟨List.mem_cons_of_mem _ (List.mem_append_left _ (List.mem_append_left _ (List.mem_append_left _ (List.mem_of_getElem? (i := 23) rfl)))), List.forall_mem_cons.mpr ⟨List.mem_cons_of_mem _ (List.mem_append_left _ (List.mem_append_left _ (List.mem_append_right _ (List.mem_of_getElem? (i := 0) rfl)))), List.forall_mem_cons.mpr ⟨List.mem_cons_of_mem _ (List.mem_append_left _ (List.mem_append_left _ (List.mem_append_right _ (List.mem_of_getElem? (i := 1) rfl)))), List.forall_mem_cons.mpr ⟨List.mem_cons_of_mem _ (List.mem_append_left _ (List.mem_append_left _ (List.mem_append_right _ (List.mem_of_getElem? (i := 2) rfl)))), List.forall_mem_cons.mpr ⟨List.mem_cons_of_mem _ (List.mem_append_left _ (List.mem_append_left _ (List.mem_append_right _ (List.mem_of_getElem? (i := 3) rfl)))), List.forall_mem_cons.mpr ⟨List.mem_cons_of_mem _ (List.mem_append_left _ (List.mem_append_left _ (List.mem_append_right _ (List.mem_of_getElem? (i := 4) rfl)))), List.forall_mem_cons.mpr ⟨List.mem_cons_of_mem _ (List.mem_append_left _ (List.mem_append_left _ (List.mem_append_left _ (List.mem_of_getElem? (i := 1) rfl)))), List.forall_mem_cons.mpr ⟨List.mem_cons_of_mem _ (List.mem_append_left _ (List.mem_append_left _ (List.mem_append_right _ (List.mem_of_getElem? (i := 5) rfl)))), List.forall_mem_cons.mpr ⟨List.mem_cons_of_mem _ (List.mem_append_left _ (List.mem_append_left _ (List.mem_append_right _ (List.mem_of_getElem? (i := 6) rfl)))), List.forall_mem_cons.mpr ⟨List.mem_cons_of_mem _ (List.mem_append_left _ (List.mem_append_left _ (List.mem_append_right _ (List.mem_of_getElem? (i := 7) rfl)))), nowords_in⟩⟩⟩⟩⟩⟩⟩⟩⟩⟩⟩⟩⟩⟩⟩⟩⟩⟩⟩⟩⟩⟩⟩⟩, List.forall_mem_cons.mpr ⟨List.mem_cons_of_mem _ (List.mem_append_left _ (List.mem_append_left _ (List.mem_append_right _ (List.mem_of_getElem? (i := 8) rfl)))), List.forall_mem_cons.mpr ⟨List.mem_cons_of_mem _ (List.mem_append_left _ (List.mem_append_left _ (List.mem_append_right _ (List.mem_of_getElem? (i := 9) rfl)))), List.forall_mem_cons.mpr ⟨List.mem_cons_of_mem _ (List.mem_append_left _ (List.mem_append_left _ (List.mem_append_right _ (List.mem_of_getElem? (i := 10) rfl)))), List.forall_mem_cons.mpr ⟨List.mem_cons_of_mem _ (List.mem_append_left _ (List.mem_append_left _ (List.mem_append_right _ (List.mem_of_getElem? (i := 11) rfl)))), nowords_in⟩⟩⟩⟩⟩, (fun _ h => List.mem_cons_of_mem _ (List.mem_append_left _ (List.mem_append_right _ (h))))⟩⟩)
set_option maxRecDepth 20000 in
theorem gX0_feelBy_X0_dueDays : GoodIn wsX0_feelBy (wsV RX0 63 RX0 yX0_dueDays wsX0_dueDays) := goodIn_app (goodIn_by gd_X0_feelBy (List.forall_mem_cons.mpr ⟨List.mem_cons_of_mem _ (List.mem_append_left _ (List.mem_append_left _ (List.mem_append_left _ (List.mem_of_getElem? (i := 5) rfl)))), List.forall_mem_cons.mpr ⟨List.mem_cons_of_mem _ (List.mem_append_left _ (List.mem_append_left _ (List.mem_append_left _ (List.mem_of_getElem? (i := 6) rfl)))), List.forall_mem_cons.mpr ⟨List.mem_cons_of_mem _ (List.mem_append_left _ (List.mem_append_left _ (List.mem_append_left _ (List.mem_of_getElem? (i := 7) rfl)))), List.forall_mem_cons.mpr ⟨List.mem_cons_of_mem _ (List.mem_append_left _ (List.mem_append_left _ (List.mem_append_left _ (List.mem_of_getElem? (i := 8) rfl)))), nowords_in⟩⟩⟩⟩)) ggX0_feelBy_X0_dueDays
set_option maxRecDepth 20000 in
theorem ggX0_feelBy_X2_drawBy16 : GoodIn wsX0_feelBy wsX2_drawBy16 := goodIn_by gd_X0_feelBy (List.forall_mem_cons.mpr ⟨List.mem_cons_of_mem _ (List.mem_append_left _ (List.mem_append_left _ (List.mem_append_right _ (List.mem_of_getElem? (i := 16) rfl)))), List.forall_mem_append.mpr ⟨List.forall_mem_cons.mpr ⟨List.mem_cons_of_mem _ (List.mem_append_left _ (List.mem_append_left _ (List.mem_append_right _ (List.mem_of_getElem? (i := 17) rfl)))), List.forall_mem_cons.mpr ⟨List.mem_cons_of_mem _ (List.mem_append_left _ (List.mem_append_left _ (List.mem_append_right _ (List.mem_of_getElem? (i := 18) rfl)))), nowords_in⟩⟩, (fun _ h => List.mem_cons_of_mem _ (List.mem_append_right _ (h)))⟩⟩)
set_option maxRecDepth 20000 in
theorem gX0_feelBy_X2_drawBy16 : GoodIn wsX0_feelBy (wsV RX0 97 RX2 yX2_drawBy16 wsX2_drawBy16) := goodIn_app (goodIn_by gd_X0_feelBy (List.forall_mem_cons.mpr ⟨List.mem_cons_of_mem _ (List.mem_append_left _ (List.mem_append_left _ (List.mem_append_right _ (List.mem_of_getElem? (i := 12) rfl)))), List.forall_mem_cons.mpr ⟨List.mem_cons_of_mem _ (List.mem_append_left _ (List.mem_append_left _ (List.mem_append_right _ (List.mem_of_getElem? (i := 13) rfl)))), List.forall_mem_cons.mpr ⟨List.mem_cons_of_mem _ (List.mem_append_left _ (List.mem_append_left _ (List.mem_append_right _ (List.mem_of_getElem? (i := 14) rfl)))), List.forall_mem_cons.mpr ⟨List.mem_cons_of_mem _ (List.mem_append_left _ (List.mem_append_left _ (List.mem_append_right _ (List.mem_of_getElem? (i := 15) rfl)))), nowords_in⟩⟩⟩⟩)) ggX0_feelBy_X2_drawBy16
theorem dX0_feelBy_0 : decode cX0_feelBy 0 = .ok (.iconst 0, 1) := by decide +kernel
theorem dX0_feelBy_1 : decode cX0_feelBy 1 = .ok (.istore_n 2, 1) := by decide +kernel
theorem dX0_feelBy_2 : decode cX0_feelBy 2 = .ok (.iload_n 2, 1) := by decide +kernel
theorem dX0_feelBy_3 : decode cX0_feelBy 3 = .ok (.aload_n 0, 1) := by decide +kernel
theorem dX0_feelBy_4 : decode cX0_feelBy 4 = .ok (.getfield 37, 3) := by decide +kernel
theorem dX0_feelBy_7 : decode cX0_feelBy 7 = .ok (.if_icmp .ge 107, 3) := by decide +kernel
theorem dX0_feelBy_10 : decode cX0_feelBy 10 = .ok (.aload_n 0, 1) := by decide +kernel
theorem dX0_feelBy_11 : decode cX0_feelBy 11 = .ok (.iload_n 2, 1) := by decide +kernel
theorem dX0_feelBy_12 : decode cX0_feelBy 12 = .ok (.invokevirtual 63, 3) := by decide +kernel
theorem dX0_feelBy_15 : decode cX0_feelBy 15 = .ok (.lstore_n 3, 1) := by decide +kernel
theorem dX0_feelBy_16 : decode cX0_feelBy 16 = .ok (.lconst 0, 1) := by decide +kernel
theorem dX0_feelBy_17 : decode cX0_feelBy 17 = .ok (.lstore 5, 2) := by decide +kernel
theorem dX0_feelBy_19 : decode cX0_feelBy 19 = .ok (.iconst 0, 1) := by decide +kernel
theorem dX0_feelBy_20 : decode cX0_feelBy 20 = .ok (.istore 7, 2) := by decide +kernel
theorem dX0_feelBy_22 : decode cX0_feelBy 22 = .ok (.iload 7, 2) := by decide +kernel
theorem dX0_feelBy_24 : decode cX0_feelBy 24 = .ok (.aload_n 0, 1) := by decide +kernel
theorem dX0_feelBy_25 : decode cX0_feelBy 25 = .ok (.getfield 41, 3) := by decide +kernel
theorem dX0_feelBy_28 : decode cX0_feelBy 28 = .ok (.if_icmp .ge 72, 3) := by decide +kernel
theorem dX0_feelBy_31 : decode cX0_feelBy 31 = .ok (.aload_n 1, 1) := by decide +kernel
theorem dX0_feelBy_32 : decode cX0_feelBy 32 = .ok (.invokevirtual 97, 3) := by decide +kernel
theorem dX0_feelBy_35 : decode cX0_feelBy 35 = .ok (.istore 8, 2) := by decide +kernel
theorem dX0_feelBy_37 : decode cX0_feelBy 37 = .ok (.lload_n 3, 1) := by decide +kernel
theorem dX0_feelBy_38 : decode cX0_feelBy 38 = .ok (.iload 7, 2) := by decide +kernel
theorem dX0_feelBy_40 : decode cX0_feelBy 40 = .ok (.lushr, 1) := by decide +kernel
theorem dX0_feelBy_41 : decode cX0_feelBy 41 = .ok (.lconst 1, 1) := by decide +kernel
theorem dX0_feelBy_42 : decode cX0_feelBy 42 = .ok (.land, 1) := by decide +kernel
theorem dX0_feelBy_43 : decode cX0_feelBy 43 = .ok (.lconst 0, 1) := by decide +kernel
theorem dX0_feelBy_44 : decode cX0_feelBy 44 = .ok (.lcmp, 1) := by decide +kernel
theorem dX0_feelBy_45 : decode cX0_feelBy 45 = .ok (.ifCond .eq 7, 3) := by decide +kernel
theorem dX0_feelBy_48 : decode cX0_feelBy 48 = .ok (.iconst 1, 1) := by decide +kernel
theorem dX0_feelBy_49 : decode cX0_feelBy 49 = .ok (.goto 4, 3) := by decide +kernel
theorem dX0_feelBy_52 : decode cX0_feelBy 52 = .ok (.iconst 0, 1) := by decide +kernel
theorem dX0_feelBy_53 : decode cX0_feelBy 53 = .ok (.istore 9, 2) := by decide +kernel
theorem dX0_feelBy_55 : decode cX0_feelBy 55 = .ok (.iload 9, 2) := by decide +kernel
theorem dX0_feelBy_57 : decode cX0_feelBy 57 = .ok (.ifCond .eq 17, 3) := by decide +kernel
theorem dX0_feelBy_60 : decode cX0_feelBy 60 = .ok (.iload 8, 2) := by decide +kernel
theorem dX0_feelBy_62 : decode cX0_feelBy 62 = .ok (.aload_n 0, 1) := by decide +kernel
theorem dX0_feelBy_63 : decode cX0_feelBy 63 = .ok (.getfield 19, 3) := by decide +kernel
theorem dX0_feelBy_66 : decode cX0_feelBy 66 = .ok (.iload_n 2, 1) := by decide +kernel
theorem dX0_feelBy_67 : decode cX0_feelBy 67 = .ok (.iaload, 1) := by decide +kernel
theorem dX0_feelBy_68 : decode cX0_feelBy 68 = .ok (.if_icmp .lt 26, 3) := by decide +kernel
theorem dX0_feelBy_71 : decode cX0_feelBy 71 = .ok (.goto 14, 3) := by decide +kernel
theorem dX0_feelBy_74 : decode cX0_feelBy 74 = .ok (.iload 8, 2) := by decide +kernel
theorem dX0_feelBy_76 : decode cX0_feelBy 76 = .ok (.aload_n 0, 1) := by decide +kernel
theorem dX0_feelBy_77 : decode cX0_feelBy 77 = .ok (.getfield 22, 3) := by decide +kernel
theorem dX0_feelBy_80 : decode cX0_feelBy 80 = .ok (.iload_n 2, 1) := by decide +kernel
theorem dX0_feelBy_81 : decode cX0_feelBy 81 = .ok (.iaload, 1) := by decide +kernel
theorem dX0_feelBy_82 : decode cX0_feelBy 82 = .ok (.if_icmp .ge 12, 3) := by decide +kernel
theorem dX0_feelBy_85 : decode cX0_feelBy 85 = .ok (.lload 5, 2) := by decide +kernel
theorem dX0_feelBy_87 : decode cX0_feelBy 87 = .ok (.lconst 1, 1) := by decide +kernel
theorem dX0_feelBy_88 : decode cX0_feelBy 88 = .ok (.iload 7, 2) := by decide +kernel
theorem dX0_feelBy_90 : decode cX0_feelBy 90 = .ok (.lshl, 1) := by decide +kernel
theorem dX0_feelBy_91 : decode cX0_feelBy 91 = .ok (.lor, 1) := by decide +kernel
theorem dX0_feelBy_92 : decode cX0_feelBy 92 = .ok (.lstore 5, 2) := by decide +kernel
theorem dX0_feelBy_94 : decode cX0_feelBy 94 = .ok (.iinc 7 1, 3) := by decide +kernel
theorem dX0_feelBy_97 : decode cX0_feelBy 97 = .ok (.goto (-75), 3) := by decide +kernel
theorem dX0_feelBy_100 : decode cX0_feelBy 100 = .ok (.aload_n 0, 1) := by decide +kernel
theorem dX0_feelBy_101 : decode cX0_feelBy 101 = .ok (.getfield 31, 3) := by decide +kernel
theorem dX0_feelBy_104 : decode cX0_feelBy 104 = .ok (.iload_n 2, 1) := by decide +kernel
theorem dX0_feelBy_105 : decode cX0_feelBy 105 = .ok (.lload 5, 2) := by decide +kernel
theorem dX0_feelBy_107 : decode cX0_feelBy 107 = .ok (.lastore, 1) := by decide +kernel
theorem dX0_feelBy_108 : decode cX0_feelBy 108 = .ok (.iinc 2 1, 3) := by decide +kernel
theorem dX0_feelBy_111 : decode cX0_feelBy 111 = .ok (.goto (-109), 3) := by decide +kernel
theorem dX0_feelBy_114 : decode cX0_feelBy 114 = .ok (.return_, 1) := by decide +kernel
abbrev rmX0_feelBy : Room := { frames := 3, cells := 0, slots := 0, locals := 63 }
set_option maxHeartbeats 4000000 in
set_option maxRecDepth 100000 in
theorem kX0_feelBy (l : Launch) (D : va_G) (cy : Nat → ClassId) (h0 : Nat) (h_p1 : Nat) (a0 : Nat → Nat) (a1 : Nat → Nat) (s0 : Rc) (s1 : Rc) (res : Rc × Rc) (h : fX0_feelBy s0 s1 = some res) : CV l D cy yX0_feelBy wsX0_feelBy rmX0_feelBy [.ref h0, .ref h_p1] (flat [WX0 cy h0 a0 s0, WX2 cy h_p1 a1 s1]) (flat [WX0 cy h0 a0 res.1, WX2 cy h_p1 a1 res.2]) := by
  refine CV.of (cc := cX0_feelBy) (maxL := 10) (by decide) rfl (Nat.le_of_ble_eq_true rfl) ?_
  intro p e s m args below meth c A QQ ls E hr
  obtain ⟨hx, hb, hml, hown, hts, hK, hN, hP, hD, hA, hl⟩ := E
  have hret : ∀ (pc : Nat) (H : Heap) (locs : List Loc) (ls : Array Slot) (u : Rc × Rc), u = res → va_P D vwCl (flat [WX0 cy h0 a0 u.1, WX2 cy h_p1 a1 u.2]) H → va_D A (flat [WX0 cy h0 a0 u.1, WX2 cy h_p1 a1 u.2]) → va_S A s.heap H locs → decode cX0_feelBy pc = .ok (.return_, 1) → W p l e rmX0_feelBy s m args below meth c H locs 0 0 QQ (F0 m pc ls []) := by
    intro pc H locs ls u hu hP hD hS hd; subst hu; exact hr pc H locs ls hP hD hS hd
  clear hr
  have hl : lv_has ls 10 [(0, .ref h0), (1, .ref h_p1)] := hl
  have hinX0 : ∀ w ∈ wsX00, w ∈ wsX0_feelBy := fun _ h => List.mem_cons_of_mem _ (List.mem_append_left _ (List.mem_append_right _ h))
  unfold fX0_feelBy at h
  suffices key : ∀ (H : Heap) (locs : List Loc), va_P D vwCl (flat [WX0 cy h0 a0 s0, WX2 cy h_p1 a1 s1]) H → va_S A s.heap H locs → W p l e rmX0_feelBy s m args below meth c H locs 0 0 QQ (F0 m 0 ls []) from key _ _ hP va_S.rf
  clear hP
  intro H locs hP hS
  refine lv_iconst (v := 0) hx hb dX0_feelBy_0 (by decide) ?_
  refine lv_istore_n (lv' := [(2, .int (0 : Int32)), (0, .ref h0), (1, .ref h_p1)]) hx hb dX0_feelBy_1 rfl hl (by decide) rfl (fun ls hl => ?_)
  have L2 : ∀ (n : Nat) (q2 : Int32 × Rc × Rc) (o : Rc × Rc), loopO (fX0_feelBy_L2) n q2 = some o → ∀ (H : Heap) (locs : List Loc) (ls : Array Slot), lv_has ls 10 [(0, .ref h0), (1, .ref h_p1), (2, .int q2.1)] → va_P D vwCl (flat [WX0 cy h0 a0 q2.2.1, WX2 cy h_p1 a1 q2.2.2]) H → va_D A (flat [WX0 cy h0 a0 q2.2.1, WX2 cy h_p1 a1 q2.2.2]) → va_S A s.heap H locs → ∀ (kk114 : ∀ (H : Heap) (locs : List Loc) (ls : Array Slot), lv_has ls 10 [] → va_P D vwCl (flat [WX0 cy h0 a0 o.1, WX2 cy h_p1 a1 o.2]) H → va_D A (flat [WX0 cy h0 a0 o.1, WX2 cy h_p1 a1 o.2]) → va_S A s.heap H locs → W p l e rmX0_feelBy s m args below meth c H locs 0 0 QQ (F0 m 114 ls [])), W p l e rmX0_feelBy s m args below meth c H locs 0 0 QQ (F0 m 2 ls []) := by
    intro n
    induction n with
    | zero => intro q2 o h; exact absurd h (by rw [loopO_zero]; intro z; cases z)
    | succ n ih =>
      intro q2 o h H locs ls hl hP hD hS kk114
      obtain ⟨w, h, hgo, hst⟩ := loopO_elim h
      unfold fX0_feelBy_L2 at h
      refine lv_iload_n hx hb dX0_feelBy_2 rfl (lv_at hl 2 rfl) ?_
      refine lv_aload_n hx hb dX0_feelBy_3 rfl (lv_at hl 0 rfl) ?_
      refine va_get (D := D) (ci := 0) (v := .int (gi q2.2.1 8)) (C := RX0) (T := TX0) (N := 14) hx hb hts hinX0 hown hK hP 0 rfl rfl 8 (by decide) (hts (.fieldLink RX0 37 "KneeBench$Bench" "farmers" "I") (List.mem_of_getElem? (i := 1) rfl)) (fun _ h9 => h9) rfl dX0_feelBy_4 ?_
      refine lv_icmp_ge (tgt := 114) hx hb dX0_feelBy_7 (by decide) (fun c1 => ?_) (fun c1 => ?_)
      · replace h := (if_pos c1).symm.trans h
        have eo := hst _ (Option.some.inj h).symm
        subst eo
        exact kk114 H locs ls (lv_sub hl [] rfl) hP hD hS
      · replace h := (if_neg c1).symm.trans h
        refine lv_aload_n hx hb dX0_feelBy_10 rfl (lv_at hl 0 rfl) ?_
        refine lv_iload_n hx hb dX0_feelBy_11 rfl (lv_at hl 2 rfl) ?_
        obtain ⟨r2, hr2, h⟩ := bd_elim h
        refine ca_l (w' := [WX0 cy h0 a0 q2.2.1, WX2 cy h_p1 a1 q2.2.2]) (rn_V (As := [.int q2.1]) (rest := []) ⟨hx, hb, hml, hown, hts⟩ (kX0_dueDays l D cy h0 a0 q2.2.1 q2.1 r2 hr2 H.size) (cwV 1 hts gX0_feelBy_X0_dueDays rfl rfl rfl (by decide +kernel) ⟨Nat.le_of_ble_eq_true rfl, Nat.le_of_ble_eq_true rfl⟩) hK hN hP hD [0] rfl rfl (ci := 0) (q0 := 0) rfl rfl rfl rfl hl.1 rfl (Nat.le_of_ble_eq_true rfl) dX0_feelBy_12 ⟨Nat.le_refl 0, Nat.le_refl 0⟩) hP hD hS hA [0] ⟨rfl, rfl, rfl, rfl⟩ (fun H locs hP hD hS => ?_)
        refine lv_lstore_n (lv' := [(3, .long r2), (0, .ref h0), (1, .ref h_p1), (2, .int q2.1)]) hx hb dX0_feelBy_15 rfl hl (by decide) rfl (fun ls hl => ?_)
        refine lv_lconst (v := 0) hx hb dX0_feelBy_16 (by decide) ?_
        refine lv_lstore (lv' := [(5, .long (0 : Int64)), (3, .long r2), (0, .ref h0), (1, .ref h_p1), (2, .int q2.1)]) hx hb dX0_feelBy_17 hl (by decide) rfl (fun ls hl => ?_)
        refine lv_iconst (v := 0) hx hb dX0_feelBy_19 (by decide) ?_
        refine lv_istore (lv' := [(7, .int (0 : Int32)), (5, .long (0 : Int64)), (3, .long r2), (0, .ref h0), (1, .ref h_p1), (2, .int q2.1)]) hx hb dX0_feelBy_20 hl (by decide) rfl (fun ls hl => ?_)
        have L22 : ∀ (n : Nat) (q22 : Int64 × Int32 × Rc) (o : Int64 × Rc), loopO (fX0_feelBy_L22 q2 r2) n q22 = some o → ∀ (H : Heap) (locs : List Loc) (ls : Array Slot), lv_has ls 10 [(3, .long r2), (0, .ref h0), (1, .ref h_p1), (2, .int q2.1), (5, .long q22.1), (7, .int q22.2.1)] → va_P D vwCl (flat [WX0 cy h0 a0 q2.2.1, WX2 cy h_p1 a1 q22.2.2]) H → va_D A (flat [WX0 cy h0 a0 q2.2.1, WX2 cy h_p1 a1 q22.2.2]) → va_S A s.heap H locs → ∀ (kk100 : ∀ (H : Heap) (locs : List Loc) (ls : Array Slot), lv_has ls 10 [(0, .ref h0), (1, .ref h_p1), (2, .int q2.1), (5, .long o.1)] → va_P D vwCl (flat [WX0 cy h0 a0 q2.2.1, WX2 cy h_p1 a1 o.2]) H → va_D A (flat [WX0 cy h0 a0 q2.2.1, WX2 cy h_p1 a1 o.2]) → va_S A s.heap H locs → W p l e rmX0_feelBy s m args below meth c H locs 0 0 QQ (F0 m 100 ls [])), W p l e rmX0_feelBy s m args below meth c H locs 0 0 QQ (F0 m 22 ls []) := by
          intro n
          induction n with
          | zero => intro q22 o h; exact absurd h (by rw [loopO_zero]; intro z; cases z)
          | succ n ih =>
            intro q22 o h H locs ls hl hP hD hS kk100
            obtain ⟨w, h, hgo, hst⟩ := loopO_elim h
            unfold fX0_feelBy_L22 at h
            have J53 : ∀ (y53_8 : Int32) (z53_0 : Int32) (t53_1 : Rc) (H : Heap) (locs : List Loc) (ls : Array Slot), lv_has ls 10 [(3, .long r2), (0, .ref h0), (1, .ref h_p1), (2, .int q2.1), (5, .long q22.1), (7, .int q22.2.1), (8, .int y53_8)] → va_P D vwCl (flat [WX0 cy h0 a0 q2.2.1, WX2 cy h_p1 a1 t53_1]) H → va_D A (flat [WX0 cy h0 a0 q2.2.1, WX2 cy h_p1 a1 t53_1]) → va_S A s.heap H locs → fX0_feelBy_J53 q2 q22 y53_8 z53_0 t53_1 = some w → W p l e rmX0_feelBy s m args below meth c H locs 0 0 QQ (F0 m 53 ls [.int z53_0]) := by
              intro y53_8 z53_0 t53_1 H locs ls hl hP hD hS h
              unfold fX0_feelBy_J53 at h
              refine lv_istore (lv' := [(9, .int z53_0), (3, .long r2), (0, .ref h0), (1, .ref h_p1), (2, .int q2.1), (5, .long q22.1), (7, .int q22.2.1), (8, .int y53_8)]) hx hb dX0_feelBy_53 hl (by decide) rfl (fun ls hl => ?_)
              refine lv_iload hx hb dX0_feelBy_55 (lv_at hl 0 rfl) ?_
              refine lv_if_eq (tgt := 74) hx hb dX0_feelBy_57 (by decide) (fun c3 => ?_) (fun c3 => ?_)
              · replace h := (if_pos c3).symm.trans h
                refine lv_iload hx hb dX0_feelBy_74 (lv_at hl 7 rfl) ?_
                refine lv_aload_n hx hb dX0_feelBy_76 rfl (lv_at hl 2 rfl) ?_
                refine va_get (D := D) (ci := 0) (v := .ref (a0 3)) (C := RX0) (T := TX0) (N := 14) hx hb hts hinX0 hown hK hP 0 rfl rfl 3 (by decide) (hts (.fieldLink RX0 22 "KneeBench$Bench" "falses" "[I") (List.mem_of_getElem? (i := 4) rfl)) (fun _ h9 => h9) rfl dX0_feelBy_77 ?_
                refine lv_iload_n hx hb dX0_feelBy_80 rfl (lv_at hl 4 rfl) ?_
                obtain ⟨g4, h⟩ := gd_elim h
                refine va_iald hx hb hK hP 4 1 rfl rfl (inb_in g4) dX0_feelBy_81 ?_
                refine lv_icmp_ge (tgt := 94) hx hb dX0_feelBy_82 (by decide) (fun c5 => ?_) (fun c5 => ?_)
                · replace h := (if_pos c5).symm.trans h
                  refine lv_iinc (v := (q22.2.1 + (1 : Int32))) (lv' := [(7, .int (q22.2.1 + (1 : Int32))), (9, .int z53_0), (3, .long r2), (0, .ref h0), (1, .ref h_p1), (2, .int q2.1), (5, .long q22.1), (8, .int y53_8)]) hx hb dX0_feelBy_94 hl (k := 6) rfl rfl (by decide) rfl (fun ls hl => ?_)
                  refine lv_goto (tgt := 22) hx hb dX0_feelBy_97 (by decide) ?_
                  exact ih _ o (hgo _ (Option.some.inj h).symm) H locs ls (lv_sub hl [2, 3, 4, 5, 6, 0] rfl) hP hD hS kk100
                · replace h := (if_neg c5).symm.trans h
                  refine lv_lload hx hb dX0_feelBy_85 (lv_at hl 5 rfl) ?_
                  refine lv_lconst (v := 1) hx hb dX0_feelBy_87 (by decide) ?_
                  refine lv_iload hx hb dX0_feelBy_88 (lv_at hl 6 rfl) ?_
                  refine lv_lshl hx hb dX0_feelBy_90 rfl ?_
                  refine lv_lor hx hb dX0_feelBy_91 ?_
                  refine lv_topl (fun x6 ex6 => ?_)
                  replace h := lt_use h x6 ex6
                  refine lv_lstore (lv' := [(5, .long x6), (9, .int z53_0), (3, .long r2), (0, .ref h0), (1, .ref h_p1), (2, .int q2.1), (7, .int q22.2.1), (8, .int y53_8)]) hx hb dX0_feelBy_92 hl (by decide) rfl (fun ls hl => ?_)
                  refine lv_iinc (v := (q22.2.1 + (1 : Int32))) (lv' := [(7, .int (q22.2.1 + (1 : Int32))), (5, .long x6), (9, .int z53_0), (3, .long r2), (0, .ref h0), (1, .ref h_p1), (2, .int q2.1), (8, .int y53_8)]) hx hb dX0_feelBy_94 hl (k := 6) rfl rfl (by decide) rfl (fun ls hl => ?_)
                  refine lv_goto (tgt := 22) hx hb dX0_feelBy_97 (by decide) ?_
                  exact ih _ o (hgo _ (Option.some.inj h).symm) H locs ls (lv_sub hl [3, 4, 5, 6, 1, 0] rfl) hP hD hS kk100
              · replace h := (if_neg c3).symm.trans h
                refine lv_iload hx hb dX0_feelBy_60 (lv_at hl 7 rfl) ?_
                refine lv_aload_n hx hb dX0_feelBy_62 rfl (lv_at hl 2 rfl) ?_
                refine va_get (D := D) (ci := 0) (v := .ref (a0 2)) (C := RX0) (T := TX0) (N := 14) hx hb hts hinX0 hown hK hP 0 rfl rfl 2 (by decide) (hts (.fieldLink RX0 19 "KneeBench$Bench" "fails" "[I") (List.mem_of_getElem? (i := 3) rfl)) (fun _ h9 => h9) rfl dX0_feelBy_63 ?_
                refine lv_iload_n hx hb dX0_feelBy_66 rfl (lv_at hl 4 rfl) ?_
                obtain ⟨g7, h⟩ := gd_elim h
                refine va_iald hx hb hK hP 3 1 rfl rfl (inb_in g7) dX0_feelBy_67 ?_
                refine lv_icmp_lt (tgt := 94) hx hb dX0_feelBy_68 (by decide) (fun c8 => ?_) (fun c8 => ?_)
                · replace h := (if_pos c8).symm.trans h
                  refine lv_iinc (v := (q22.2.1 + (1 : Int32))) (lv' := [(7, .int (q22.2.1 + (1 : Int32))), (9, .int z53_0), (3, .long r2), (0, .ref h0), (1, .ref h_p1), (2, .int q2.1), (5, .long q22.1), (8, .int y53_8)]) hx hb dX0_feelBy_94 hl (k := 6) rfl rfl (by decide) rfl (fun ls hl => ?_)
                  refine lv_goto (tgt := 22) hx hb dX0_feelBy_97 (by decide) ?_
                  exact ih _ o (hgo _ (Option.some.inj h).symm) H locs ls (lv_sub hl [2, 3, 4, 5, 6, 0] rfl) hP hD hS kk100
                · replace h := (if_neg c8).symm.trans h
                  refine lv_goto (tgt := 85) hx hb dX0_feelBy_71 (by decide) ?_
                  refine lv_lload hx hb dX0_feelBy_85 (lv_at hl 5 rfl) ?_
                  refine lv_lconst (v := 1) hx hb dX0_feelBy_87 (by decide) ?_
                  refine lv_iload hx hb dX0_feelBy_88 (lv_at hl 6 rfl) ?_
                  refine lv_lshl hx hb dX0_feelBy_90 rfl ?_
                  refine lv_lor hx hb dX0_feelBy_91 ?_
                  refine lv_topl (fun x9 ex9 => ?_)
                  replace h := lt_use h x9 ex9
                  refine lv_lstore (lv' := [(5, .long x9), (9, .int z53_0), (3, .long r2), (0, .ref h0), (1, .ref h_p1), (2, .int q2.1), (7, .int q22.2.1), (8, .int y53_8)]) hx hb dX0_feelBy_92 hl (by decide) rfl (fun ls hl => ?_)
                  refine lv_iinc (v := (q22.2.1 + (1 : Int32))) (lv' := [(7, .int (q22.2.1 + (1 : Int32))), (5, .long x9), (9, .int z53_0), (3, .long r2), (0, .ref h0), (1, .ref h_p1), (2, .int q2.1), (8, .int y53_8)]) hx hb dX0_feelBy_94 hl (k := 6) rfl rfl (by decide) rfl (fun ls hl => ?_)
                  refine lv_goto (tgt := 22) hx hb dX0_feelBy_97 (by decide) ?_
                  exact ih _ o (hgo _ (Option.some.inj h).symm) H locs ls (lv_sub hl [3, 4, 5, 6, 1, 0] rfl) hP hD hS kk100
            refine lv_iload hx hb dX0_feelBy_22 (lv_at hl 5 rfl) ?_
            refine lv_aload_n hx hb dX0_feelBy_24 rfl (lv_at hl 1 rfl) ?_
            refine va_get (D := D) (ci := 0) (v := .int (gi q2.2.1 9)) (C := RX0) (T := TX0) (N := 14) hx hb hts hinX0 hown hK hP 0 rfl rfl 9 (by decide) (hts (.fieldLink RX0 41 "KneeBench$Bench" "days" "I") (List.mem_of_getElem? (i := 2) rfl)) (fun _ h9 => h9) rfl dX0_feelBy_25 ?_
            refine lv_icmp_ge (tgt := 100) hx hb dX0_feelBy_28 (by decide) (fun c10 => ?_) (fun c10 => ?_)
            · replace h := (if_pos c10).symm.trans h
              have eo := hst _ (Option.some.inj h).symm
              subst eo
              exact kk100 H locs ls (lv_sub hl [1, 2, 3, 4] rfl) hP hD hS
            · replace h := (if_neg c10).symm.trans h
              refine lv_aload_n hx hb dX0_feelBy_31 rfl (lv_at hl 2 rfl) ?_
              obtain ⟨r11, hr11, h⟩ := lt_elim h
              refine ca_i (w' := [WX0 cy h0 a0 q2.2.1, WX2 cy h_p1 a1 r11.2]) (rn_V (As := []) (rest := []) ⟨hx, hb, hml, hown, hts⟩ (kX2_drawBy16 l D cy h_p1 a1 q22.2.2 r11 hr11.symm H.size) (cwV 0 hts gX0_feelBy_X2_drawBy16 rfl rfl rfl (by decide +kernel) ⟨Nat.le_of_ble_eq_true rfl, Nat.le_of_ble_eq_true rfl⟩) hK hN hP hD [1] rfl rfl (ci := 2) (q0 := 9) rfl rfl rfl rfl hl.1 rfl (Nat.le_of_ble_eq_true rfl) dX0_feelBy_32 ⟨Nat.le_refl 0, Nat.le_refl 0⟩) hP hD hS hA [1] ⟨rfl, rfl, rfl, rfl⟩ (fun H locs hP hD hS => ?_)
              refine lv_istore (lv' := [(8, .int r11.1), (3, .long r2), (0, .ref h0), (1, .ref h_p1), (2, .int q2.1), (5, .long q22.1), (7, .int q22.2.1)]) hx hb dX0_feelBy_35 hl (by decide) rfl (fun ls hl => ?_)
              refine lv_lload_n hx hb dX0_feelBy_37 rfl (lv_at hl 1 rfl) ?_
              refine lv_iload hx hb dX0_feelBy_38 (lv_at hl 6 rfl) ?_
              refine lv_lushr hx hb dX0_feelBy_40 rfl ?_
              refine lv_lconst (v := 1) hx hb dX0_feelBy_41 (by decide) ?_
              refine lv_land hx hb dX0_feelBy_42 ?_
              refine lv_lconst (v := 0) hx hb dX0_feelBy_43 (by decide) ?_
              refine W.lcmp hx hb dX0_feelBy_44 ?_
              refine lv_if_eq (tgt := 52) hx hb dX0_feelBy_45 (by decide) (fun c12 => ?_) (fun c12 => ?_)
              · replace h := (if_pos (lg_ceq.mp c12)).symm.trans h
                refine lv_iconst (v := 0) hx hb dX0_feelBy_52 (by decide) ?_
                exact J53 r11.1 (0 : Int32) r11.2 H locs ls (lv_sub hl [1, 2, 3, 4, 5, 6, 0] rfl) hP hD hS h
              · replace h := (if_neg (fun z => c12 (lg_ceq.mpr z))).symm.trans h
                refine lv_iconst (v := 1) hx hb dX0_feelBy_48 (by decide) ?_
                refine lv_goto (tgt := 53) hx hb dX0_feelBy_49 (by decide) ?_
                exact J53 r11.1 (1 : Int32) r11.2 H locs ls (lv_sub hl [1, 2, 3, 4, 5, 6, 0] rfl) hP hD hS h
        obtain ⟨o22, ho22, h⟩ := bd_elim h
        obtain ⟨n22, hn22⟩ := loopF_some ho22
        refine L22 n22 _ o22 hn22 H locs ls (lv_sub hl [2, 3, 4, 5, 1, 0] rfl) hP hD hS (fun H locs ls hl hP hD hS => ?_)
        refine lv_aload_n hx hb dX0_feelBy_100 rfl (lv_at hl 0 rfl) ?_
        refine va_get (D := D) (ci := 0) (v := .ref (a0 6)) (C := RX0) (T := TX0) (N := 14) hx hb hts hinX0 hown hK hP 0 rfl rfl 6 (by decide) (hts (.fieldLink RX0 31 "KneeBench$Bench" "twinges" "[J") (List.mem_of_getElem? (i := 5) rfl)) (fun _ h9 => h9) rfl dX0_feelBy_101 ?_
        refine lv_iload_n hx hb dX0_feelBy_104 rfl (lv_at hl 2 rfl) ?_
        refine lv_lload hx hb dX0_feelBy_105 (lv_at hl 3 rfl) ?_
        obtain ⟨g13, h⟩ := gd_elim h
        obtain ⟨s0_14, es, h⟩ := lt_elim h
        refine va_last hx hb hK hP hD hS 7 2 rfl rfl (inb_in g13) dX0_feelBy_107 (fun H locs hP hD hS => ?_)
        have hP : va_P D vwCl (flat [WX0 cy h0 a0 s0_14, WX2 cy h_p1 a1 o22.2]) H := by rw [es]; exact hP
        have hD : va_D A (flat [WX0 cy h0 a0 s0_14, WX2 cy h_p1 a1 o22.2]) := by rw [es]; exact hD
        clear es
        refine lv_iinc (v := (q2.1 + (1 : Int32))) (lv' := [(2, .int (q2.1 + (1 : Int32))), (0, .ref h0), (1, .ref h_p1), (5, .long o22.1)]) hx hb dX0_feelBy_108 hl (k := 2) rfl rfl (by decide) rfl (fun ls hl => ?_)
        refine lv_goto (tgt := 2) hx hb dX0_feelBy_111 (by decide) ?_
        exact ih _ o (hgo _ (Option.some.inj h).symm) H locs ls (lv_sub hl [1, 2, 0] rfl) hP hD hS kk114
  obtain ⟨o2, ho2, h⟩ := bd_elim h
  obtain ⟨n2, hn2⟩ := loopF_some ho2
  refine L2 n2 _ o2 hn2 H locs ls (lv_sub hl [1, 2, 0] rfl) hP hD hS (fun H locs ls hl hP hD hS => ?_)
  exact hret 114 H locs ls (o2.1, o2.2) (Option.some.inj h) hP hD hS dX0_feelBy_114
theorem dJ6_bitCount_0f7a4_0 : decode cJ6_bitCount_0f7a4 0 = .ok (.iload_n 0, 1) := by decide +kernel
theorem dJ6_bitCount_0f7a4_1 : decode cJ6_bitCount_0f7a4 1 = .ok (.iload_n 0, 1) := by decide +kernel
theorem dJ6_bitCount_0f7a4_2 : decode cJ6_bitCount_0f7a4 2 = .ok (.iconst 1, 1) := by decide +kernel
theorem dJ6_bitCount_0f7a4_3 : decode cJ6_bitCount_0f7a4 3 = .ok (.iushr, 1) := by decide +kernel
theorem dJ6_bitCount_0f7a4_4 : decode cJ6_bitCount_0f7a4 4 = .ok (.ldc_w 265, 3) := by decide +kernel
theorem dJ6_bitCount_0f7a4_7 : decode cJ6_bitCount_0f7a4 7 = .ok (.iand, 1) := by decide +kernel
theorem dJ6_bitCount_0f7a4_8 : decode cJ6_bitCount_0f7a4 8 = .ok (.isub, 1) := by decide +kernel
theorem dJ6_bitCount_0f7a4_9 : decode cJ6_bitCount_0f7a4 9 = .ok (.istore_n 0, 1) := by decide +kernel
theorem dJ6_bitCount_0f7a4_10 : decode cJ6_bitCount_0f7a4 10 = .ok (.iload_n 0, 1) := by decide +kernel
theorem dJ6_bitCount_0f7a4_11 : decode cJ6_bitCount_0f7a4 11 = .ok (.ldc_w 266, 3) := by decide +kernel
theorem dJ6_bitCount_0f7a4_14 : decode cJ6_bitCount_0f7a4 14 = .ok (.iand, 1) := by decide +kernel
theorem dJ6_bitCount_0f7a4_15 : decode cJ6_bitCount_0f7a4 15 = .ok (.iload_n 0, 1) := by decide +kernel
theorem dJ6_bitCount_0f7a4_16 : decode cJ6_bitCount_0f7a4 16 = .ok (.iconst 2, 1) := by decide +kernel
theorem dJ6_bitCount_0f7a4_17 : decode cJ6_bitCount_0f7a4 17 = .ok (.iushr, 1) := by decide +kernel
theorem dJ6_bitCount_0f7a4_18 : decode cJ6_bitCount_0f7a4 18 = .ok (.ldc_w 266, 3) := by decide +kernel
theorem dJ6_bitCount_0f7a4_21 : decode cJ6_bitCount_0f7a4 21 = .ok (.iand, 1) := by decide +kernel
theorem dJ6_bitCount_0f7a4_22 : decode cJ6_bitCount_0f7a4 22 = .ok (.iadd, 1) := by decide +kernel
theorem dJ6_bitCount_0f7a4_23 : decode cJ6_bitCount_0f7a4 23 = .ok (.istore_n 0, 1) := by decide +kernel
theorem dJ6_bitCount_0f7a4_24 : decode cJ6_bitCount_0f7a4 24 = .ok (.iload_n 0, 1) := by decide +kernel
theorem dJ6_bitCount_0f7a4_25 : decode cJ6_bitCount_0f7a4 25 = .ok (.iload_n 0, 1) := by decide +kernel
theorem dJ6_bitCount_0f7a4_26 : decode cJ6_bitCount_0f7a4 26 = .ok (.iconst 4, 1) := by decide +kernel
theorem dJ6_bitCount_0f7a4_27 : decode cJ6_bitCount_0f7a4 27 = .ok (.iushr, 1) := by decide +kernel
theorem dJ6_bitCount_0f7a4_28 : decode cJ6_bitCount_0f7a4 28 = .ok (.iadd, 1) := by decide +kernel
theorem dJ6_bitCount_0f7a4_29 : decode cJ6_bitCount_0f7a4 29 = .ok (.ldc_w 267, 3) := by decide +kernel
theorem dJ6_bitCount_0f7a4_32 : decode cJ6_bitCount_0f7a4 32 = .ok (.iand, 1) := by decide +kernel
theorem dJ6_bitCount_0f7a4_33 : decode cJ6_bitCount_0f7a4 33 = .ok (.istore_n 0, 1) := by decide +kernel
theorem dJ6_bitCount_0f7a4_34 : decode cJ6_bitCount_0f7a4 34 = .ok (.iload_n 0, 1) := by decide +kernel
theorem dJ6_bitCount_0f7a4_35 : decode cJ6_bitCount_0f7a4 35 = .ok (.iload_n 0, 1) := by decide +kernel
theorem dJ6_bitCount_0f7a4_36 : decode cJ6_bitCount_0f7a4 36 = .ok (.bipush 8, 2) := by decide +kernel
theorem dJ6_bitCount_0f7a4_38 : decode cJ6_bitCount_0f7a4 38 = .ok (.iushr, 1) := by decide +kernel
theorem dJ6_bitCount_0f7a4_39 : decode cJ6_bitCount_0f7a4 39 = .ok (.iadd, 1) := by decide +kernel
theorem dJ6_bitCount_0f7a4_40 : decode cJ6_bitCount_0f7a4 40 = .ok (.istore_n 0, 1) := by decide +kernel
theorem dJ6_bitCount_0f7a4_41 : decode cJ6_bitCount_0f7a4 41 = .ok (.iload_n 0, 1) := by decide +kernel
theorem dJ6_bitCount_0f7a4_42 : decode cJ6_bitCount_0f7a4 42 = .ok (.iload_n 0, 1) := by decide +kernel
theorem dJ6_bitCount_0f7a4_43 : decode cJ6_bitCount_0f7a4 43 = .ok (.bipush 16, 2) := by decide +kernel
theorem dJ6_bitCount_0f7a4_45 : decode cJ6_bitCount_0f7a4 45 = .ok (.iushr, 1) := by decide +kernel
theorem dJ6_bitCount_0f7a4_46 : decode cJ6_bitCount_0f7a4 46 = .ok (.iadd, 1) := by decide +kernel
theorem dJ6_bitCount_0f7a4_47 : decode cJ6_bitCount_0f7a4 47 = .ok (.istore_n 0, 1) := by decide +kernel
theorem dJ6_bitCount_0f7a4_48 : decode cJ6_bitCount_0f7a4 48 = .ok (.iload_n 0, 1) := by decide +kernel
theorem dJ6_bitCount_0f7a4_49 : decode cJ6_bitCount_0f7a4 49 = .ok (.bipush 63, 2) := by decide +kernel
theorem dJ6_bitCount_0f7a4_51 : decode cJ6_bitCount_0f7a4 51 = .ok (.iand, 1) := by decide +kernel
theorem dJ6_bitCount_0f7a4_52 : decode cJ6_bitCount_0f7a4 52 = .ok (.ireturn, 1) := by decide +kernel
abbrev rmJ6_bitCount_0f7a4 : Room := { frames := 0, cells := 0, slots := 0, locals := 0 }
set_option maxHeartbeats 4000000 in
set_option maxRecDepth 100000 in
theorem kJ6_bitCount_0f7a4 (l : Launch) (D : va_G) (cy : Nat → ClassId) (p1 : Int32) (res : Int32) (h : fJ6_bitCount_0f7a4 p1 = res) : CI l D cy yJ6_bitCount_0f7a4 wsJ6_bitCount_0f7a4 rmJ6_bitCount_0f7a4 [.int p1] (flat []) (flat []) res := by
  refine CI.of (cc := cJ6_bitCount_0f7a4) (maxL := 1) (by decide) rfl (Nat.le_of_ble_eq_true rfl) ?_
  intro p e s m args below meth c A QQ ls E hr
  obtain ⟨hx, hb, hml, hown, hts, hK, hN, hP, hD, hA, hl⟩ := E
  have hret : ∀ (pc : Nat) (H : Heap) (locs : List Loc) (ls : Array Slot) (u : Int32), u = res → va_P D vwCl (flat []) H → va_D A (flat []) → va_S A s.heap H locs → decode cJ6_bitCount_0f7a4 pc = .ok (.ireturn, 1) → W p l e rmJ6_bitCount_0f7a4 s m args below meth c H locs 0 0 QQ (F0 m pc ls [.int u]) := by
    intro pc H locs ls u hu hP hD hS hd; subst hu; exact hr pc H locs ls _ rfl hP hD hS hd
  clear hr
  have hl : lv_has ls 1 [(0, .int p1)] := hl
  unfold fJ6_bitCount_0f7a4 at h
  suffices key : ∀ (H : Heap) (locs : List Loc), va_P D vwCl (flat []) H → va_S A s.heap H locs → W p l e rmJ6_bitCount_0f7a4 s m args below meth c H locs 0 0 QQ (F0 m 0 ls []) from key _ _ hP va_S.rf
  clear hP
  intro H locs hP hS
  refine lv_iload_n hx hb dJ6_bitCount_0f7a4_0 rfl (lv_at hl 0 rfl) ?_
  refine lv_iload_n hx hb dJ6_bitCount_0f7a4_1 rfl (lv_at hl 0 rfl) ?_
  refine lv_iconst (v := 1) hx hb dJ6_bitCount_0f7a4_2 (by decide) ?_
  refine lv_iushr hx hb dJ6_bitCount_0f7a4_3 rfl ?_
  refine lv_ldcw (v := 1431655765) hx hb hown (hts (.constant RJ6 265 (1431655765)) (List.mem_of_getElem? (i := 1) rfl)) dJ6_bitCount_0f7a4_4 ?_
  refine lv_iand hx hb dJ6_bitCount_0f7a4_7 ?_
  refine lv_isub hx hb dJ6_bitCount_0f7a4_8 ?_
  refine lv_topi (fun x1 ex1 => ?_)
  replace h := lt_use h x1 ex1
  refine lv_istore_n (lv' := [(0, .int x1)]) hx hb dJ6_bitCount_0f7a4_9 rfl hl (by decide) rfl (fun ls hl => ?_)
  refine lv_iload_n hx hb dJ6_bitCount_0f7a4_10 rfl (lv_at hl 0 rfl) ?_
  refine lv_ldcw (v := 858993459) hx hb hown (hts (.constant RJ6 266 (858993459)) (List.mem_of_getElem? (i := 2) rfl)) dJ6_bitCount_0f7a4_11 ?_
  refine lv_iand hx hb dJ6_bitCount_0f7a4_14 ?_
  refine lv_iload_n hx hb dJ6_bitCount_0f7a4_15 rfl (lv_at hl 0 rfl) ?_
  refine lv_iconst (v := 2) hx hb dJ6_bitCount_0f7a4_16 (by decide) ?_
  refine lv_iushr hx hb dJ6_bitCount_0f7a4_17 rfl ?_
  refine lv_ldcw (v := 858993459) hx hb hown (hts (.constant RJ6 266 (858993459)) (List.mem_of_getElem? (i := 2) rfl)) dJ6_bitCount_0f7a4_18 ?_
  refine lv_iand hx hb dJ6_bitCount_0f7a4_21 ?_
  refine lv_iadd hx hb dJ6_bitCount_0f7a4_22 ?_
  refine lv_topi (fun x2 ex2 => ?_)
  replace h := lt_use h x2 ex2
  refine lv_istore_n (lv' := [(0, .int x2)]) hx hb dJ6_bitCount_0f7a4_23 rfl hl (by decide) rfl (fun ls hl => ?_)
  refine lv_iload_n hx hb dJ6_bitCount_0f7a4_24 rfl (lv_at hl 0 rfl) ?_
  refine lv_iload_n hx hb dJ6_bitCount_0f7a4_25 rfl (lv_at hl 0 rfl) ?_
  refine lv_iconst (v := 4) hx hb dJ6_bitCount_0f7a4_26 (by decide) ?_
  refine lv_iushr hx hb dJ6_bitCount_0f7a4_27 rfl ?_
  refine lv_iadd hx hb dJ6_bitCount_0f7a4_28 ?_
  refine lv_ldcw (v := 252645135) hx hb hown (hts (.constant RJ6 267 (252645135)) (List.mem_of_getElem? (i := 3) rfl)) dJ6_bitCount_0f7a4_29 ?_
  refine lv_iand hx hb dJ6_bitCount_0f7a4_32 ?_
  refine lv_topi (fun x3 ex3 => ?_)
  replace h := lt_use h x3 ex3
  refine lv_istore_n (lv' := [(0, .int x3)]) hx hb dJ6_bitCount_0f7a4_33 rfl hl (by decide) rfl (fun ls hl => ?_)
  refine lv_iload_n hx hb dJ6_bitCount_0f7a4_34 rfl (lv_at hl 0 rfl) ?_
  refine lv_iload_n hx hb dJ6_bitCount_0f7a4_35 rfl (lv_at hl 0 rfl) ?_
  refine lv_bipush (v := 8) hx hb dJ6_bitCount_0f7a4_36 (by decide) ?_
  refine lv_iushr hx hb dJ6_bitCount_0f7a4_38 rfl ?_
  refine lv_iadd hx hb dJ6_bitCount_0f7a4_39 ?_
  refine lv_topi (fun x4 ex4 => ?_)
  replace h := lt_use h x4 ex4
  refine lv_istore_n (lv' := [(0, .int x4)]) hx hb dJ6_bitCount_0f7a4_40 rfl hl (by decide) rfl (fun ls hl => ?_)
  refine lv_iload_n hx hb dJ6_bitCount_0f7a4_41 rfl (lv_at hl 0 rfl) ?_
  refine lv_iload_n hx hb dJ6_bitCount_0f7a4_42 rfl (lv_at hl 0 rfl) ?_
  refine lv_bipush (v := 16) hx hb dJ6_bitCount_0f7a4_43 (by decide) ?_
  refine lv_iushr hx hb dJ6_bitCount_0f7a4_45 rfl ?_
  refine lv_iadd hx hb dJ6_bitCount_0f7a4_46 ?_
  refine lv_topi (fun x5 ex5 => ?_)
  replace h := lt_use h x5 ex5
  refine lv_istore_n (lv' := [(0, .int x5)]) hx hb dJ6_bitCount_0f7a4_47 rfl hl (by decide) rfl (fun ls hl => ?_)
  refine lv_iload_n hx hb dJ6_bitCount_0f7a4_48 rfl (lv_at hl 0 rfl) ?_
  refine lv_bipush (v := 63) hx hb dJ6_bitCount_0f7a4_49 (by decide) ?_
  refine lv_iand hx hb dJ6_bitCount_0f7a4_51 ?_
  exact hret 52 H locs ls (x5 &&& (63 : Int32)) h hP hD hS dJ6_bitCount_0f7a4_52
theorem gd_X0_rainDays : wsX0_rainDays.all goodWord = true := by decide +kernel
set_option maxRecDepth 20000 in
theorem ggX0_rainDays_X0_feelingDays : GoodIn wsX0_rainDays wsX0_feelingDays := goodIn_by gd_X0_rainDays (List.forall_mem_cons.mpr ⟨List.mem_cons_of_mem _ (List.mem_append_left _ (List.mem_of_getElem? (i := 6) rfl)), List.forall_mem_append.mpr ⟨List.forall_mem_cons.mpr ⟨List.mem_cons_of_mem _ (List.mem_append_left _ (List.mem_of_getElem? (i := 7) rfl)), List.forall_mem_cons.mpr ⟨List.mem_cons_of_mem _ (List.mem_append_left _ (List.mem_of_getElem? (i := 8) rfl)), List.forall_mem_cons.mpr ⟨List.mem_cons_of_mem _ (List.mem_append_left _ (List.mem_of_getElem? (i := 9) rfl)), List.forall_mem_cons.mpr ⟨List.mem_cons_of_mem _ (List.mem_append_left _ (List.mem_of_getElem? (i := 10) rfl)), List.forall_mem_cons.mpr ⟨List.mem_cons_of_mem _ (List.mem_append_left _ (List.mem_of_getElem? (i := 11) rfl)), List.forall_mem_cons.mpr ⟨List.mem_cons_of_mem _ (List.mem_append_left _ (List.mem_of_getElem? (i := 12) rfl)), List.forall_mem_cons.mpr ⟨List.mem_cons_of_mem _ (List.mem_append_left _ (List.mem_of_getElem? (i := 13) rfl)), List.forall_mem_cons.mpr ⟨List.mem_cons_of_mem _ (List.mem_append_left _ (List.mem_of_getElem? (i := 14) rfl)), List.forall_mem_cons.mpr ⟨List.mem_cons_of_mem _ (List.mem_append_left _ (List.mem_of_getElem? (i := 15) rfl)), nowords_in⟩⟩⟩⟩⟩⟩⟩⟩⟩, (fun _ h => List.mem_cons_of_mem _ (List.mem_append_right _ (h)))⟩⟩)
set_option maxRecDepth 20000 in
theorem gX0_rainDays_X0_feelingDays : GoodIn wsX0_rainDays (wsV RX0 91 RX0 yX0_feelingDays wsX0_feelingDays) := goodIn_app (goodIn_by gd_X0_rainDays (List.forall_mem_cons.mpr ⟨List.mem_cons_of_mem _ (List.mem_append_left _ (List.mem_of_getElem? (i := 2) rfl)), List.forall_mem_cons.mpr ⟨List.mem_cons_of_mem _ (List.mem_append_left _ (List.mem_of_getElem? (i := 3) rfl)), List.forall_mem_cons.mpr ⟨List.mem_cons_of_mem _ (List.mem_append_left _ (List.mem_of_getElem? (i := 4) rfl)), List.forall_mem_cons.mpr ⟨List.mem_cons_of_mem _ (List.mem_append_left _ (List.mem_of_getElem? (i := 5) rfl)), nowords_in⟩⟩⟩⟩)) ggX0_rainDays_X0_feelingDays
set_option maxRecDepth 20000 in
theorem ggX0_rainDays_X10_later : GoodIn wsX0_rainDays wsX10_later := goodIn_by gd_X0_rainDays (List.forall_mem_cons.mpr ⟨List.mem_cons_of_mem _ (List.mem_append_left _ (List.mem_of_getElem? (i := 17) rfl)), nowords_in⟩)
set_option maxRecDepth 20000 in
theorem gX0_rainDays_X10_later_n87 : GoodIn wsX0_rainDays (wsX10_later) := ggX0_rainDays_X10_later
set_option maxRecDepth 20000 in
theorem ggX0_rainDays_X0_daysThere : GoodIn wsX0_rainDays wsX0_daysThere := goodIn_by gd_X0_rainDays (List.forall_mem_cons.mpr ⟨List.mem_cons_of_mem _ (List.mem_append_left _ (List.mem_of_getElem? (i := 21) rfl)), List.forall_mem_append.mpr ⟨List.forall_mem_cons.mpr ⟨List.mem_cons_of_mem _ (List.mem_append_left _ (List.mem_of_getElem? (i := 7) rfl)), List.forall_mem_cons.mpr ⟨List.mem_cons_of_mem _ (List.mem_append_left _ (List.mem_of_getElem? (i := 13) rfl)), List.forall_mem_cons.mpr ⟨List.mem_cons_of_mem _ (List.mem_append_left _ (List.mem_of_getElem? (i := 14) rfl)), List.forall_mem_cons.mpr ⟨List.mem_cons_of_mem _ (List.mem_append_left _ (List.mem_of_getElem? (i := 15) rfl)), nowords_in⟩⟩⟩⟩, (fun _ h => List.mem_cons_of_mem _ (List.mem_append_right _ (h)))⟩⟩)
set_option maxRecDepth 20000 in
theorem gX0_rainDays_X0_daysThere : GoodIn wsX0_rainDays (wsV RX0 112 RX0 yX0_daysThere wsX0_daysThere) := goodIn_app (goodIn_by gd_X0_rainDays (List.forall_mem_cons.mpr ⟨List.mem_cons_of_mem _ (List.mem_append_left _ (List.mem_of_getElem? (i := 18) rfl)), List.forall_mem_cons.mpr ⟨List.mem_cons_of_mem _ (List.mem_append_left _ (List.mem_of_getElem? (i := 19) rfl)), List.forall_mem_cons.mpr ⟨List.mem_cons_of_mem _ (List.mem_append_left _ (List.mem_of_getElem? (i := 20) rfl)), List.forall_mem_cons.mpr ⟨List.mem_cons_of_mem _ (List.mem_append_left _ (List.mem_of_getElem? (i := 5) rfl)), nowords_in⟩⟩⟩⟩)) ggX0_rainDays_X0_daysThere
theorem dX0_rainDays_0 : decode cX0_rainDays 0 = .ok (.aload_n 0, 1) := by decide +kernel
theorem dX0_rainDays_1 : decode cX0_rainDays 1 = .ok (.getfield 31, 3) := by decide +kernel
theorem dX0_rainDays_4 : decode cX0_rainDays 4 = .ok (.iload_n 1, 1) := by decide +kernel
theorem dX0_rainDays_5 : decode cX0_rainDays 5 = .ok (.laload, 1) := by decide +kernel
theorem dX0_rainDays_6 : decode cX0_rainDays 6 = .ok (.aload_n 0, 1) := by decide +kernel
theorem dX0_rainDays_7 : decode cX0_rainDays 7 = .ok (.iload_n 1, 1) := by decide +kernel
theorem dX0_rainDays_8 : decode cX0_rainDays 8 = .ok (.invokevirtual 91, 3) := by decide +kernel
theorem dX0_rainDays_11 : decode cX0_rainDays 11 = .ok (.land, 1) := by decide +kernel
theorem dX0_rainDays_12 : decode cX0_rainDays 12 = .ok (.aload_n 0, 1) := by decide +kernel
theorem dX0_rainDays_13 : decode cX0_rainDays 13 = .ok (.getfield 15, 3) := by decide +kernel
theorem dX0_rainDays_16 : decode cX0_rainDays 16 = .ok (.iload_n 1, 1) := by decide +kernel
theorem dX0_rainDays_17 : decode cX0_rainDays 17 = .ok (.iaload, 1) := by decide +kernel
theorem dX0_rainDays_18 : decode cX0_rainDays 18 = .ok (.invokestatic 87, 3) := by decide +kernel
theorem dX0_rainDays_21 : decode cX0_rainDays 21 = .ok (.aload_n 0, 1) := by decide +kernel
theorem dX0_rainDays_22 : decode cX0_rainDays 22 = .ok (.invokevirtual 112, 3) := by decide +kernel
theorem dX0_rainDays_25 : decode cX0_rainDays 25 = .ok (.land, 1) := by decide +kernel
theorem dX0_rainDays_26 : decode cX0_rainDays 26 = .ok (.lreturn, 1) := by decide +kernel
abbrev rmX0_rainDays : Room := { frames := 2, cells := 0, slots := 0, locals := 41 }
set_option maxHeartbeats 4000000 in
set_option maxRecDepth 100000 in
theorem kX0_rainDays (l : Launch) (D : va_G) (cy : Nat → ClassId) (h0 : Nat) (a0 : Nat → Nat) (s0 : Rc) (p1 : Int32) (res : Int64) (h : fX0_rainDays p1 s0 = some res) : CL l D cy yX0_rainDays wsX0_rainDays rmX0_rainDays [.ref h0, .int p1] (flat [WX0 cy h0 a0 s0]) (flat [WX0 cy h0 a0 s0]) res := by
  refine CL.of (cc := cX0_rainDays) (maxL := 2) (by decide) rfl (Nat.le_of_ble_eq_true rfl) ?_
  intro p e s m args below meth c A QQ ls E hr
  obtain ⟨hx, hb, hml, hown, hts, hK, hN, hP, hD, hA, hl⟩ := E
  have hret : ∀ (pc : Nat) (H : Heap) (locs : List Loc) (ls : Array Slot) (u : Int64), u = res → va_P D vwCl (flat [WX0 cy h0 a0 s0]) H → va_D A (flat [WX0 cy h0 a0 s0]) → va_S A s.heap H locs → decode cX0_rainDays pc = .ok (.lreturn, 1) → W p l e rmX0_rainDays s m args below meth c H locs 0 0 QQ (F0 m pc ls [.long u]) := by
    intro pc H locs ls u hu hP hD hS hd; subst hu; exact hr pc H locs ls _ rfl hP hD hS hd
  clear hr
  have hl : lv_has ls 2 [(0, .ref h0), (1, .int p1)] := hl
  have hinX0 : ∀ w ∈ wsX00, w ∈ wsX0_rainDays := fun _ h => List.mem_cons_of_mem _ (List.mem_append_right _ h)
  unfold fX0_rainDays at h
  suffices key : ∀ (H : Heap) (locs : List Loc), va_P D vwCl (flat [WX0 cy h0 a0 s0]) H → va_S A s.heap H locs → W p l e rmX0_rainDays s m args below meth c H locs 0 0 QQ (F0 m 0 ls []) from key _ _ hP va_S.rf
  clear hP
  intro H locs hP hS
  refine lv_aload_n hx hb dX0_rainDays_0 rfl (lv_at hl 0 rfl) ?_
  refine va_get (D := D) (ci := 0) (v := .ref (a0 6)) (C := RX0) (T := TX0) (N := 14) hx hb hts hinX0 hown hK hP 0 rfl rfl 6 (by decide) (hts (.fieldLink RX0 31 "KneeBench$Bench" "twinges" "[J") (List.mem_of_getElem? (i := 1) rfl)) (fun _ h9 => h9) rfl dX0_rainDays_1 ?_
  refine lv_iload_n hx hb dX0_rainDays_4 rfl (lv_at hl 1 rfl) ?_
  obtain ⟨g1, h⟩ := gd_elim h
  refine va_lald hx hb hK hP 7 2 rfl rfl (inb_in g1) dX0_rainDays_5 ?_
  refine lv_aload_n hx hb dX0_rainDays_6 rfl (lv_at hl 0 rfl) ?_
  refine lv_iload_n hx hb dX0_rainDays_7 rfl (lv_at hl 1 rfl) ?_
  obtain ⟨r2, hr2, h⟩ := bd_elim h
  refine ca_l (w' := [WX0 cy h0 a0 s0]) (rn_V (As := [.int p1]) (rest := [.long (gb s0 6 p1.toNatClampNeg)]) ⟨hx, hb, hml, hown, hts⟩ (kX0_feelingDays l D cy h0 a0 s0 p1 r2 hr2 H.size) (cwV 1 hts gX0_rainDays_X0_feelingDays rfl rfl rfl (by decide +kernel) ⟨Nat.le_of_ble_eq_true rfl, Nat.le_of_ble_eq_true rfl⟩) hK hN hP hD [0] rfl rfl (ci := 0) (q0 := 0) rfl rfl rfl rfl hl.1 rfl (Nat.le_of_ble_eq_true rfl) dX0_rainDays_8 ⟨Nat.le_refl 0, Nat.le_refl 0⟩) hP hD hS hA [0] ⟨rfl, rfl, rfl, rfl⟩ (fun H locs hP hD hS => ?_)
  refine lv_land hx hb dX0_rainDays_11 ?_
  refine lv_aload_n hx hb dX0_rainDays_12 rfl (lv_at hl 0 rfl) ?_
  refine va_get (D := D) (ci := 0) (v := .ref (a0 1)) (C := RX0) (T := TX0) (N := 14) hx hb hts hinX0 hown hK hP 0 rfl rfl 1 (by decide) (hts (.fieldLink RX0 15 "KneeBench$Bench" "lags" "[I") (List.mem_of_getElem? (i := 2) rfl)) (fun _ h9 => h9) rfl dX0_rainDays_13 ?_
  refine lv_iload_n hx hb dX0_rainDays_16 rfl (lv_at hl 1 rfl) ?_
  refine va_iald hx hb hK hP 2 1 rfl rfl (inb_in g1) dX0_rainDays_17 ?_
  refine ca_l (w' := [WX0 cy h0 a0 s0]) (rn_SN (As := [.long ((gb s0 6 p1.toNatClampNeg) &&& r2), .int (ga s0 1 p1.toNatClampNeg)]) (rest := []) ⟨hx, hb, hml, hown, hts⟩ (kX10_later l D cy ((gb s0 6 p1.toNatClampNeg) &&& r2) (ga s0 1 p1.toNatClampNeg) _ rfl H.size) ⟨va_cnB 2 hts gX0_rainDays_X10_later_n87 rfl rfl rfl (NW.met hN 12 rfl) (hts (.initialized RX10) (List.mem_of_getElem? (i := 15) rfl)) (by decide +kernel) ⟨Nat.le_of_ble_eq_true rfl, Nat.le_of_ble_eq_true rfl⟩, hts (.static yX10_later) (List.mem_of_getElem? (i := 17) rfl), trivial⟩ hK hN hP hD [] rfl rfl rfl hl.1 rfl (Nat.le_of_ble_eq_true rfl) dX0_rainDays_18 ⟨Nat.le_refl 0, Nat.le_refl 0⟩) hP hD hS hA [] ⟨rfl, rfl, rfl, rfl⟩ (fun H locs hP hD hS => ?_)
  refine lv_aload_n hx hb dX0_rainDays_21 rfl (lv_at hl 0 rfl) ?_
  refine ca_l (w' := [WX0 cy h0 a0 s0]) (rn_V (As := []) (rest := [.long (fX10_later ((gb s0 6 p1.toNatClampNeg) &&& r2) (ga s0 1 p1.toNatClampNeg))]) ⟨hx, hb, hml, hown, hts⟩ (kX0_daysThere l D cy h0 a0 s0 _ rfl H.size) (cwV 0 hts gX0_rainDays_X0_daysThere rfl rfl rfl (by decide +kernel) ⟨Nat.le_of_ble_eq_true rfl, Nat.le_of_ble_eq_true rfl⟩) hK hN hP hD [0] rfl rfl (ci := 0) (q0 := 0) rfl rfl rfl rfl hl.1 rfl (Nat.le_of_ble_eq_true rfl) dX0_rainDays_22 ⟨Nat.le_refl 0, Nat.le_refl 0⟩) hP hD hS hA [0] ⟨rfl, rfl, rfl, rfl⟩ (fun H locs hP hD hS => ?_)
  refine lv_land hx hb dX0_rainDays_25 ?_
  exact hret 26 H locs ls ((fX10_later ((gb s0 6 p1.toNatClampNeg) &&& r2) (ga s0 1 p1.toNatClampNeg)) &&& (fX0_daysThere s0)) (Option.some.inj h) hP hD hS dX0_rainDays_26
theorem gd_X0_rainDaysOfSet : wsX0_rainDaysOfSet.all goodWord = true := by decide +kernel
set_option maxRecDepth 20000 in
theorem ggX0_rainDaysOfSet_X0_rainDays : GoodIn wsX0_rainDaysOfSet wsX0_rainDays := goodIn_by gd_X0_rainDaysOfSet (List.forall_mem_cons.mpr ⟨List.mem_cons_of_mem _ (List.mem_append_left _ (List.mem_append_left _ (List.mem_of_getElem? (i := 5) rfl))), List.forall_mem_append.mpr ⟨List.forall_mem_cons.mpr ⟨List.mem_cons_of_mem _ (List.mem_append_left _ (List.mem_append_left _ (List.mem_of_getElem? (i := 6) rfl))), List.forall_mem_cons.mpr ⟨List.mem_cons_of_mem _ (List.mem_append_left _ (List.mem_append_left _ (List.mem_of_getElem? (i := 7) rfl))), List.forall_mem_cons.mpr ⟨List.mem_cons_of_mem _ (List.mem_append_left _ (List.mem_append_left _ (List.mem_of_getElem? (i := 8) rfl))), List.forall_mem_cons.mpr ⟨List.mem_cons_of_mem _ (List.mem_append_left _ (List.mem_append_left _ (List.mem_of_getElem? (i := 9) rfl))), List.forall_mem_cons.mpr ⟨List.mem_cons_of_mem _ (List.mem_append_left _ (List.mem_append_left _ (List.mem_of_getElem? (i := 10) rfl))), List.forall_mem_cons.mpr ⟨List.mem_cons_of_mem _ (List.mem_append_left _ (List.mem_append_left _ (List.mem_of_getElem? (i := 4) rfl))), List.forall_mem_cons.mpr ⟨List.mem_cons_of_mem _ (List.mem_append_left _ (List.mem_append_left _ (List.mem_of_getElem? (i := 11) rfl))), List.forall_mem_cons.mpr ⟨List.mem_cons_of_mem _ (List.mem_append_left _ (List.mem_append_left _ (List.mem_of_getElem? (i := 12) rfl))), List.forall_mem_cons.mpr ⟨List.mem_cons_of_mem _ (List.mem_append_left _ (List.mem_append_left _ (List.mem_of_getElem? (i := 13) rfl))), List.forall_mem_cons.mpr ⟨List.mem_cons_of_mem _ (List.mem_append_left _ (List.mem_append_left _ (List.mem_of_getElem? (i := 14) rfl))), List.forall_mem_cons.mpr ⟨List.mem_cons_of_mem _ (List.mem_append_left _ (List.mem_append_left _ (List.mem_of_getElem? (i := 15) rfl))), List.forall_mem_cons.mpr ⟨List.mem_cons_of_mem _ (List.mem_append_left _ (List.mem_append_left _ (List.mem_of_getElem? (i := 16) rfl))), List.forall_mem_cons.mpr ⟨List.mem_cons_of_mem _ (List.mem_append_left _ (List.mem_append_left _ (List.mem_of_getElem? (i := 17) rfl))), List.forall_mem_cons.mpr ⟨List.mem_cons_of_mem _ (List.mem_append_left _ (List.mem_append_left _ (List.mem_of_getElem? (i := 18) rfl))), List.forall_mem_cons.mpr ⟨List.mem_cons_of_mem _ (List.mem_append_left _ (List.mem_append_left _ (List.mem_of_getElem? (i := 19) rfl))), List.forall_mem_cons.mpr ⟨List.mem_cons_of_mem _ (List.mem_append_left _ (List.mem_append_left _ (List.mem_of_getElem? (i := 20) rfl))), List.forall_mem_cons.mpr ⟨List.mem_cons_of_mem _ (List.mem_append_left _ (List.mem_append_left _ (List.mem_of_getElem? (i := 21) rfl))), List.forall_mem_cons.mpr ⟨List.mem_cons_of_mem _ (List.mem_append_left _ (List.mem_append_left _ (List.mem_of_getElem? (i := 22) rfl))), List.forall_mem_cons.mpr ⟨List.mem_cons_of_mem _ (List.mem_append_left _ (List.mem_append_left _ (List.mem_of_getElem? (i := 23) rfl))), List.forall_mem_cons.mpr ⟨List.mem_cons_of_mem _ (List.mem_append_left _ (List.mem_append_right _ (List.mem_of_getElem? (i := 0) rfl))), List.forall_mem_cons.mpr ⟨List.mem_cons_of_mem _ (List.mem_append_left _ (List.mem_append_right _ (List.mem_of_getElem? (i := 1) rfl))), List.forall_mem_cons.mpr ⟨List.mem_cons_of_mem _ (List.mem_append_left _ (List.mem_append_right _ (List.mem_of_getElem? (i := 2) rfl))), nowords_in⟩⟩⟩⟩⟩⟩⟩⟩⟩⟩⟩⟩⟩⟩⟩⟩⟩⟩⟩⟩⟩⟩, (fun _ h => List.mem_cons_of_mem _ (List.mem_append_right _ (h)))⟩⟩)
set_option maxRecDepth 20000 in
theorem gX0_rainDaysOfSet_X0_rainDays : GoodIn wsX0_rainDaysOfSet (wsV RX0 125 RX0 yX0_rainDays wsX0_rainDays) := goodIn_app (goodIn_by gd_X0_rainDaysOfSet (List.forall_mem_cons.mpr ⟨List.mem_cons_of_mem _ (List.mem_append_left _ (List.mem_append_left _ (List.mem_of_getElem? (i := 1) rfl))), List.forall_mem_cons.mpr ⟨List.mem_cons_of_mem _ (List.mem_append_left _ (List.mem_append_left _ (List.mem_of_getElem? (i := 2) rfl))), List.forall_mem_cons.mpr ⟨List.mem_cons_of_mem _ (List.mem_append_left _ (List.mem_append_left _ (List.mem_of_getElem? (i := 3) rfl))), List.forall_mem_cons.mpr ⟨List.mem_cons_of_mem _ (List.mem_append_left _ (List.mem_append_left _ (List.mem_of_getElem? (i := 4) rfl))), nowords_in⟩⟩⟩⟩)) ggX0_rainDaysOfSet_X0_rainDays
theorem dX0_rainDaysOfSet_0 : decode cX0_rainDaysOfSet 0 = .ok (.lconst 0, 1) := by decide +kernel
theorem dX0_rainDaysOfSet_1 : decode cX0_rainDaysOfSet 1 = .ok (.lstore_n 2, 1) := by decide +kernel
theorem dX0_rainDaysOfSet_2 : decode cX0_rainDaysOfSet 2 = .ok (.iconst 0, 1) := by decide +kernel
theorem dX0_rainDaysOfSet_3 : decode cX0_rainDaysOfSet 3 = .ok (.istore 4, 2) := by decide +kernel
theorem dX0_rainDaysOfSet_5 : decode cX0_rainDaysOfSet 5 = .ok (.iload 4, 2) := by decide +kernel
theorem dX0_rainDaysOfSet_7 : decode cX0_rainDaysOfSet 7 = .ok (.aload_n 0, 1) := by decide +kernel
theorem dX0_rainDaysOfSet_8 : decode cX0_rainDaysOfSet 8 = .ok (.getfield 37, 3) := by decide +kernel
theorem dX0_rainDaysOfSet_11 : decode cX0_rainDaysOfSet 11 = .ok (.if_icmp .ge 27, 3) := by decide +kernel
theorem dX0_rainDaysOfSet_14 : decode cX0_rainDaysOfSet 14 = .ok (.iload_n 1, 1) := by decide +kernel
theorem dX0_rainDaysOfSet_15 : decode cX0_rainDaysOfSet 15 = .ok (.iload 4, 2) := by decide +kernel
theorem dX0_rainDaysOfSet_17 : decode cX0_rainDaysOfSet 17 = .ok (.iushr, 1) := by decide +kernel
theorem dX0_rainDaysOfSet_18 : decode cX0_rainDaysOfSet 18 = .ok (.iconst 1, 1) := by decide +kernel
theorem dX0_rainDaysOfSet_19 : decode cX0_rainDaysOfSet 19 = .ok (.iand, 1) := by decide +kernel
theorem dX0_rainDaysOfSet_20 : decode cX0_rainDaysOfSet 20 = .ok (.ifCond .eq 12, 3) := by decide +kernel
theorem dX0_rainDaysOfSet_23 : decode cX0_rainDaysOfSet 23 = .ok (.lload_n 2, 1) := by decide +kernel
theorem dX0_rainDaysOfSet_24 : decode cX0_rainDaysOfSet 24 = .ok (.aload_n 0, 1) := by decide +kernel
theorem dX0_rainDaysOfSet_25 : decode cX0_rainDaysOfSet 25 = .ok (.iload 4, 2) := by decide +kernel
theorem dX0_rainDaysOfSet_27 : decode cX0_rainDaysOfSet 27 = .ok (.invokevirtual 125, 3) := by decide +kernel
theorem dX0_rainDaysOfSet_30 : decode cX0_rainDaysOfSet 30 = .ok (.lor, 1) := by decide +kernel
theorem dX0_rainDaysOfSet_31 : decode cX0_rainDaysOfSet 31 = .ok (.lstore_n 2, 1) := by decide +kernel
theorem dX0_rainDaysOfSet_32 : decode cX0_rainDaysOfSet 32 = .ok (.iinc 4 1, 3) := by decide +kernel
theorem dX0_rainDaysOfSet_35 : decode cX0_rainDaysOfSet 35 = .ok (.goto (-30), 3) := by decide +kernel
theorem dX0_rainDaysOfSet_38 : decode cX0_rainDaysOfSet 38 = .ok (.lload_n 2, 1) := by decide +kernel
theorem dX0_rainDaysOfSet_39 : decode cX0_rainDaysOfSet 39 = .ok (.lreturn, 1) := by decide +kernel
abbrev rmX0_rainDaysOfSet : Room := { frames := 3, cells := 0, slots := 0, locals := 62 }
set_option maxHeartbeats 4000000 in
set_option maxRecDepth 100000 in
theorem kX0_rainDaysOfSet (l : Launch) (D : va_G) (cy : Nat → ClassId) (h0 : Nat) (a0 : Nat → Nat) (s0 : Rc) (p1 : Int32) (res : Int64) (h : fX0_rainDaysOfSet p1 s0 = some res) : CL l D cy yX0_rainDaysOfSet wsX0_rainDaysOfSet rmX0_rainDaysOfSet [.ref h0, .int p1] (flat [WX0 cy h0 a0 s0]) (flat [WX0 cy h0 a0 s0]) res := by
  refine CL.of (cc := cX0_rainDaysOfSet) (maxL := 5) (by decide) rfl (Nat.le_of_ble_eq_true rfl) ?_
  intro p e s m args below meth c A QQ ls E hr
  obtain ⟨hx, hb, hml, hown, hts, hK, hN, hP, hD, hA, hl⟩ := E
  have hret : ∀ (pc : Nat) (H : Heap) (locs : List Loc) (ls : Array Slot) (u : Int64), u = res → va_P D vwCl (flat [WX0 cy h0 a0 s0]) H → va_D A (flat [WX0 cy h0 a0 s0]) → va_S A s.heap H locs → decode cX0_rainDaysOfSet pc = .ok (.lreturn, 1) → W p l e rmX0_rainDaysOfSet s m args below meth c H locs 0 0 QQ (F0 m pc ls [.long u]) := by
    intro pc H locs ls u hu hP hD hS hd; subst hu; exact hr pc H locs ls _ rfl hP hD hS hd
  clear hr
  have hl : lv_has ls 5 [(0, .ref h0), (1, .int p1)] := hl
  have hinX0 : ∀ w ∈ wsX00, w ∈ wsX0_rainDaysOfSet := fun _ h => List.mem_cons_of_mem _ (List.mem_append_right _ h)
  unfold fX0_rainDaysOfSet at h
  suffices key : ∀ (H : Heap) (locs : List Loc), va_P D vwCl (flat [WX0 cy h0 a0 s0]) H → va_S A s.heap H locs → W p l e rmX0_rainDaysOfSet s m args below meth c H locs 0 0 QQ (F0 m 0 ls []) from key _ _ hP va_S.rf
  clear hP
  intro H locs hP hS
  refine lv_lconst (v := 0) hx hb dX0_rainDaysOfSet_0 (by decide) ?_
  refine lv_lstore_n (lv' := [(2, .long (0 : Int64)), (0, .ref h0), (1, .int p1)]) hx hb dX0_rainDaysOfSet_1 rfl hl (by decide) rfl (fun ls hl => ?_)
  refine lv_iconst (v := 0) hx hb dX0_rainDaysOfSet_2 (by decide) ?_
  refine lv_istore (lv' := [(4, .int (0 : Int32)), (2, .long (0 : Int64)), (0, .ref h0), (1, .int p1)]) hx hb dX0_rainDaysOfSet_3 hl (by decide) rfl (fun ls hl => ?_)
  have L5 : ∀ (n : Nat) (q5 : Int64 × Int32) (o : Int64), loopO (fX0_rainDaysOfSet_L5 p1 s0) n q5 = some o → ∀ (H : Heap) (locs : List Loc) (ls : Array Slot), lv_has ls 5 [(0, .ref h0), (1, .int p1), (2, .long q5.1), (4, .int q5.2)] → va_P D vwCl (flat [WX0 cy h0 a0 s0]) H → va_D A (flat [WX0 cy h0 a0 s0]) → va_S A s.heap H locs → ∀ (kk38 : ∀ (H : Heap) (locs : List Loc) (ls : Array Slot), lv_has ls 5 [(2, .long o)] → va_P D vwCl (flat [WX0 cy h0 a0 s0]) H → va_D A (flat [WX0 cy h0 a0 s0]) → va_S A s.heap H locs → W p l e rmX0_rainDaysOfSet s m args below meth c H locs 0 0 QQ (F0 m 38 ls [])), W p l e rmX0_rainDaysOfSet s m args below meth c H locs 0 0 QQ (F0 m 5 ls []) := by
    intro n
    induction n with
    | zero => intro q5 o h; exact absurd h (by rw [loopO_zero]; intro z; cases z)
    | succ n ih =>
      intro q5 o h H locs ls hl hP hD hS kk38
      obtain ⟨w, h, hgo, hst⟩ := loopO_elim h
      unfold fX0_rainDaysOfSet_L5 at h
      refine lv_iload hx hb dX0_rainDaysOfSet_5 (lv_at hl 3 rfl) ?_
      refine lv_aload_n hx hb dX0_rainDaysOfSet_7 rfl (lv_at hl 0 rfl) ?_
      refine va_get (D := D) (ci := 0) (v := .int (gi s0 8)) (C := RX0) (T := TX0) (N := 14) hx hb hts hinX0 hown hK hP 0 rfl rfl 8 (by decide) (hts (.fieldLink RX0 37 "KneeBench$Bench" "farmers" "I") (List.mem_of_getElem? (i := 1) rfl)) (fun _ h9 => h9) rfl dX0_rainDaysOfSet_8 ?_
      refine lv_icmp_ge (tgt := 38) hx hb dX0_rainDaysOfSet_11 (by decide) (fun c1 => ?_) (fun c1 => ?_)
      · replace h := (if_pos c1).symm.trans h
        have eo := hst _ (Option.some.inj h).symm
        subst eo
        exact kk38 H locs ls (lv_sub hl [2] rfl) hP hD hS
      · replace h := (if_neg c1).symm.trans h
        refine lv_iload_n hx hb dX0_rainDaysOfSet_14 rfl (lv_at hl 1 rfl) ?_
        refine lv_iload hx hb dX0_rainDaysOfSet_15 (lv_at hl 3 rfl) ?_
        refine lv_iushr hx hb dX0_rainDaysOfSet_17 rfl ?_
        refine lv_iconst (v := 1) hx hb dX0_rainDaysOfSet_18 (by decide) ?_
        refine lv_iand hx hb dX0_rainDaysOfSet_19 ?_
        refine lv_if_eq (tgt := 32) hx hb dX0_rainDaysOfSet_20 (by decide) (fun c2 => ?_) (fun c2 => ?_)
        · replace h := (if_pos c2).symm.trans h
          refine lv_iinc (v := (q5.2 + (1 : Int32))) (lv' := [(4, .int (q5.2 + (1 : Int32))), (0, .ref h0), (1, .int p1), (2, .long q5.1)]) hx hb dX0_rainDaysOfSet_32 hl (k := 3) rfl rfl (by decide) rfl (fun ls hl => ?_)
          refine lv_goto (tgt := 5) hx hb dX0_rainDaysOfSet_35 (by decide) ?_
          exact ih _ o (hgo _ (Option.some.inj h).symm) H locs ls (lv_sub hl [1, 2, 3, 0] rfl) hP hD hS kk38
        · replace h := (if_neg c2).symm.trans h
          refine lv_lload_n hx hb dX0_rainDaysOfSet_23 rfl (lv_at hl 2 rfl) ?_
          refine lv_aload_n hx hb dX0_rainDaysOfSet_24 rfl (lv_at hl 0 rfl) ?_
          refine lv_iload hx hb dX0_rainDaysOfSet_25 (lv_at hl 3 rfl) ?_
          obtain ⟨r3, hr3, h⟩ := bd_elim h
          refine ca_l (w' := [WX0 cy h0 a0 s0]) (rn_V (As := [.int q5.2]) (rest := [.long q5.1]) ⟨hx, hb, hml, hown, hts⟩ (kX0_rainDays l D cy h0 a0 s0 q5.2 r3 hr3 H.size) (cwV 1 hts gX0_rainDaysOfSet_X0_rainDays rfl rfl rfl (by decide +kernel) ⟨Nat.le_of_ble_eq_true rfl, Nat.le_of_ble_eq_true rfl⟩) hK hN hP hD [0] rfl rfl (ci := 0) (q0 := 0) rfl rfl rfl rfl hl.1 rfl (Nat.le_of_ble_eq_true rfl) dX0_rainDaysOfSet_27 ⟨Nat.le_refl 0, Nat.le_refl 0⟩) hP hD hS hA [0] ⟨rfl, rfl, rfl, rfl⟩ (fun H locs hP hD hS => ?_)
          refine lv_lor hx hb dX0_rainDaysOfSet_30 ?_
          refine lv_topl (fun x4 ex4 => ?_)
          replace h := lt_use h x4 ex4
          refine lv_lstore_n (lv' := [(2, .long x4), (0, .ref h0), (1, .int p1), (4, .int q5.2)]) hx hb dX0_rainDaysOfSet_31 rfl hl (by decide) rfl (fun ls hl => ?_)
          refine lv_iinc (v := (q5.2 + (1 : Int32))) (lv' := [(4, .int (q5.2 + (1 : Int32))), (2, .long x4), (0, .ref h0), (1, .int p1)]) hx hb dX0_rainDaysOfSet_32 hl (k := 3) rfl rfl (by decide) rfl (fun ls hl => ?_)
          refine lv_goto (tgt := 5) hx hb dX0_rainDaysOfSet_35 (by decide) ?_
          exact ih _ o (hgo _ (Option.some.inj h).symm) H locs ls (lv_sub hl [2, 3, 1, 0] rfl) hP hD hS kk38
  obtain ⟨o5, ho5, h⟩ := bd_elim h
  obtain ⟨n5, hn5⟩ := loopF_some ho5
  refine L5 n5 _ o5 hn5 H locs ls (lv_sub hl [2, 3, 1, 0] rfl) hP hD hS (fun H locs ls hl hP hD hS => ?_)
  refine lv_lload_n hx hb dX0_rainDaysOfSet_38 rfl (lv_at hl 0 rfl) ?_
  exact hret 39 H locs ls o5 (Option.some.inj h) hP hD hS dX0_rainDaysOfSet_39
theorem gd_X0_isEnough : wsX0_isEnough.all goodWord = true := by decide +kernel
set_option maxRecDepth 20000 in
theorem ggX0_isEnough_X0_rainDaysOfSet : GoodIn wsX0_isEnough wsX0_rainDaysOfSet := goodIn_by gd_X0_isEnough (List.forall_mem_cons.mpr ⟨List.mem_cons_of_mem _ (List.mem_append_left _ (List.mem_append_left _ (List.mem_of_getElem? (i := 6) rfl))), List.forall_mem_append.mpr ⟨List.forall_mem_append.mpr ⟨List.forall_mem_cons.mpr ⟨List.mem_cons_of_mem _ (List.mem_append_left _ (List.mem_append_left _ (List.mem_of_getElem? (i := 7) rfl))), List.forall_mem_cons.mpr ⟨List.mem_cons_of_mem _ (List.mem_append_left _ (List.mem_append_left _ (List.mem_of_getElem? (i := 8) rfl))), List.forall_mem_cons.mpr ⟨List.mem_cons_of_mem _ (List.mem_append_left _ (List.mem_append_left _ (List.mem_of_getElem? (i := 9) rfl))), List.forall_mem_cons.mpr ⟨List.mem_cons_of_mem _ (List.mem_append_left _ (List.mem_append_left _ (List.mem_of_getElem? (i := 10) rfl))), List.forall_mem_cons.mpr ⟨List.mem_cons_of_mem _ (List.mem_append_left _ (List.mem_append_left _ (List.mem_of_getElem? (i := 5) rfl))), List.forall_mem_cons.mpr ⟨List.mem_cons_of_mem _ (List.mem_append_left _ (List.mem_append_left _ (List.mem_of_getElem? (i := 11) rfl))), List.forall_mem_cons.mpr ⟨List.mem_cons_of_mem _ (List.mem_append_left _ (List.mem_append_left _ (List.mem_of_getElem? (i := 12) rfl))), List.forall_mem_cons.mpr ⟨List.mem_cons_of_mem _ (List.mem_append_left _ (List.mem_append_left _ (List.mem_of_getElem? (i := 13) rfl))), List.forall_mem_cons.mpr ⟨List.mem_cons_of_mem _ (List.mem_append_left _ (List.mem_append_left _ (List.mem_of_getElem? (i := 14) rfl))), List.forall_mem_cons.mpr ⟨List.mem_cons_of_mem _ (List.mem_append_left _ (List.mem_append_left _ (List.mem_of_getElem? (i := 15) rfl))), List.forall_mem_cons.mpr ⟨List.mem_cons_of_mem _ (List.mem_append_left _ (List.mem_append_left _ (List.mem_of_getElem? (i := 16) rfl))), List.forall_mem_cons.mpr ⟨List.mem_cons_of_mem _ (List.mem_append_left _ (List.mem_append_left _ (List.mem_of_getElem? (i := 17) rfl))), List.forall_mem_cons.mpr ⟨List.mem_cons_of_mem _ (List.mem_append_left _ (List.mem_append_left _ (List.mem_of_getElem? (i := 18) rfl))), List.forall_mem_cons.mpr ⟨List.mem_cons_of_mem _ (List.mem_append_left _ (List.mem_append_left _ (List.mem_of_getElem? (i := 19) rfl))), List.forall_mem_cons.mpr ⟨List.mem_cons_of_mem _ (List.mem_append_left _ (List.mem_append_left _ (List.mem_of_getElem? (i := 20) rfl))), List.forall_mem_cons.mpr ⟨List.mem_cons_of_mem _ (List.mem_append_left _ (List.mem_append_left _ (List.mem_of_getElem? (i := 21) rfl))), List.forall_mem_cons.mpr ⟨List.mem_cons_of_mem _ (List.mem_append_left _ (List.mem_append_left _ (List.mem_of_getElem? (i := 22) rfl))), List.forall_mem_cons.mpr ⟨List.mem_cons_of_mem _ (List.mem_append_left _ (List.mem_append_left _ (List.mem_of_getElem? (i := 23) rfl))), List.forall_mem_cons.mpr ⟨List.mem_cons_of_mem _ (List.mem_append_left _ (List.mem_append_right _ (List.mem_of_getElem? (i := 0) rfl))), List.forall_mem_cons.mpr ⟨List.mem_cons_of_mem _ (List.mem_append_left _ (List.mem_append_right _ (List.mem_of_getElem? (i := 1) rfl))), List.forall_mem_cons.mpr ⟨List.mem_cons_of_mem _ (List.mem_append_left _ (List.mem_append_right _ (List.mem_of_getElem? (i := 2) rfl))), List.forall_mem_cons.mpr ⟨List.mem_cons_of_mem _ (List.mem_append_left _ (List.mem_append_right _ (List.mem_of_getElem? (i := 3) rfl))), List.forall_mem_cons.mpr ⟨List.mem_cons_of_mem _ (List.mem_append_left _ (List.mem_append_right _ (List.mem_of_getElem? (i := 4) rfl))), List.forall_mem_cons.mpr ⟨List.mem_cons_of_mem _ (List.mem_append_left _ (List.mem_append_right _ (List.mem_of_getElem? (i := 5) rfl))), nowords_in⟩⟩⟩⟩⟩⟩⟩⟩⟩⟩⟩⟩⟩⟩⟩⟩⟩⟩⟩⟩⟩⟩⟩⟩, List.forall_mem_cons.mpr ⟨List.mem_cons_of_mem _ (List.mem_append_left _ (List.mem_append_right _ (List.mem_of_getElem? (i := 6) rfl))), List.forall_mem_cons.mpr ⟨List.mem_cons_of_mem _ (List.mem_append_left _ (List.mem_append_right _ (List.mem_of_getElem? (i := 7) rfl))), List.forall_mem_cons.mpr ⟨List.mem_cons_of_mem _ (List.mem_append_left _ (List.mem_append_right _ (List.mem_of_getElem? (i := 8) rfl))), nowords_in⟩⟩⟩⟩, (fun _ h => List.mem_cons_of_mem _ (List.mem_append_right _ (h)))⟩⟩)
set_option maxRecDepth 20000 in
theorem gX0_isEnough_X0_rainDaysOfSet : GoodIn wsX0_isEnough (wsV RX0 166 RX0 yX0_rainDaysOfSet wsX0_rainDaysOfSet) := goodIn_app (goodIn_by gd_X0_isEnough (List.forall_mem_cons.mpr ⟨List.mem_cons_of_mem _ (List.mem_append_left _ (List.mem_append_left _ (List.mem_of_getElem? (i := 2) rfl))), List.forall_mem_cons.mpr ⟨List.mem_cons_of_mem _ (List.mem_append_left _ (List.mem_append_left _ (List.mem_of_getElem? (i := 3) rfl))), List.forall_mem_cons.mpr ⟨List.mem_cons_of_mem _ (List.mem_append_left _ (List.mem_append_left _ (List.mem_of_getElem? (i := 4) rfl))), List.forall_mem_cons.mpr ⟨List.mem_cons_of_mem _ (List.mem_append_left _ (List.mem_append_left _ (List.mem_of_getElem? (i := 5) rfl))), nowords_in⟩⟩⟩⟩)) ggX0_isEnough_X0_rainDaysOfSet
set_option maxRecDepth 20000 in
theorem ggX0_isEnough_J13_bitCount_95d88 : GoodIn wsX0_isEnough wsJ13_bitCount_95d88 := goodIn_by gd_X0_isEnough (List.forall_mem_cons.mpr ⟨List.mem_cons_of_mem _ (List.mem_append_left _ (List.mem_append_right _ (List.mem_of_getElem? (i := 12) rfl))), List.forall_mem_cons.mpr ⟨List.mem_cons_of_mem _ (List.mem_append_left _ (List.mem_append_right _ (List.mem_of_getElem? (i := 13) rfl))), List.forall_mem_cons.mpr ⟨List.mem_cons_of_mem _ (List.mem_append_left _ (List.mem_append_right _ (List.mem_of_getElem? (i := 14) rfl))), List.forall_mem_cons.mpr ⟨List.mem_cons_of_mem _ (List.mem_append_left _ (List.mem_append_right _ (List.mem_of_getElem? (i := 15) rfl))), nowords_in⟩⟩⟩⟩)
set_option maxRecDepth 20000 in
theorem gX0_isEnough_J13_bitCount_95d88 : GoodIn wsX0_isEnough (va_wsS RX0 103 yJ13_bitCount_95d88 wsJ13_bitCount_95d88) := goodIn_app (goodIn_by gd_X0_isEnough (List.forall_mem_cons.mpr ⟨List.mem_cons_of_mem _ (List.mem_append_left _ (List.mem_append_right _ (List.mem_of_getElem? (i := 9) rfl))), List.forall_mem_cons.mpr ⟨List.mem_cons_of_mem _ (List.mem_append_left _ (List.mem_append_right _ (List.mem_of_getElem? (i := 10) rfl))), List.forall_mem_cons.mpr ⟨List.mem_cons_of_mem _ (List.mem_append_left _ (List.mem_append_right _ (List.mem_of_getElem? (i := 11) rfl))), nowords_in⟩⟩⟩)) ggX0_isEnough_J13_bitCount_95d88
theorem dX0_isEnough_0 : decode cX0_isEnough 0 = .ok (.aload_n 0, 1) := by decide +kernel
theorem dX0_isEnough_1 : decode cX0_isEnough 1 = .ok (.iload_n 1, 1) := by decide +kernel
theorem dX0_isEnough_2 : decode cX0_isEnough 2 = .ok (.invokevirtual 166, 3) := by decide +kernel
theorem dX0_isEnough_5 : decode cX0_isEnough 5 = .ok (.lstore_n 3, 1) := by decide +kernel
theorem dX0_isEnough_6 : decode cX0_isEnough 6 = .ok (.aload_n 0, 1) := by decide +kernel
theorem dX0_isEnough_7 : decode cX0_isEnough 7 = .ok (.getfield 44, 3) := by decide +kernel
theorem dX0_isEnough_10 : decode cX0_isEnough 10 = .ok (.lload_n 3, 1) := by decide +kernel
theorem dX0_isEnough_11 : decode cX0_isEnough 11 = .ok (.ldc2_w 116, 3) := by decide +kernel
theorem dX0_isEnough_14 : decode cX0_isEnough 14 = .ok (.lxor, 1) := by decide +kernel
theorem dX0_isEnough_15 : decode cX0_isEnough 15 = .ok (.land, 1) := by decide +kernel
theorem dX0_isEnough_16 : decode cX0_isEnough 16 = .ok (.lconst 0, 1) := by decide +kernel
theorem dX0_isEnough_17 : decode cX0_isEnough 17 = .ok (.lcmp, 1) := by decide +kernel
theorem dX0_isEnough_18 : decode cX0_isEnough 18 = .ok (.ifCond .ne 24, 3) := by decide +kernel
theorem dX0_isEnough_21 : decode cX0_isEnough 21 = .ok (.lload_n 3, 1) := by decide +kernel
theorem dX0_isEnough_22 : decode cX0_isEnough 22 = .ok (.aload_n 0, 1) := by decide +kernel
theorem dX0_isEnough_23 : decode cX0_isEnough 23 = .ok (.getfield 44, 3) := by decide +kernel
theorem dX0_isEnough_26 : decode cX0_isEnough 26 = .ok (.ldc2_w 116, 3) := by decide +kernel
theorem dX0_isEnough_29 : decode cX0_isEnough 29 = .ok (.lxor, 1) := by decide +kernel
theorem dX0_isEnough_30 : decode cX0_isEnough 30 = .ok (.land, 1) := by decide +kernel
theorem dX0_isEnough_31 : decode cX0_isEnough 31 = .ok (.invokestatic 103, 3) := by decide +kernel
theorem dX0_isEnough_34 : decode cX0_isEnough 34 = .ok (.iload_n 2, 1) := by decide +kernel
theorem dX0_isEnough_35 : decode cX0_isEnough 35 = .ok (.if_icmp .gt 7, 3) := by decide +kernel
theorem dX0_isEnough_38 : decode cX0_isEnough 38 = .ok (.iconst 1, 1) := by decide +kernel
theorem dX0_isEnough_39 : decode cX0_isEnough 39 = .ok (.goto 4, 3) := by decide +kernel
theorem dX0_isEnough_42 : decode cX0_isEnough 42 = .ok (.iconst 0, 1) := by decide +kernel
theorem dX0_isEnough_43 : decode cX0_isEnough 43 = .ok (.ireturn, 1) := by decide +kernel
abbrev rmX0_isEnough : Room := { frames := 4, cells := 0, slots := 0, locals := 86 }
set_option maxHeartbeats 4000000 in
set_option maxRecDepth 100000 in
theorem kX0_isEnough (l : Launch) (D : va_G) (cy : Nat → ClassId) (h0 : Nat) (a0 : Nat → Nat) (s0 : Rc) (p1 : Int32) (p2 : Int32) (res : Int32) (h : fX0_isEnough p1 p2 s0 = some res) : CZ l D cy yX0_isEnough wsX0_isEnough rmX0_isEnough [.ref h0, .int p1, .int p2] (flat [WX0 cy h0 a0 s0]) (flat [WX0 cy h0 a0 s0]) res := by
  refine CZ.of (cc := cX0_isEnough) (maxL := 5) (by decide) rfl (Nat.le_of_ble_eq_true rfl) ?_
  intro p e s m args below meth c A QQ ls E hr
  obtain ⟨hx, hb, hml, hown, hts, hK, hN, hP, hD, hA, hl⟩ := E
  have hret : ∀ (pc : Nat) (H : Heap) (locs : List Loc) (ls : Array Slot) (u : Int32), u = res → va_P D vwCl (flat [WX0 cy h0 a0 s0]) H → va_D A (flat [WX0 cy h0 a0 s0]) → va_S A s.heap H locs → isb u = true → decode cX0_isEnough pc = .ok (.ireturn, 1) → W p l e rmX0_isEnough s m args below meth c H locs 0 0 QQ (F0 m pc ls [.int u]) := by
    intro pc H locs ls u hu hP hD hS hz hd; subst hu; exact hr pc H locs ls _ rfl hP hD hS hz hd
  clear hr
  have hl : lv_has ls 5 [(0, .ref h0), (1, .int p1), (2, .int p2)] := hl
  have hinX0 : ∀ w ∈ wsX00, w ∈ wsX0_isEnough := fun _ h => List.mem_cons_of_mem _ (List.mem_append_right _ h)
  unfold fX0_isEnough at h
  suffices key : ∀ (H : Heap) (locs : List Loc), va_P D vwCl (flat [WX0 cy h0 a0 s0]) H → va_S A s.heap H locs → W p l e rmX0_isEnough s m args below meth c H locs 0 0 QQ (F0 m 0 ls []) from key _ _ hP va_S.rf
  clear hP
  intro H locs hP hS
  refine lv_aload_n hx hb dX0_isEnough_0 rfl (lv_at hl 0 rfl) ?_
  refine lv_iload_n hx hb dX0_isEnough_1 rfl (lv_at hl 1 rfl) ?_
  obtain ⟨r1, hr1, h⟩ := bd_elim h
  refine ca_l (w' := [WX0 cy h0 a0 s0]) (rn_V (As := [.int p1]) (rest := []) ⟨hx, hb, hml, hown, hts⟩ (kX0_rainDaysOfSet l D cy h0 a0 s0 p1 r1 hr1 H.size) (cwV 1 hts gX0_isEnough_X0_rainDaysOfSet rfl rfl rfl (by decide +kernel) ⟨Nat.le_of_ble_eq_true rfl, Nat.le_of_ble_eq_true rfl⟩) hK hN hP hD [0] rfl rfl (ci := 0) (q0 := 0) rfl rfl rfl rfl hl.1 rfl (Nat.le_of_ble_eq_true rfl) dX0_isEnough_2 ⟨Nat.le_refl 0, Nat.le_refl 0⟩) hP hD hS hA [0] ⟨rfl, rfl, rfl, rfl⟩ (fun H locs hP hD hS => ?_)
  refine lv_lstore_n (lv' := [(3, .long r1), (0, .ref h0), (1, .int p1), (2, .int p2)]) hx hb dX0_isEnough_5 rfl hl (by decide) rfl (fun ls hl => ?_)
  refine lv_aload_n hx hb dX0_isEnough_6 rfl (lv_at hl 1 rfl) ?_
  refine va_get (D := D) (ci := 0) (v := .long (gl s0 10)) (C := RX0) (T := TX0) (N := 14) hx hb hts hinX0 hown hK hP 0 rfl rfl 10 (by decide) (hts (.fieldLink RX0 44 "KneeBench$Bench" "wet" "J") (List.mem_of_getElem? (i := 1) rfl)) (fun _ h9 => h9) rfl dX0_isEnough_7 ?_
  refine lv_lload_n hx hb dX0_isEnough_10 rfl (lv_at hl 0 rfl) ?_
  refine lv_ldc2 (v := -1) hx hb hown (hts (.constantLong RX0 116 (-1)) (List.mem_of_getElem? (i := 2) rfl)) dX0_isEnough_11 ?_
  refine lv_lxor hx hb dX0_isEnough_14 ?_
  refine lv_land hx hb dX0_isEnough_15 ?_
  refine lv_lconst (v := 0) hx hb dX0_isEnough_16 (by decide) ?_
  refine W.lcmp hx hb dX0_isEnough_17 ?_
  refine lv_if_ne (tgt := 42) hx hb dX0_isEnough_18 (by decide) (fun c2 => ?_) (fun c2 => ?_)
  · replace h := (if_neg (fun z => c2 (lg_ceq.mpr z))).symm.trans h
    refine lv_iconst (v := 0) hx hb dX0_isEnough_42 (by decide) ?_
    exact hret 43 H locs ls (0 : Int32) (Option.some.inj h) hP hD hS (show isb (0 : Int32) = true by decide) dX0_isEnough_43
  · replace h := (if_pos (lg_ceq.mp c2)).symm.trans h
    refine lv_lload_n hx hb dX0_isEnough_21 rfl (lv_at hl 0 rfl) ?_
    refine lv_aload_n hx hb dX0_isEnough_22 rfl (lv_at hl 1 rfl) ?_
    refine va_get (D := D) (ci := 0) (v := .long (gl s0 10)) (C := RX0) (T := TX0) (N := 14) hx hb hts hinX0 hown hK hP 0 rfl rfl 10 (by decide) (hts (.fieldLink RX0 44 "KneeBench$Bench" "wet" "J") (List.mem_of_getElem? (i := 1) rfl)) (fun _ h9 => h9) rfl dX0_isEnough_23 ?_
    refine lv_ldc2 (v := -1) hx hb hown (hts (.constantLong RX0 116 (-1)) (List.mem_of_getElem? (i := 2) rfl)) dX0_isEnough_26 ?_
    refine lv_lxor hx hb dX0_isEnough_29 ?_
    refine lv_land hx hb dX0_isEnough_30 ?_
    refine ca_i (w' := [WX0 cy h0 a0 s0]) (rn_S (As := [.long (r1 &&& ((gl s0 10) ^^^ (-1 : Int64)))]) (rest := []) ⟨hx, hb, hml, hown, hts⟩ (kJ13_bitCount_95d88 l D cy (r1 &&& ((gl s0 10) ^^^ (-1 : Int64))) _ rfl H.size) (va_cwS 1 hts gX0_isEnough_J13_bitCount_95d88 rfl rfl rfl (by decide +kernel) ⟨Nat.le_of_ble_eq_true rfl, Nat.le_of_ble_eq_true rfl⟩) hK hN hP hD [] rfl rfl rfl hl.1 rfl (Nat.le_of_ble_eq_true rfl) dX0_isEnough_31 ⟨Nat.le_refl 0, Nat.le_refl 0⟩) hP hD hS hA [] ⟨rfl, rfl, rfl, rfl⟩ (fun H locs hP hD hS => ?_)
    refine lv_iload_n hx hb dX0_isEnough_34 rfl (lv_at hl 3 rfl) ?_
    refine lv_icmp_gt (tgt := 42) hx hb dX0_isEnough_35 (by decide) (fun c3 => ?_) (fun c3 => ?_)
    · replace h := (if_pos c3).symm.trans h
      refine lv_iconst (v := 0) hx hb dX0_isEnough_42 (by decide) ?_
      exact hret 43 H locs ls (0 : Int32) (Option.some.inj h) hP hD hS (show isb (0 : Int32) = true by decide) dX0_isEnough_43
    · replace h := (if_neg c3).symm.trans h
      refine lv_iconst (v := 1) hx hb dX0_isEnough_38 (by decide) ?_
      refine lv_goto (tgt := 43) hx hb dX0_isEnough_39 (by decide) ?_
      exact hret 43 H locs ls (1 : Int32) (Option.some.inj h) hP hD hS (show isb (1 : Int32) = true by decide) dX0_isEnough_43
theorem gd_X0_fewestKnees : wsX0_fewestKnees.all goodWord = true := by decide +kernel
set_option maxRecDepth 20000 in
theorem ggX0_fewestKnees_J6_bitCount_0f7a4 : GoodIn wsX0_fewestKnees wsJ6_bitCount_0f7a4 := goodIn_by gd_X0_fewestKnees (List.forall_mem_cons.mpr ⟨List.mem_cons_of_mem _ (List.mem_append_left _ (List.mem_append_left _ (List.mem_of_getElem? (i := 4) rfl))), List.forall_mem_cons.mpr ⟨List.mem_cons_of_mem _ (List.mem_append_left _ (List.mem_append_left _ (List.mem_of_getElem? (i := 5) rfl))), List.forall_mem_cons.mpr ⟨List.mem_cons_of_mem _ (List.mem_append_left _ (List.mem_append_left _ (List.mem_of_getElem? (i := 6) rfl))), List.forall_mem_cons.mpr ⟨List.mem_cons_of_mem _ (List.mem_append_left _ (List.mem_append_left _ (List.mem_of_getElem? (i := 7) rfl))), nowords_in⟩⟩⟩⟩)
set_option maxRecDepth 20000 in
theorem gX0_fewestKnees_J6_bitCount_0f7a4 : GoodIn wsX0_fewestKnees (va_wsS RX0 131 yJ6_bitCount_0f7a4 wsJ6_bitCount_0f7a4) := goodIn_app (goodIn_by gd_X0_fewestKnees (List.forall_mem_cons.mpr ⟨List.mem_cons_of_mem _ (List.mem_append_left _ (List.mem_append_left _ (List.mem_of_getElem? (i := 1) rfl))), List.forall_mem_cons.mpr ⟨List.mem_cons_of_mem _ (List.mem_append_left _ (List.mem_append_left _ (List.mem_of_getElem? (i := 2) rfl))), List.forall_mem_cons.mpr ⟨List.mem_cons_of_mem _ (List.mem_append_left _ (List.mem_append_left _ (List.mem_of_getElem? (i := 3) rfl))), nowords_in⟩⟩⟩)) ggX0_fewestKnees_J6_bitCount_0f7a4
set_option maxRecDepth 20000 in
theorem ggX0_fewestKnees_X0_isEnough : GoodIn wsX0_fewestKnees wsX0_isEnough := goodIn_by gd_X0_fewestKnees (List.forall_mem_cons.mpr ⟨List.mem_cons_of_mem _ (List.mem_append_left _ (List.mem_append_left _ (List.mem_of_getElem? (i := 12) rfl))), List.forall_mem_append.mpr ⟨List.forall_mem_append.mpr ⟨List.forall_mem_cons.mpr ⟨List.mem_cons_of_mem _ (List.mem_append_left _ (List.mem_append_left _ (List.mem_of_getElem? (i := 13) rfl))), List.forall_mem_cons.mpr ⟨List.mem_cons_of_mem _ (List.mem_append_left _ (List.mem_append_left _ (List.mem_of_getElem? (i := 14) rfl))), List.forall_mem_cons.mpr ⟨List.mem_cons_of_mem _ (List.mem_append_left _ (List.mem_append_left _ (List.mem_of_getElem? (i := 15) rfl))), List.forall_mem_cons.mpr ⟨List.mem_cons_of_mem _ (List.mem_append_left _ (List.mem_append_left _ (List.mem_of_getElem? (i := 16) rfl))), List.forall_mem_cons.mpr ⟨List.mem_cons_of_mem _ (List.mem_append_left _ (List.mem_append_left _ (List.mem_of_getElem? (i := 17) rfl))), List.forall_mem_cons.mpr ⟨List.mem_cons_of_mem _ (List.mem_append_left _ (List.mem_append_left _ (List.mem_of_getElem? (i := 11) rfl))), List.forall_mem_cons.mpr ⟨List.mem_cons_of_mem _ (List.mem_append_left _ (List.mem_append_left _ (List.mem_of_getElem? (i := 18) rfl))), List.forall_mem_cons.mpr ⟨List.mem_cons_of_mem _ (List.mem_append_left _ (List.mem_append_left _ (List.mem_of_getElem? (i := 0) rfl))), List.forall_mem_cons.mpr ⟨List.mem_cons_of_mem _ (List.mem_append_left _ (List.mem_append_left _ (List.mem_of_getElem? (i := 19) rfl))), List.forall_mem_cons.mpr ⟨List.mem_cons_of_mem _ (List.mem_append_left _ (List.mem_append_left _ (List.mem_of_getElem? (i := 20) rfl))), List.forall_mem_cons.mpr ⟨List.mem_cons_of_mem _ (List.mem_append_left _ (List.mem_append_left _ (List.mem_of_getElem? (i := 21) rfl))), List.forall_mem_cons.mpr ⟨List.mem_cons_of_mem _ (List.mem_append_left _ (List.mem_append_left _ (List.mem_of_getElem? (i := 22) rfl))), List.forall_mem_cons.mpr ⟨List.mem_cons_of_mem _ (List.mem_append_left _ (List.mem_append_left _ (List.mem_of_getElem? (i := 23) rfl))), List.forall_mem_cons.mpr ⟨List.mem_cons_of_mem _ (List.mem_append_left _ (List.mem_append_right _ (List.mem_append_left _ (List.mem_of_getElem? (i := 0) rfl)))), List.forall_mem_cons.mpr ⟨List.mem_cons_of_mem _ (List.mem_append_left _ (List.mem_append_right _ (List.mem_append_left _ (List.mem_of_getElem? (i := 1) rfl)))), List.forall_mem_cons.mpr ⟨List.mem_cons_of_mem _ (List.mem_append_left _ (List.mem_append_right _ (List.mem_append_left _ (List.mem_of_getElem? (i := 2) rfl)))), List.forall_mem_cons.mpr ⟨List.mem_cons_of_mem _ (List.mem_append_left _ (List.mem_append_right _ (List.mem_append_left _ (List.mem_of_getElem? (i := 3) rfl)))), List.forall_mem_cons.mpr ⟨List.mem_cons_of_mem _ (List.mem_append_left _ (List.mem_append_right _ (List.mem_append_left _ (List.mem_of_getElem? (i := 4) rfl)))), List.forall_mem_cons.mpr ⟨List.mem_cons_of_mem _ (List.mem_append_left _ (List.mem_append_right _ (List.mem_append_left _ (List.mem_of_getElem? (i := 5) rfl)))), List.forall_mem_cons.mpr ⟨List.mem_cons_of_mem _ (List.mem_append_left _ (List.mem_append_right _ (List.mem_append_left _ (List.mem_of_getElem? (i := 6) rfl)))), List.forall_mem_cons.mpr ⟨List.mem_cons_of_mem _ (List.mem_append_left _ (List.mem_append_right _ (List.mem_append_left _ (List.mem_of_getElem? (i := 7) rfl)))), List.forall_mem_cons.mpr ⟨List.mem_cons_of_mem _ (List.mem_append_left _ (List.mem_append_right _ (List.mem_append_left _ (List.mem_of_getElem? (i := 8) rfl)))), List.forall_mem_cons.mpr ⟨List.mem_cons_of_mem _ (List.mem_append_left _ (List.mem_append_right _ (List.mem_append_left _ (List.mem_of_getElem? (i := 9) rfl)))), List.forall_mem_cons.mpr ⟨List.mem_cons_of_mem _ (List.mem_append_left _ (List.mem_append_right _ (List.mem_append_left _ (List.mem_of_getElem? (i := 10) rfl)))), nowords_in⟩⟩⟩⟩⟩⟩⟩⟩⟩⟩⟩⟩⟩⟩⟩⟩⟩⟩⟩⟩⟩⟩⟩⟩, List.forall_mem_cons.mpr ⟨List.mem_cons_of_mem _ (List.mem_append_left _ (List.mem_append_right _ (List.mem_append_left _ (List.mem_of_getElem? (i := 11) rfl)))), List.forall_mem_cons.mpr ⟨List.mem_cons_of_mem _ (List.mem_append_left _ (List.mem_append_right _ (List.mem_append_left _ (List.mem_of_getElem? (i := 12) rfl)))), List.forall_mem_cons.mpr ⟨List.mem_cons_of_mem _ (List.mem_append_left _ (List.mem_append_right _ (List.mem_append_left _ (List.mem_of_getElem? (i := 13) rfl)))), List.forall_mem_cons.mpr ⟨List.mem_cons_of_mem _ (List.mem_append_left _ (List.mem_append_right _ (List.mem_append_left _ (List.mem_of_getElem? (i := 14) rfl)))), List.forall_mem_cons.mpr ⟨List.mem_cons_of_mem _ (List.mem_append_left _ (List.mem_append_right _ (List.mem_append_left _ (List.mem_of_getElem? (i := 15) rfl)))), List.forall_mem_cons.mpr ⟨List.mem_cons_of_mem _ (List.mem_append_left _ (List.mem_append_right _ (List.mem_append_left _ (List.mem_of_getElem? (i := 16) rfl)))), List.forall_mem_cons.mpr ⟨List.mem_cons_of_mem _ (List.mem_append_left _ (List.mem_append_right _ (List.mem_append_left _ (List.mem_of_getElem? (i := 17) rfl)))), List.forall_mem_cons.mpr ⟨List.mem_cons_of_mem _ (List.mem_append_left _ (List.mem_append_right _ (List.mem_append_left _ (List.mem_of_getElem? (i := 18) rfl)))), List.forall_mem_cons.mpr ⟨List.mem_cons_of_mem _ (List.mem_append_left _ (List.mem_append_right _ (List.mem_append_left _ (List.mem_of_getElem? (i := 19) rfl)))), List.forall_mem_cons.mpr ⟨List.mem_cons_of_mem _ (List.mem_append_left _ (List.mem_append_right _ (List.mem_append_left _ (List.mem_of_getElem? (i := 20) rfl)))), List.forall_mem_cons.mpr ⟨List.mem_cons_of_mem _ (List.mem_append_left _ (List.mem_append_right _ (List.mem_append_left _ (List.mem_of_getElem? (i := 21) rfl)))), List.forall_mem_cons.mpr ⟨List.mem_cons_of_mem _ (List.mem_append_left _ (List.mem_append_right _ (List.mem_append_left _ (List.mem_of_getElem? (i := 22) rfl)))), List.forall_mem_cons.mpr ⟨List.mem_cons_of_mem _ (List.mem_append_left _ (List.mem_append_right _ (List.mem_append_left _ (List.mem_of_getElem? (i := 23) rfl)))), List.forall_mem_cons.mpr ⟨List.mem_cons_of_mem _ (List.mem_append_left _ (List.mem_append_right _ (List.mem_append_right _ (List.mem_of_getElem? (i := 0) rfl)))), List.forall_mem_cons.mpr ⟨List.mem_cons_of_mem _ (List.mem_append_left _ (List.mem_append_right _ (List.mem_append_right _ (List.mem_of_getElem? (i := 1) rfl)))), List.forall_mem_cons.mpr ⟨List.mem_cons_of_mem _ (List.mem_append_left _ (List.mem_append_right _ (List.mem_append_right _ (List.mem_of_getElem? (i := 2) rfl)))), nowords_in⟩⟩⟩⟩⟩⟩⟩⟩⟩⟩⟩⟩⟩⟩⟩⟩⟩, (fun _ h => List.mem_cons_of_mem _ (List.mem_append_right _ (h)))⟩⟩)
set_option maxRecDepth 20000 in
theorem gX0_fewestKnees_X0_isEnough : GoodIn wsX0_fewestKnees (wsV RX0 169 RX0 yX0_isEnough wsX0_isEnough) := goodIn_app (goodIn_by gd_X0_fewestKnees (List.forall_mem_cons.mpr ⟨List.mem_cons_of_mem _ (List.mem_append_left _ (List.mem_append_left _ (List.mem_of_getElem? (i := 8) rfl))), List.forall_mem_cons.mpr ⟨List.mem_cons_of_mem _ (List.mem_append_left _ (List.mem_append_left _ (List.mem_of_getElem? (i := 9) rfl))), List.forall_mem_cons.mpr ⟨List.mem_cons_of_mem _ (List.mem_append_left _ (List.mem_append_left _ (List.mem_of_getElem? (i := 10) rfl))), List.forall_mem_cons.mpr ⟨List.mem_cons_of_mem _ (List.mem_append_left _ (List.mem_append_left _ (List.mem_of_getElem? (i := 11) rfl))), nowords_in⟩⟩⟩⟩)) ggX0_fewestKnees_X0_isEnough
theorem dX0_fewestKnees_0 : decode cX0_fewestKnees 0 = .ok (.iconst (-1), 1) := by decide +kernel
theorem dX0_fewestKnees_1 : decode cX0_fewestKnees 1 = .ok (.istore_n 2, 1) := by decide +kernel
theorem dX0_fewestKnees_2 : decode cX0_fewestKnees 2 = .ok (.iconst 0, 1) := by decide +kernel
theorem dX0_fewestKnees_3 : decode cX0_fewestKnees 3 = .ok (.istore_n 3, 1) := by decide +kernel
theorem dX0_fewestKnees_4 : decode cX0_fewestKnees 4 = .ok (.iload_n 3, 1) := by decide +kernel
theorem dX0_fewestKnees_5 : decode cX0_fewestKnees 5 = .ok (.iconst 1, 1) := by decide +kernel
theorem dX0_fewestKnees_6 : decode cX0_fewestKnees 6 = .ok (.aload_n 0, 1) := by decide +kernel
theorem dX0_fewestKnees_7 : decode cX0_fewestKnees 7 = .ok (.getfield 37, 3) := by decide +kernel
theorem dX0_fewestKnees_10 : decode cX0_fewestKnees 10 = .ok (.ishl, 1) := by decide +kernel
theorem dX0_fewestKnees_11 : decode cX0_fewestKnees 11 = .ok (.if_icmp .ge 36, 3) := by decide +kernel
theorem dX0_fewestKnees_14 : decode cX0_fewestKnees 14 = .ok (.iload_n 2, 1) := by decide +kernel
theorem dX0_fewestKnees_15 : decode cX0_fewestKnees 15 = .ok (.iconst (-1), 1) := by decide +kernel
theorem dX0_fewestKnees_16 : decode cX0_fewestKnees 16 = .ok (.if_icmp .eq 14, 3) := by decide +kernel
theorem dX0_fewestKnees_19 : decode cX0_fewestKnees 19 = .ok (.iload_n 3, 1) := by decide +kernel
theorem dX0_fewestKnees_20 : decode cX0_fewestKnees 20 = .ok (.invokestatic 131, 3) := by decide +kernel
theorem dX0_fewestKnees_23 : decode cX0_fewestKnees 23 = .ok (.iload_n 2, 1) := by decide +kernel
theorem dX0_fewestKnees_24 : decode cX0_fewestKnees 24 = .ok (.invokestatic 131, 3) := by decide +kernel
theorem dX0_fewestKnees_27 : decode cX0_fewestKnees 27 = .ok (.if_icmp .ge 14, 3) := by decide +kernel
theorem dX0_fewestKnees_30 : decode cX0_fewestKnees 30 = .ok (.aload_n 0, 1) := by decide +kernel
theorem dX0_fewestKnees_31 : decode cX0_fewestKnees 31 = .ok (.iload_n 3, 1) := by decide +kernel
theorem dX0_fewestKnees_32 : decode cX0_fewestKnees 32 = .ok (.iload_n 1, 1) := by decide +kernel
theorem dX0_fewestKnees_33 : decode cX0_fewestKnees 33 = .ok (.invokevirtual 169, 3) := by decide +kernel
theorem dX0_fewestKnees_36 : decode cX0_fewestKnees 36 = .ok (.ifCond .eq 5, 3) := by decide +kernel
theorem dX0_fewestKnees_39 : decode cX0_fewestKnees 39 = .ok (.iload_n 3, 1) := by decide +kernel
theorem dX0_fewestKnees_40 : decode cX0_fewestKnees 40 = .ok (.istore_n 2, 1) := by decide +kernel
theorem dX0_fewestKnees_41 : decode cX0_fewestKnees 41 = .ok (.iinc 3 1, 3) := by decide +kernel
theorem dX0_fewestKnees_44 : decode cX0_fewestKnees 44 = .ok (.goto (-40), 3) := by decide +kernel
theorem dX0_fewestKnees_47 : decode cX0_fewestKnees 47 = .ok (.iload_n 2, 1) := by decide +kernel
theorem dX0_fewestKnees_48 : decode cX0_fewestKnees 48 = .ok (.ireturn, 1) := by decide +kernel
abbrev rmX0_fewestKnees : Room := { frames := 5, cells := 0, slots := 0, locals := 110 }
set_option maxHeartbeats 4000000 in
set_option maxRecDepth 100000 in
theorem kX0_fewestKnees (l : Launch) (D : va_G) (cy : Nat → ClassId) (h0 : Nat) (a0 : Nat → Nat) (s0 : Rc) (p1 : Int32) (res : Int32) (h : fX0_fewestKnees p1 s0 = some res) : CI l D cy yX0_fewestKnees wsX0_fewestKnees rmX0_fewestKnees [.ref h0, .int p1] (flat [WX0 cy h0 a0 s0]) (flat [WX0 cy h0 a0 s0]) res := by
  refine CI.of (cc := cX0_fewestKnees) (maxL := 4) (by decide) rfl (Nat.le_of_ble_eq_true rfl) ?_
  intro p e s m args below meth c A QQ ls E hr
  obtain ⟨hx, hb, hml, hown, hts, hK, hN, hP, hD, hA, hl⟩ := E
  have hret : ∀ (pc : Nat) (H : Heap) (locs : List Loc) (ls : Array Slot) (u : Int32), u = res → va_P D vwCl (flat [WX0 cy h0 a0 s0]) H → va_D A (flat [WX0 cy h0 a0 s0]) → va_S A s.heap H locs → decode cX0_fewestKnees pc = .ok (.ireturn, 1) → W p l e rmX0_fewestKnees s m args below meth c H locs 0 0 QQ (F0 m pc ls [.int u]) := by
    intro pc H locs ls u hu hP hD hS hd; subst hu; exact hr pc H locs ls _ rfl hP hD hS hd
  clear hr
  have hl : lv_has ls 4 [(0, .ref h0), (1, .int p1)] := hl
  have hinX0 : ∀ w ∈ wsX00, w ∈ wsX0_fewestKnees := fun _ h => List.mem_cons_of_mem _ (List.mem_append_right _ h)
  unfold fX0_fewestKnees at h
  suffices key : ∀ (H : Heap) (locs : List Loc), va_P D vwCl (flat [WX0 cy h0 a0 s0]) H → va_S A s.heap H locs → W p l e rmX0_fewestKnees s m args below meth c H locs 0 0 QQ (F0 m 0 ls []) from key _ _ hP va_S.rf
  clear hP
  intro H locs hP hS
  refine lv_iconst (v := -1) hx hb dX0_fewestKnees_0 (by decide) ?_
  refine lv_istore_n (lv' := [(2, .int (-1 : Int32)), (0, .ref h0), (1, .int p1)]) hx hb dX0_fewestKnees_1 rfl hl (by decide) rfl (fun ls hl => ?_)
  refine lv_iconst (v := 0) hx hb dX0_fewestKnees_2 (by decide) ?_
  refine lv_istore_n (lv' := [(3, .int (0 : Int32)), (2, .int (-1 : Int32)), (0, .ref h0), (1, .int p1)]) hx hb dX0_fewestKnees_3 rfl hl (by decide) rfl (fun ls hl => ?_)
  have L4 : ∀ (n : Nat) (q4 : Int32 × Int32) (o : Int32), loopO (fX0_fewestKnees_L4 p1 s0) n q4 = some o → ∀ (H : Heap) (locs : List Loc) (ls : Array Slot), lv_has ls 4 [(0, .ref h0), (1, .int p1), (2, .int q4.1), (3, .int q4.2)] → va_P D vwCl (flat [WX0 cy h0 a0 s0]) H → va_D A (flat [WX0 cy h0 a0 s0]) → va_S A s.heap H locs → ∀ (kk47 : ∀ (H : Heap) (locs : List Loc) (ls : Array Slot), lv_has ls 4 [(2, .int o)] → va_P D vwCl (flat [WX0 cy h0 a0 s0]) H → va_D A (flat [WX0 cy h0 a0 s0]) → va_S A s.heap H locs → W p l e rmX0_fewestKnees s m args below meth c H locs 0 0 QQ (F0 m 47 ls [])), W p l e rmX0_fewestKnees s m args below meth c H locs 0 0 QQ (F0 m 4 ls []) := by
    intro n
    induction n with
    | zero => intro q4 o h; exact absurd h (by rw [loopO_zero]; intro z; cases z)
    | succ n ih =>
      intro q4 o h H locs ls hl hP hD hS kk47
      obtain ⟨w, h, hgo, hst⟩ := loopO_elim h
      unfold fX0_fewestKnees_L4 at h
      have J30 : ∀  (H : Heap) (locs : List Loc) (ls : Array Slot), lv_has ls 4 [(0, .ref h0), (1, .int p1), (2, .int q4.1), (3, .int q4.2)] → va_P D vwCl (flat [WX0 cy h0 a0 s0]) H → va_D A (flat [WX0 cy h0 a0 s0]) → va_S A s.heap H locs → fX0_fewestKnees_J30 p1 s0 q4 = some w → W p l e rmX0_fewestKnees s m args below meth c H locs 0 0 QQ (F0 m 30 ls []) := by
        intro  H locs ls hl hP hD hS h
        unfold fX0_fewestKnees_J30 at h
        refine lv_aload_n hx hb dX0_fewestKnees_30 rfl (lv_at hl 0 rfl) ?_
        refine lv_iload_n hx hb dX0_fewestKnees_31 rfl (lv_at hl 3 rfl) ?_
        refine lv_iload_n hx hb dX0_fewestKnees_32 rfl (lv_at hl 1 rfl) ?_
        obtain ⟨r1, hr1, h⟩ := bd_elim h
        refine ca_z (w' := [WX0 cy h0 a0 s0]) (rn_V (As := [.int q4.2, .int p1]) (rest := []) ⟨hx, hb, hml, hown, hts⟩ (kX0_isEnough l D cy h0 a0 s0 q4.2 p1 r1 hr1 H.size) (cwV 2 hts gX0_fewestKnees_X0_isEnough rfl rfl rfl (by decide +kernel) ⟨Nat.le_of_ble_eq_true rfl, Nat.le_of_ble_eq_true rfl⟩) hK hN hP hD [0] rfl rfl (ci := 0) (q0 := 0) rfl rfl rfl rfl hl.1 rfl (Nat.le_of_ble_eq_true rfl) dX0_fewestKnees_33 ⟨Nat.le_refl 0, Nat.le_refl 0⟩) hP hD hS hA [0] ⟨rfl, rfl, rfl, rfl⟩ (fun b2 H locs hP hD hS => ?_)
        refine lv_if_eq (tgt := 41) hx hb dX0_fewestKnees_36 (by decide) (fun c3 => ?_) (fun c3 => ?_)
        · replace h := (if_pos c3).symm.trans h
          refine lv_iinc (v := (q4.2 + (1 : Int32))) (lv' := [(3, .int (q4.2 + (1 : Int32))), (0, .ref h0), (1, .int p1), (2, .int q4.1)]) hx hb dX0_fewestKnees_41 hl (k := 3) rfl rfl (by decide) rfl (fun ls hl => ?_)
          refine lv_goto (tgt := 4) hx hb dX0_fewestKnees_44 (by decide) ?_
          exact ih _ o (hgo _ (Option.some.inj h).symm) H locs ls (lv_sub hl [1, 2, 3, 0] rfl) hP hD hS kk47
        · replace h := (if_neg c3).symm.trans h
          refine lv_iload_n hx hb dX0_fewestKnees_39 rfl (lv_at hl 3 rfl) ?_
          refine lv_istore_n (lv' := [(2, .int q4.2), (0, .ref h0), (1, .int p1), (3, .int q4.2)]) hx hb dX0_fewestKnees_40 rfl hl (by decide) rfl (fun ls hl => ?_)
          refine lv_iinc (v := (q4.2 + (1 : Int32))) (lv' := [(3, .int (q4.2 + (1 : Int32))), (2, .int q4.2), (0, .ref h0), (1, .int p1)]) hx hb dX0_fewestKnees_41 hl (k := 3) rfl rfl (by decide) rfl (fun ls hl => ?_)
          refine lv_goto (tgt := 4) hx hb dX0_fewestKnees_44 (by decide) ?_
          exact ih _ o (hgo _ (Option.some.inj h).symm) H locs ls (lv_sub hl [2, 3, 1, 0] rfl) hP hD hS kk47
      refine lv_iload_n hx hb dX0_fewestKnees_4 rfl (lv_at hl 3 rfl) ?_
      refine lv_iconst (v := 1) hx hb dX0_fewestKnees_5 (by decide) ?_
      refine lv_aload_n hx hb dX0_fewestKnees_6 rfl (lv_at hl 0 rfl) ?_
      refine va_get (D := D) (ci := 0) (v := .int (gi s0 8)) (C := RX0) (T := TX0) (N := 14) hx hb hts hinX0 hown hK hP 0 rfl rfl 8 (by decide) (hts (.fieldLink RX0 37 "KneeBench$Bench" "farmers" "I") (List.mem_of_getElem? (i := 1) rfl)) (fun _ h9 => h9) rfl dX0_fewestKnees_7 ?_
      refine lv_ishl hx hb dX0_fewestKnees_10 ?_
      refine lv_icmp_ge (tgt := 47) hx hb dX0_fewestKnees_11 (by decide) (fun c4 => ?_) (fun c4 => ?_)
      · replace h := (if_pos c4).symm.trans h
        have eo := hst _ (Option.some.inj h).symm
        subst eo
        exact kk47 H locs ls (lv_sub hl [2] rfl) hP hD hS
      · replace h := (if_neg c4).symm.trans h
        refine lv_iload_n hx hb dX0_fewestKnees_14 rfl (lv_at hl 2 rfl) ?_
        refine lv_iconst (v := -1) hx hb dX0_fewestKnees_15 (by decide) ?_
        refine lv_icmp_eq (tgt := 30) hx hb dX0_fewestKnees_16 (by decide) (fun c5 => ?_) (fun c5 => ?_)
        · replace h := (if_pos c5).symm.trans h
          exact J30  H locs ls (lv_sub hl [0, 1, 2, 3] rfl) hP hD hS h
        · replace h := (if_neg c5).symm.trans h
          refine lv_iload_n hx hb dX0_fewestKnees_19 rfl (lv_at hl 3 rfl) ?_
          refine ca_i (w' := [WX0 cy h0 a0 s0]) (rn_S (As := [.int q4.2]) (rest := []) ⟨hx, hb, hml, hown, hts⟩ (kJ6_bitCount_0f7a4 l D cy q4.2 _ rfl H.size) (va_cwS 1 hts gX0_fewestKnees_J6_bitCount_0f7a4 rfl rfl rfl (by decide +kernel) ⟨Nat.le_of_ble_eq_true rfl, Nat.le_of_ble_eq_true rfl⟩) hK hN hP hD [] rfl rfl rfl hl.1 rfl (Nat.le_of_ble_eq_true rfl) dX0_fewestKnees_20 ⟨Nat.le_refl 0, Nat.le_refl 0⟩) hP hD hS hA [] ⟨rfl, rfl, rfl, rfl⟩ (fun H locs hP hD hS => ?_)
          refine lv_iload_n hx hb dX0_fewestKnees_23 rfl (lv_at hl 2 rfl) ?_
          refine ca_i (w' := [WX0 cy h0 a0 s0]) (rn_S (As := [.int q4.1]) (rest := [.int (fJ6_bitCount_0f7a4 q4.2)]) ⟨hx, hb, hml, hown, hts⟩ (kJ6_bitCount_0f7a4 l D cy q4.1 _ rfl H.size) (va_cwS 1 hts gX0_fewestKnees_J6_bitCount_0f7a4 rfl rfl rfl (by decide +kernel) ⟨Nat.le_of_ble_eq_true rfl, Nat.le_of_ble_eq_true rfl⟩) hK hN hP hD [] rfl rfl rfl hl.1 rfl (Nat.le_of_ble_eq_true rfl) dX0_fewestKnees_24 ⟨Nat.le_refl 0, Nat.le_refl 0⟩) hP hD hS hA [] ⟨rfl, rfl, rfl, rfl⟩ (fun H locs hP hD hS => ?_)
          refine lv_icmp_ge (tgt := 41) hx hb dX0_fewestKnees_27 (by decide) (fun c6 => ?_) (fun c6 => ?_)
          · replace h := (if_pos c6).symm.trans h
            refine lv_iinc (v := (q4.2 + (1 : Int32))) (lv' := [(3, .int (q4.2 + (1 : Int32))), (0, .ref h0), (1, .int p1), (2, .int q4.1)]) hx hb dX0_fewestKnees_41 hl (k := 3) rfl rfl (by decide) rfl (fun ls hl => ?_)
            refine lv_goto (tgt := 4) hx hb dX0_fewestKnees_44 (by decide) ?_
            exact ih _ o (hgo _ (Option.some.inj h).symm) H locs ls (lv_sub hl [1, 2, 3, 0] rfl) hP hD hS kk47
          · replace h := (if_neg c6).symm.trans h
            exact J30  H locs ls (lv_sub hl [0, 1, 2, 3] rfl) hP hD hS h
  obtain ⟨o4, ho4, h⟩ := bd_elim h
  obtain ⟨n4, hn4⟩ := loopF_some ho4
  refine L4 n4 _ o4 hn4 H locs ls (lv_sub hl [2, 3, 1, 0] rfl) hP hD hS (fun H locs ls hl hP hD hS => ?_)
  refine lv_iload_n hx hb dX0_fewestKnees_47 rfl (lv_at hl 0 rfl) ?_
  exact hret 48 H locs ls o4 (Option.some.inj h) hP hD hS dX0_fewestKnees_48
theorem gd_X0_tellersOf : wsX0_tellersOf.all goodWord = true := by decide +kernel
set_option maxRecDepth 20000 in
theorem ggX0_tellersOf_X0_hasWord : GoodIn wsX0_tellersOf wsX0_hasWord := goodIn_by gd_X0_tellersOf (List.forall_mem_cons.mpr ⟨List.mem_cons_of_mem _ (List.mem_append_left _ (List.mem_of_getElem? (i := 5) rfl)), List.forall_mem_append.mpr ⟨List.forall_mem_cons.mpr ⟨List.mem_cons_of_mem _ (List.mem_append_left _ (List.mem_of_getElem? (i := 6) rfl)), List.forall_mem_cons.mpr ⟨List.mem_cons_of_mem _ (List.mem_append_left _ (List.mem_of_getElem? (i := 7) rfl)), List.forall_mem_cons.mpr ⟨List.mem_cons_of_mem _ (List.mem_append_left _ (List.mem_of_getElem? (i := 8) rfl)), nowords_in⟩⟩⟩, (fun _ h => List.mem_cons_of_mem _ (List.mem_append_right _ (h)))⟩⟩)
set_option maxRecDepth 20000 in
theorem gX0_tellersOf_X0_hasWord : GoodIn wsX0_tellersOf (wsV RX0 118 RX0 yX0_hasWord wsX0_hasWord) := goodIn_app (goodIn_by gd_X0_tellersOf (List.forall_mem_cons.mpr ⟨List.mem_cons_of_mem _ (List.mem_append_left _ (List.mem_of_getElem? (i := 1) rfl)), List.forall_mem_cons.mpr ⟨List.mem_cons_of_mem _ (List.mem_append_left _ (List.mem_of_getElem? (i := 2) rfl)), List.forall_mem_cons.mpr ⟨List.mem_cons_of_mem _ (List.mem_append_left _ (List.mem_of_getElem? (i := 3) rfl)), List.forall_mem_cons.mpr ⟨List.mem_cons_of_mem _ (List.mem_append_left _ (List.mem_of_getElem? (i := 4) rfl)), nowords_in⟩⟩⟩⟩)) ggX0_tellersOf_X0_hasWord
theorem dX0_tellersOf_0 : decode cX0_tellersOf 0 = .ok (.iconst 0, 1) := by decide +kernel
theorem dX0_tellersOf_1 : decode cX0_tellersOf 1 = .ok (.istore_n 2, 1) := by decide +kernel
theorem dX0_tellersOf_2 : decode cX0_tellersOf 2 = .ok (.iconst 0, 1) := by decide +kernel
theorem dX0_tellersOf_3 : decode cX0_tellersOf 3 = .ok (.istore_n 3, 1) := by decide +kernel
theorem dX0_tellersOf_4 : decode cX0_tellersOf 4 = .ok (.iload_n 3, 1) := by decide +kernel
theorem dX0_tellersOf_5 : decode cX0_tellersOf 5 = .ok (.aload_n 0, 1) := by decide +kernel
theorem dX0_tellersOf_6 : decode cX0_tellersOf 6 = .ok (.getfield 37, 3) := by decide +kernel
theorem dX0_tellersOf_9 : decode cX0_tellersOf 9 = .ok (.if_icmp .ge 24, 3) := by decide +kernel
theorem dX0_tellersOf_12 : decode cX0_tellersOf 12 = .ok (.aload_n 0, 1) := by decide +kernel
theorem dX0_tellersOf_13 : decode cX0_tellersOf 13 = .ok (.iload_n 3, 1) := by decide +kernel
theorem dX0_tellersOf_14 : decode cX0_tellersOf 14 = .ok (.iload_n 1, 1) := by decide +kernel
theorem dX0_tellersOf_15 : decode cX0_tellersOf 15 = .ok (.invokevirtual 118, 3) := by decide +kernel
theorem dX0_tellersOf_18 : decode cX0_tellersOf 18 = .ok (.ifCond .eq 9, 3) := by decide +kernel
theorem dX0_tellersOf_21 : decode cX0_tellersOf 21 = .ok (.iload_n 2, 1) := by decide +kernel
theorem dX0_tellersOf_22 : decode cX0_tellersOf 22 = .ok (.iconst 1, 1) := by decide +kernel
theorem dX0_tellersOf_23 : decode cX0_tellersOf 23 = .ok (.iload_n 3, 1) := by decide +kernel
theorem dX0_tellersOf_24 : decode cX0_tellersOf 24 = .ok (.ishl, 1) := by decide +kernel
theorem dX0_tellersOf_25 : decode cX0_tellersOf 25 = .ok (.ior, 1) := by decide +kernel
theorem dX0_tellersOf_26 : decode cX0_tellersOf 26 = .ok (.istore_n 2, 1) := by decide +kernel
theorem dX0_tellersOf_27 : decode cX0_tellersOf 27 = .ok (.iinc 3 1, 3) := by decide +kernel
theorem dX0_tellersOf_30 : decode cX0_tellersOf 30 = .ok (.goto (-26), 3) := by decide +kernel
theorem dX0_tellersOf_33 : decode cX0_tellersOf 33 = .ok (.iload_n 2, 1) := by decide +kernel
theorem dX0_tellersOf_34 : decode cX0_tellersOf 34 = .ok (.ireturn, 1) := by decide +kernel
abbrev rmX0_tellersOf : Room := { frames := 1, cells := 0, slots := 0, locals := 23 }
set_option maxHeartbeats 4000000 in
set_option maxRecDepth 100000 in
theorem kX0_tellersOf (l : Launch) (D : va_G) (cy : Nat → ClassId) (h0 : Nat) (a0 : Nat → Nat) (s0 : Rc) (p1 : Int32) (res : Int32) (h : fX0_tellersOf p1 s0 = some res) : CI l D cy yX0_tellersOf wsX0_tellersOf rmX0_tellersOf [.ref h0, .int p1] (flat [WX0 cy h0 a0 s0]) (flat [WX0 cy h0 a0 s0]) res := by
  refine CI.of (cc := cX0_tellersOf) (maxL := 4) (by decide) rfl (Nat.le_of_ble_eq_true rfl) ?_
  intro p e s m args below meth c A QQ ls E hr
  obtain ⟨hx, hb, hml, hown, hts, hK, hN, hP, hD, hA, hl⟩ := E
  have hret : ∀ (pc : Nat) (H : Heap) (locs : List Loc) (ls : Array Slot) (u : Int32), u = res → va_P D vwCl (flat [WX0 cy h0 a0 s0]) H → va_D A (flat [WX0 cy h0 a0 s0]) → va_S A s.heap H locs → decode cX0_tellersOf pc = .ok (.ireturn, 1) → W p l e rmX0_tellersOf s m args below meth c H locs 0 0 QQ (F0 m pc ls [.int u]) := by
    intro pc H locs ls u hu hP hD hS hd; subst hu; exact hr pc H locs ls _ rfl hP hD hS hd
  clear hr
  have hl : lv_has ls 4 [(0, .ref h0), (1, .int p1)] := hl
  have hinX0 : ∀ w ∈ wsX00, w ∈ wsX0_tellersOf := fun _ h => List.mem_cons_of_mem _ (List.mem_append_right _ h)
  unfold fX0_tellersOf at h
  suffices key : ∀ (H : Heap) (locs : List Loc), va_P D vwCl (flat [WX0 cy h0 a0 s0]) H → va_S A s.heap H locs → W p l e rmX0_tellersOf s m args below meth c H locs 0 0 QQ (F0 m 0 ls []) from key _ _ hP va_S.rf
  clear hP
  intro H locs hP hS
  refine lv_iconst (v := 0) hx hb dX0_tellersOf_0 (by decide) ?_
  refine lv_istore_n (lv' := [(2, .int (0 : Int32)), (0, .ref h0), (1, .int p1)]) hx hb dX0_tellersOf_1 rfl hl (by decide) rfl (fun ls hl => ?_)
  refine lv_iconst (v := 0) hx hb dX0_tellersOf_2 (by decide) ?_
  refine lv_istore_n (lv' := [(3, .int (0 : Int32)), (2, .int (0 : Int32)), (0, .ref h0), (1, .int p1)]) hx hb dX0_tellersOf_3 rfl hl (by decide) rfl (fun ls hl => ?_)
  have L4 : ∀ (n : Nat) (q4 : Int32 × Int32) (o : Int32), loopO (fX0_tellersOf_L4 p1 s0) n q4 = some o → ∀ (H : Heap) (locs : List Loc) (ls : Array Slot), lv_has ls 4 [(0, .ref h0), (1, .int p1), (2, .int q4.1), (3, .int q4.2)] → va_P D vwCl (flat [WX0 cy h0 a0 s0]) H → va_D A (flat [WX0 cy h0 a0 s0]) → va_S A s.heap H locs → ∀ (kk33 : ∀ (H : Heap) (locs : List Loc) (ls : Array Slot), lv_has ls 4 [(2, .int o)] → va_P D vwCl (flat [WX0 cy h0 a0 s0]) H → va_D A (flat [WX0 cy h0 a0 s0]) → va_S A s.heap H locs → W p l e rmX0_tellersOf s m args below meth c H locs 0 0 QQ (F0 m 33 ls [])), W p l e rmX0_tellersOf s m args below meth c H locs 0 0 QQ (F0 m 4 ls []) := by
    intro n
    induction n with
    | zero => intro q4 o h; exact absurd h (by rw [loopO_zero]; intro z; cases z)
    | succ n ih =>
      intro q4 o h H locs ls hl hP hD hS kk33
      obtain ⟨w, h, hgo, hst⟩ := loopO_elim h
      unfold fX0_tellersOf_L4 at h
      refine lv_iload_n hx hb dX0_tellersOf_4 rfl (lv_at hl 3 rfl) ?_
      refine lv_aload_n hx hb dX0_tellersOf_5 rfl (lv_at hl 0 rfl) ?_
      refine va_get (D := D) (ci := 0) (v := .int (gi s0 8)) (C := RX0) (T := TX0) (N := 14) hx hb hts hinX0 hown hK hP 0 rfl rfl 8 (by decide) (hts (.fieldLink RX0 37 "KneeBench$Bench" "farmers" "I") (List.mem_of_getElem? (i := 1) rfl)) (fun _ h9 => h9) rfl dX0_tellersOf_6 ?_
      refine lv_icmp_ge (tgt := 33) hx hb dX0_tellersOf_9 (by decide) (fun c1 => ?_) (fun c1 => ?_)
      · replace h := (if_pos c1).symm.trans h
        have eo := hst _ (Option.some.inj h).symm
        subst eo
        exact kk33 H locs ls (lv_sub hl [2] rfl) hP hD hS
      · replace h := (if_neg c1).symm.trans h
        refine lv_aload_n hx hb dX0_tellersOf_12 rfl (lv_at hl 0 rfl) ?_
        refine lv_iload_n hx hb dX0_tellersOf_13 rfl (lv_at hl 3 rfl) ?_
        refine lv_iload_n hx hb dX0_tellersOf_14 rfl (lv_at hl 1 rfl) ?_
        obtain ⟨r2, hr2, h⟩ := bd_elim h
        refine ca_z (w' := [WX0 cy h0 a0 s0]) (rn_V (As := [.int q4.2, .int p1]) (rest := []) ⟨hx, hb, hml, hown, hts⟩ (kX0_hasWord l D cy h0 a0 s0 q4.2 p1 r2 hr2 H.size) (cwV 2 hts gX0_tellersOf_X0_hasWord rfl rfl rfl (by decide +kernel) ⟨Nat.le_of_ble_eq_true rfl, Nat.le_of_ble_eq_true rfl⟩) hK hN hP hD [0] rfl rfl (ci := 0) (q0 := 0) rfl rfl rfl rfl hl.1 rfl (Nat.le_of_ble_eq_true rfl) dX0_tellersOf_15 ⟨Nat.le_refl 0, Nat.le_refl 0⟩) hP hD hS hA [0] ⟨rfl, rfl, rfl, rfl⟩ (fun b3 H locs hP hD hS => ?_)
        refine lv_if_eq (tgt := 27) hx hb dX0_tellersOf_18 (by decide) (fun c4 => ?_) (fun c4 => ?_)
        · replace h := (if_pos c4).symm.trans h
          refine lv_iinc (v := (q4.2 + (1 : Int32))) (lv' := [(3, .int (q4.2 + (1 : Int32))), (0, .ref h0), (1, .int p1), (2, .int q4.1)]) hx hb dX0_tellersOf_27 hl (k := 3) rfl rfl (by decide) rfl (fun ls hl => ?_)
          refine lv_goto (tgt := 4) hx hb dX0_tellersOf_30 (by decide) ?_
          exact ih _ o (hgo _ (Option.some.inj h).symm) H locs ls (lv_sub hl [1, 2, 3, 0] rfl) hP hD hS kk33
        · replace h := (if_neg c4).symm.trans h
          refine lv_iload_n hx hb dX0_tellersOf_21 rfl (lv_at hl 2 rfl) ?_
          refine lv_iconst (v := 1) hx hb dX0_tellersOf_22 (by decide) ?_
          refine lv_iload_n hx hb dX0_tellersOf_23 rfl (lv_at hl 3 rfl) ?_
          refine lv_ishl hx hb dX0_tellersOf_24 ?_
          refine lv_ior hx hb dX0_tellersOf_25 ?_
          refine lv_topi (fun x5 ex5 => ?_)
          replace h := lt_use h x5 ex5
          refine lv_istore_n (lv' := [(2, .int x5), (0, .ref h0), (1, .int p1), (3, .int q4.2)]) hx hb dX0_tellersOf_26 rfl hl (by decide) rfl (fun ls hl => ?_)
          refine lv_iinc (v := (q4.2 + (1 : Int32))) (lv' := [(3, .int (q4.2 + (1 : Int32))), (2, .int x5), (0, .ref h0), (1, .int p1)]) hx hb dX0_tellersOf_27 hl (k := 3) rfl rfl (by decide) rfl (fun ls hl => ?_)
          refine lv_goto (tgt := 4) hx hb dX0_tellersOf_30 (by decide) ?_
          exact ih _ o (hgo _ (Option.some.inj h).symm) H locs ls (lv_sub hl [2, 3, 1, 0] rfl) hP hD hS kk33
  obtain ⟨o4, ho4, h⟩ := bd_elim h
  obtain ⟨n4, hn4⟩ := loopF_some ho4
  refine L4 n4 _ o4 hn4 H locs ls (lv_sub hl [2, 3, 1, 0] rfl) hP hD hS (fun H locs ls hl hP hD hS => ?_)
  refine lv_iload_n hx hb dX0_tellersOf_33 rfl (lv_at hl 0 rfl) ?_
  exact hret 34 H locs ls o4 (Option.some.inj h) hP hD hS dX0_tellersOf_34
theorem dX10_bit_0 : decode cX10_bit 0 = .ok (.iload_n 0, 1) := by decide +kernel
theorem dX10_bit_1 : decode cX10_bit 1 = .ok (.ifCond .eq 7, 3) := by decide +kernel
theorem dX10_bit_4 : decode cX10_bit 4 = .ok (.iconst 1, 1) := by decide +kernel
theorem dX10_bit_5 : decode cX10_bit 5 = .ok (.goto 4, 3) := by decide +kernel
theorem dX10_bit_8 : decode cX10_bit 8 = .ok (.iconst 0, 1) := by decide +kernel
theorem dX10_bit_9 : decode cX10_bit 9 = .ok (.ireturn, 1) := by decide +kernel
abbrev rmX10_bit : Room := { frames := 0, cells := 0, slots := 0, locals := 0 }
set_option maxHeartbeats 4000000 in
set_option maxRecDepth 100000 in
theorem kX10_bit (l : Launch) (D : va_G) (cy : Nat → ClassId) (p1 : Int32) (res : Int32) (h : fX10_bit p1 = res) : CI l D cy yX10_bit wsX10_bit rmX10_bit [.int p1] (flat []) (flat []) res := by
  refine CI.of (cc := cX10_bit) (maxL := 1) (by decide) rfl (Nat.le_of_ble_eq_true rfl) ?_
  intro p e s m args below meth c A QQ ls E hr
  obtain ⟨hx, hb, hml, hown, hts, hK, hN, hP, hD, hA, hl⟩ := E
  have hret : ∀ (pc : Nat) (H : Heap) (locs : List Loc) (ls : Array Slot) (u : Int32), u = res → va_P D vwCl (flat []) H → va_D A (flat []) → va_S A s.heap H locs → decode cX10_bit pc = .ok (.ireturn, 1) → W p l e rmX10_bit s m args below meth c H locs 0 0 QQ (F0 m pc ls [.int u]) := by
    intro pc H locs ls u hu hP hD hS hd; subst hu; exact hr pc H locs ls _ rfl hP hD hS hd
  clear hr
  have hl : lv_has ls 1 [(0, .int p1)] := hl
  unfold fX10_bit at h
  suffices key : ∀ (H : Heap) (locs : List Loc), va_P D vwCl (flat []) H → va_S A s.heap H locs → W p l e rmX10_bit s m args below meth c H locs 0 0 QQ (F0 m 0 ls []) from key _ _ hP va_S.rf
  clear hP
  intro H locs hP hS
  refine lv_iload_n hx hb dX10_bit_0 rfl (lv_at hl 0 rfl) ?_
  refine lv_if_eq (tgt := 8) hx hb dX10_bit_1 (by decide) (fun c1 => ?_) (fun c1 => ?_)
  · replace h := (if_pos c1).symm.trans h
    refine lv_iconst (v := 0) hx hb dX10_bit_8 (by decide) ?_
    exact hret 9 H locs ls (0 : Int32) h hP hD hS dX10_bit_9
  · replace h := (if_neg c1).symm.trans h
    refine lv_iconst (v := 1) hx hb dX10_bit_4 (by decide) ?_
    refine lv_goto (tgt := 9) hx hb dX10_bit_5 (by decide) ?_
    exact hret 9 H locs ls (1 : Int32) h hP hD hS dX10_bit_9
theorem dX0_weightOf_0 : decode cX0_weightOf 0 = .ok (.iconst 0, 1) := by decide +kernel
theorem dX0_weightOf_1 : decode cX0_weightOf 1 = .ok (.istore_n 2, 1) := by decide +kernel
theorem dX0_weightOf_2 : decode cX0_weightOf 2 = .ok (.iconst 0, 1) := by decide +kernel
theorem dX0_weightOf_3 : decode cX0_weightOf 3 = .ok (.istore_n 3, 1) := by decide +kernel
theorem dX0_weightOf_4 : decode cX0_weightOf 4 = .ok (.iload_n 3, 1) := by decide +kernel
theorem dX0_weightOf_5 : decode cX0_weightOf 5 = .ok (.aload_n 0, 1) := by decide +kernel
theorem dX0_weightOf_6 : decode cX0_weightOf 6 = .ok (.getfield 37, 3) := by decide +kernel
theorem dX0_weightOf_9 : decode cX0_weightOf 9 = .ok (.if_icmp .ge 26, 3) := by decide +kernel
theorem dX0_weightOf_12 : decode cX0_weightOf 12 = .ok (.iload_n 1, 1) := by decide +kernel
theorem dX0_weightOf_13 : decode cX0_weightOf 13 = .ok (.iload_n 3, 1) := by decide +kernel
theorem dX0_weightOf_14 : decode cX0_weightOf 14 = .ok (.iushr, 1) := by decide +kernel
theorem dX0_weightOf_15 : decode cX0_weightOf 15 = .ok (.iconst 1, 1) := by decide +kernel
theorem dX0_weightOf_16 : decode cX0_weightOf 16 = .ok (.iand, 1) := by decide +kernel
theorem dX0_weightOf_17 : decode cX0_weightOf 17 = .ok (.ifCond .eq 12, 3) := by decide +kernel
theorem dX0_weightOf_20 : decode cX0_weightOf 20 = .ok (.iload_n 2, 1) := by decide +kernel
theorem dX0_weightOf_21 : decode cX0_weightOf 21 = .ok (.aload_n 0, 1) := by decide +kernel
theorem dX0_weightOf_22 : decode cX0_weightOf 22 = .ok (.getfield 28, 3) := by decide +kernel
theorem dX0_weightOf_25 : decode cX0_weightOf 25 = .ok (.iload_n 3, 1) := by decide +kernel
theorem dX0_weightOf_26 : decode cX0_weightOf 26 = .ok (.iaload, 1) := by decide +kernel
theorem dX0_weightOf_27 : decode cX0_weightOf 27 = .ok (.iadd, 1) := by decide +kernel
theorem dX0_weightOf_28 : decode cX0_weightOf 28 = .ok (.istore_n 2, 1) := by decide +kernel
theorem dX0_weightOf_29 : decode cX0_weightOf 29 = .ok (.iinc 3 1, 3) := by decide +kernel
theorem dX0_weightOf_32 : decode cX0_weightOf 32 = .ok (.goto (-28), 3) := by decide +kernel
theorem dX0_weightOf_35 : decode cX0_weightOf 35 = .ok (.iload_n 2, 1) := by decide +kernel
theorem dX0_weightOf_36 : decode cX0_weightOf 36 = .ok (.ireturn, 1) := by decide +kernel
abbrev rmX0_weightOf : Room := { frames := 0, cells := 0, slots := 0, locals := 0 }
set_option maxHeartbeats 4000000 in
set_option maxRecDepth 100000 in
theorem kX0_weightOf (l : Launch) (D : va_G) (cy : Nat → ClassId) (h0 : Nat) (a0 : Nat → Nat) (s0 : Rc) (p1 : Int32) (res : Int32) (h : fX0_weightOf p1 s0 = some res) : CI l D cy yX0_weightOf wsX0_weightOf rmX0_weightOf [.ref h0, .int p1] (flat [WX0 cy h0 a0 s0]) (flat [WX0 cy h0 a0 s0]) res := by
  refine CI.of (cc := cX0_weightOf) (maxL := 4) (by decide) rfl (Nat.le_of_ble_eq_true rfl) ?_
  intro p e s m args below meth c A QQ ls E hr
  obtain ⟨hx, hb, hml, hown, hts, hK, hN, hP, hD, hA, hl⟩ := E
  have hret : ∀ (pc : Nat) (H : Heap) (locs : List Loc) (ls : Array Slot) (u : Int32), u = res → va_P D vwCl (flat [WX0 cy h0 a0 s0]) H → va_D A (flat [WX0 cy h0 a0 s0]) → va_S A s.heap H locs → decode cX0_weightOf pc = .ok (.ireturn, 1) → W p l e rmX0_weightOf s m args below meth c H locs 0 0 QQ (F0 m pc ls [.int u]) := by
    intro pc H locs ls u hu hP hD hS hd; subst hu; exact hr pc H locs ls _ rfl hP hD hS hd
  clear hr
  have hl : lv_has ls 4 [(0, .ref h0), (1, .int p1)] := hl
  have hinX0 : ∀ w ∈ wsX00, w ∈ wsX0_weightOf := fun _ h => List.mem_cons_of_mem _ (List.mem_append_right _ h)
  unfold fX0_weightOf at h
  suffices key : ∀ (H : Heap) (locs : List Loc), va_P D vwCl (flat [WX0 cy h0 a0 s0]) H → va_S A s.heap H locs → W p l e rmX0_weightOf s m args below meth c H locs 0 0 QQ (F0 m 0 ls []) from key _ _ hP va_S.rf
  clear hP
  intro H locs hP hS
  refine lv_iconst (v := 0) hx hb dX0_weightOf_0 (by decide) ?_
  refine lv_istore_n (lv' := [(2, .int (0 : Int32)), (0, .ref h0), (1, .int p1)]) hx hb dX0_weightOf_1 rfl hl (by decide) rfl (fun ls hl => ?_)
  refine lv_iconst (v := 0) hx hb dX0_weightOf_2 (by decide) ?_
  refine lv_istore_n (lv' := [(3, .int (0 : Int32)), (2, .int (0 : Int32)), (0, .ref h0), (1, .int p1)]) hx hb dX0_weightOf_3 rfl hl (by decide) rfl (fun ls hl => ?_)
  have L4 : ∀ (n : Nat) (q4 : Int32 × Int32) (o : Int32), loopO (fX0_weightOf_L4 p1 s0) n q4 = some o → ∀ (H : Heap) (locs : List Loc) (ls : Array Slot), lv_has ls 4 [(0, .ref h0), (1, .int p1), (2, .int q4.1), (3, .int q4.2)] → va_P D vwCl (flat [WX0 cy h0 a0 s0]) H → va_D A (flat [WX0 cy h0 a0 s0]) → va_S A s.heap H locs → ∀ (kk35 : ∀ (H : Heap) (locs : List Loc) (ls : Array Slot), lv_has ls 4 [(2, .int o)] → va_P D vwCl (flat [WX0 cy h0 a0 s0]) H → va_D A (flat [WX0 cy h0 a0 s0]) → va_S A s.heap H locs → W p l e rmX0_weightOf s m args below meth c H locs 0 0 QQ (F0 m 35 ls [])), W p l e rmX0_weightOf s m args below meth c H locs 0 0 QQ (F0 m 4 ls []) := by
    intro n
    induction n with
    | zero => intro q4 o h; exact absurd h (by rw [loopO_zero]; intro z; cases z)
    | succ n ih =>
      intro q4 o h H locs ls hl hP hD hS kk35
      obtain ⟨w, h, hgo, hst⟩ := loopO_elim h
      unfold fX0_weightOf_L4 at h
      refine lv_iload_n hx hb dX0_weightOf_4 rfl (lv_at hl 3 rfl) ?_
      refine lv_aload_n hx hb dX0_weightOf_5 rfl (lv_at hl 0 rfl) ?_
      refine va_get (D := D) (ci := 0) (v := .int (gi s0 8)) (C := RX0) (T := TX0) (N := 14) hx hb hts hinX0 hown hK hP 0 rfl rfl 8 (by decide) (hts (.fieldLink RX0 37 "KneeBench$Bench" "farmers" "I") (List.mem_of_getElem? (i := 1) rfl)) (fun _ h9 => h9) rfl dX0_weightOf_6 ?_
      refine lv_icmp_ge (tgt := 35) hx hb dX0_weightOf_9 (by decide) (fun c1 => ?_) (fun c1 => ?_)
      · replace h := (if_pos c1).symm.trans h
        have eo := hst _ (Option.some.inj h).symm
        subst eo
        exact kk35 H locs ls (lv_sub hl [2] rfl) hP hD hS
      · replace h := (if_neg c1).symm.trans h
        refine lv_iload_n hx hb dX0_weightOf_12 rfl (lv_at hl 1 rfl) ?_
        refine lv_iload_n hx hb dX0_weightOf_13 rfl (lv_at hl 3 rfl) ?_
        refine lv_iushr hx hb dX0_weightOf_14 rfl ?_
        refine lv_iconst (v := 1) hx hb dX0_weightOf_15 (by decide) ?_
        refine lv_iand hx hb dX0_weightOf_16 ?_
        refine lv_if_eq (tgt := 29) hx hb dX0_weightOf_17 (by decide) (fun c2 => ?_) (fun c2 => ?_)
        · replace h := (if_pos c2).symm.trans h
          refine lv_iinc (v := (q4.2 + (1 : Int32))) (lv' := [(3, .int (q4.2 + (1 : Int32))), (0, .ref h0), (1, .int p1), (2, .int q4.1)]) hx hb dX0_weightOf_29 hl (k := 3) rfl rfl (by decide) rfl (fun ls hl => ?_)
          refine lv_goto (tgt := 4) hx hb dX0_weightOf_32 (by decide) ?_
          exact ih _ o (hgo _ (Option.some.inj h).symm) H locs ls (lv_sub hl [1, 2, 3, 0] rfl) hP hD hS kk35
        · replace h := (if_neg c2).symm.trans h
          refine lv_iload_n hx hb dX0_weightOf_20 rfl (lv_at hl 2 rfl) ?_
          refine lv_aload_n hx hb dX0_weightOf_21 rfl (lv_at hl 0 rfl) ?_
          refine va_get (D := D) (ci := 0) (v := .ref (a0 5)) (C := RX0) (T := TX0) (N := 14) hx hb hts hinX0 hown hK hP 0 rfl rfl 5 (by decide) (hts (.fieldLink RX0 28 "KneeBench$Bench" "weights" "[I") (List.mem_of_getElem? (i := 2) rfl)) (fun _ h9 => h9) rfl dX0_weightOf_22 ?_
          refine lv_iload_n hx hb dX0_weightOf_25 rfl (lv_at hl 3 rfl) ?_
          obtain ⟨g3, h⟩ := gd_elim h
          refine va_iald hx hb hK hP 6 1 rfl rfl (inb_in g3) dX0_weightOf_26 ?_
          refine lv_iadd hx hb dX0_weightOf_27 ?_
          refine lv_topi (fun x4 ex4 => ?_)
          replace h := lt_use h x4 ex4
          refine lv_istore_n (lv' := [(2, .int x4), (0, .ref h0), (1, .int p1), (3, .int q4.2)]) hx hb dX0_weightOf_28 rfl hl (by decide) rfl (fun ls hl => ?_)
          refine lv_iinc (v := (q4.2 + (1 : Int32))) (lv' := [(3, .int (q4.2 + (1 : Int32))), (2, .int x4), (0, .ref h0), (1, .int p1)]) hx hb dX0_weightOf_29 hl (k := 3) rfl rfl (by decide) rfl (fun ls hl => ?_)
          refine lv_goto (tgt := 4) hx hb dX0_weightOf_32 (by decide) ?_
          exact ih _ o (hgo _ (Option.some.inj h).symm) H locs ls (lv_sub hl [2, 3, 1, 0] rfl) hP hD hS kk35
  obtain ⟨o4, ho4, h⟩ := bd_elim h
  obtain ⟨n4, hn4⟩ := loopF_some ho4
  refine L4 n4 _ o4 hn4 H locs ls (lv_sub hl [2, 3, 1, 0] rfl) hP hD hS (fun H locs ls hl hP hD hS => ?_)
  refine lv_iload_n hx hb dX0_weightOf_35 rfl (lv_at hl 0 rfl) ?_
  exact hret 36 H locs ls o4 (Option.some.inj h) hP hD hS dX0_weightOf_36
theorem gd_X0_verdict : wsX0_verdict.all goodWord = true := by decide +kernel
set_option maxRecDepth 20000 in
theorem ggX0_verdict_J6_bitCount_0f7a4 : GoodIn wsX0_verdict wsJ6_bitCount_0f7a4 := goodIn_by gd_X0_verdict (List.forall_mem_cons.mpr ⟨List.mem_cons_of_mem _ (List.mem_append_left _ (List.mem_of_getElem? (i := 3) rfl)), List.forall_mem_cons.mpr ⟨List.mem_cons_of_mem _ (List.mem_append_left _ (List.mem_of_getElem? (i := 4) rfl)), List.forall_mem_cons.mpr ⟨List.mem_cons_of_mem _ (List.mem_append_left _ (List.mem_of_getElem? (i := 5) rfl)), List.forall_mem_cons.mpr ⟨List.mem_cons_of_mem _ (List.mem_append_left _ (List.mem_of_getElem? (i := 6) rfl)), nowords_in⟩⟩⟩⟩)
set_option maxRecDepth 20000 in
theorem gX0_verdict_J6_bitCount_0f7a4 : GoodIn wsX0_verdict (va_wsS RX0 131 yJ6_bitCount_0f7a4 wsJ6_bitCount_0f7a4) := goodIn_app (goodIn_by gd_X0_verdict (List.forall_mem_cons.mpr ⟨List.mem_cons_of_mem _ (List.mem_append_left _ (List.mem_of_getElem? (i := 0) rfl)), List.forall_mem_cons.mpr ⟨List.mem_cons_of_mem _ (List.mem_append_left _ (List.mem_of_getElem? (i := 1) rfl)), List.forall_mem_cons.mpr ⟨List.mem_cons_of_mem _ (List.mem_append_left _ (List.mem_of_getElem? (i := 2) rfl)), nowords_in⟩⟩⟩)) ggX0_verdict_J6_bitCount_0f7a4
set_option maxRecDepth 20000 in
theorem ggX0_verdict_X10_bit : GoodIn wsX0_verdict wsX10_bit := goodIn_by gd_X0_verdict (List.forall_mem_cons.mpr ⟨List.mem_cons_of_mem _ (List.mem_append_left _ (List.mem_of_getElem? (i := 9) rfl)), nowords_in⟩)
set_option maxRecDepth 20000 in
theorem gX0_verdict_X10_bit_n136 : GoodIn wsX0_verdict (wsX10_bit) := ggX0_verdict_X10_bit
set_option maxRecDepth 20000 in
theorem ggX0_verdict_X0_weightOf : GoodIn wsX0_verdict wsX0_weightOf := goodIn_by gd_X0_verdict (List.forall_mem_cons.mpr ⟨List.mem_cons_of_mem _ (List.mem_append_left _ (List.mem_of_getElem? (i := 14) rfl)), List.forall_mem_append.mpr ⟨List.forall_mem_cons.mpr ⟨List.mem_cons_of_mem _ (List.mem_append_left _ (List.mem_of_getElem? (i := 15) rfl)), List.forall_mem_cons.mpr ⟨List.mem_cons_of_mem _ (List.mem_append_left _ (List.mem_of_getElem? (i := 16) rfl)), nowords_in⟩⟩, (fun _ h => List.mem_cons_of_mem _ (List.mem_append_right _ (h)))⟩⟩)
set_option maxRecDepth 20000 in
theorem gX0_verdict_X0_weightOf : GoodIn wsX0_verdict (wsV RX0 140 RX0 yX0_weightOf wsX0_weightOf) := goodIn_app (goodIn_by gd_X0_verdict (List.forall_mem_cons.mpr ⟨List.mem_cons_of_mem _ (List.mem_append_left _ (List.mem_of_getElem? (i := 10) rfl)), List.forall_mem_cons.mpr ⟨List.mem_cons_of_mem _ (List.mem_append_left _ (List.mem_of_getElem? (i := 11) rfl)), List.forall_mem_cons.mpr ⟨List.mem_cons_of_mem _ (List.mem_append_left _ (List.mem_of_getElem? (i := 12) rfl)), List.forall_mem_cons.mpr ⟨List.mem_cons_of_mem _ (List.mem_append_left _ (List.mem_of_getElem? (i := 13) rfl)), nowords_in⟩⟩⟩⟩)) ggX0_verdict_X0_weightOf
theorem dX0_verdict_0 : decode cX0_verdict 0 = .ok (.iload_n 2, 1) := by decide +kernel
theorem dX0_verdict_1 : decode cX0_verdict 1 = .ok (.ifCond .ne 5, 3) := by decide +kernel
theorem dX0_verdict_4 : decode cX0_verdict 4 = .ok (.iconst (-1), 1) := by decide +kernel
theorem dX0_verdict_5 : decode cX0_verdict 5 = .ok (.ireturn, 1) := by decide +kernel
theorem dX0_verdict_6 : decode cX0_verdict 6 = .ok (.iload_n 2, 1) := by decide +kernel
theorem dX0_verdict_7 : decode cX0_verdict 7 = .ok (.iload_n 3, 1) := by decide +kernel
theorem dX0_verdict_8 : decode cX0_verdict 8 = .ok (.iconst (-1), 1) := by decide +kernel
theorem dX0_verdict_9 : decode cX0_verdict 9 = .ok (.ixor, 1) := by decide +kernel
theorem dX0_verdict_10 : decode cX0_verdict 10 = .ok (.iand, 1) := by decide +kernel
theorem dX0_verdict_11 : decode cX0_verdict 11 = .ok (.istore 4, 2) := by decide +kernel
theorem dX0_verdict_13 : decode cX0_verdict 13 = .ok (.iload_n 1, 1) := by decide +kernel
theorem dX0_verdict_14 : decode cX0_verdict 14 = .ok (.tableswitch 83 0 2 #[26, 47, 70], 26) := by decide +kernel
theorem dX0_verdict_40 : decode cX0_verdict 40 = .ok (.iload_n 3, 1) := by decide +kernel
theorem dX0_verdict_41 : decode cX0_verdict 41 = .ok (.invokestatic 131, 3) := by decide +kernel
theorem dX0_verdict_44 : decode cX0_verdict 44 = .ok (.iload 4, 2) := by decide +kernel
theorem dX0_verdict_46 : decode cX0_verdict 46 = .ok (.invokestatic 131, 3) := by decide +kernel
theorem dX0_verdict_49 : decode cX0_verdict 49 = .ok (.if_icmp .le 7, 3) := by decide +kernel
theorem dX0_verdict_52 : decode cX0_verdict 52 = .ok (.iconst 1, 1) := by decide +kernel
theorem dX0_verdict_53 : decode cX0_verdict 53 = .ok (.goto 4, 3) := by decide +kernel
theorem dX0_verdict_56 : decode cX0_verdict 56 = .ok (.iconst 0, 1) := by decide +kernel
theorem dX0_verdict_57 : decode cX0_verdict 57 = .ok (.invokestatic 136, 3) := by decide +kernel
theorem dX0_verdict_60 : decode cX0_verdict 60 = .ok (.ireturn, 1) := by decide +kernel
theorem dX0_verdict_61 : decode cX0_verdict 61 = .ok (.aload_n 0, 1) := by decide +kernel
theorem dX0_verdict_62 : decode cX0_verdict 62 = .ok (.iload_n 3, 1) := by decide +kernel
theorem dX0_verdict_63 : decode cX0_verdict 63 = .ok (.invokevirtual 140, 3) := by decide +kernel
theorem dX0_verdict_66 : decode cX0_verdict 66 = .ok (.aload_n 0, 1) := by decide +kernel
theorem dX0_verdict_67 : decode cX0_verdict 67 = .ok (.iload 4, 2) := by decide +kernel
theorem dX0_verdict_69 : decode cX0_verdict 69 = .ok (.invokevirtual 140, 3) := by decide +kernel
theorem dX0_verdict_72 : decode cX0_verdict 72 = .ok (.if_icmp .le 7, 3) := by decide +kernel
theorem dX0_verdict_75 : decode cX0_verdict 75 = .ok (.iconst 1, 1) := by decide +kernel
theorem dX0_verdict_76 : decode cX0_verdict 76 = .ok (.goto 4, 3) := by decide +kernel
theorem dX0_verdict_79 : decode cX0_verdict 79 = .ok (.iconst 0, 1) := by decide +kernel
theorem dX0_verdict_80 : decode cX0_verdict 80 = .ok (.invokestatic 136, 3) := by decide +kernel
theorem dX0_verdict_83 : decode cX0_verdict 83 = .ok (.ireturn, 1) := by decide +kernel
theorem dX0_verdict_84 : decode cX0_verdict 84 = .ok (.iload_n 3, 1) := by decide +kernel
theorem dX0_verdict_85 : decode cX0_verdict 85 = .ok (.ifCond .eq 7, 3) := by decide +kernel
theorem dX0_verdict_88 : decode cX0_verdict 88 = .ok (.iconst 1, 1) := by decide +kernel
theorem dX0_verdict_89 : decode cX0_verdict 89 = .ok (.goto 4, 3) := by decide +kernel
theorem dX0_verdict_92 : decode cX0_verdict 92 = .ok (.iconst 0, 1) := by decide +kernel
theorem dX0_verdict_93 : decode cX0_verdict 93 = .ok (.invokestatic 136, 3) := by decide +kernel
theorem dX0_verdict_96 : decode cX0_verdict 96 = .ok (.ireturn, 1) := by decide +kernel
theorem dX0_verdict_97 : decode cX0_verdict 97 = .ok (.iload 4, 2) := by decide +kernel
theorem dX0_verdict_99 : decode cX0_verdict 99 = .ok (.ifCond .ne 7, 3) := by decide +kernel
theorem dX0_verdict_102 : decode cX0_verdict 102 = .ok (.iconst 1, 1) := by decide +kernel
theorem dX0_verdict_103 : decode cX0_verdict 103 = .ok (.goto 4, 3) := by decide +kernel
theorem dX0_verdict_106 : decode cX0_verdict 106 = .ok (.iconst 0, 1) := by decide +kernel
theorem dX0_verdict_107 : decode cX0_verdict 107 = .ok (.invokestatic 136, 3) := by decide +kernel
theorem dX0_verdict_110 : decode cX0_verdict 110 = .ok (.ireturn, 1) := by decide +kernel
abbrev rmX0_verdict : Room := { frames := 1, cells := 0, slots := 0, locals := 23 }
set_option maxHeartbeats 4000000 in
set_option maxRecDepth 100000 in
theorem kX0_verdict (l : Launch) (D : va_G) (cy : Nat → ClassId) (h0 : Nat) (a0 : Nat → Nat) (s0 : Rc) (p1 : Int32) (p2 : Int32) (p3 : Int32) (res : Int32) (h : fX0_verdict p1 p2 p3 s0 = some res) : CI l D cy yX0_verdict wsX0_verdict rmX0_verdict [.ref h0, .int p1, .int p2, .int p3] (flat [WX0 cy h0 a0 s0]) (flat [WX0 cy h0 a0 s0]) res := by
  refine CI.of (cc := cX0_verdict) (maxL := 5) (by decide) rfl (Nat.le_of_ble_eq_true rfl) ?_
  intro p e s m args below meth c A QQ ls E hr
  obtain ⟨hx, hb, hml, hown, hts, hK, hN, hP, hD, hA, hl⟩ := E
  have hret : ∀ (pc : Nat) (H : Heap) (locs : List Loc) (ls : Array Slot) (u : Int32), u = res → va_P D vwCl (flat [WX0 cy h0 a0 s0]) H → va_D A (flat [WX0 cy h0 a0 s0]) → va_S A s.heap H locs → decode cX0_verdict pc = .ok (.ireturn, 1) → W p l e rmX0_verdict s m args below meth c H locs 0 0 QQ (F0 m pc ls [.int u]) := by
    intro pc H locs ls u hu hP hD hS hd; subst hu; exact hr pc H locs ls _ rfl hP hD hS hd
  clear hr
  have hl : lv_has ls 5 [(0, .ref h0), (1, .int p1), (2, .int p2), (3, .int p3)] := hl
  unfold fX0_verdict at h
  suffices key : ∀ (H : Heap) (locs : List Loc), va_P D vwCl (flat [WX0 cy h0 a0 s0]) H → va_S A s.heap H locs → W p l e rmX0_verdict s m args below meth c H locs 0 0 QQ (F0 m 0 ls []) from key _ _ hP va_S.rf
  clear hP
  intro H locs hP hS
  refine lv_iload_n hx hb dX0_verdict_0 rfl (lv_at hl 2 rfl) ?_
  refine lv_if_ne (tgt := 6) hx hb dX0_verdict_1 (by decide) (fun c1 => ?_) (fun c1 => ?_)
  · replace h := (if_neg c1).symm.trans h
    refine lv_iload_n hx hb dX0_verdict_6 rfl (lv_at hl 2 rfl) ?_
    refine lv_iload_n hx hb dX0_verdict_7 rfl (lv_at hl 3 rfl) ?_
    refine lv_iconst (v := -1) hx hb dX0_verdict_8 (by decide) ?_
    refine lv_ixor hx hb dX0_verdict_9 ?_
    refine lv_iand hx hb dX0_verdict_10 ?_
    refine lv_topi (fun x2 ex2 => ?_)
    replace h := lt_use h x2 ex2
    refine lv_istore (lv' := [(4, .int x2), (0, .ref h0), (1, .int p1), (2, .int p2), (3, .int p3)]) hx hb dX0_verdict_11 hl (by decide) rfl (fun ls hl => ?_)
    refine lv_iload_n hx hb dX0_verdict_13 rfl (lv_at hl 2 rfl) ?_
    by_cases c3 : p1 = (0 : Int32)
    · replace h := (if_pos c3).symm.trans h
      refine lv_tableIn (tgt := 40) hx hb dX0_verdict_14 (by rw [c3]; decide) (by rw [c3]; decide) (by rw [c3]; rfl) (by decide) ?_
      refine lv_iload_n hx hb dX0_verdict_40 rfl (lv_at hl 4 rfl) ?_
      refine ca_i (w' := [WX0 cy h0 a0 s0]) (rn_S (As := [.int p3]) (rest := []) ⟨hx, hb, hml, hown, hts⟩ (kJ6_bitCount_0f7a4 l D cy p3 _ rfl H.size) (va_cwS 1 hts gX0_verdict_J6_bitCount_0f7a4 rfl rfl rfl (by decide +kernel) ⟨Nat.le_of_ble_eq_true rfl, Nat.le_of_ble_eq_true rfl⟩) hK hN hP hD [] rfl rfl rfl hl.1 rfl (Nat.le_of_ble_eq_true rfl) dX0_verdict_41 ⟨Nat.le_refl 0, Nat.le_refl 0⟩) hP hD hS hA [] ⟨rfl, rfl, rfl, rfl⟩ (fun H locs hP hD hS => ?_)
      refine lv_iload hx hb dX0_verdict_44 (lv_at hl 0 rfl) ?_
      refine ca_i (w' := [WX0 cy h0 a0 s0]) (rn_S (As := [.int x2]) (rest := [.int (fJ6_bitCount_0f7a4 p3)]) ⟨hx, hb, hml, hown, hts⟩ (kJ6_bitCount_0f7a4 l D cy x2 _ rfl H.size) (va_cwS 1 hts gX0_verdict_J6_bitCount_0f7a4 rfl rfl rfl (by decide +kernel) ⟨Nat.le_of_ble_eq_true rfl, Nat.le_of_ble_eq_true rfl⟩) hK hN hP hD [] rfl rfl rfl hl.1 rfl (Nat.le_of_ble_eq_true rfl) dX0_verdict_46 ⟨Nat.le_refl 0, Nat.le_refl 0⟩) hP hD hS hA [] ⟨rfl, rfl, rfl, rfl⟩ (fun H locs hP hD hS => ?_)
      refine lv_icmp_le (tgt := 56) hx hb dX0_verdict_49 (by decide) (fun c4 => ?_) (fun c4 => ?_)
      · replace h := (if_pos c4).symm.trans h
        refine lv_iconst (v := 0) hx hb dX0_verdict_56 (by decide) ?_
        refine ca_i (w' := [WX0 cy h0 a0 s0]) (rn_SN (As := [.int (0 : Int32)]) (rest := []) ⟨hx, hb, hml, hown, hts⟩ (kX10_bit l D cy (0 : Int32) _ rfl H.size) ⟨va_cnB 1 hts gX0_verdict_X10_bit_n136 rfl rfl rfl (NW.met hN 14 rfl) (hts (.initialized RX10) (List.mem_of_getElem? (i := 9) rfl)) (by decide +kernel) ⟨Nat.le_of_ble_eq_true rfl, Nat.le_of_ble_eq_true rfl⟩, hts (.static yX10_bit) (List.mem_of_getElem? (i := 8) rfl), trivial⟩ hK hN hP hD [] rfl rfl rfl hl.1 rfl (Nat.le_of_ble_eq_true rfl) dX0_verdict_57 ⟨Nat.le_refl 0, Nat.le_refl 0⟩) hP hD hS hA [] ⟨rfl, rfl, rfl, rfl⟩ (fun H locs hP hD hS => ?_)
        exact hret 60 H locs ls (fX10_bit (0 : Int32)) (Option.some.inj h) hP hD hS dX0_verdict_60
      · replace h := (if_neg c4).symm.trans h
        refine lv_iconst (v := 1) hx hb dX0_verdict_52 (by decide) ?_
        refine lv_goto (tgt := 57) hx hb dX0_verdict_53 (by decide) ?_
        refine ca_i (w' := [WX0 cy h0 a0 s0]) (rn_SN (As := [.int (1 : Int32)]) (rest := []) ⟨hx, hb, hml, hown, hts⟩ (kX10_bit l D cy (1 : Int32) _ rfl H.size) ⟨va_cnB 1 hts gX0_verdict_X10_bit_n136 rfl rfl rfl (NW.met hN 14 rfl) (hts (.initialized RX10) (List.mem_of_getElem? (i := 9) rfl)) (by decide +kernel) ⟨Nat.le_of_ble_eq_true rfl, Nat.le_of_ble_eq_true rfl⟩, hts (.static yX10_bit) (List.mem_of_getElem? (i := 8) rfl), trivial⟩ hK hN hP hD [] rfl rfl rfl hl.1 rfl (Nat.le_of_ble_eq_true rfl) dX0_verdict_57 ⟨Nat.le_refl 0, Nat.le_refl 0⟩) hP hD hS hA [] ⟨rfl, rfl, rfl, rfl⟩ (fun H locs hP hD hS => ?_)
        exact hret 60 H locs ls (fX10_bit (1 : Int32)) (Option.some.inj h) hP hD hS dX0_verdict_60
    replace h := (if_neg c3).symm.trans h
    by_cases c5 : p1 = (1 : Int32)
    · replace h := (if_pos c5).symm.trans h
      refine lv_tableIn (tgt := 61) hx hb dX0_verdict_14 (by rw [c5]; decide) (by rw [c5]; decide) (by rw [c5]; rfl) (by decide) ?_
      refine lv_aload_n hx hb dX0_verdict_61 rfl (lv_at hl 1 rfl) ?_
      refine lv_iload_n hx hb dX0_verdict_62 rfl (lv_at hl 4 rfl) ?_
      obtain ⟨r6, hr6, h⟩ := bd_elim h
      refine ca_i (w' := [WX0 cy h0 a0 s0]) (rn_V (As := [.int p3]) (rest := []) ⟨hx, hb, hml, hown, hts⟩ (kX0_weightOf l D cy h0 a0 s0 p3 r6 hr6 H.size) (cwV 1 hts gX0_verdict_X0_weightOf rfl rfl rfl (by decide +kernel) ⟨Nat.le_of_ble_eq_true rfl, Nat.le_of_ble_eq_true rfl⟩) hK hN hP hD [0] rfl rfl (ci := 0) (q0 := 0) rfl rfl rfl rfl hl.1 rfl (Nat.le_of_ble_eq_true rfl) dX0_verdict_63 ⟨Nat.le_refl 0, Nat.le_refl 0⟩) hP hD hS hA [0] ⟨rfl, rfl, rfl, rfl⟩ (fun H locs hP hD hS => ?_)
      refine lv_aload_n hx hb dX0_verdict_66 rfl (lv_at hl 1 rfl) ?_
      refine lv_iload hx hb dX0_verdict_67 (lv_at hl 0 rfl) ?_
      obtain ⟨r7, hr7, h⟩ := bd_elim h
      refine ca_i (w' := [WX0 cy h0 a0 s0]) (rn_V (As := [.int x2]) (rest := [.int r6]) ⟨hx, hb, hml, hown, hts⟩ (kX0_weightOf l D cy h0 a0 s0 x2 r7 hr7 H.size) (cwV 1 hts gX0_verdict_X0_weightOf rfl rfl rfl (by decide +kernel) ⟨Nat.le_of_ble_eq_true rfl, Nat.le_of_ble_eq_true rfl⟩) hK hN hP hD [0] rfl rfl (ci := 0) (q0 := 0) rfl rfl rfl rfl hl.1 rfl (Nat.le_of_ble_eq_true rfl) dX0_verdict_69 ⟨Nat.le_refl 0, Nat.le_refl 0⟩) hP hD hS hA [0] ⟨rfl, rfl, rfl, rfl⟩ (fun H locs hP hD hS => ?_)
      refine lv_icmp_le (tgt := 79) hx hb dX0_verdict_72 (by decide) (fun c8 => ?_) (fun c8 => ?_)
      · replace h := (if_pos c8).symm.trans h
        refine lv_iconst (v := 0) hx hb dX0_verdict_79 (by decide) ?_
        refine ca_i (w' := [WX0 cy h0 a0 s0]) (rn_SN (As := [.int (0 : Int32)]) (rest := []) ⟨hx, hb, hml, hown, hts⟩ (kX10_bit l D cy (0 : Int32) _ rfl H.size) ⟨va_cnB 1 hts gX0_verdict_X10_bit_n136 rfl rfl rfl (NW.met hN 14 rfl) (hts (.initialized RX10) (List.mem_of_getElem? (i := 9) rfl)) (by decide +kernel) ⟨Nat.le_of_ble_eq_true rfl, Nat.le_of_ble_eq_true rfl⟩, hts (.static yX10_bit) (List.mem_of_getElem? (i := 8) rfl), trivial⟩ hK hN hP hD [] rfl rfl rfl hl.1 rfl (Nat.le_of_ble_eq_true rfl) dX0_verdict_80 ⟨Nat.le_refl 0, Nat.le_refl 0⟩) hP hD hS hA [] ⟨rfl, rfl, rfl, rfl⟩ (fun H locs hP hD hS => ?_)
        exact hret 83 H locs ls (fX10_bit (0 : Int32)) (Option.some.inj h) hP hD hS dX0_verdict_83
      · replace h := (if_neg c8).symm.trans h
        refine lv_iconst (v := 1) hx hb dX0_verdict_75 (by decide) ?_
        refine lv_goto (tgt := 80) hx hb dX0_verdict_76 (by decide) ?_
        refine ca_i (w' := [WX0 cy h0 a0 s0]) (rn_SN (As := [.int (1 : Int32)]) (rest := []) ⟨hx, hb, hml, hown, hts⟩ (kX10_bit l D cy (1 : Int32) _ rfl H.size) ⟨va_cnB 1 hts gX0_verdict_X10_bit_n136 rfl rfl rfl (NW.met hN 14 rfl) (hts (.initialized RX10) (List.mem_of_getElem? (i := 9) rfl)) (by decide +kernel) ⟨Nat.le_of_ble_eq_true rfl, Nat.le_of_ble_eq_true rfl⟩, hts (.static yX10_bit) (List.mem_of_getElem? (i := 8) rfl), trivial⟩ hK hN hP hD [] rfl rfl rfl hl.1 rfl (Nat.le_of_ble_eq_true rfl) dX0_verdict_80 ⟨Nat.le_refl 0, Nat.le_refl 0⟩) hP hD hS hA [] ⟨rfl, rfl, rfl, rfl⟩ (fun H locs hP hD hS => ?_)
        exact hret 83 H locs ls (fX10_bit (1 : Int32)) (Option.some.inj h) hP hD hS dX0_verdict_83
    replace h := (if_neg c5).symm.trans h
    by_cases c9 : p1 = (2 : Int32)
    · replace h := (if_pos c9).symm.trans h
      refine lv_tableIn (tgt := 84) hx hb dX0_verdict_14 (by rw [c9]; decide) (by rw [c9]; decide) (by rw [c9]; rfl) (by decide) ?_
      refine lv_iload_n hx hb dX0_verdict_84 rfl (lv_at hl 4 rfl) ?_
      refine lv_if_eq (tgt := 92) hx hb dX0_verdict_85 (by decide) (fun c10 => ?_) (fun c10 => ?_)
      · replace h := (if_pos c10).symm.trans h
        refine lv_iconst (v := 0) hx hb dX0_verdict_92 (by decide) ?_
        refine ca_i (w' := [WX0 cy h0 a0 s0]) (rn_SN (As := [.int (0 : Int32)]) (rest := []) ⟨hx, hb, hml, hown, hts⟩ (kX10_bit l D cy (0 : Int32) _ rfl H.size) ⟨va_cnB 1 hts gX0_verdict_X10_bit_n136 rfl rfl rfl (NW.met hN 14 rfl) (hts (.initialized RX10) (List.mem_of_getElem? (i := 9) rfl)) (by decide +kernel) ⟨Nat.le_of_ble_eq_true rfl, Nat.le_of_ble_eq_true rfl⟩, hts (.static yX10_bit) (List.mem_of_getElem? (i := 8) rfl), trivial⟩ hK hN hP hD [] rfl rfl rfl hl.1 rfl (Nat.le_of_ble_eq_true rfl) dX0_verdict_93 ⟨Nat.le_refl 0, Nat.le_refl 0⟩) hP hD hS hA [] ⟨rfl, rfl, rfl, rfl⟩ (fun H locs hP hD hS => ?_)
        exact hret 96 H locs ls (fX10_bit (0 : Int32)) (Option.some.inj h) hP hD hS dX0_verdict_96
      · replace h := (if_neg c10).symm.trans h
        refine lv_iconst (v := 1) hx hb dX0_verdict_88 (by decide) ?_
        refine lv_goto (tgt := 93) hx hb dX0_verdict_89 (by decide) ?_
        refine ca_i (w' := [WX0 cy h0 a0 s0]) (rn_SN (As := [.int (1 : Int32)]) (rest := []) ⟨hx, hb, hml, hown, hts⟩ (kX10_bit l D cy (1 : Int32) _ rfl H.size) ⟨va_cnB 1 hts gX0_verdict_X10_bit_n136 rfl rfl rfl (NW.met hN 14 rfl) (hts (.initialized RX10) (List.mem_of_getElem? (i := 9) rfl)) (by decide +kernel) ⟨Nat.le_of_ble_eq_true rfl, Nat.le_of_ble_eq_true rfl⟩, hts (.static yX10_bit) (List.mem_of_getElem? (i := 8) rfl), trivial⟩ hK hN hP hD [] rfl rfl rfl hl.1 rfl (Nat.le_of_ble_eq_true rfl) dX0_verdict_93 ⟨Nat.le_refl 0, Nat.le_refl 0⟩) hP hD hS hA [] ⟨rfl, rfl, rfl, rfl⟩ (fun H locs hP hD hS => ?_)
        exact hret 96 H locs ls (fX10_bit (1 : Int32)) (Option.some.inj h) hP hD hS dX0_verdict_96
    replace h := (if_neg c9).symm.trans h
    have ic3 : p1.toInt ≠ 0 := fun z => c3 (Int32.toInt_inj.mp (z.trans (by decide)))
    have ic5 : p1.toInt ≠ 1 := fun z => c5 (Int32.toInt_inj.mp (z.trans (by decide)))
    have ic9 : p1.toInt ≠ 2 := fun z => c9 (Int32.toInt_inj.mp (z.trans (by decide)))
    have hsw : p1.toInt < 0 ∨ 2 < p1.toInt := by omega
    refine lv_tdf (tgt := 97) hx hb dX0_verdict_14 ?_ (by decide) ?_
    · rcases hsw with z | z
      · exact Or.inl z
      · exact Or.inr (Or.inl z)
    refine lv_iload hx hb dX0_verdict_97 (lv_at hl 0 rfl) ?_
    refine lv_if_ne (tgt := 106) hx hb dX0_verdict_99 (by decide) (fun c11 => ?_) (fun c11 => ?_)
    · replace h := (if_neg c11).symm.trans h
      refine lv_iconst (v := 0) hx hb dX0_verdict_106 (by decide) ?_
      refine ca_i (w' := [WX0 cy h0 a0 s0]) (rn_SN (As := [.int (0 : Int32)]) (rest := []) ⟨hx, hb, hml, hown, hts⟩ (kX10_bit l D cy (0 : Int32) _ rfl H.size) ⟨va_cnB 1 hts gX0_verdict_X10_bit_n136 rfl rfl rfl (NW.met hN 14 rfl) (hts (.initialized RX10) (List.mem_of_getElem? (i := 9) rfl)) (by decide +kernel) ⟨Nat.le_of_ble_eq_true rfl, Nat.le_of_ble_eq_true rfl⟩, hts (.static yX10_bit) (List.mem_of_getElem? (i := 8) rfl), trivial⟩ hK hN hP hD [] rfl rfl rfl hl.1 rfl (Nat.le_of_ble_eq_true rfl) dX0_verdict_107 ⟨Nat.le_refl 0, Nat.le_refl 0⟩) hP hD hS hA [] ⟨rfl, rfl, rfl, rfl⟩ (fun H locs hP hD hS => ?_)
      exact hret 110 H locs ls (fX10_bit (0 : Int32)) (Option.some.inj h) hP hD hS dX0_verdict_110
    · replace h := (if_pos c11).symm.trans h
      refine lv_iconst (v := 1) hx hb dX0_verdict_102 (by decide) ?_
      refine lv_goto (tgt := 107) hx hb dX0_verdict_103 (by decide) ?_
      refine ca_i (w' := [WX0 cy h0 a0 s0]) (rn_SN (As := [.int (1 : Int32)]) (rest := []) ⟨hx, hb, hml, hown, hts⟩ (kX10_bit l D cy (1 : Int32) _ rfl H.size) ⟨va_cnB 1 hts gX0_verdict_X10_bit_n136 rfl rfl rfl (NW.met hN 14 rfl) (hts (.initialized RX10) (List.mem_of_getElem? (i := 9) rfl)) (by decide +kernel) ⟨Nat.le_of_ble_eq_true rfl, Nat.le_of_ble_eq_true rfl⟩, hts (.static yX10_bit) (List.mem_of_getElem? (i := 8) rfl), trivial⟩ hK hN hP hD [] rfl rfl rfl hl.1 rfl (Nat.le_of_ble_eq_true rfl) dX0_verdict_107 ⟨Nat.le_refl 0, Nat.le_refl 0⟩) hP hD hS hA [] ⟨rfl, rfl, rfl, rfl⟩ (fun H locs hP hD hS => ?_)
      exact hret 110 H locs ls (fX10_bit (1 : Int32)) (Option.some.inj h) hP hD hS dX0_verdict_110
  · replace h := (if_pos c1).symm.trans h
    refine lv_iconst (v := -1) hx hb dX0_verdict_4 (by decide) ?_
    exact hret 5 H locs ls (-1 : Int32) (Option.some.inj h) hP hD hS dX0_verdict_5
