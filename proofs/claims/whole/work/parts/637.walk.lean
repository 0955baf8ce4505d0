theorem gd_X11_tellOf : wsX11_tellOf.all goodWord = true := by decide +kernel
set_option maxRecDepth 20000 in
theorem ggX11_tellOf_X11_lagOf : GoodIn wsX11_tellOf wsX11_lagOf := goodIn_by gd_X11_tellOf (List.forall_mem_cons.mpr ⟨List.mem_cons_of_mem _ (List.mem_append_left _ (List.mem_of_getElem? (i := 7) rfl)), List.forall_mem_append.mpr ⟨List.forall_mem_cons.mpr ⟨List.mem_cons_of_mem _ (List.mem_append_left _ (List.mem_of_getElem? (i := 1) rfl)), List.forall_mem_cons.mpr ⟨List.mem_cons_of_mem _ (List.mem_append_left _ (List.mem_of_getElem? (i := 8) rfl)), List.forall_mem_cons.mpr ⟨List.mem_cons_of_mem _ (List.mem_append_left _ (List.mem_of_getElem? (i := 9) rfl)), List.forall_mem_cons.mpr ⟨List.mem_cons_of_mem _ (List.mem_append_left _ (List.mem_of_getElem? (i := 6) rfl)), List.forall_mem_cons.mpr ⟨List.mem_cons_of_mem _ (List.mem_append_left _ (List.mem_of_getElem? (i := 10) rfl)), nowords_in⟩⟩⟩⟩⟩, (fun _ h => List.mem_cons_of_mem _ (List.mem_append_right _ (h)))⟩⟩)
set_option maxRecDepth 20000 in
theorem gX11_tellOf_X11_lagOf : GoodIn wsX11_tellOf (wsV RX11 252 RX11 yX11_lagOf wsX11_lagOf) := goodIn_app (goodIn_by gd_X11_tellOf (List.forall_mem_cons.mpr ⟨List.mem_cons_of_mem _ (List.mem_append_left _ (List.mem_of_getElem? (i := 3) rfl)), List.forall_mem_cons.mpr ⟨List.mem_cons_of_mem _ (List.mem_append_left _ (List.mem_of_getElem? (i := 4) rfl)), List.forall_mem_cons.mpr ⟨List.mem_cons_of_mem _ (List.mem_append_left _ (List.mem_of_getElem? (i := 5) rfl)), List.forall_mem_cons.mpr ⟨List.mem_cons_of_mem _ (List.mem_append_left _ (List.mem_of_getElem? (i := 6) rfl)), nowords_in⟩⟩⟩⟩)) ggX11_tellOf_X11_lagOf
set_option maxRecDepth 20000 in
theorem ggX11_tellOf_X11_isDay : GoodIn wsX11_tellOf wsX11_isDay := goodIn_by gd_X11_tellOf (List.forall_mem_cons.mpr ⟨List.mem_cons_of_mem _ (List.mem_append_left _ (List.mem_of_getElem? (i := 14) rfl)), List.forall_mem_append.mpr ⟨List.forall_mem_cons.mpr ⟨List.mem_cons_of_mem _ (List.mem_append_left _ (List.mem_of_getElem? (i := 1) rfl)), nowords_in⟩, (fun _ h => List.mem_cons_of_mem _ (List.mem_append_right _ (h)))⟩⟩)
set_option maxRecDepth 20000 in
theorem gX11_tellOf_X11_isDay : GoodIn wsX11_tellOf (wsV RX11 255 RX11 yX11_isDay wsX11_isDay) := goodIn_app (goodIn_by gd_X11_tellOf (List.forall_mem_cons.mpr ⟨List.mem_cons_of_mem _ (List.mem_append_left _ (List.mem_of_getElem? (i := 11) rfl)), List.forall_mem_cons.mpr ⟨List.mem_cons_of_mem _ (List.mem_append_left _ (List.mem_of_getElem? (i := 12) rfl)), List.forall_mem_cons.mpr ⟨List.mem_cons_of_mem _ (List.mem_append_left _ (List.mem_of_getElem? (i := 13) rfl)), List.forall_mem_cons.mpr ⟨List.mem_cons_of_mem _ (List.mem_append_left _ (List.mem_of_getElem? (i := 6) rfl)), nowords_in⟩⟩⟩⟩)) ggX11_tellOf_X11_isDay
set_option maxRecDepth 20000 in
theorem ggX11_tellOf_X11_isWell : GoodIn wsX11_tellOf wsX11_isWell := goodIn_by gd_X11_tellOf (List.forall_mem_cons.mpr ⟨List.mem_cons_of_mem _ (List.mem_append_left _ (List.mem_of_getElem? (i := 18) rfl)), List.forall_mem_append.mpr ⟨List.forall_mem_cons.mpr ⟨List.mem_cons_of_mem _ (List.mem_append_left _ (List.mem_of_getElem? (i := 1) rfl)), List.forall_mem_cons.mpr ⟨List.mem_cons_of_mem _ (List.mem_append_left _ (List.mem_of_getElem? (i := 8) rfl)), List.forall_mem_cons.mpr ⟨List.mem_cons_of_mem _ (List.mem_append_left _ (List.mem_of_getElem? (i := 9) rfl)), List.forall_mem_cons.mpr ⟨List.mem_cons_of_mem _ (List.mem_append_left _ (List.mem_of_getElem? (i := 6) rfl)), List.forall_mem_cons.mpr ⟨List.mem_cons_of_mem _ (List.mem_append_left _ (List.mem_of_getElem? (i := 10) rfl)), nowords_in⟩⟩⟩⟩⟩, (fun _ h => List.mem_cons_of_mem _ (List.mem_append_right _ (h)))⟩⟩)
set_option maxRecDepth 20000 in
theorem gX11_tellOf_X11_isWell : GoodIn wsX11_tellOf (wsV RX11 261 RX11 yX11_isWell wsX11_isWell) := goodIn_app (goodIn_by gd_X11_tellOf (List.forall_mem_cons.mpr ⟨List.mem_cons_of_mem _ (List.mem_append_left _ (List.mem_of_getElem? (i := 15) rfl)), List.forall_mem_cons.mpr ⟨List.mem_cons_of_mem _ (List.mem_append_left _ (List.mem_of_getElem? (i := 16) rfl)), List.forall_mem_cons.mpr ⟨List.mem_cons_of_mem _ (List.mem_append_left _ (List.mem_of_getElem? (i := 17) rfl)), List.forall_mem_cons.mpr ⟨List.mem_cons_of_mem _ (List.mem_append_left _ (List.mem_of_getElem? (i := 6) rfl)), nowords_in⟩⟩⟩⟩)) ggX11_tellOf_X11_isWell
set_option maxRecDepth 20000 in
theorem ggX11_tellOf_X11_twingeRow : GoodIn wsX11_tellOf wsX11_twingeRow := goodIn_by gd_X11_tellOf (List.forall_mem_cons.mpr ⟨List.mem_cons_of_mem _ (List.mem_append_left _ (List.mem_of_getElem? (i := 21) rfl)), nowords_in⟩)
set_option maxRecDepth 20000 in
theorem gX11_tellOf_X11_twingeRow : GoodIn wsX11_tellOf (va_wsS RX11 225 yX11_twingeRow wsX11_twingeRow) := goodIn_app (goodIn_by gd_X11_tellOf (List.forall_mem_cons.mpr ⟨List.mem_cons_of_mem _ (List.mem_append_left _ (List.mem_of_getElem? (i := 19) rfl)), List.forall_mem_cons.mpr ⟨List.mem_cons_of_mem _ (List.mem_append_left _ (List.mem_of_getElem? (i := 20) rfl)), List.forall_mem_cons.mpr ⟨List.mem_cons_of_mem _ (List.mem_append_left _ (List.mem_of_getElem? (i := 6) rfl)), nowords_in⟩⟩⟩)) ggX11_tellOf_X11_twingeRow
theorem dX11_tellOf_0 : decode cX11_tellOf 0 = .ok (.iload_n 2, 1) := by decide +kernel
theorem dX11_tellOf_1 : decode cX11_tellOf 1 = .ok (.aload_n 0, 1) := by decide +kernel
theorem dX11_tellOf_2 : decode cX11_tellOf 2 = .ok (.iload_n 1, 1) := by decide +kernel
theorem dX11_tellOf_3 : decode cX11_tellOf 3 = .ok (.invokevirtual 252, 3) := by decide +kernel
theorem dX11_tellOf_6 : decode cX11_tellOf 6 = .ok (.isub, 1) := by decide +kernel
theorem dX11_tellOf_7 : decode cX11_tellOf 7 = .ok (.istore_n 3, 1) := by decide +kernel
theorem dX11_tellOf_8 : decode cX11_tellOf 8 = .ok (.iload_n 1, 1) := by decide +kernel
theorem dX11_tellOf_9 : decode cX11_tellOf 9 = .ok (.aload_n 0, 1) := by decide +kernel
theorem dX11_tellOf_10 : decode cX11_tellOf 10 = .ok (.getfield 47, 3) := by decide +kernel
theorem dX11_tellOf_13 : decode cX11_tellOf 13 = .ok (.if_icmp .eq 20, 3) := by decide +kernel
theorem dX11_tellOf_16 : decode cX11_tellOf 16 = .ok (.aload_n 0, 1) := by decide +kernel
theorem dX11_tellOf_17 : decode cX11_tellOf 17 = .ok (.iload_n 3, 1) := by decide +kernel
theorem dX11_tellOf_18 : decode cX11_tellOf 18 = .ok (.invokevirtual 255, 3) := by decide +kernel
theorem dX11_tellOf_21 : decode cX11_tellOf 21 = .ok (.ifCond .eq 12, 3) := by decide +kernel
theorem dX11_tellOf_24 : decode cX11_tellOf 24 = .ok (.aload_n 0, 1) := by decide +kernel
theorem dX11_tellOf_25 : decode cX11_tellOf 25 = .ok (.iload_n 1, 1) := by decide +kernel
theorem dX11_tellOf_26 : decode cX11_tellOf 26 = .ok (.iload_n 3, 1) := by decide +kernel
theorem dX11_tellOf_27 : decode cX11_tellOf 27 = .ok (.invokevirtual 261, 3) := by decide +kernel
theorem dX11_tellOf_30 : decode cX11_tellOf 30 = .ok (.ifCond .eq 5, 3) := by decide +kernel
theorem dX11_tellOf_33 : decode cX11_tellOf 33 = .ok (.iconst (-1), 1) := by decide +kernel
theorem dX11_tellOf_34 : decode cX11_tellOf 34 = .ok (.ireturn, 1) := by decide +kernel
theorem dX11_tellOf_35 : decode cX11_tellOf 35 = .ok (.aload_n 0, 1) := by decide +kernel
theorem dX11_tellOf_36 : decode cX11_tellOf 36 = .ok (.getfield 7, 3) := by decide +kernel
theorem dX11_tellOf_39 : decode cX11_tellOf 39 = .ok (.iload_n 1, 1) := by decide +kernel
theorem dX11_tellOf_40 : decode cX11_tellOf 40 = .ok (.iload_n 3, 1) := by decide +kernel
theorem dX11_tellOf_41 : decode cX11_tellOf 41 = .ok (.invokestatic 225, 3) := by decide +kernel
theorem dX11_tellOf_44 : decode cX11_tellOf 44 = .ok (.iaload, 1) := by decide +kernel
theorem dX11_tellOf_45 : decode cX11_tellOf 45 = .ok (.aload_n 0, 1) := by decide +kernel
theorem dX11_tellOf_46 : decode cX11_tellOf 46 = .ok (.getfield 301, 3) := by decide +kernel
theorem dX11_tellOf_49 : decode cX11_tellOf 49 = .ok (.iload_n 1, 1) := by decide +kernel
theorem dX11_tellOf_50 : decode cX11_tellOf 50 = .ok (.ishr, 1) := by decide +kernel
theorem dX11_tellOf_51 : decode cX11_tellOf 51 = .ok (.iconst 1, 1) := by decide +kernel
theorem dX11_tellOf_52 : decode cX11_tellOf 52 = .ok (.iand, 1) := by decide +kernel
theorem dX11_tellOf_53 : decode cX11_tellOf 53 = .ok (.ixor, 1) := by decide +kernel
theorem dX11_tellOf_54 : decode cX11_tellOf 54 = .ok (.ireturn, 1) := by decide +kernel
abbrev rmX11_tellOf : Room := { frames := 2, cells := 0, slots := 0, locals := 43 }
set_option maxHeartbeats 4000000 in
set_option maxRecDepth 100000 in
theorem kX11_tellOf (l : Launch) (D : va_G) (cy : Nat → ClassId) (h0 : Nat) (a0 : Nat → Nat) (s0 : Rc) (p1 : Int32) (p2 : Int32) (res : Int32) (h : fX11_tellOf p1 p2 s0 = some res) : CI l D cy yX11_tellOf wsX11_tellOf rmX11_tellOf [.ref h0, .int p1, .int p2] (flat [WX11 cy h0 a0 s0]) (flat [WX11 cy h0 a0 s0]) res := by
  refine CI.of (cc := cX11_tellOf) (maxL := 4) (by decide) rfl (Nat.le_of_ble_eq_true rfl) ?_
  intro p e s m args below meth c A QQ ls E hr
  obtain ⟨hx, hb, hml, hown, hts, hK, hN, hP, hD, hA, hl⟩ := E
  have hret : ∀ (pc : Nat) (H : Heap) (locs : List Loc) (ls : Array Slot) (u : Int32), u = res → va_P D vwCl (flat [WX11 cy h0 a0 s0]) H → va_D A (flat [WX11 cy h0 a0 s0]) → va_S A s.heap H locs → decode cX11_tellOf pc = .ok (.ireturn, 1) → W p l e rmX11_tellOf s m args below meth c H locs 0 0 QQ (F0 m pc ls [.int u]) := by
    intro pc H locs ls u hu hP hD hS hd; subst hu; exact hr pc H locs ls _ rfl hP hD hS hd
  clear hr
  have hl : lv_has ls 4 [(0, .ref h0), (1, .int p1), (2, .int p2)] := hl
  have hinX11 : ∀ w ∈ wsX110, w ∈ wsX11_tellOf := fun _ h => List.mem_cons_of_mem _ (List.mem_append_right _ h)
  unfold fX11_tellOf at h
  suffices key : ∀ (H : Heap) (locs : List Loc), va_P D vwCl (flat [WX11 cy h0 a0 s0]) H → va_S A s.heap H locs → W p l e rmX11_tellOf s m args below meth c H locs 0 0 QQ (F0 m 0 ls []) from key _ _ hP va_S.rf
  clear hP
  intro H locs hP hS
  refine lv_iload_n hx hb dX11_tellOf_0 rfl (lv_at hl 2 rfl) ?_
  refine lv_aload_n hx hb dX11_tellOf_1 rfl (lv_at hl 0 rfl) ?_
  refine lv_iload_n hx hb dX11_tellOf_2 rfl (lv_at hl 1 rfl) ?_
  obtain ⟨r1, hr1, h⟩ := bd_elim h
  refine ca_i (w' := [WX11 cy h0 a0 s0]) (rn_V (As := [.int p1]) (rest := [.int p2]) ⟨hx, hb, hml, hown, hts⟩ (kX11_lagOf l D cy h0 a0 s0 p1 r1 hr1 H.size) (cwV 1 hts gX11_tellOf_X11_lagOf rfl rfl rfl (by decide +kernel) ⟨Nat.le_of_ble_eq_true rfl, Nat.le_of_ble_eq_true rfl⟩) hK hN hP hD [0] rfl rfl (ci := 11) (q0 := 0) rfl rfl rfl rfl hl.1 rfl (Nat.le_of_ble_eq_true rfl) dX11_tellOf_3 ⟨Nat.le_refl 0, Nat.le_refl 0⟩) hP hD hS hA [0] ⟨rfl, rfl, rfl, rfl⟩ (fun H locs hP hD hS => ?_)
  refine lv_isub hx hb dX11_tellOf_6 ?_
  refine lv_topi (fun x2 ex2 => ?_)
  replace h := lt_use h x2 ex2
  refine lv_istore_n (lv' := [(3, .int x2), (0, .ref h0), (1, .int p1), (2, .int p2)]) hx hb dX11_tellOf_7 rfl hl (by decide) rfl (fun ls hl => ?_)
  refine lv_iload_n hx hb dX11_tellOf_8 rfl (lv_at hl 2 rfl) ?_
  refine lv_aload_n hx hb dX11_tellOf_9 rfl (lv_at hl 1 rfl) ?_
  refine va_get (D := D) (ci := 11) (v := .int (gi s0 25)) (C := RX11) (T := TX11) (N := 38) hx hb hts hinX11 hown hK hP 0 rfl rfl 25 (by decide) (hts (.fieldLink RX11 47 "KneeBenchModel" "mute" "I") (List.mem_of_getElem? (i := 1) rfl)) (fun _ h9 => h9) rfl dX11_tellOf_10 ?_
  refine lv_icmp_eq (tgt := 33) hx hb dX11_tellOf_13 (by decide) (fun c3 => ?_) (fun c3 => ?_)
  · replace h := (if_pos c3).symm.trans h
    refine lv_iconst (v := -1) hx hb dX11_tellOf_33 (by decide) ?_
    exact hret 34 H locs ls (-1 : Int32) (Option.some.inj h) hP hD hS dX11_tellOf_34
  · replace h := (if_neg c3).symm.trans h
    refine lv_aload_n hx hb dX11_tellOf_16 rfl (lv_at hl 1 rfl) ?_
    refine lv_iload_n hx hb dX11_tellOf_17 rfl (lv_at hl 0 rfl) ?_
    refine ca_z (w' := [WX11 cy h0 a0 s0]) (rn_V (As := [.int x2]) (rest := []) ⟨hx, hb, hml, hown, hts⟩ (kX11_isDay l D cy h0 a0 s0 x2 _ rfl H.size) (cwV 1 hts gX11_tellOf_X11_isDay rfl rfl rfl (by decide +kernel) ⟨Nat.le_of_ble_eq_true rfl, Nat.le_of_ble_eq_true rfl⟩) hK hN hP hD [0] rfl rfl (ci := 11) (q0 := 0) rfl rfl rfl rfl hl.1 rfl (Nat.le_of_ble_eq_true rfl) dX11_tellOf_18 ⟨Nat.le_refl 0, Nat.le_refl 0⟩) hP hD hS hA [0] ⟨rfl, rfl, rfl, rfl⟩ (fun b4 H locs hP hD hS => ?_)
    refine lv_if_eq (tgt := 33) hx hb dX11_tellOf_21 (by decide) (fun c5 => ?_) (fun c5 => ?_)
    · replace h := (if_pos c5).symm.trans h
      refine lv_iconst (v := -1) hx hb dX11_tellOf_33 (by decide) ?_
      exact hret 34 H locs ls (-1 : Int32) (Option.some.inj h) hP hD hS dX11_tellOf_34
    · replace h := (if_neg c5).symm.trans h
      refine lv_aload_n hx hb dX11_tellOf_24 rfl (lv_at hl 1 rfl) ?_
      refine lv_iload_n hx hb dX11_tellOf_25 rfl (lv_at hl 2 rfl) ?_
      refine lv_iload_n hx hb dX11_tellOf_26 rfl (lv_at hl 0 rfl) ?_
      obtain ⟨r6, hr6, h⟩ := bd_elim h
      refine ca_z (w' := [WX11 cy h0 a0 s0]) (rn_V (As := [.int p1, .int x2]) (rest := []) ⟨hx, hb, hml, hown, hts⟩ (kX11_isWell l D cy h0 a0 s0 p1 x2 r6 hr6 H.size) (cwV 2 hts gX11_tellOf_X11_isWell rfl rfl rfl (by decide +kernel) ⟨Nat.le_of_ble_eq_true rfl, Nat.le_of_ble_eq_true rfl⟩) hK hN hP hD [0] rfl rfl (ci := 11) (q0 := 0) rfl rfl rfl rfl hl.1 rfl (Nat.le_of_ble_eq_true rfl) dX11_tellOf_27 ⟨Nat.le_refl 0, Nat.le_refl 0⟩) hP hD hS hA [0] ⟨rfl, rfl, rfl, rfl⟩ (fun b7 H locs hP hD hS => ?_)
      refine lv_if_eq (tgt := 35) hx hb dX11_tellOf_30 (by decide) (fun c8 => ?_) (fun c8 => ?_)
      · replace h := (if_pos c8).symm.trans h
        refine lv_aload_n hx hb dX11_tellOf_35 rfl (lv_at hl 1 rfl) ?_
        refine va_get (D := D) (ci := 11) (v := .ref (a0 0)) (C := RX11) (T := TX11) (N := 38) hx hb hts hinX11 hown hK hP 0 rfl rfl 0 (by decide) (hts (.fieldLink RX11 7 "KneeBenchModel" "at" "[I") (List.mem_of_getElem? (i := 2) rfl)) (fun _ h9 => h9) rfl dX11_tellOf_36 ?_
        refine lv_iload_n hx hb dX11_tellOf_39 rfl (lv_at hl 2 rfl) ?_
        refine lv_iload_n hx hb dX11_tellOf_40 rfl (lv_at hl 0 rfl) ?_
        refine ca_i (w' := [WX11 cy h0 a0 s0]) (rn_S (As := [.int p1, .int x2]) (rest := [.ref (a0 0)]) ⟨hx, hb, hml, hown, hts⟩ (kX11_twingeRow l D cy p1 x2 _ rfl H.size) (va_cwS 2 hts gX11_tellOf_X11_twingeRow rfl rfl rfl (by decide +kernel) ⟨Nat.le_of_ble_eq_true rfl, Nat.le_of_ble_eq_true rfl⟩) hK hN hP hD [] rfl rfl rfl hl.1 rfl (Nat.le_of_ble_eq_true rfl) dX11_tellOf_41 ⟨Nat.le_refl 0, Nat.le_refl 0⟩) hP hD hS hA [] ⟨rfl, rfl, rfl, rfl⟩ (fun H locs hP hD hS => ?_)
        obtain ⟨g9, h⟩ := gd_elim h
        refine va_iald hx hb hK hP 1 1 rfl rfl (inb_in g9) dX11_tellOf_44 ?_
        refine lv_aload_n hx hb dX11_tellOf_45 rfl (lv_at hl 1 rfl) ?_
        refine va_get (D := D) (ci := 11) (v := .int (gi s0 26)) (C := RX11) (T := TX11) (N := 38) hx hb hts hinX11 hown hK hP 0 rfl rfl 26 (by decide) (hts (.fieldLink RX11 301 "KneeBenchModel" "turned" "I") (List.mem_of_getElem? (i := 3) rfl)) (fun _ h9 => h9) rfl dX11_tellOf_46 ?_
        refine lv_iload_n hx hb dX11_tellOf_49 rfl (lv_at hl 2 rfl) ?_
        refine lv_ishr hx hb dX11_tellOf_50 ?_
        refine lv_iconst (v := 1) hx hb dX11_tellOf_51 (by decide) ?_
        refine lv_iand hx hb dX11_tellOf_52 ?_
        refine lv_ixor hx hb dX11_tellOf_53 ?_
        exact hret 54 H locs ls ((ga s0 0 (fX11_twingeRow p1 x2).toNatClampNeg) ^^^ (((gi s0 26) >>> (p1 &&& 31)) &&& (1 : Int32))) (Option.some.inj h) hP hD hS dX11_tellOf_54
      · replace h := (if_neg c8).symm.trans h
        refine lv_iconst (v := -1) hx hb dX11_tellOf_33 (by decide) ?_
        exact hret 34 H locs ls (-1 : Int32) (Option.some.inj h) hP hD hS dX11_tellOf_34
theorem gd_X11_sayOf : wsX11_sayOf.all goodWord = true := by decide +kernel
set_option maxRecDepth 20000 in
theorem ggX11_sayOf_X11_tellOf : GoodIn wsX11_sayOf wsX11_tellOf := goodIn_by gd_X11_sayOf (List.forall_mem_cons.mpr ⟨List.mem_cons_of_mem _ (List.mem_append_left _ (List.mem_append_left _ (List.mem_of_getElem? (i := 5) rfl))), List.forall_mem_append.mpr ⟨List.forall_mem_cons.mpr ⟨List.mem_cons_of_mem _ (List.mem_append_left _ (List.mem_append_left _ (List.mem_of_getElem? (i := 6) rfl))), List.forall_mem_cons.mpr ⟨List.mem_cons_of_mem _ (List.mem_append_left _ (List.mem_append_left _ (List.mem_of_getElem? (i := 0) rfl))), List.forall_mem_cons.mpr ⟨List.mem_cons_of_mem _ (List.mem_append_left _ (List.mem_append_left _ (List.mem_of_getElem? (i := 7) rfl))), List.forall_mem_cons.mpr ⟨List.mem_cons_of_mem _ (List.mem_append_left _ (List.mem_append_left _ (List.mem_of_getElem? (i := 8) rfl))), List.forall_mem_cons.mpr ⟨List.mem_cons_of_mem _ (List.mem_append_left _ (List.mem_append_left _ (List.mem_of_getElem? (i := 9) rfl))), List.forall_mem_cons.mpr ⟨List.mem_cons_of_mem _ (List.mem_append_left _ (List.mem_append_left _ (List.mem_of_getElem? (i := 10) rfl))), List.forall_mem_cons.mpr ⟨List.mem_cons_of_mem _ (List.mem_append_left _ (List.mem_append_left _ (List.mem_of_getElem? (i := 4) rfl))), List.forall_mem_cons.mpr ⟨List.mem_cons_of_mem _ (List.mem_append_left _ (List.mem_append_left _ (List.mem_of_getElem? (i := 11) rfl))), List.forall_mem_cons.mpr ⟨List.mem_cons_of_mem _ (List.mem_append_left _ (List.mem_append_left _ (List.mem_of_getElem? (i := 12) rfl))), List.forall_mem_cons.mpr ⟨List.mem_cons_of_mem _ (List.mem_append_left _ (List.mem_append_left _ (List.mem_of_getElem? (i := 13) rfl))), List.forall_mem_cons.mpr ⟨List.mem_cons_of_mem _ (List.mem_append_left _ (List.mem_append_left _ (List.mem_of_getElem? (i := 14) rfl))), List.forall_mem_cons.mpr ⟨List.mem_cons_of_mem _ (List.mem_append_left _ (List.mem_append_left _ (List.mem_of_getElem? (i := 15) rfl))), List.forall_mem_cons.mpr ⟨List.mem_cons_of_mem _ (List.mem_append_left _ (List.mem_append_left _ (List.mem_of_getElem? (i := 16) rfl))), List.forall_mem_cons.mpr ⟨List.mem_cons_of_mem _ (List.mem_append_left _ (List.mem_append_left _ (List.mem_of_getElem? (i := 17) rfl))), List.forall_mem_cons.mpr ⟨List.mem_cons_of_mem _ (List.mem_append_left _ (List.mem_append_left _ (List.mem_of_getElem? (i := 18) rfl))), List.forall_mem_cons.mpr ⟨List.mem_cons_of_mem _ (List.mem_append_left _ (List.mem_append_left _ (List.mem_of_getElem? (i := 19) rfl))), List.forall_mem_cons.mpr ⟨List.mem_cons_of_mem _ (List.mem_append_left _ (List.mem_append_left _ (List.mem_of_getElem? (i := 20) rfl))), List.forall_mem_cons.mpr ⟨List.mem_cons_of_mem _ (List.mem_append_left _ (List.mem_append_left _ (List.mem_of_getElem? (i := 21) rfl))), List.forall_mem_cons.mpr ⟨List.mem_cons_of_mem _ (List.mem_append_left _ (List.mem_append_left _ (List.mem_of_getElem? (i := 22) rfl))), List.forall_mem_cons.mpr ⟨List.mem_cons_of_mem _ (List.mem_append_left _ (List.mem_append_left _ (List.mem_of_getElem? (i := 23) rfl))), List.forall_mem_cons.mpr ⟨List.mem_cons_of_mem _ (List.mem_append_left _ (List.mem_append_right _ (List.mem_of_getElem? (i := 0) rfl))), List.forall_mem_cons.mpr ⟨List.mem_cons_of_mem _ (List.mem_append_left _ (List.mem_append_right _ (List.mem_of_getElem? (i := 1) rfl))), nowords_in⟩⟩⟩⟩⟩⟩⟩⟩⟩⟩⟩⟩⟩⟩⟩⟩⟩⟩⟩⟩⟩⟩, (fun _ h => List.mem_cons_of_mem _ (List.mem_append_right _ (h)))⟩⟩)
set_option maxRecDepth 20000 in
theorem gX11_sayOf_X11_tellOf : GoodIn wsX11_sayOf (wsV RX11 307 RX11 yX11_tellOf wsX11_tellOf) := goodIn_app (goodIn_by gd_X11_sayOf (List.forall_mem_cons.mpr ⟨List.mem_cons_of_mem _ (List.mem_append_left _ (List.mem_append_left _ (List.mem_of_getElem? (i := 1) rfl))), List.forall_mem_cons.mpr ⟨List.mem_cons_of_mem _ (List.mem_append_left _ (List.mem_append_left _ (List.mem_of_getElem? (i := 2) rfl))), List.forall_mem_cons.mpr ⟨List.mem_cons_of_mem _ (List.mem_append_left _ (List.mem_append_left _ (List.mem_of_getElem? (i := 3) rfl))), List.forall_mem_cons.mpr ⟨List.mem_cons_of_mem _ (List.mem_append_left _ (List.mem_append_left _ (List.mem_of_getElem? (i := 4) rfl))), nowords_in⟩⟩⟩⟩)) ggX11_sayOf_X11_tellOf
set_option maxRecDepth 20000 in
theorem ggX11_sayOf_X11_farmerRow : GoodIn wsX11_sayOf wsX11_farmerRow := goodIn_by gd_X11_sayOf (List.forall_mem_cons.mpr ⟨List.mem_cons_of_mem _ (List.mem_append_left _ (List.mem_append_left _ (List.mem_of_getElem? (i := 14) rfl))), nowords_in⟩)
set_option maxRecDepth 20000 in
theorem gX11_sayOf_X11_farmerRow : GoodIn wsX11_sayOf (va_wsS RX11 177 yX11_farmerRow wsX11_farmerRow) := goodIn_app (goodIn_by gd_X11_sayOf (List.forall_mem_cons.mpr ⟨List.mem_cons_of_mem _ (List.mem_append_left _ (List.mem_append_left _ (List.mem_of_getElem? (i := 12) rfl))), List.forall_mem_cons.mpr ⟨List.mem_cons_of_mem _ (List.mem_append_left _ (List.mem_append_left _ (List.mem_of_getElem? (i := 13) rfl))), List.forall_mem_cons.mpr ⟨List.mem_cons_of_mem _ (List.mem_append_left _ (List.mem_append_left _ (List.mem_of_getElem? (i := 4) rfl))), nowords_in⟩⟩⟩)) ggX11_sayOf_X11_farmerRow
theorem dX11_sayOf_0 : decode cX11_sayOf 0 = .ok (.iconst 0, 1) := by decide +kernel
theorem dX11_sayOf_1 : decode cX11_sayOf 1 = .ok (.istore_n 2, 1) := by decide +kernel
theorem dX11_sayOf_2 : decode cX11_sayOf 2 = .ok (.iconst 0, 1) := by decide +kernel
theorem dX11_sayOf_3 : decode cX11_sayOf 3 = .ok (.istore_n 3, 1) := by decide +kernel
theorem dX11_sayOf_4 : decode cX11_sayOf 4 = .ok (.iconst 0, 1) := by decide +kernel
theorem dX11_sayOf_5 : decode cX11_sayOf 5 = .ok (.istore 4, 2) := by decide +kernel
theorem dX11_sayOf_7 : decode cX11_sayOf 7 = .ok (.iconst 0, 1) := by decide +kernel
theorem dX11_sayOf_8 : decode cX11_sayOf 8 = .ok (.istore 5, 2) := by decide +kernel
theorem dX11_sayOf_10 : decode cX11_sayOf 10 = .ok (.iload 5, 2) := by decide +kernel
theorem dX11_sayOf_12 : decode cX11_sayOf 12 = .ok (.aload_n 0, 1) := by decide +kernel
theorem dX11_sayOf_13 : decode cX11_sayOf 13 = .ok (.getfield 7, 3) := by decide +kernel
theorem dX11_sayOf_16 : decode cX11_sayOf 16 = .ok (.iconst 0, 1) := by decide +kernel
theorem dX11_sayOf_17 : decode cX11_sayOf 17 = .ok (.iaload, 1) := by decide +kernel
theorem dX11_sayOf_18 : decode cX11_sayOf 18 = .ok (.if_icmp .ge 80, 3) := by decide +kernel
theorem dX11_sayOf_21 : decode cX11_sayOf 21 = .ok (.aload_n 0, 1) := by decide +kernel
theorem dX11_sayOf_22 : decode cX11_sayOf 22 = .ok (.iload 5, 2) := by decide +kernel
theorem dX11_sayOf_24 : decode cX11_sayOf 24 = .ok (.iload_n 1, 1) := by decide +kernel
theorem dX11_sayOf_25 : decode cX11_sayOf 25 = .ok (.invokevirtual 307, 3) := by decide +kernel
theorem dX11_sayOf_28 : decode cX11_sayOf 28 = .ok (.istore 6, 2) := by decide +kernel
theorem dX11_sayOf_30 : decode cX11_sayOf 30 = .ok (.iload 6, 2) := by decide +kernel
theorem dX11_sayOf_32 : decode cX11_sayOf 32 = .ok (.iconst (-1), 1) := by decide +kernel
theorem dX11_sayOf_33 : decode cX11_sayOf 33 = .ok (.if_icmp .ne 6, 3) := by decide +kernel
theorem dX11_sayOf_36 : decode cX11_sayOf 36 = .ok (.goto 56, 3) := by decide +kernel
theorem dX11_sayOf_39 : decode cX11_sayOf 39 = .ok (.iload_n 2, 1) := by decide +kernel
theorem dX11_sayOf_40 : decode cX11_sayOf 40 = .ok (.iload 6, 2) := by decide +kernel
theorem dX11_sayOf_42 : decode cX11_sayOf 42 = .ok (.iadd, 1) := by decide +kernel
theorem dX11_sayOf_43 : decode cX11_sayOf 43 = .ok (.istore_n 2, 1) := by decide +kernel
theorem dX11_sayOf_44 : decode cX11_sayOf 44 = .ok (.iload_n 3, 1) := by decide +kernel
theorem dX11_sayOf_45 : decode cX11_sayOf 45 = .ok (.iconst 1, 1) := by decide +kernel
theorem dX11_sayOf_46 : decode cX11_sayOf 46 = .ok (.iload 6, 2) := by decide +kernel
theorem dX11_sayOf_48 : decode cX11_sayOf 48 = .ok (.isub, 1) := by decide +kernel
theorem dX11_sayOf_49 : decode cX11_sayOf 49 = .ok (.iadd, 1) := by decide +kernel
theorem dX11_sayOf_50 : decode cX11_sayOf 50 = .ok (.istore_n 3, 1) := by decide +kernel
theorem dX11_sayOf_51 : decode cX11_sayOf 51 = .ok (.iload 4, 2) := by decide +kernel
theorem dX11_sayOf_53 : decode cX11_sayOf 53 = .ok (.iload 6, 2) := by decide +kernel
theorem dX11_sayOf_55 : decode cX11_sayOf 55 = .ok (.iconst 1, 1) := by decide +kernel
theorem dX11_sayOf_56 : decode cX11_sayOf 56 = .ok (.if_icmp .ne 19, 3) := by decide +kernel
theorem dX11_sayOf_59 : decode cX11_sayOf 59 = .ok (.aload_n 0, 1) := by decide +kernel
theorem dX11_sayOf_60 : decode cX11_sayOf 60 = .ok (.getfield 7, 3) := by decide +kernel
theorem dX11_sayOf_63 : decode cX11_sayOf 63 = .ok (.iconst 0, 1) := by decide +kernel
theorem dX11_sayOf_64 : decode cX11_sayOf 64 = .ok (.iload 5, 2) := by decide +kernel
theorem dX11_sayOf_66 : decode cX11_sayOf 66 = .ok (.invokestatic 177, 3) := by decide +kernel
theorem dX11_sayOf_69 : decode cX11_sayOf 69 = .ok (.iconst 5, 1) := by decide +kernel
theorem dX11_sayOf_70 : decode cX11_sayOf 70 = .ok (.iadd, 1) := by decide +kernel
theorem dX11_sayOf_71 : decode cX11_sayOf 71 = .ok (.iaload, 1) := by decide +kernel
theorem dX11_sayOf_72 : decode cX11_sayOf 72 = .ok (.goto 17, 3) := by decide +kernel
theorem dX11_sayOf_75 : decode cX11_sayOf 75 = .ok (.aload_n 0, 1) := by decide +kernel
theorem dX11_sayOf_76 : decode cX11_sayOf 76 = .ok (.getfield 7, 3) := by decide +kernel
theorem dX11_sayOf_79 : decode cX11_sayOf 79 = .ok (.iconst 0, 1) := by decide +kernel
theorem dX11_sayOf_80 : decode cX11_sayOf 80 = .ok (.iload 5, 2) := by decide +kernel
theorem dX11_sayOf_82 : decode cX11_sayOf 82 = .ok (.invokestatic 177, 3) := by decide +kernel
theorem dX11_sayOf_85 : decode cX11_sayOf 85 = .ok (.iconst 5, 1) := by decide +kernel
theorem dX11_sayOf_86 : decode cX11_sayOf 86 = .ok (.iadd, 1) := by decide +kernel
theorem dX11_sayOf_87 : decode cX11_sayOf 87 = .ok (.iaload, 1) := by decide +kernel
theorem dX11_sayOf_88 : decode cX11_sayOf 88 = .ok (.ineg, 1) := by decide +kernel
theorem dX11_sayOf_89 : decode cX11_sayOf 89 = .ok (.iadd, 1) := by decide +kernel
theorem dX11_sayOf_90 : decode cX11_sayOf 90 = .ok (.istore 4, 2) := by decide +kernel
theorem dX11_sayOf_92 : decode cX11_sayOf 92 = .ok (.iinc 5 1, 3) := by decide +kernel
theorem dX11_sayOf_95 : decode cX11_sayOf 95 = .ok (.goto (-85), 3) := by decide +kernel
theorem dX11_sayOf_98 : decode cX11_sayOf 98 = .ok (.iload_n 2, 1) := by decide +kernel
theorem dX11_sayOf_99 : decode cX11_sayOf 99 = .ok (.iload_n 3, 1) := by decide +kernel
theorem dX11_sayOf_100 : decode cX11_sayOf 100 = .ok (.iadd, 1) := by decide +kernel
theorem dX11_sayOf_101 : decode cX11_sayOf 101 = .ok (.ifCond .ne 5, 3) := by decide +kernel
theorem dX11_sayOf_104 : decode cX11_sayOf 104 = .ok (.iconst (-1), 1) := by decide +kernel
theorem dX11_sayOf_105 : decode cX11_sayOf 105 = .ok (.ireturn, 1) := by decide +kernel
theorem dX11_sayOf_106 : decode cX11_sayOf 106 = .ok (.aload_n 0, 1) := by decide +kernel
theorem dX11_sayOf_107 : decode cX11_sayOf 107 = .ok (.getfield 7, 3) := by decide +kernel
theorem dX11_sayOf_110 : decode cX11_sayOf 110 = .ok (.iconst 2, 1) := by decide +kernel
theorem dX11_sayOf_111 : decode cX11_sayOf 111 = .ok (.iaload, 1) := by decide +kernel
theorem dX11_sayOf_112 : decode cX11_sayOf 112 = .ok (.ifCond .ne 16, 3) := by decide +kernel
theorem dX11_sayOf_115 : decode cX11_sayOf 115 = .ok (.iload_n 2, 1) := by decide +kernel
theorem dX11_sayOf_116 : decode cX11_sayOf 116 = .ok (.iload_n 3, 1) := by decide +kernel
theorem dX11_sayOf_117 : decode cX11_sayOf 117 = .ok (.if_icmp .le 7, 3) := by decide +kernel
theorem dX11_sayOf_120 : decode cX11_sayOf 120 = .ok (.iconst 1, 1) := by decide +kernel
theorem dX11_sayOf_121 : decode cX11_sayOf 121 = .ok (.goto 61, 3) := by decide +kernel
theorem dX11_sayOf_124 : decode cX11_sayOf 124 = .ok (.iconst 0, 1) := by decide +kernel
theorem dX11_sayOf_125 : decode cX11_sayOf 125 = .ok (.goto 57, 3) := by decide +kernel
theorem dX11_sayOf_128 : decode cX11_sayOf 128 = .ok (.aload_n 0, 1) := by decide +kernel
theorem dX11_sayOf_129 : decode cX11_sayOf 129 = .ok (.getfield 7, 3) := by decide +kernel
theorem dX11_sayOf_132 : decode cX11_sayOf 132 = .ok (.iconst 2, 1) := by decide +kernel
theorem dX11_sayOf_133 : decode cX11_sayOf 133 = .ok (.iaload, 1) := by decide +kernel
theorem dX11_sayOf_134 : decode cX11_sayOf 134 = .ok (.iconst 1, 1) := by decide +kernel
theorem dX11_sayOf_135 : decode cX11_sayOf 135 = .ok (.if_icmp .ne 16, 3) := by decide +kernel
theorem dX11_sayOf_138 : decode cX11_sayOf 138 = .ok (.iload 4, 2) := by decide +kernel
theorem dX11_sayOf_140 : decode cX11_sayOf 140 = .ok (.ifCond .le 7, 3) := by decide +kernel
theorem dX11_sayOf_143 : decode cX11_sayOf 143 = .ok (.iconst 1, 1) := by decide +kernel
theorem dX11_sayOf_144 : decode cX11_sayOf 144 = .ok (.goto 38, 3) := by decide +kernel
theorem dX11_sayOf_147 : decode cX11_sayOf 147 = .ok (.iconst 0, 1) := by decide +kernel
theorem dX11_sayOf_148 : decode cX11_sayOf 148 = .ok (.goto 34, 3) := by decide +kernel
theorem dX11_sayOf_151 : decode cX11_sayOf 151 = .ok (.aload_n 0, 1) := by decide +kernel
theorem dX11_sayOf_152 : decode cX11_sayOf 152 = .ok (.getfield 7, 3) := by decide +kernel
theorem dX11_sayOf_155 : decode cX11_sayOf 155 = .ok (.iconst 2, 1) := by decide +kernel
theorem dX11_sayOf_156 : decode cX11_sayOf 156 = .ok (.iaload, 1) := by decide +kernel
theorem dX11_sayOf_157 : decode cX11_sayOf 157 = .ok (.iconst 2, 1) := by decide +kernel
theorem dX11_sayOf_158 : decode cX11_sayOf 158 = .ok (.if_icmp .ne 15, 3) := by decide +kernel
theorem dX11_sayOf_161 : decode cX11_sayOf 161 = .ok (.iload_n 2, 1) := by decide +kernel
theorem dX11_sayOf_162 : decode cX11_sayOf 162 = .ok (.ifCond .le 7, 3) := by decide +kernel
theorem dX11_sayOf_165 : decode cX11_sayOf 165 = .ok (.iconst 1, 1) := by decide +kernel
theorem dX11_sayOf_166 : decode cX11_sayOf 166 = .ok (.goto 16, 3) := by decide +kernel
theorem dX11_sayOf_169 : decode cX11_sayOf 169 = .ok (.iconst 0, 1) := by decide +kernel
theorem dX11_sayOf_170 : decode cX11_sayOf 170 = .ok (.goto 12, 3) := by decide +kernel
theorem dX11_sayOf_173 : decode cX11_sayOf 173 = .ok (.iload_n 3, 1) := by decide +kernel
theorem dX11_sayOf_174 : decode cX11_sayOf 174 = .ok (.ifCond .ne 7, 3) := by decide +kernel
theorem dX11_sayOf_177 : decode cX11_sayOf 177 = .ok (.iconst 1, 1) := by decide +kernel
theorem dX11_sayOf_178 : decode cX11_sayOf 178 = .ok (.goto 4, 3) := by decide +kernel
theorem dX11_sayOf_181 : decode cX11_sayOf 181 = .ok (.iconst 0, 1) := by decide +kernel
theorem dX11_sayOf_182 : decode cX11_sayOf 182 = .ok (.istore 5, 2) := by decide +kernel
theorem dX11_sayOf_184 : decode cX11_sayOf 184 = .ok (.iload 5, 2) := by decide +kernel
theorem dX11_sayOf_186 : decode cX11_sayOf 186 = .ok (.ifCond .eq 7, 3) := by decide +kernel
theorem dX11_sayOf_189 : decode cX11_sayOf 189 = .ok (.iconst 1, 1) := by decide +kernel
theorem dX11_sayOf_190 : decode cX11_sayOf 190 = .ok (.goto 4, 3) := by decide +kernel
theorem dX11_sayOf_193 : decode cX11_sayOf 193 = .ok (.iconst 0, 1) := by decide +kernel
theorem dX11_sayOf_194 : decode cX11_sayOf 194 = .ok (.ireturn, 1) := by decide +kernel
abbrev rmX11_sayOf : Room := { frames := 3, cells := 0, slots := 0, locals := 66 }
set_option maxHeartbeats 4000000 in
set_option maxRecDepth 100000 in
theorem kX11_sayOf (l : Launch) (D : va_G) (cy : Nat → ClassId) (h0 : Nat) (a0 : Nat → Nat) (s0 : Rc) (p1 : Int32) (res : Int32) (h : fX11_sayOf p1 s0 = some res) : CI l D cy yX11_sayOf wsX11_sayOf rmX11_sayOf [.ref h0, .int p1] (flat [WX11 cy h0 a0 s0]) (flat [WX11 cy h0 a0 s0]) res := by
  refine CI.of (cc := cX11_sayOf) (maxL := 7) (by decide) rfl (Nat.le_of_ble_eq_true rfl) ?_
  intro p e s m args below meth c A QQ ls E hr
  obtain ⟨hx, hb, hml, hown, hts, hK, hN, hP, hD, hA, hl⟩ := E
  have hret : ∀ (pc : Nat) (H : Heap) (locs : List Loc) (ls : Array Slot) (u : Int32), u = res → va_P D vwCl (flat [WX11 cy h0 a0 s0]) H → va_D A (flat [WX11 cy h0 a0 s0]) → va_S A s.heap H locs → decode cX11_sayOf pc = .ok (.ireturn, 1) → W p l e rmX11_sayOf s m args below meth c H locs 0 0 QQ (F0 m pc ls [.int u]) := by
    intro pc H locs ls u hu hP hD hS hd; subst hu; exact hr pc H locs ls _ rfl hP hD hS hd
  clear hr
  have hl : lv_has ls 7 [(0, .ref h0), (1, .int p1)] := hl
  have hinX11 : ∀ w ∈ wsX110, w ∈ wsX11_sayOf := fun _ h => List.mem_cons_of_mem _ (List.mem_append_right _ h)
  unfold fX11_sayOf at h
  suffices key : ∀ (H : Heap) (locs : List Loc), va_P D vwCl (flat [WX11 cy h0 a0 s0]) H → va_S A s.heap H locs → W p l e rmX11_sayOf s m args below meth c H locs 0 0 QQ (F0 m 0 ls []) from key _ _ hP va_S.rf
  clear hP
  intro H locs hP hS
  have J182 : ∀ (z182_0 : Int32) (H : Heap) (locs : List Loc) (ls : Array Slot), lv_has ls 7 [] → va_P D vwCl (flat [WX11 cy h0 a0 s0]) H → va_D A (flat [WX11 cy h0 a0 s0]) → va_S A s.heap H locs → fX11_sayOf_J182 z182_0 = some res → W p l e rmX11_sayOf s m args below meth c H locs 0 0 QQ (F0 m 182 ls [.int z182_0]) := by
    intro z182_0 H locs ls hl hP hD hS h
    unfold fX11_sayOf_J182 at h
    refine lv_istore (lv' := [(5, .int z182_0)]) hx hb dX11_sayOf_182 hl (by decide) rfl (fun ls hl => ?_)
    refine lv_iload hx hb dX11_sayOf_184 (lv_at hl 0 rfl) ?_
    refine lv_if_eq (tgt := 193) hx hb dX11_sayOf_186 (by decide) (fun c1 => ?_) (fun c1 => ?_)
    · replace h := (if_pos c1).symm.trans h
      refine lv_iconst (v := 0) hx hb dX11_sayOf_193 (by decide) ?_
      exact hret 194 H locs ls (0 : Int32) (Option.some.inj h) hP hD hS dX11_sayOf_194
    · replace h := (if_neg c1).symm.trans h
      refine lv_iconst (v := 1) hx hb dX11_sayOf_189 (by decide) ?_
      refine lv_goto (tgt := 194) hx hb dX11_sayOf_190 (by decide) ?_
      exact hret 194 H locs ls (1 : Int32) (Option.some.inj h) hP hD hS dX11_sayOf_194
  refine lv_iconst (v := 0) hx hb dX11_sayOf_0 (by decide) ?_
  refine lv_istore_n (lv' := [(2, .int (0 : Int32)), (0, .ref h0), (1, .int p1)]) hx hb dX11_sayOf_1 rfl hl (by decide) rfl (fun ls hl => ?_)
  refine lv_iconst (v := 0) hx hb dX11_sayOf_2 (by decide) ?_
  refine lv_istore_n (lv' := [(3, .int (0 : Int32)), (2, .int (0 : Int32)), (0, .ref h0), (1, .int p1)]) hx hb dX11_sayOf_3 rfl hl (by decide) rfl (fun ls hl => ?_)
  refine lv_iconst (v := 0) hx hb dX11_sayOf_4 (by decide) ?_
  refine lv_istore (lv' := [(4, .int (0 : Int32)), (3, .int (0 : Int32)), (2, .int (0 : Int32)), (0, .ref h0), (1, .int p1)]) hx hb dX11_sayOf_5 hl (by decide) rfl (fun ls hl => ?_)
  refine lv_iconst (v := 0) hx hb dX11_sayOf_7 (by decide) ?_
  refine lv_istore (lv' := [(5, .int (0 : Int32)), (4, .int (0 : Int32)), (3, .int (0 : Int32)), (2, .int (0 : Int32)), (0, .ref h0), (1, .int p1)]) hx hb dX11_sayOf_8 hl (by decide) rfl (fun ls hl => ?_)
  have L10 : ∀ (n : Nat) (q10 : Int32 × Int32 × Int32 × Int32) (o : Int32 × Int32 × Int32), loopO (fX11_sayOf_L10 p1 s0) n q10 = some o → ∀ (H : Heap) (locs : List Loc) (ls : Array Slot), lv_has ls 7 [(0, .ref h0), (1, .int p1), (2, .int q10.1), (3, .int q10.2.1), (4, .int q10.2.2.1), (5, .int q10.2.2.2)] → va_P D vwCl (flat [WX11 cy h0 a0 s0]) H → va_D A (flat [WX11 cy h0 a0 s0]) → va_S A s.heap H locs → ∀ (kk98 : ∀ (H : Heap) (locs : List Loc) (ls : Array Slot), lv_has ls 7 [(0, .ref h0), (2, .int o.1), (3, .int o.2.1), (4, .int o.2.2)] → va_P D vwCl (flat [WX11 cy h0 a0 s0]) H → va_D A (flat [WX11 cy h0 a0 s0]) → va_S A s.heap H locs → W p l e rmX11_sayOf s m args below meth c H locs 0 0 QQ (F0 m 98 ls [])), W p l e rmX11_sayOf s m args below meth c H locs 0 0 QQ (F0 m 10 ls []) := by
    intro n
    induction n with
    | zero => intro q10 o h; exact absurd h (by rw [loopO_zero]; intro z; cases z)
    | succ n ih =>
      intro q10 o h H locs ls hl hP hD hS kk98
      obtain ⟨w, h, hgo, hst⟩ := loopO_elim h
      unfold fX11_sayOf_L10 at h
      refine lv_iload hx hb dX11_sayOf_10 (lv_at hl 5 rfl) ?_
      refine lv_aload_n hx hb dX11_sayOf_12 rfl (lv_at hl 0 rfl) ?_
      refine va_get (D := D) (ci := 11) (v := .ref (a0 0)) (C := RX11) (T := TX11) (N := 38) hx hb hts hinX11 hown hK hP 0 rfl rfl 0 (by decide) (hts (.fieldLink RX11 7 "KneeBenchModel" "at" "[I") (List.mem_of_getElem? (i := 1) rfl)) (fun _ h9 => h9) rfl dX11_sayOf_13 ?_
      refine lv_iconst (v := 0) hx hb dX11_sayOf_16 (by decide) ?_
      refine va_iald hx hb hK hP 1 1 rfl rfl (inb_in (by decide)) dX11_sayOf_17 ?_
      refine lv_icmp_ge (tgt := 98) hx hb dX11_sayOf_18 (by decide) (fun c2 => ?_) (fun c2 => ?_)
      · replace h := (if_pos c2).symm.trans h
        have eo := hst _ (Option.some.inj h).symm
        subst eo
        exact kk98 H locs ls (lv_sub hl [0, 2, 3, 4] rfl) hP hD hS
      · replace h := (if_neg c2).symm.trans h
        refine lv_aload_n hx hb dX11_sayOf_21 rfl (lv_at hl 0 rfl) ?_
        refine lv_iload hx hb dX11_sayOf_22 (lv_at hl 5 rfl) ?_
        refine lv_iload_n hx hb dX11_sayOf_24 rfl (lv_at hl 1 rfl) ?_
        obtain ⟨r3, hr3, h⟩ := bd_elim h
        refine ca_i (w' := [WX11 cy h0 a0 s0]) (rn_V (As := [.int q10.2.2.2, .int p1]) (rest := []) ⟨hx, hb, hml, hown, hts⟩ (kX11_tellOf l D cy h0 a0 s0 q10.2.2.2 p1 r3 hr3 H.size) (cwV 2 hts gX11_sayOf_X11_tellOf rfl rfl rfl (by decide +kernel) ⟨Nat.le_of_ble_eq_true rfl, Nat.le_of_ble_eq_true rfl⟩) hK hN hP hD [0] rfl rfl (ci := 11) (q0 := 0) rfl rfl rfl rfl hl.1 rfl (Nat.le_of_ble_eq_true rfl) dX11_sayOf_25 ⟨Nat.le_refl 0, Nat.le_refl 0⟩) hP hD hS hA [0] ⟨rfl, rfl, rfl, rfl⟩ (fun H locs hP hD hS => ?_)
        refine lv_istore (lv' := [(6, .int r3), (0, .ref h0), (1, .int p1), (2, .int q10.1), (3, .int q10.2.1), (4, .int q10.2.2.1), (5, .int q10.2.2.2)]) hx hb dX11_sayOf_28 hl (by decide) rfl (fun ls hl => ?_)
        refine lv_iload hx hb dX11_sayOf_30 (lv_at hl 0 rfl) ?_
        refine lv_iconst (v := -1) hx hb dX11_sayOf_32 (by decide) ?_
        refine lv_icmp_ne (tgt := 39) hx hb dX11_sayOf_33 (by decide) (fun c4 => ?_) (fun c4 => ?_)
        · replace h := (if_neg c4).symm.trans h
          refine lv_iload_n hx hb dX11_sayOf_39 rfl (lv_at hl 3 rfl) ?_
          refine lv_iload hx hb dX11_sayOf_40 (lv_at hl 0 rfl) ?_
          refine lv_iadd hx hb dX11_sayOf_42 ?_
          refine lv_topi (fun x5 ex5 => ?_)
          replace h := lt_use h x5 ex5
          refine lv_istore_n (lv' := [(2, .int x5), (6, .int r3), (0, .ref h0), (1, .int p1), (3, .int q10.2.1), (4, .int q10.2.2.1), (5, .int q10.2.2.2)]) hx hb dX11_sayOf_43 rfl hl (by decide) rfl (fun ls hl => ?_)
          refine lv_iload_n hx hb dX11_sayOf_44 rfl (lv_at hl 4 rfl) ?_
          refine lv_iconst (v := 1) hx hb dX11_sayOf_45 (by decide) ?_
          refine lv_iload hx hb dX11_sayOf_46 (lv_at hl 1 rfl) ?_
          refine lv_isub hx hb dX11_sayOf_48 ?_
          refine lv_iadd hx hb dX11_sayOf_49 ?_
          refine lv_topi (fun x6 ex6 => ?_)
          replace h := lt_use h x6 ex6
          refine lv_istore_n (lv' := [(3, .int x6), (2, .int x5), (6, .int r3), (0, .ref h0), (1, .int p1), (4, .int q10.2.2.1), (5, .int q10.2.2.2)]) hx hb dX11_sayOf_50 rfl hl (by decide) rfl (fun ls hl => ?_)
          refine lv_iload hx hb dX11_sayOf_51 (lv_at hl 5 rfl) ?_
          refine lv_iload hx hb dX11_sayOf_53 (lv_at hl 2 rfl) ?_
          refine lv_iconst (v := 1) hx hb dX11_sayOf_55 (by decide) ?_
          refine lv_icmp_ne (tgt := 75) hx hb dX11_sayOf_56 (by decide) (fun c7 => ?_) (fun c7 => ?_)
          · replace h := (if_neg c7).symm.trans h
            refine lv_aload_n hx hb dX11_sayOf_75 rfl (lv_at hl 3 rfl) ?_
            refine va_get (D := D) (ci := 11) (v := .ref (a0 0)) (C := RX11) (T := TX11) (N := 38) hx hb hts hinX11 hown hK hP 0 rfl rfl 0 (by decide) (hts (.fieldLink RX11 7 "KneeBenchModel" "at" "[I") (List.mem_of_getElem? (i := 1) rfl)) (fun _ h9 => h9) rfl dX11_sayOf_76 ?_
            refine lv_iconst (v := 0) hx hb dX11_sayOf_79 (by decide) ?_
            refine lv_iload hx hb dX11_sayOf_80 (lv_at hl 6 rfl) ?_
            refine ca_i (w' := [WX11 cy h0 a0 s0]) (rn_S (As := [.int (0 : Int32), .int q10.2.2.2]) (rest := [.ref (a0 0), .int q10.2.2.1]) ⟨hx, hb, hml, hown, hts⟩ (kX11_farmerRow l D cy (0 : Int32) q10.2.2.2 _ rfl H.size) (va_cwS 2 hts gX11_sayOf_X11_farmerRow rfl rfl rfl (by decide +kernel) ⟨Nat.le_of_ble_eq_true rfl, Nat.le_of_ble_eq_true rfl⟩) hK hN hP hD [] rfl rfl rfl hl.1 rfl (Nat.le_of_ble_eq_true rfl) dX11_sayOf_82 ⟨Nat.le_refl 0, Nat.le_refl 0⟩) hP hD hS hA [] ⟨rfl, rfl, rfl, rfl⟩ (fun H locs hP hD hS => ?_)
            refine lv_iconst (v := 5) hx hb dX11_sayOf_85 (by decide) ?_
            refine lv_iadd hx hb dX11_sayOf_86 ?_
            obtain ⟨g8, h⟩ := gd_elim h
            refine va_iald hx hb hK hP 1 1 rfl rfl (inb_in g8) dX11_sayOf_87 ?_
            refine lv_ineg hx hb dX11_sayOf_88 ?_
            refine lv_iadd hx hb dX11_sayOf_89 ?_
            refine lv_topi (fun x9 ex9 => ?_)
            replace h := lt_use h x9 ex9
            refine lv_istore (lv' := [(4, .int x9), (3, .int x6), (2, .int x5), (6, .int r3), (0, .ref h0), (1, .int p1), (5, .int q10.2.2.2)]) hx hb dX11_sayOf_90 hl (by decide) rfl (fun ls hl => ?_)
            refine lv_iinc (v := (q10.2.2.2 + (1 : Int32))) (lv' := [(5, .int (q10.2.2.2 + (1 : Int32))), (4, .int x9), (3, .int x6), (2, .int x5), (6, .int r3), (0, .ref h0), (1, .int p1)]) hx hb dX11_sayOf_92 hl (k := 6) rfl rfl (by decide) rfl (fun ls hl => ?_)
            refine lv_goto (tgt := 10) hx hb dX11_sayOf_95 (by decide) ?_
            exact ih _ o (hgo _ (Option.some.inj h).symm) H locs ls (lv_sub hl [5, 6, 3, 2, 1, 0] rfl) hP hD hS kk98
          · replace h := (if_pos c7).symm.trans h
            refine lv_aload_n hx hb dX11_sayOf_59 rfl (lv_at hl 3 rfl) ?_
            refine va_get (D := D) (ci := 11) (v := .ref (a0 0)) (C := RX11) (T := TX11) (N := 38) hx hb hts hinX11 hown hK hP 0 rfl rfl 0 (by decide) (hts (.fieldLink RX11 7 "KneeBenchModel" "at" "[I") (List.mem_of_getElem? (i := 1) rfl)) (fun _ h9 => h9) rfl dX11_sayOf_60 ?_
            refine lv_iconst (v := 0) hx hb dX11_sayOf_63 (by decide) ?_
            refine lv_iload hx hb dX11_sayOf_64 (lv_at hl 6 rfl) ?_
            refine ca_i (w' := [WX11 cy h0 a0 s0]) (rn_S (As := [.int (0 : Int32), .int q10.2.2.2]) (rest := [.ref (a0 0), .int q10.2.2.1]) ⟨hx, hb, hml, hown, hts⟩ (kX11_farmerRow l D cy (0 : Int32) q10.2.2.2 _ rfl H.size) (va_cwS 2 hts gX11_sayOf_X11_farmerRow rfl rfl rfl (by decide +kernel) ⟨Nat.le_of_ble_eq_true rfl, Nat.le_of_ble_eq_true rfl⟩) hK hN hP hD [] rfl rfl rfl hl.1 rfl (Nat.le_of_ble_eq_true rfl) dX11_sayOf_66 ⟨Nat.le_refl 0, Nat.le_refl 0⟩) hP hD hS hA [] ⟨rfl, rfl, rfl, rfl⟩ (fun H locs hP hD hS => ?_)
            refine lv_iconst (v := 5) hx hb dX11_sayOf_69 (by decide) ?_
            refine lv_iadd hx hb dX11_sayOf_70 ?_
            obtain ⟨g10, h⟩ := gd_elim h
            refine va_iald hx hb hK hP 1 1 rfl rfl (inb_in g10) dX11_sayOf_71 ?_
            refine lv_goto (tgt := 89) hx hb dX11_sayOf_72 (by decide) ?_
            refine lv_iadd hx hb dX11_sayOf_89 ?_
            refine lv_topi (fun x11 ex11 => ?_)
            replace h := lt_use h x11 ex11
            refine lv_istore (lv' := [(4, .int x11), (3, .int x6), (2, .int x5), (6, .int r3), (0, .ref h0), (1, .int p1), (5, .int q10.2.2.2)]) hx hb dX11_sayOf_90 hl (by decide) rfl (fun ls hl => ?_)
            refine lv_iinc (v := (q10.2.2.2 + (1 : Int32))) (lv' := [(5, .int (q10.2.2.2 + (1 : Int32))), (4, .int x11), (3, .int x6), (2, .int x5), (6, .int r3), (0, .ref h0), (1, .int p1)]) hx hb dX11_sayOf_92 hl (k := 6) rfl rfl (by decide) rfl (fun ls hl => ?_)
            refine lv_goto (tgt := 10) hx hb dX11_sayOf_95 (by decide) ?_
            exact ih _ o (hgo _ (Option.some.inj h).symm) H locs ls (lv_sub hl [5, 6, 3, 2, 1, 0] rfl) hP hD hS kk98
        · replace h := (if_pos c4).symm.trans h
          refine lv_goto (tgt := 92) hx hb dX11_sayOf_36 (by decide) ?_
          refine lv_iinc (v := (q10.2.2.2 + (1 : Int32))) (lv' := [(5, .int (q10.2.2.2 + (1 : Int32))), (6, .int r3), (0, .ref h0), (1, .int p1), (2, .int q10.1), (3, .int q10.2.1), (4, .int q10.2.2.1)]) hx hb dX11_sayOf_92 hl (k := 6) rfl rfl (by decide) rfl (fun ls hl => ?_)
          refine lv_goto (tgt := 10) hx hb dX11_sayOf_95 (by decide) ?_
          exact ih _ o (hgo _ (Option.some.inj h).symm) H locs ls (lv_sub hl [2, 3, 4, 5, 6, 0] rfl) hP hD hS kk98
  obtain ⟨o10, ho10, h⟩ := bd_elim h
  obtain ⟨n10, hn10⟩ := loopF_some ho10
  refine L10 n10 _ o10 hn10 H locs ls (lv_sub hl [4, 5, 3, 2, 1, 0] rfl) hP hD hS (fun H locs ls hl hP hD hS => ?_)
  refine lv_iload_n hx hb dX11_sayOf_98 rfl (lv_at hl 1 rfl) ?_
  refine lv_iload_n hx hb dX11_sayOf_99 rfl (lv_at hl 2 rfl) ?_
  refine lv_iadd hx hb dX11_sayOf_100 ?_
  refine lv_if_ne (tgt := 106) hx hb dX11_sayOf_101 (by decide) (fun c12 => ?_) (fun c12 => ?_)
  · replace h := (if_neg c12).symm.trans h
    refine lv_aload_n hx hb dX11_sayOf_106 rfl (lv_at hl 0 rfl) ?_
    refine va_get (D := D) (ci := 11) (v := .ref (a0 0)) (C := RX11) (T := TX11) (N := 38) hx hb hts hinX11 hown hK hP 0 rfl rfl 0 (by decide) (hts (.fieldLink RX11 7 "KneeBenchModel" "at" "[I") (List.mem_of_getElem? (i := 1) rfl)) (fun _ h9 => h9) rfl dX11_sayOf_107 ?_
    refine lv_iconst (v := 2) hx hb dX11_sayOf_110 (by decide) ?_
    refine va_iald hx hb hK hP 1 1 rfl rfl (inb_in (by decide)) dX11_sayOf_111 ?_
    refine lv_if_ne (tgt := 128) hx hb dX11_sayOf_112 (by decide) (fun c13 => ?_) (fun c13 => ?_)
    · replace h := (if_neg c13).symm.trans h
      refine lv_aload_n hx hb dX11_sayOf_128 rfl (lv_at hl 0 rfl) ?_
      refine va_get (D := D) (ci := 11) (v := .ref (a0 0)) (C := RX11) (T := TX11) (N := 38) hx hb hts hinX11 hown hK hP 0 rfl rfl 0 (by decide) (hts (.fieldLink RX11 7 "KneeBenchModel" "at" "[I") (List.mem_of_getElem? (i := 1) rfl)) (fun _ h9 => h9) rfl dX11_sayOf_129 ?_
      refine lv_iconst (v := 2) hx hb dX11_sayOf_132 (by decide) ?_
      refine va_iald hx hb hK hP 1 1 rfl rfl (inb_in (by decide)) dX11_sayOf_133 ?_
      refine lv_iconst (v := 1) hx hb dX11_sayOf_134 (by decide) ?_
      refine lv_icmp_ne (tgt := 151) hx hb dX11_sayOf_135 (by decide) (fun c14 => ?_) (fun c14 => ?_)
      · replace h := (if_neg c14).symm.trans h
        refine lv_aload_n hx hb dX11_sayOf_151 rfl (lv_at hl 0 rfl) ?_
        refine va_get (D := D) (ci := 11) (v := .ref (a0 0)) (C := RX11) (T := TX11) (N := 38) hx hb hts hinX11 hown hK hP 0 rfl rfl 0 (by decide) (hts (.fieldLink RX11 7 "KneeBenchModel" "at" "[I") (List.mem_of_getElem? (i := 1) rfl)) (fun _ h9 => h9) rfl dX11_sayOf_152 ?_
        refine lv_iconst (v := 2) hx hb dX11_sayOf_155 (by decide) ?_
        refine va_iald hx hb hK hP 1 1 rfl rfl (inb_in (by decide)) dX11_sayOf_156 ?_
        refine lv_iconst (v := 2) hx hb dX11_sayOf_157 (by decide) ?_
        refine lv_icmp_ne (tgt := 173) hx hb dX11_sayOf_158 (by decide) (fun c15 => ?_) (fun c15 => ?_)
        · replace h := (if_neg c15).symm.trans h
          refine lv_iload_n hx hb dX11_sayOf_173 rfl (lv_at hl 2 rfl) ?_
          refine lv_if_ne (tgt := 181) hx hb dX11_sayOf_174 (by decide) (fun c16 => ?_) (fun c16 => ?_)
          · replace h := (if_neg c16).symm.trans h
            refine lv_iconst (v := 0) hx hb dX11_sayOf_181 (by decide) ?_
            exact J182 (0 : Int32) H locs ls (lv_sub hl [] rfl) hP hD hS h
          · replace h := (if_pos c16).symm.trans h
            refine lv_iconst (v := 1) hx hb dX11_sayOf_177 (by decide) ?_
            refine lv_goto (tgt := 182) hx hb dX11_sayOf_178 (by decide) ?_
            exact J182 (1 : Int32) H locs ls (lv_sub hl [] rfl) hP hD hS h
        · replace h := (if_pos c15).symm.trans h
          refine lv_iload_n hx hb dX11_sayOf_161 rfl (lv_at hl 1 rfl) ?_
          refine lv_if_le (tgt := 169) hx hb dX11_sayOf_162 (by decide) (fun c17 => ?_) (fun c17 => ?_)
          · replace h := (if_pos c17).symm.trans h
            refine lv_iconst (v := 0) hx hb dX11_sayOf_169 (by decide) ?_
            refine lv_goto (tgt := 182) hx hb dX11_sayOf_170 (by decide) ?_
            exact J182 (0 : Int32) H locs ls (lv_sub hl [] rfl) hP hD hS h
          · replace h := (if_neg c17).symm.trans h
            refine lv_iconst (v := 1) hx hb dX11_sayOf_165 (by decide) ?_
            refine lv_goto (tgt := 182) hx hb dX11_sayOf_166 (by decide) ?_
            exact J182 (1 : Int32) H locs ls (lv_sub hl [] rfl) hP hD hS h
      · replace h := (if_pos c14).symm.trans h
        refine lv_iload hx hb dX11_sayOf_138 (lv_at hl 3 rfl) ?_
        refine lv_if_le (tgt := 147) hx hb dX11_sayOf_140 (by decide) (fun c18 => ?_) (fun c18 => ?_)
        · replace h := (if_pos c18).symm.trans h
          refine lv_iconst (v := 0) hx hb dX11_sayOf_147 (by decide) ?_
          refine lv_goto (tgt := 182) hx hb dX11_sayOf_148 (by decide) ?_
          exact J182 (0 : Int32) H locs ls (lv_sub hl [] rfl) hP hD hS h
        · replace h := (if_neg c18).symm.trans h
          refine lv_iconst (v := 1) hx hb dX11_sayOf_143 (by decide) ?_
          refine lv_goto (tgt := 182) hx hb dX11_sayOf_144 (by decide) ?_
          exact J182 (1 : Int32) H locs ls (lv_sub hl [] rfl) hP hD hS h
    · replace h := (if_pos c13).symm.trans h
      refine lv_iload_n hx hb dX11_sayOf_115 rfl (lv_at hl 1 rfl) ?_
      refine lv_iload_n hx hb dX11_sayOf_116 rfl (lv_at hl 2 rfl) ?_
      refine lv_icmp_le (tgt := 124) hx hb dX11_sayOf_117 (by decide) (fun c19 => ?_) (fun c19 => ?_)
      · replace h := (if_pos c19).symm.trans h
        refine lv_iconst (v := 0) hx hb dX11_sayOf_124 (by decide) ?_
        refine lv_goto (tgt := 182) hx hb dX11_sayOf_125 (by decide) ?_
        exact J182 (0 : Int32) H locs ls (lv_sub hl [] rfl) hP hD hS h
      · replace h := (if_neg c19).symm.trans h
        refine lv_iconst (v := 1) hx hb dX11_sayOf_120 (by decide) ?_
        refine lv_goto (tgt := 182) hx hb dX11_sayOf_121 (by decide) ?_
        exact J182 (1 : Int32) H locs ls (lv_sub hl [] rfl) hP hD hS h
  · replace h := (if_pos c12).symm.trans h
    refine lv_iconst (v := -1) hx hb dX11_sayOf_104 (by decide) ?_
    exact hret 105 H locs ls (-1 : Int32) (Option.some.inj h) hP hD hS dX11_sayOf_105
theorem dX11_gives_0 : decode cX11_gives 0 = .ok (.aload_n 0, 1) := by decide +kernel
theorem dX11_gives_1 : decode cX11_gives 1 = .ok (.iconst 0, 1) := by decide +kernel
theorem dX11_gives_2 : decode cX11_gives 2 = .ok (.putfield 69, 3) := by decide +kernel
theorem dX11_gives_5 : decode cX11_gives 5 = .ok (.iload_n 1, 1) := by decide +kernel
theorem dX11_gives_6 : decode cX11_gives 6 = .ok (.ireturn, 1) := by decide +kernel
abbrev rmX11_gives : Room := { frames := 0, cells := 0, slots := 0, locals := 0 }
set_option maxHeartbeats 4000000 in
set_option maxRecDepth 100000 in
theorem kX11_gives (l : Launch) (D : va_G) (cy : Nat → ClassId) (h0 : Nat) (a0 : Nat → Nat) (s0 : Rc) (p1 : Int32) (res : Int32 × Rc) (h : fX11_gives p1 s0 = res) : CI l D cy yX11_gives wsX11_gives rmX11_gives [.ref h0, .int p1] (flat [WX11 cy h0 a0 s0]) (flat [WX11 cy h0 a0 res.2]) res.1 := by
  refine CI.of (cc := cX11_gives) (maxL := 2) (by decide) rfl (Nat.le_of_ble_eq_true rfl) ?_
  intro p e s m args below meth c A QQ ls E hr
  obtain ⟨hx, hb, hml, hown, hts, hK, hN, hP, hD, hA, hl⟩ := E
  have hret : ∀ (pc : Nat) (H : Heap) (locs : List Loc) (ls : Array Slot) (u : Int32 × Rc), u = res → va_P D vwCl (flat [WX11 cy h0 a0 u.2]) H → va_D A (flat [WX11 cy h0 a0 u.2]) → va_S A s.heap H locs → decode cX11_gives pc = .ok (.ireturn, 1) → W p l e rmX11_gives s m args below meth c H locs 0 0 QQ (F0 m pc ls [.int u.1]) := by
    intro pc H locs ls u hu hP hD hS hd; subst hu; exact hr pc H locs ls _ rfl hP hD hS hd
  clear hr
  have hl : lv_has ls 2 [(0, .ref h0), (1, .int p1)] := hl
  have hinX11 : ∀ w ∈ wsX110, w ∈ wsX11_gives := fun _ h => List.mem_cons_of_mem _ (List.mem_append_right _ h)
  unfold fX11_gives at h
  suffices key : ∀ (H : Heap) (locs : List Loc), va_P D vwCl (flat [WX11 cy h0 a0 s0]) H → va_S A s.heap H locs → W p l e rmX11_gives s m args below meth c H locs 0 0 QQ (F0 m 0 ls []) from key _ _ hP va_S.rf
  clear hP
  intro H locs hP hS
  refine lv_aload_n hx hb dX11_gives_0 rfl (lv_at hl 0 rfl) ?_
  refine lv_iconst (v := 0) hx hb dX11_gives_1 (by decide) ?_
  obtain ⟨s0_1, es, h⟩ := lt_elim h
  refine va_put (D := D) (ci := 11) (v := .int (0 : Int32)) (ty := .int) (C := RX11) (T := TX11) (N := 38) hx hb hts hinX11 tyX11 tyX11_ok nmX11 hown hK hP hD hS 0 rfl rfl 2 (by decide) (hts (.fieldLink RX11 69 "KneeBenchModel" "status" "I") (List.mem_of_getElem? (i := 1) rfl)) (fun _ h9 => h9) rfl (by decide +kernel) rfl rfl (Nat.le_of_ble_eq_true rfl) dX11_gives_2 (fun H locs hP hD hS => ?_)
  have hP : va_P D vwCl (flat [WX11 cy h0 a0 s0_1]) H := by rw [es]; exact hP
  have hD : va_D A (flat [WX11 cy h0 a0 s0_1]) := by rw [es]; exact hD
  clear es
  refine lv_iload_n hx hb dX11_gives_5 rfl (lv_at hl 1 rfl) ?_
  exact hret 6 H locs ls (p1, s0_1) h hP hD hS dX11_gives_6
theorem gd_X11_agrees : wsX11_agrees.all goodWord = true := by decide +kernel
set_option maxRecDepth 20000 in
theorem ggX11_agrees_X11_isFarmer : GoodIn wsX11_agrees wsX11_isFarmer := goodIn_by gd_X11_agrees (List.forall_mem_cons.mpr ⟨List.mem_cons_of_mem _ (List.mem_append_left _ (List.mem_append_left _ (List.mem_of_getElem? (i := 5) rfl))), List.forall_mem_append.mpr ⟨List.forall_mem_cons.mpr ⟨List.mem_cons_of_mem _ (List.mem_append_left _ (List.mem_append_left _ (List.mem_of_getElem? (i := 0) rfl))), nowords_in⟩, (fun _ h => List.mem_cons_of_mem _ (List.mem_append_right _ (h)))⟩⟩)
set_option maxRecDepth 20000 in
theorem gX11_agrees_X11_isFarmer : GoodIn wsX11_agrees (wsV RX11 267 RX11 yX11_isFarmer wsX11_isFarmer) := goodIn_app (goodIn_by gd_X11_agrees (List.forall_mem_cons.mpr ⟨List.mem_cons_of_mem _ (List.mem_append_left _ (List.mem_append_left _ (List.mem_of_getElem? (i := 1) rfl))), List.forall_mem_cons.mpr ⟨List.mem_cons_of_mem _ (List.mem_append_left _ (List.mem_append_left _ (List.mem_of_getElem? (i := 2) rfl))), List.forall_mem_cons.mpr ⟨List.mem_cons_of_mem _ (List.mem_append_left _ (List.mem_append_left _ (List.mem_of_getElem? (i := 3) rfl))), List.forall_mem_cons.mpr ⟨List.mem_cons_of_mem _ (List.mem_append_left _ (List.mem_append_left _ (List.mem_of_getElem? (i := 4) rfl))), nowords_in⟩⟩⟩⟩)) ggX11_agrees_X11_isFarmer
set_option maxRecDepth 20000 in
theorem ggX11_agrees_X11_refuse : GoodIn wsX11_agrees wsX11_refuse := goodIn_by gd_X11_agrees (List.forall_mem_cons.mpr ⟨List.mem_cons_of_mem _ (List.mem_append_left _ (List.mem_append_left _ (List.mem_of_getElem? (i := 9) rfl))), List.forall_mem_append.mpr ⟨List.forall_mem_cons.mpr ⟨List.mem_cons_of_mem _ (List.mem_append_left _ (List.mem_append_left _ (List.mem_of_getElem? (i := 10) rfl))), nowords_in⟩, (fun _ h => List.mem_cons_of_mem _ (List.mem_append_right _ (h)))⟩⟩)
set_option maxRecDepth 20000 in
theorem gX11_agrees_X11_refuse : GoodIn wsX11_agrees (wsV RX11 75 RX11 yX11_refuse wsX11_refuse) := goodIn_app (goodIn_by gd_X11_agrees (List.forall_mem_cons.mpr ⟨List.mem_cons_of_mem _ (List.mem_append_left _ (List.mem_append_left _ (List.mem_of_getElem? (i := 6) rfl))), List.forall_mem_cons.mpr ⟨List.mem_cons_of_mem _ (List.mem_append_left _ (List.mem_append_left _ (List.mem_of_getElem? (i := 7) rfl))), List.forall_mem_cons.mpr ⟨List.mem_cons_of_mem _ (List.mem_append_left _ (List.mem_append_left _ (List.mem_of_getElem? (i := 8) rfl))), List.forall_mem_cons.mpr ⟨List.mem_cons_of_mem _ (List.mem_append_left _ (List.mem_append_left _ (List.mem_of_getElem? (i := 4) rfl))), nowords_in⟩⟩⟩⟩)) ggX11_agrees_X11_refuse
set_option maxRecDepth 20000 in
theorem ggX11_agrees_X11_tellOf : GoodIn wsX11_agrees wsX11_tellOf := goodIn_by gd_X11_agrees (List.forall_mem_cons.mpr ⟨List.mem_cons_of_mem _ (List.mem_append_left _ (List.mem_append_left _ (List.mem_of_getElem? (i := 14) rfl))), List.forall_mem_append.mpr ⟨List.forall_mem_cons.mpr ⟨List.mem_cons_of_mem _ (List.mem_append_left _ (List.mem_append_left _ (List.mem_of_getElem? (i := 15) rfl))), List.forall_mem_cons.mpr ⟨List.mem_cons_of_mem _ (List.mem_append_left _ (List.mem_append_left _ (List.mem_of_getElem? (i := 0) rfl))), List.forall_mem_cons.mpr ⟨List.mem_cons_of_mem _ (List.mem_append_left _ (List.mem_append_left _ (List.mem_of_getElem? (i := 16) rfl))), List.forall_mem_cons.mpr ⟨List.mem_cons_of_mem _ (List.mem_append_left _ (List.mem_append_left _ (List.mem_of_getElem? (i := 17) rfl))), List.forall_mem_cons.mpr ⟨List.mem_cons_of_mem _ (List.mem_append_left _ (List.mem_append_left _ (List.mem_of_getElem? (i := 18) rfl))), List.forall_mem_cons.mpr ⟨List.mem_cons_of_mem _ (List.mem_append_left _ (List.mem_append_left _ (List.mem_of_getElem? (i := 19) rfl))), List.forall_mem_cons.mpr ⟨List.mem_cons_of_mem _ (List.mem_append_left _ (List.mem_append_left _ (List.mem_of_getElem? (i := 4) rfl))), List.forall_mem_cons.mpr ⟨List.mem_cons_of_mem _ (List.mem_append_left _ (List.mem_append_left _ (List.mem_of_getElem? (i := 20) rfl))), List.forall_mem_cons.mpr ⟨List.mem_cons_of_mem _ (List.mem_append_left _ (List.mem_append_left _ (List.mem_of_getElem? (i := 21) rfl))), List.forall_mem_cons.mpr ⟨List.mem_cons_of_mem _ (List.mem_append_left _ (List.mem_append_left _ (List.mem_of_getElem? (i := 22) rfl))), List.forall_mem_cons.mpr ⟨List.mem_cons_of_mem _ (List.mem_append_left _ (List.mem_append_left _ (List.mem_of_getElem? (i := 23) rfl))), List.forall_mem_cons.mpr ⟨List.mem_cons_of_mem _ (List.mem_append_left _ (List.mem_append_right _ (List.mem_of_getElem? (i := 0) rfl))), List.forall_mem_cons.mpr ⟨List.mem_cons_of_mem _ (List.mem_append_left _ (List.mem_append_right _ (List.mem_of_getElem? (i := 1) rfl))), List.forall_mem_cons.mpr ⟨List.mem_cons_of_mem _ (List.mem_append_left _ (List.mem_append_right _ (List.mem_of_getElem? (i := 2) rfl))), List.forall_mem_cons.mpr ⟨List.mem_cons_of_mem _ (List.mem_append_left _ (List.mem_append_right _ (List.mem_of_getElem? (i := 3) rfl))), List.forall_mem_cons.mpr ⟨List.mem_cons_of_mem _ (List.mem_append_left _ (List.mem_append_right _ (List.mem_of_getElem? (i := 4) rfl))), List.forall_mem_cons.mpr ⟨List.mem_cons_of_mem _ (List.mem_append_left _ (List.mem_append_right _ (List.mem_of_getElem? (i := 5) rfl))), List.forall_mem_cons.mpr ⟨List.mem_cons_of_mem _ (List.mem_append_left _ (List.mem_append_right _ (List.mem_of_getElem? (i := 6) rfl))), List.forall_mem_cons.mpr ⟨List.mem_cons_of_mem _ (List.mem_append_left _ (List.mem_append_right _ (List.mem_of_getElem? (i := 7) rfl))), List.forall_mem_cons.mpr ⟨List.mem_cons_of_mem _ (List.mem_append_left _ (List.mem_append_right _ (List.mem_of_getElem? (i := 8) rfl))), List.forall_mem_cons.mpr ⟨List.mem_cons_of_mem _ (List.mem_append_left _ (List.mem_append_right _ (List.mem_of_getElem? (i := 9) rfl))), List.forall_mem_cons.mpr ⟨List.mem_cons_of_mem _ (List.mem_append_left _ (List.mem_append_right _ (List.mem_of_getElem? (i := 10) rfl))), nowords_in⟩⟩⟩⟩⟩⟩⟩⟩⟩⟩⟩⟩⟩⟩⟩⟩⟩⟩⟩⟩⟩⟩, (fun _ h => List.mem_cons_of_mem _ (List.mem_append_right _ (h)))⟩⟩)
set_option maxRecDepth 20000 in
theorem gX11_agrees_X11_tellOf : GoodIn wsX11_agrees (wsV RX11 307 RX11 yX11_tellOf wsX11_tellOf) := goodIn_app (goodIn_by gd_X11_agrees (List.forall_mem_cons.mpr ⟨List.mem_cons_of_mem _ (List.mem_append_left _ (List.mem_append_left _ (List.mem_of_getElem? (i := 11) rfl))), List.forall_mem_cons.mpr ⟨List.mem_cons_of_mem _ (List.mem_append_left _ (List.mem_append_left _ (List.mem_of_getElem? (i := 12) rfl))), List.forall_mem_cons.mpr ⟨List.mem_cons_of_mem _ (List.mem_append_left _ (List.mem_append_left _ (List.mem_of_getElem? (i := 13) rfl))), List.forall_mem_cons.mpr ⟨List.mem_cons_of_mem _ (List.mem_append_left _ (List.mem_append_left _ (List.mem_of_getElem? (i := 4) rfl))), nowords_in⟩⟩⟩⟩)) ggX11_agrees_X11_tellOf
set_option maxRecDepth 20000 in
theorem ggX11_agrees_X11_sayOf : GoodIn wsX11_agrees wsX11_sayOf := goodIn_by gd_X11_agrees (List.forall_mem_cons.mpr ⟨List.mem_cons_of_mem _ (List.mem_append_left _ (List.mem_append_right _ (List.mem_of_getElem? (i := 14) rfl))), List.forall_mem_append.mpr ⟨List.forall_mem_append.mpr ⟨List.forall_mem_cons.mpr ⟨List.mem_cons_of_mem _ (List.mem_append_left _ (List.mem_append_left _ (List.mem_of_getElem? (i := 0) rfl))), List.forall_mem_cons.mpr ⟨List.mem_cons_of_mem _ (List.mem_append_left _ (List.mem_append_left _ (List.mem_of_getElem? (i := 11) rfl))), List.forall_mem_cons.mpr ⟨List.mem_cons_of_mem _ (List.mem_append_left _ (List.mem_append_left _ (List.mem_of_getElem? (i := 12) rfl))), List.forall_mem_cons.mpr ⟨List.mem_cons_of_mem _ (List.mem_append_left _ (List.mem_append_left _ (List.mem_of_getElem? (i := 13) rfl))), List.forall_mem_cons.mpr ⟨List.mem_cons_of_mem _ (List.mem_append_left _ (List.mem_append_left _ (List.mem_of_getElem? (i := 4) rfl))), List.forall_mem_cons.mpr ⟨List.mem_cons_of_mem _ (List.mem_append_left _ (List.mem_append_left _ (List.mem_of_getElem? (i := 14) rfl))), List.forall_mem_cons.mpr ⟨List.mem_cons_of_mem _ (List.mem_append_left _ (List.mem_append_left _ (List.mem_of_getElem? (i := 15) rfl))), List.forall_mem_cons.mpr ⟨List.mem_cons_of_mem _ (List.mem_append_left _ (List.mem_append_left _ (List.mem_of_getElem? (i := 16) rfl))), List.forall_mem_cons.mpr ⟨List.mem_cons_of_mem _ (List.mem_append_left _ (List.mem_append_left _ (List.mem_of_getElem? (i := 17) rfl))), List.forall_mem_cons.mpr ⟨List.mem_cons_of_mem _ (List.mem_append_left _ (List.mem_append_left _ (List.mem_of_getElem? (i := 18) rfl))), List.forall_mem_cons.mpr ⟨List.mem_cons_of_mem _ (List.mem_append_left _ (List.mem_append_left _ (List.mem_of_getElem? (i := 19) rfl))), List.forall_mem_cons.mpr ⟨List.mem_cons_of_mem _ (List.mem_append_left _ (List.mem_append_left _ (List.mem_of_getElem? (i := 20) rfl))), List.forall_mem_cons.mpr ⟨List.mem_cons_of_mem _ (List.mem_append_left _ (List.mem_append_left _ (List.mem_of_getElem? (i := 21) rfl))), List.forall_mem_cons.mpr ⟨List.mem_cons_of_mem _ (List.mem_append_left _ (List.mem_append_left _ (List.mem_of_getElem? (i := 22) rfl))), List.forall_mem_cons.mpr ⟨List.mem_cons_of_mem _ (List.mem_append_left _ (List.mem_append_left _ (List.mem_of_getElem? (i := 23) rfl))), List.forall_mem_cons.mpr ⟨List.mem_cons_of_mem _ (List.mem_append_left _ (List.mem_append_right _ (List.mem_of_getElem? (i := 0) rfl))), List.forall_mem_cons.mpr ⟨List.mem_cons_of_mem _ (List.mem_append_left _ (List.mem_append_right _ (List.mem_of_getElem? (i := 1) rfl))), List.forall_mem_cons.mpr ⟨List.mem_cons_of_mem _ (List.mem_append_left _ (List.mem_append_right _ (List.mem_of_getElem? (i := 2) rfl))), List.forall_mem_cons.mpr ⟨List.mem_cons_of_mem _ (List.mem_append_left _ (List.mem_append_right _ (List.mem_of_getElem? (i := 3) rfl))), List.forall_mem_cons.mpr ⟨List.mem_cons_of_mem _ (List.mem_append_left _ (List.mem_append_right _ (List.mem_of_getElem? (i := 4) rfl))), List.forall_mem_cons.mpr ⟨List.mem_cons_of_mem _ (List.mem_append_left _ (List.mem_append_right _ (List.mem_of_getElem? (i := 5) rfl))), List.forall_mem_cons.mpr ⟨List.mem_cons_of_mem _ (List.mem_append_left _ (List.mem_append_right _ (List.mem_of_getElem? (i := 6) rfl))), List.forall_mem_cons.mpr ⟨List.mem_cons_of_mem _ (List.mem_append_left _ (List.mem_append_right _ (List.mem_of_getElem? (i := 7) rfl))), List.forall_mem_cons.mpr ⟨List.mem_cons_of_mem _ (List.mem_append_left _ (List.mem_append_right _ (List.mem_of_getElem? (i := 8) rfl))), nowords_in⟩⟩⟩⟩⟩⟩⟩⟩⟩⟩⟩⟩⟩⟩⟩⟩⟩⟩⟩⟩⟩⟩⟩⟩, List.forall_mem_cons.mpr ⟨List.mem_cons_of_mem _ (List.mem_append_left _ (List.mem_append_right _ (List.mem_of_getElem? (i := 9) rfl))), List.forall_mem_cons.mpr ⟨List.mem_cons_of_mem _ (List.mem_append_left _ (List.mem_append_right _ (List.mem_of_getElem? (i := 10) rfl))), nowords_in⟩⟩⟩, (fun _ h => List.mem_cons_of_mem _ (List.mem_append_right _ (h)))⟩⟩)
set_option maxRecDepth 20000 in
theorem gX11_agrees_X11_sayOf : GoodIn wsX11_agrees (wsV RX11 316 RX11 yX11_sayOf wsX11_sayOf) := goodIn_app (goodIn_by gd_X11_agrees (List.forall_mem_cons.mpr ⟨List.mem_cons_of_mem _ (List.mem_append_left _ (List.mem_append_right _ (List.mem_of_getElem? (i := 11) rfl))), List.forall_mem_cons.mpr ⟨List.mem_cons_of_mem _ (List.mem_append_left _ (List.mem_append_right _ (List.mem_of_getElem? (i := 12) rfl))), List.forall_mem_cons.mpr ⟨List.mem_cons_of_mem _ (List.mem_append_left _ (List.mem_append_right _ (List.mem_of_getElem? (i := 13) rfl))), List.forall_mem_cons.mpr ⟨List.mem_cons_of_mem _ (List.mem_append_left _ (List.mem_append_left _ (List.mem_of_getElem? (i := 4) rfl))), nowords_in⟩⟩⟩⟩)) ggX11_agrees_X11_sayOf
set_option maxRecDepth 20000 in
theorem ggX11_agrees_X11_gives : GoodIn wsX11_agrees wsX11_gives := goodIn_by gd_X11_agrees (List.forall_mem_cons.mpr ⟨List.mem_cons_of_mem _ (List.mem_append_left _ (List.mem_append_right _ (List.mem_of_getElem? (i := 18) rfl))), List.forall_mem_append.mpr ⟨List.forall_mem_cons.mpr ⟨List.mem_cons_of_mem _ (List.mem_append_left _ (List.mem_append_left _ (List.mem_of_getElem? (i := 10) rfl))), nowords_in⟩, (fun _ h => List.mem_cons_of_mem _ (List.mem_append_right _ (h)))⟩⟩)
set_option maxRecDepth 20000 in
theorem gX11_agrees_X11_gives : GoodIn wsX11_agrees (wsV RX11 79 RX11 yX11_gives wsX11_gives) := goodIn_app (goodIn_by gd_X11_agrees (List.forall_mem_cons.mpr ⟨List.mem_cons_of_mem _ (List.mem_append_left _ (List.mem_append_right _ (List.mem_of_getElem? (i := 15) rfl))), List.forall_mem_cons.mpr ⟨List.mem_cons_of_mem _ (List.mem_append_left _ (List.mem_append_right _ (List.mem_of_getElem? (i := 16) rfl))), List.forall_mem_cons.mpr ⟨List.mem_cons_of_mem _ (List.mem_append_left _ (List.mem_append_right _ (List.mem_of_getElem? (i := 17) rfl))), List.forall_mem_cons.mpr ⟨List.mem_cons_of_mem _ (List.mem_append_left _ (List.mem_append_left _ (List.mem_of_getElem? (i := 4) rfl))), nowords_in⟩⟩⟩⟩)) ggX11_agrees_X11_gives
theorem dX11_agrees_0 : decode cX11_agrees 0 = .ok (.aload_n 0, 1) := by decide +kernel
theorem dX11_agrees_1 : decode cX11_agrees 1 = .ok (.iload_n 1, 1) := by decide +kernel
theorem dX11_agrees_2 : decode cX11_agrees 2 = .ok (.invokevirtual 267, 3) := by decide +kernel
theorem dX11_agrees_5 : decode cX11_agrees 5 = .ok (.ifCond .ne 9, 3) := by decide +kernel
theorem dX11_agrees_8 : decode cX11_agrees 8 = .ok (.aload_n 0, 1) := by decide +kernel
theorem dX11_agrees_9 : decode cX11_agrees 9 = .ok (.iconst 1, 1) := by decide +kernel
theorem dX11_agrees_10 : decode cX11_agrees 10 = .ok (.invokevirtual 75, 3) := by decide +kernel
theorem dX11_agrees_13 : decode cX11_agrees 13 = .ok (.ireturn, 1) := by decide +kernel
theorem dX11_agrees_14 : decode cX11_agrees 14 = .ok (.iconst 0, 1) := by decide +kernel
theorem dX11_agrees_15 : decode cX11_agrees 15 = .ok (.istore_n 2, 1) := by decide +kernel
theorem dX11_agrees_16 : decode cX11_agrees 16 = .ok (.iconst 0, 1) := by decide +kernel
theorem dX11_agrees_17 : decode cX11_agrees 17 = .ok (.istore_n 3, 1) := by decide +kernel
theorem dX11_agrees_18 : decode cX11_agrees 18 = .ok (.iload_n 3, 1) := by decide +kernel
theorem dX11_agrees_19 : decode cX11_agrees 19 = .ok (.aload_n 0, 1) := by decide +kernel
theorem dX11_agrees_20 : decode cX11_agrees 20 = .ok (.getfield 7, 3) := by decide +kernel
theorem dX11_agrees_23 : decode cX11_agrees 23 = .ok (.iconst 1, 1) := by decide +kernel
theorem dX11_agrees_24 : decode cX11_agrees 24 = .ok (.iaload, 1) := by decide +kernel
theorem dX11_agrees_25 : decode cX11_agrees 25 = .ok (.if_icmp .ge 41, 3) := by decide +kernel
theorem dX11_agrees_28 : decode cX11_agrees 28 = .ok (.iload_n 2, 1) := by decide +kernel
theorem dX11_agrees_29 : decode cX11_agrees 29 = .ok (.aload_n 0, 1) := by decide +kernel
theorem dX11_agrees_30 : decode cX11_agrees 30 = .ok (.iload_n 1, 1) := by decide +kernel
theorem dX11_agrees_31 : decode cX11_agrees 31 = .ok (.iload_n 3, 1) := by decide +kernel
theorem dX11_agrees_32 : decode cX11_agrees 32 = .ok (.invokevirtual 307, 3) := by decide +kernel
theorem dX11_agrees_35 : decode cX11_agrees 35 = .ok (.iconst (-1), 1) := by decide +kernel
theorem dX11_agrees_36 : decode cX11_agrees 36 = .ok (.if_icmp .eq 21, 3) := by decide +kernel
theorem dX11_agrees_39 : decode cX11_agrees 39 = .ok (.aload_n 0, 1) := by decide +kernel
theorem dX11_agrees_40 : decode cX11_agrees 40 = .ok (.iload_n 1, 1) := by decide +kernel
theorem dX11_agrees_41 : decode cX11_agrees 41 = .ok (.iload_n 3, 1) := by decide +kernel
theorem dX11_agrees_42 : decode cX11_agrees 42 = .ok (.invokevirtual 307, 3) := by decide +kernel
theorem dX11_agrees_45 : decode cX11_agrees 45 = .ok (.aload_n 0, 1) := by decide +kernel
theorem dX11_agrees_46 : decode cX11_agrees 46 = .ok (.iload_n 3, 1) := by decide +kernel
theorem dX11_agrees_47 : decode cX11_agrees 47 = .ok (.invokevirtual 316, 3) := by decide +kernel
theorem dX11_agrees_50 : decode cX11_agrees 50 = .ok (.if_icmp .ne 7, 3) := by decide +kernel
theorem dX11_agrees_53 : decode cX11_agrees 53 = .ok (.iconst 1, 1) := by decide +kernel
theorem dX11_agrees_54 : decode cX11_agrees 54 = .ok (.goto 4, 3) := by decide +kernel
theorem dX11_agrees_57 : decode cX11_agrees 57 = .ok (.iconst 0, 1) := by decide +kernel
theorem dX11_agrees_58 : decode cX11_agrees 58 = .ok (.iadd, 1) := by decide +kernel
theorem dX11_agrees_59 : decode cX11_agrees 59 = .ok (.istore_n 2, 1) := by decide +kernel
theorem dX11_agrees_60 : decode cX11_agrees 60 = .ok (.iinc 3 1, 3) := by decide +kernel
theorem dX11_agrees_63 : decode cX11_agrees 63 = .ok (.goto (-45), 3) := by decide +kernel
theorem dX11_agrees_66 : decode cX11_agrees 66 = .ok (.aload_n 0, 1) := by decide +kernel
theorem dX11_agrees_67 : decode cX11_agrees 67 = .ok (.iload_n 2, 1) := by decide +kernel
theorem dX11_agrees_68 : decode cX11_agrees 68 = .ok (.invokevirtual 79, 3) := by decide +kernel
theorem dX11_agrees_71 : decode cX11_agrees 71 = .ok (.ireturn, 1) := by decide +kernel
abbrev rmX11_agrees : Room := { frames := 4, cells := 0, slots := 0, locals := 92 }
set_option maxHeartbeats 4000000 in
set_option maxRecDepth 100000 in
theorem kX11_agrees (l : Launch) (D : va_G) (cy : Nat → ClassId) (h0 : Nat) (a0 : Nat → Nat) (s0 : Rc) (p1 : Int32) (res : Int32 × Rc) (h : fX11_agrees p1 s0 = some res) : CI l D cy yX11_agrees wsX11_agrees rmX11_agrees [.ref h0, .int p1] (flat [WX11 cy h0 a0 s0]) (flat [WX11 cy h0 a0 res.2]) res.1 := by
  refine CI.of (cc := cX11_agrees) (maxL := 4) (by decide) rfl (Nat.le_of_ble_eq_true rfl) ?_
  intro p e s m args below meth c A QQ ls E hr
  obtain ⟨hx, hb, hml, hown, hts, hK, hN, hP, hD, hA, hl⟩ := E
  have hret : ∀ (pc : Nat) (H : Heap) (locs : List Loc) (ls : Array Slot) (u : Int32 × Rc), u = res → va_P D vwCl (flat [WX11 cy h0 a0 u.2]) H → va_D A (flat [WX11 cy h0 a0 u.2]) → va_S A s.heap H locs → decode cX11_agrees pc = .ok (.ireturn, 1) → W p l e rmX11_agrees s m args below meth c H locs 0 0 QQ (F0 m pc ls [.int u.1]) := by
    intro pc H locs ls u hu hP hD hS hd; subst hu; exact hr pc H locs ls _ rfl hP hD hS hd
  clear hr
  have hl : lv_has ls 4 [(0, .ref h0), (1, .int p1)] := hl
  have hinX11 : ∀ w ∈ wsX110, w ∈ wsX11_agrees := fun _ h => List.mem_cons_of_mem _ (List.mem_append_right _ h)
  unfold fX11_agrees at h
  suffices key : ∀ (H : Heap) (locs : List Loc), va_P D vwCl (flat [WX11 cy h0 a0 s0]) H → va_S A s.heap H locs → W p l e rmX11_agrees s m args below meth c H locs 0 0 QQ (F0 m 0 ls []) from key _ _ hP va_S.rf
  clear hP
  intro H locs hP hS
  refine lv_aload_n hx hb dX11_agrees_0 rfl (lv_at hl 0 rfl) ?_
  refine lv_iload_n hx hb dX11_agrees_1 rfl (lv_at hl 1 rfl) ?_
  refine ca_z (w' := [WX11 cy h0 a0 s0]) (rn_V (As := [.int p1]) (rest := []) ⟨hx, hb, hml, hown, hts⟩ (kX11_isFarmer l D cy h0 a0 s0 p1 _ rfl H.size) (cwV 1 hts gX11_agrees_X11_isFarmer rfl rfl rfl (by decide +kernel) ⟨Nat.le_of_ble_eq_true rfl, Nat.le_of_ble_eq_true rfl⟩) hK hN hP hD [0] rfl rfl (ci := 11) (q0 := 0) rfl rfl rfl rfl hl.1 rfl (Nat.le_of_ble_eq_true rfl) dX11_agrees_2 ⟨Nat.le_refl 0, Nat.le_refl 0⟩) hP hD hS hA [0] ⟨rfl, rfl, rfl, rfl⟩ (fun b1 H locs hP hD hS => ?_)
  refine lv_if_ne (tgt := 14) hx hb dX11_agrees_5 (by decide) (fun c2 => ?_) (fun c2 => ?_)
  · replace h := (if_neg c2).symm.trans h
    refine lv_iconst (v := 0) hx hb dX11_agrees_14 (by decide) ?_
    refine lv_istore_n (lv' := [(2, .int (0 : Int32)), (0, .ref h0), (1, .int p1)]) hx hb dX11_agrees_15 rfl hl (by decide) rfl (fun ls hl => ?_)
    refine lv_iconst (v := 0) hx hb dX11_agrees_16 (by decide) ?_
    refine lv_istore_n (lv' := [(3, .int (0 : Int32)), (2, .int (0 : Int32)), (0, .ref h0), (1, .int p1)]) hx hb dX11_agrees_17 rfl hl (by decide) rfl (fun ls hl => ?_)
    have L18 : ∀ (n : Nat) (q18 : Int32 × Int32) (o : Int32), loopO (fX11_agrees_L18 p1 s0) n q18 = some o → ∀ (H : Heap) (locs : List Loc) (ls : Array Slot), lv_has ls 4 [(0, .ref h0), (1, .int p1), (2, .int q18.1), (3, .int q18.2)] → va_P D vwCl (flat [WX11 cy h0 a0 s0]) H → va_D A (flat [WX11 cy h0 a0 s0]) → va_S A s.heap H locs → ∀ (kk66 : ∀ (H : Heap) (locs : List Loc) (ls : Array Slot), lv_has ls 4 [(0, .ref h0), (2, .int o)] → va_P D vwCl (flat [WX11 cy h0 a0 s0]) H → va_D A (flat [WX11 cy h0 a0 s0]) → va_S A s.heap H locs → W p l e rmX11_agrees s m args below meth c H locs 0 0 QQ (F0 m 66 ls [])), W p l e rmX11_agrees s m args below meth c H locs 0 0 QQ (F0 m 18 ls []) := by
      intro n
      induction n with
      | zero => intro q18 o h; exact absurd h (by rw [loopO_zero]; intro z; cases z)
      | succ n ih =>
        intro q18 o h H locs ls hl hP hD hS kk66
        obtain ⟨w, h, hgo, hst⟩ := loopO_elim h
        unfold fX11_agrees_L18 at h
        refine lv_iload_n hx hb dX11_agrees_18 rfl (lv_at hl 3 rfl) ?_
        refine lv_aload_n hx hb dX11_agrees_19 rfl (lv_at hl 0 rfl) ?_
        refine va_get (D := D) (ci := 11) (v := .ref (a0 0)) (C := RX11) (T := TX11) (N := 38) hx hb hts hinX11 hown hK hP 0 rfl rfl 0 (by decide) (hts (.fieldLink RX11 7 "KneeBenchModel" "at" "[I") (List.mem_of_getElem? (i := 1) rfl)) (fun _ h9 => h9) rfl dX11_agrees_20 ?_
        refine lv_iconst (v := 1) hx hb dX11_agrees_23 (by decide) ?_
        refine va_iald hx hb hK hP 1 1 rfl rfl (inb_in (by decide)) dX11_agrees_24 ?_
        refine lv_icmp_ge (tgt := 66) hx hb dX11_agrees_25 (by decide) (fun c3 => ?_) (fun c3 => ?_)
        · replace h := (if_pos c3).symm.trans h
          have eo := hst _ (Option.some.inj h).symm
          subst eo
          exact kk66 H locs ls (lv_sub hl [0, 2] rfl) hP hD hS
        · replace h := (if_neg c3).symm.trans h
          refine lv_iload_n hx hb dX11_agrees_28 rfl (lv_at hl 2 rfl) ?_
          refine lv_aload_n hx hb dX11_agrees_29 rfl (lv_at hl 0 rfl) ?_
          refine lv_iload_n hx hb dX11_agrees_30 rfl (lv_at hl 1 rfl) ?_
          refine lv_iload_n hx hb dX11_agrees_31 rfl (lv_at hl 3 rfl) ?_
          obtain ⟨r4, hr4, h⟩ := bd_elim h
          refine ca_i (w' := [WX11 cy h0 a0 s0]) (rn_V (As := [.int p1, .int q18.2]) (rest := [.int q18.1]) ⟨hx, hb, hml, hown, hts⟩ (kX11_tellOf l D cy h0 a0 s0 p1 q18.2 r4 hr4 H.size) (cwV 2 hts gX11_agrees_X11_tellOf rfl rfl rfl (by decide +kernel) ⟨Nat.le_of_ble_eq_true rfl, Nat.le_of_ble_eq_true rfl⟩) hK hN hP hD [0] rfl rfl (ci := 11) (q0 := 0) rfl rfl rfl rfl hl.1 rfl (Nat.le_of_ble_eq_true rfl) dX11_agrees_32 ⟨Nat.le_refl 0, Nat.le_refl 0⟩) hP hD hS hA [0] ⟨rfl, rfl, rfl, rfl⟩ (fun H locs hP hD hS => ?_)
          refine lv_iconst (v := -1) hx hb dX11_agrees_35 (by decide) ?_
          refine lv_icmp_eq (tgt := 57) hx hb dX11_agrees_36 (by decide) (fun c5 => ?_) (fun c5 => ?_)
          · replace h := (if_pos c5).symm.trans h
            refine lv_iconst (v := 0) hx hb dX11_agrees_57 (by decide) ?_
            refine lv_iadd hx hb dX11_agrees_58 ?_
            refine lv_topi (fun x6 ex6 => ?_)
            replace h := lt_use h x6 ex6
            refine lv_istore_n (lv' := [(2, .int x6), (0, .ref h0), (1, .int p1), (3, .int q18.2)]) hx hb dX11_agrees_59 rfl hl (by decide) rfl (fun ls hl => ?_)
            refine lv_iinc (v := (q18.2 + (1 : Int32))) (lv' := [(3, .int (q18.2 + (1 : Int32))), (2, .int x6), (0, .ref h0), (1, .int p1)]) hx hb dX11_agrees_60 hl (k := 3) rfl rfl (by decide) rfl (fun ls hl => ?_)
            refine lv_goto (tgt := 18) hx hb dX11_agrees_63 (by decide) ?_
            exact ih _ o (hgo _ (Option.some.inj h).symm) H locs ls (lv_sub hl [2, 3, 1, 0] rfl) hP hD hS kk66
          · replace h := (if_neg c5).symm.trans h
            refine lv_aload_n hx hb dX11_agrees_39 rfl (lv_at hl 0 rfl) ?_
            refine lv_iload_n hx hb dX11_agrees_40 rfl (lv_at hl 1 rfl) ?_
            refine lv_iload_n hx hb dX11_agrees_41 rfl (lv_at hl 3 rfl) ?_
            obtain ⟨r7, hr7, h⟩ := bd_elim h
            refine ca_i (w' := [WX11 cy h0 a0 s0]) (rn_V (As := [.int p1, .int q18.2]) (rest := [.int q18.1]) ⟨hx, hb, hml, hown, hts⟩ (kX11_tellOf l D cy h0 a0 s0 p1 q18.2 r7 hr7 H.size) (cwV 2 hts gX11_agrees_X11_tellOf rfl rfl rfl (by decide +kernel) ⟨Nat.le_of_ble_eq_true rfl, Nat.le_of_ble_eq_true rfl⟩) hK hN hP hD [0] rfl rfl (ci := 11) (q0 := 0) rfl rfl rfl rfl hl.1 rfl (Nat.le_of_ble_eq_true rfl) dX11_agrees_42 ⟨Nat.le_refl 0, Nat.le_refl 0⟩) hP hD hS hA [0] ⟨rfl, rfl, rfl, rfl⟩ (fun H locs hP hD hS => ?_)
            refine lv_aload_n hx hb dX11_agrees_45 rfl (lv_at hl 0 rfl) ?_
            refine lv_iload_n hx hb dX11_agrees_46 rfl (lv_at hl 3 rfl) ?_
            obtain ⟨r8, hr8, h⟩ := bd_elim h
            refine ca_i (w' := [WX11 cy h0 a0 s0]) (rn_V (As := [.int q18.2]) (rest := [.int r7, .int q18.1]) ⟨hx, hb, hml, hown, hts⟩ (kX11_sayOf l D cy h0 a0 s0 q18.2 r8 hr8 H.size) (cwV 1 hts gX11_agrees_X11_sayOf rfl rfl rfl (by decide +kernel) ⟨Nat.le_of_ble_eq_true rfl, Nat.le_of_ble_eq_true rfl⟩) hK hN hP hD [0] rfl rfl (ci := 11) (q0 := 0) rfl rfl rfl rfl hl.1 rfl (Nat.le_of_ble_eq_true rfl) dX11_agrees_47 ⟨Nat.le_refl 0, Nat.le_refl 0⟩) hP hD hS hA [0] ⟨rfl, rfl, rfl, rfl⟩ (fun H locs hP hD hS => ?_)
            refine lv_icmp_ne (tgt := 57) hx hb dX11_agrees_50 (by decide) (fun c9 => ?_) (fun c9 => ?_)
            · replace h := (if_neg c9).symm.trans h
              refine lv_iconst (v := 0) hx hb dX11_agrees_57 (by decide) ?_
              refine lv_iadd hx hb dX11_agrees_58 ?_
              refine lv_topi (fun x10 ex10 => ?_)
              replace h := lt_use h x10 ex10
              refine lv_istore_n (lv' := [(2, .int x10), (0, .ref h0), (1, .int p1), (3, .int q18.2)]) hx hb dX11_agrees_59 rfl hl (by decide) rfl (fun ls hl => ?_)
              refine lv_iinc (v := (q18.2 + (1 : Int32))) (lv' := [(3, .int (q18.2 + (1 : Int32))), (2, .int x10), (0, .ref h0), (1, .int p1)]) hx hb dX11_agrees_60 hl (k := 3) rfl rfl (by decide) rfl (fun ls hl => ?_)
              refine lv_goto (tgt := 18) hx hb dX11_agrees_63 (by decide) ?_
              exact ih _ o (hgo _ (Option.some.inj h).symm) H locs ls (lv_sub hl [2, 3, 1, 0] rfl) hP hD hS kk66
            · replace h := (if_pos c9).symm.trans h
              refine lv_iconst (v := 1) hx hb dX11_agrees_53 (by decide) ?_
              refine lv_goto (tgt := 58) hx hb dX11_agrees_54 (by decide) ?_
              refine lv_iadd hx hb dX11_agrees_58 ?_
              refine lv_topi (fun x11 ex11 => ?_)
              replace h := lt_use h x11 ex11
              refine lv_istore_n (lv' := [(2, .int x11), (0, .ref h0), (1, .int p1), (3, .int q18.2)]) hx hb dX11_agrees_59 rfl hl (by decide) rfl (fun ls hl => ?_)
              refine lv_iinc (v := (q18.2 + (1 : Int32))) (lv' := [(3, .int (q18.2 + (1 : Int32))), (2, .int x11), (0, .ref h0), (1, .int p1)]) hx hb dX11_agrees_60 hl (k := 3) rfl rfl (by decide) rfl (fun ls hl => ?_)
              refine lv_goto (tgt := 18) hx hb dX11_agrees_63 (by decide) ?_
              exact ih _ o (hgo _ (Option.some.inj h).symm) H locs ls (lv_sub hl [2, 3, 1, 0] rfl) hP hD hS kk66
    obtain ⟨o18, ho18, h⟩ := bd_elim h
    obtain ⟨n18, hn18⟩ := loopF_some ho18
    refine L18 n18 _ o18 hn18 H locs ls (lv_sub hl [2, 3, 1, 0] rfl) hP hD hS (fun H locs ls hl hP hD hS => ?_)
    refine lv_aload_n hx hb dX11_agrees_66 rfl (lv_at hl 0 rfl) ?_
    refine lv_iload_n hx hb dX11_agrees_67 rfl (lv_at hl 1 rfl) ?_
    obtain ⟨r12, hr12, h⟩ := lt_elim h
    refine ca_i (w' := [WX11 cy h0 a0 r12.2]) (rn_V (As := [.int o18]) (rest := []) ⟨hx, hb, hml, hown, hts⟩ (kX11_gives l D cy h0 a0 s0 o18 r12 hr12.symm H.size) (cwV 1 hts gX11_agrees_X11_gives rfl rfl rfl (by decide +kernel) ⟨Nat.le_of_ble_eq_true rfl, Nat.le_of_ble_eq_true rfl⟩) hK hN hP hD [0] rfl rfl (ci := 11) (q0 := 0) rfl rfl rfl rfl hl.1 rfl (Nat.le_of_ble_eq_true rfl) dX11_agrees_68 ⟨Nat.le_refl 0, Nat.le_refl 0⟩) hP hD hS hA [0] ⟨rfl, rfl, rfl, rfl⟩ (fun H locs hP hD hS => ?_)
    exact hret 71 H locs ls (r12.1, r12.2) (Option.some.inj h) hP hD hS dX11_agrees_71
  · replace h := (if_pos c2).symm.trans h
    refine lv_aload_n hx hb dX11_agrees_8 rfl (lv_at hl 0 rfl) ?_
    refine lv_iconst (v := 1) hx hb dX11_agrees_9 (by decide) ?_
    obtain ⟨r13, hr13, h⟩ := lt_elim h
    refine ca_i (w' := [WX11 cy h0 a0 r13.2]) (rn_V (As := [.int (1 : Int32)]) (rest := []) ⟨hx, hb, hml, hown, hts⟩ (kX11_refuse l D cy h0 a0 s0 (1 : Int32) r13 hr13.symm H.size) (cwV 1 hts gX11_agrees_X11_refuse rfl rfl rfl (by decide +kernel) ⟨Nat.le_of_ble_eq_true rfl, Nat.le_of_ble_eq_true rfl⟩) hK hN hP hD [0] rfl rfl (ci := 11) (q0 := 0) rfl rfl rfl rfl hl.1 rfl (Nat.le_of_ble_eq_true rfl) dX11_agrees_10 ⟨Nat.le_refl 0, Nat.le_refl 0⟩) hP hD hS hA [0] ⟨rfl, rfl, rfl, rfl⟩ (fun H locs hP hD hS => ?_)
    exact hret 13 H locs ls (r13.1, r13.2) (Option.some.inj h) hP hD hS dX11_agrees_13
theorem gd_X11_felt : wsX11_felt.all goodWord = true := by decide +kernel
set_option maxRecDepth 20000 in
theorem ggX11_felt_X11_twingeRow : GoodIn wsX11_felt wsX11_twingeRow := goodIn_by gd_X11_felt (List.forall_mem_cons.mpr ⟨List.mem_cons_of_mem _ (List.mem_append_left _ (List.mem_of_getElem? (i := 4) rfl)), nowords_in⟩)
set_option maxRecDepth 20000 in
theorem gX11_felt_X11_twingeRow : GoodIn wsX11_felt (va_wsS RX11 225 yX11_twingeRow wsX11_twingeRow) := goodIn_app (goodIn_by gd_X11_felt (List.forall_mem_cons.mpr ⟨List.mem_cons_of_mem _ (List.mem_append_left _ (List.mem_of_getElem? (i := 1) rfl)), List.forall_mem_cons.mpr ⟨List.mem_cons_of_mem _ (List.mem_append_left _ (List.mem_of_getElem? (i := 2) rfl)), List.forall_mem_cons.mpr ⟨List.mem_cons_of_mem _ (List.mem_append_left _ (List.mem_of_getElem? (i := 3) rfl)), nowords_in⟩⟩⟩)) ggX11_felt_X11_twingeRow
theorem dX11_felt_0 : decode cX11_felt 0 = .ok (.aload_n 0, 1) := by decide +kernel
theorem dX11_felt_1 : decode cX11_felt 1 = .ok (.getfield 7, 3) := by decide +kernel
theorem dX11_felt_4 : decode cX11_felt 4 = .ok (.iload_n 1, 1) := by decide +kernel
theorem dX11_felt_5 : decode cX11_felt 5 = .ok (.iload_n 2, 1) := by decide +kernel
theorem dX11_felt_6 : decode cX11_felt 6 = .ok (.invokestatic 225, 3) := by decide +kernel
theorem dX11_felt_9 : decode cX11_felt 9 = .ok (.iaload, 1) := by decide +kernel
theorem dX11_felt_10 : decode cX11_felt 10 = .ok (.iconst 1, 1) := by decide +kernel
theorem dX11_felt_11 : decode cX11_felt 11 = .ok (.if_icmp .ne 7, 3) := by decide +kernel
theorem dX11_felt_14 : decode cX11_felt 14 = .ok (.iconst 1, 1) := by decide +kernel
theorem dX11_felt_15 : decode cX11_felt 15 = .ok (.goto 4, 3) := by decide +kernel
theorem dX11_felt_18 : decode cX11_felt 18 = .ok (.iconst 0, 1) := by decide +kernel
theorem dX11_felt_19 : decode cX11_felt 19 = .ok (.ireturn, 1) := by decide +kernel
abbrev rmX11_felt : Room := { frames := 1, cells := 0, slots := 0, locals := 21 }
set_option maxHeartbeats 4000000 in
set_option maxRecDepth 100000 in
theorem kX11_felt (l : Launch) (D : va_G) (cy : Nat → ClassId) (h0 : Nat) (a0 : Nat → Nat) (s0 : Rc) (p1 : Int32) (p2 : Int32) (res : Int32) (h : fX11_felt p1 p2 s0 = some res) : CZ l D cy yX11_felt wsX11_felt rmX11_felt [.ref h0, .int p1, .int p2] (flat [WX11 cy h0 a0 s0]) (flat [WX11 cy h0 a0 s0]) res := by
  refine CZ.of (cc := cX11_felt) (maxL := 3) (by decide) rfl (Nat.le_of_ble_eq_true rfl) ?_
  intro p e s m args below meth c A QQ ls E hr
  obtain ⟨hx, hb, hml, hown, hts, hK, hN, hP, hD, hA, hl⟩ := E
  have hret : ∀ (pc : Nat) (H : Heap) (locs : List Loc) (ls : Array Slot) (u : Int32), u = res → va_P D vwCl (flat [WX11 cy h0 a0 s0]) H → va_D A (flat [WX11 cy h0 a0 s0]) → va_S A s.heap H locs → isb u = true → decode cX11_felt pc = .ok (.ireturn, 1) → W p l e rmX11_felt s m args below meth c H locs 0 0 QQ (F0 m pc ls [.int u]) := by
    intro pc H locs ls u hu hP hD hS hz hd; subst hu; exact hr pc H locs ls _ rfl hP hD hS hz hd
  clear hr
  have hl : lv_has ls 3 [(0, .ref h0), (1, .int p1), (2, .int p2)] := hl
  have hinX11 : ∀ w ∈ wsX110, w ∈ wsX11_felt := fun _ h => List.mem_cons_of_mem _ (List.mem_append_right _ h)
  unfold fX11_felt at h
  suffices key : ∀ (H : Heap) (locs : List Loc), va_P D vwCl (flat [WX11 cy h0 a0 s0]) H → va_S A s.heap H locs → W p l e rmX11_felt s m args below meth c H locs 0 0 QQ (F0 m 0 ls []) from key _ _ hP va_S.rf
  clear hP
  intro H locs hP hS
  refine lv_aload_n hx hb dX11_felt_0 rfl (lv_at hl 0 rfl) ?_
  refine va_get (D := D) (ci := 11) (v := .ref (a0 0)) (C := RX11) (T := TX11) (N := 38) hx hb hts hinX11 hown hK hP 0 rfl rfl 0 (by decide) (hts (.fieldLink RX11 7 "KneeBenchModel" "at" "[I") (List.mem_of_getElem? (i := 1) rfl)) (fun _ h9 => h9) rfl dX11_felt_1 ?_
  refine lv_iload_n hx hb dX11_felt_4 rfl (lv_at hl 1 rfl) ?_
  refine lv_iload_n hx hb dX11_felt_5 rfl (lv_at hl 2 rfl) ?_
  refine ca_i (w' := [WX11 cy h0 a0 s0]) (rn_S (As := [.int p1, .int p2]) (rest := [.ref (a0 0)]) ⟨hx, hb, hml, hown, hts⟩ (kX11_twingeRow l D cy p1 p2 _ rfl H.size) (va_cwS 2 hts gX11_felt_X11_twingeRow rfl rfl rfl (by decide +kernel) ⟨Nat.le_of_ble_eq_true rfl, Nat.le_of_ble_eq_true rfl⟩) hK hN hP hD [] rfl rfl rfl hl.1 rfl (Nat.le_of_ble_eq_true rfl) dX11_felt_6 ⟨Nat.le_refl 0, Nat.le_refl 0⟩) hP hD hS hA [] ⟨rfl, rfl, rfl, rfl⟩ (fun H locs hP hD hS => ?_)
  obtain ⟨g1, h⟩ := gd_elim h
  refine va_iald hx hb hK hP 1 1 rfl rfl (inb_in g1) dX11_felt_9 ?_
  refine lv_iconst (v := 1) hx hb dX11_felt_10 (by decide) ?_
  refine lv_icmp_ne (tgt := 18) hx hb dX11_felt_11 (by decide) (fun c2 => ?_) (fun c2 => ?_)
  · replace h := (if_neg c2).symm.trans h
    refine lv_iconst (v := 0) hx hb dX11_felt_18 (by decide) ?_
    exact hret 19 H locs ls (0 : Int32) (Option.some.inj h) hP hD hS (show isb (0 : Int32) = true by decide) dX11_felt_19
  · replace h := (if_pos c2).symm.trans h
    refine lv_iconst (v := 1) hx hb dX11_felt_14 (by decide) ?_
    refine lv_goto (tgt := 19) hx hb dX11_felt_15 (by decide) ?_
    exact hret 19 H locs ls (1 : Int32) (Option.some.inj h) hP hD hS (show isb (1 : Int32) = true by decide) dX11_felt_19
theorem gd_X11_alikeOf : wsX11_alikeOf.all goodWord = true := by decide +kernel
set_option maxRecDepth 20000 in
theorem ggX11_alikeOf_X11_felt : GoodIn wsX11_alikeOf wsX11_felt := goodIn_by gd_X11_alikeOf (List.forall_mem_cons.mpr ⟨List.mem_cons_of_mem _ (List.mem_append_left _ (List.mem_of_getElem? (i := 5) rfl)), List.forall_mem_append.mpr ⟨List.forall_mem_cons.mpr ⟨List.mem_cons_of_mem _ (List.mem_append_left _ (List.mem_of_getElem? (i := 0) rfl)), List.forall_mem_cons.mpr ⟨List.mem_cons_of_mem _ (List.mem_append_left _ (List.mem_of_getElem? (i := 6) rfl)), List.forall_mem_cons.mpr ⟨List.mem_cons_of_mem _ (List.mem_append_left _ (List.mem_of_getElem? (i := 7) rfl)), List.forall_mem_cons.mpr ⟨List.mem_cons_of_mem _ (List.mem_append_left _ (List.mem_of_getElem? (i := 4) rfl)), List.forall_mem_cons.mpr ⟨List.mem_cons_of_mem _ (List.mem_append_left _ (List.mem_of_getElem? (i := 8) rfl)), nowords_in⟩⟩⟩⟩⟩, (fun _ h => List.mem_cons_of_mem _ (List.mem_append_right _ (h)))⟩⟩)
set_option maxRecDepth 20000 in
theorem gX11_alikeOf_X11_felt : GoodIn wsX11_alikeOf (wsV RX11 313 RX11 yX11_felt wsX11_felt) := goodIn_app (goodIn_by gd_X11_alikeOf (List.forall_mem_cons.mpr ⟨List.mem_cons_of_mem _ (List.mem_append_left _ (List.mem_of_getElem? (i := 1) rfl)), List.forall_mem_cons.mpr ⟨List.mem_cons_of_mem _ (List.mem_append_left _ (List.mem_of_getElem? (i := 2) rfl)), List.forall_mem_cons.mpr ⟨List.mem_cons_of_mem _ (List.mem_append_left _ (List.mem_of_getElem? (i := 3) rfl)), List.forall_mem_cons.mpr ⟨List.mem_cons_of_mem _ (List.mem_append_left _ (List.mem_of_getElem? (i := 4) rfl)), nowords_in⟩⟩⟩⟩)) ggX11_alikeOf_X11_felt
theorem dX11_alikeOf_0 : decode cX11_alikeOf 0 = .ok (.iconst 0, 1) := by decide +kernel
theorem dX11_alikeOf_1 : decode cX11_alikeOf 1 = .ok (.istore_n 3, 1) := by decide +kernel
theorem dX11_alikeOf_2 : decode cX11_alikeOf 2 = .ok (.iconst 0, 1) := by decide +kernel
theorem dX11_alikeOf_3 : decode cX11_alikeOf 3 = .ok (.istore 4, 2) := by decide +kernel
theorem dX11_alikeOf_5 : decode cX11_alikeOf 5 = .ok (.iload 4, 2) := by decide +kernel
theorem dX11_alikeOf_7 : decode cX11_alikeOf 7 = .ok (.aload_n 0, 1) := by decide +kernel
theorem dX11_alikeOf_8 : decode cX11_alikeOf 8 = .ok (.getfield 7, 3) := by decide +kernel
theorem dX11_alikeOf_11 : decode cX11_alikeOf 11 = .ok (.iconst 1, 1) := by decide +kernel
theorem dX11_alikeOf_12 : decode cX11_alikeOf 12 = .ok (.iaload, 1) := by decide +kernel
theorem dX11_alikeOf_13 : decode cX11_alikeOf 13 = .ok (.if_icmp .ge 37, 3) := by decide +kernel
theorem dX11_alikeOf_16 : decode cX11_alikeOf 16 = .ok (.iload_n 3, 1) := by decide +kernel
theorem dX11_alikeOf_17 : decode cX11_alikeOf 17 = .ok (.aload_n 0, 1) := by decide +kernel
theorem dX11_alikeOf_18 : decode cX11_alikeOf 18 = .ok (.iload_n 1, 1) := by decide +kernel
theorem dX11_alikeOf_19 : decode cX11_alikeOf 19 = .ok (.iload 4, 2) := by decide +kernel
theorem dX11_alikeOf_21 : decode cX11_alikeOf 21 = .ok (.invokevirtual 313, 3) := by decide +kernel
theorem dX11_alikeOf_24 : decode cX11_alikeOf 24 = .ok (.ifCond .eq 17, 3) := by decide +kernel
theorem dX11_alikeOf_27 : decode cX11_alikeOf 27 = .ok (.aload_n 0, 1) := by decide +kernel
theorem dX11_alikeOf_28 : decode cX11_alikeOf 28 = .ok (.iload_n 2, 1) := by decide +kernel
theorem dX11_alikeOf_29 : decode cX11_alikeOf 29 = .ok (.iload 4, 2) := by decide +kernel
theorem dX11_alikeOf_31 : decode cX11_alikeOf 31 = .ok (.invokevirtual 313, 3) := by decide +kernel
theorem dX11_alikeOf_34 : decode cX11_alikeOf 34 = .ok (.ifCond .eq 7, 3) := by decide +kernel
theorem dX11_alikeOf_37 : decode cX11_alikeOf 37 = .ok (.iconst 1, 1) := by decide +kernel
theorem dX11_alikeOf_38 : decode cX11_alikeOf 38 = .ok (.goto 4, 3) := by decide +kernel
theorem dX11_alikeOf_41 : decode cX11_alikeOf 41 = .ok (.iconst 0, 1) := by decide +kernel
theorem dX11_alikeOf_42 : decode cX11_alikeOf 42 = .ok (.iadd, 1) := by decide +kernel
theorem dX11_alikeOf_43 : decode cX11_alikeOf 43 = .ok (.istore_n 3, 1) := by decide +kernel
theorem dX11_alikeOf_44 : decode cX11_alikeOf 44 = .ok (.iinc 4 1, 3) := by decide +kernel
theorem dX11_alikeOf_47 : decode cX11_alikeOf 47 = .ok (.goto (-42), 3) := by decide +kernel
theorem dX11_alikeOf_50 : decode cX11_alikeOf 50 = .ok (.iload_n 3, 1) := by decide +kernel
theorem dX11_alikeOf_51 : decode cX11_alikeOf 51 = .ok (.ireturn, 1) := by decide +kernel
abbrev rmX11_alikeOf : Room := { frames := 2, cells := 0, slots := 0, locals := 43 }
set_option maxHeartbeats 4000000 in
set_option maxRecDepth 100000 in
theorem kX11_alikeOf (l : Launch) (D : va_G) (cy : Nat → ClassId) (h0 : Nat) (a0 : Nat → Nat) (s0 : Rc) (p1 : Int32) (p2 : Int32) (res : Int32) (h : fX11_alikeOf p1 p2 s0 = some res) : CI l D cy yX11_alikeOf wsX11_alikeOf rmX11_alikeOf [.ref h0, .int p1, .int p2] (flat [WX11 cy h0 a0 s0]) (flat [WX11 cy h0 a0 s0]) res := by
  refine CI.of (cc := cX11_alikeOf) (maxL := 5) (by decide) rfl (Nat.le_of_ble_eq_true rfl) ?_
  intro p e s m args below meth c A QQ ls E hr
  obtain ⟨hx, hb, hml, hown, hts, hK, hN, hP, hD, hA, hl⟩ := E
  have hret : ∀ (pc : Nat) (H : Heap) (locs : List Loc) (ls : Array Slot) (u : Int32), u = res → va_P D vwCl (flat [WX11 cy h0 a0 s0]) H → va_D A (flat [WX11 cy h0 a0 s0]) → va_S A s.heap H locs → decode cX11_alikeOf pc = .ok (.ireturn, 1) → W p l e rmX11_alikeOf s m args below meth c H locs 0 0 QQ (F0 m pc ls [.int u]) := by
    intro pc H locs ls u hu hP hD hS hd; subst hu; exact hr pc H locs ls _ rfl hP hD hS hd
  clear hr
  have hl : lv_has ls 5 [(0, .ref h0), (1, .int p1), (2, .int p2)] := hl
  have hinX11 : ∀ w ∈ wsX110, w ∈ wsX11_alikeOf := fun _ h => List.mem_cons_of_mem _ (List.mem_append_right _ h)
  unfold fX11_alikeOf at h
  suffices key : ∀ (H : Heap) (locs : List Loc), va_P D vwCl (flat [WX11 cy h0 a0 s0]) H → va_S A s.heap H locs → W p l e rmX11_alikeOf s m args below meth c H locs 0 0 QQ (F0 m 0 ls []) from key _ _ hP va_S.rf
  clear hP
  intro H locs hP hS
  refine lv_iconst (v := 0) hx hb dX11_alikeOf_0 (by decide) ?_
  refine lv_istore_n (lv' := [(3, .int (0 : Int32)), (0, .ref h0), (1, .int p1), (2, .int p2)]) hx hb dX11_alikeOf_1 rfl hl (by decide) rfl (fun ls hl => ?_)
  refine lv_iconst (v := 0) hx hb dX11_alikeOf_2 (by decide) ?_
  refine lv_istore (lv' := [(4, .int (0 : Int32)), (3, .int (0 : Int32)), (0, .ref h0), (1, .int p1), (2, .int p2)]) hx hb dX11_alikeOf_3 hl (by decide) rfl (fun ls hl => ?_)
  have L5 : ∀ (n : Nat) (q5 : Int32 × Int32) (o : Int32), loopO (fX11_alikeOf_L5 p1 p2 s0) n q5 = some o → ∀ (H : Heap) (locs : List Loc) (ls : Array Slot), lv_has ls 5 [(0, .ref h0), (1, .int p1), (2, .int p2), (3, .int q5.1), (4, .int q5.2)] → va_P D vwCl (flat [WX11 cy h0 a0 s0]) H → va_D A (flat [WX11 cy h0 a0 s0]) → va_S A s.heap H locs → ∀ (kk50 : ∀ (H : Heap) (locs : List Loc) (ls : Array Slot), lv_has ls 5 [(3, .int o)] → va_P D vwCl (flat [WX11 cy h0 a0 s0]) H → va_D A (flat [WX11 cy h0 a0 s0]) → va_S A s.heap H locs → W p l e rmX11_alikeOf s m args below meth c H locs 0 0 QQ (F0 m 50 ls [])), W p l e rmX11_alikeOf s m args below meth c H locs 0 0 QQ (F0 m 5 ls []) := by
    intro n
    induction n with
    | zero => intro q5 o h; exact absurd h (by rw [loopO_zero]; intro z; cases z)
    | succ n ih =>
      intro q5 o h H locs ls hl hP hD hS kk50
      obtain ⟨w, h, hgo, hst⟩ := loopO_elim h
      unfold fX11_alikeOf_L5 at h
      refine lv_iload hx hb dX11_alikeOf_5 (lv_at hl 4 rfl) ?_
      refine lv_aload_n hx hb dX11_alikeOf_7 rfl (lv_at hl 0 rfl) ?_
      refine va_get (D := D) (ci := 11) (v := .ref (a0 0)) (C := RX11) (T := TX11) (N := 38) hx hb hts hinX11 hown hK hP 0 rfl rfl 0 (by decide) (hts (.fieldLink RX11 7 "KneeBenchModel" "at" "[I") (List.mem_of_getElem? (i := 1) rfl)) (fun _ h9 => h9) rfl dX11_alikeOf_8 ?_
      refine lv_iconst (v := 1) hx hb dX11_alikeOf_11 (by decide) ?_
      refine va_iald hx hb hK hP 1 1 rfl rfl (inb_in (by decide)) dX11_alikeOf_12 ?_
      refine lv_icmp_ge (tgt := 50) hx hb dX11_alikeOf_13 (by decide) (fun c1 => ?_) (fun c1 => ?_)
      · replace h := (if_pos c1).symm.trans h
        have eo := hst _ (Option.some.inj h).symm
        subst eo
        exact kk50 H locs ls (lv_sub hl [3] rfl) hP hD hS
      · replace h := (if_neg c1).symm.trans h
        refine lv_iload_n hx hb dX11_alikeOf_16 rfl (lv_at hl 3 rfl) ?_
        refine lv_aload_n hx hb dX11_alikeOf_17 rfl (lv_at hl 0 rfl) ?_
        refine lv_iload_n hx hb dX11_alikeOf_18 rfl (lv_at hl 1 rfl) ?_
        refine lv_iload hx hb dX11_alikeOf_19 (lv_at hl 4 rfl) ?_
        obtain ⟨r2, hr2, h⟩ := bd_elim h
        refine ca_z (w' := [WX11 cy h0 a0 s0]) (rn_V (As := [.int p1, .int q5.2]) (rest := [.int q5.1]) ⟨hx, hb, hml, hown, hts⟩ (kX11_felt l D cy h0 a0 s0 p1 q5.2 r2 hr2 H.size) (cwV 2 hts gX11_alikeOf_X11_felt rfl rfl rfl (by decide +kernel) ⟨Nat.le_of_ble_eq_true rfl, Nat.le_of_ble_eq_true rfl⟩) hK hN hP hD [0] rfl rfl (ci := 11) (q0 := 0) rfl rfl rfl rfl hl.1 rfl (Nat.le_of_ble_eq_true rfl) dX11_alikeOf_21 ⟨Nat.le_refl 0, Nat.le_refl 0⟩) hP hD hS hA [0] ⟨rfl, rfl, rfl, rfl⟩ (fun b3 H locs hP hD hS => ?_)
        refine lv_if_eq (tgt := 41) hx hb dX11_alikeOf_24 (by decide) (fun c4 => ?_) (fun c4 => ?_)
        · replace h := (if_pos c4).symm.trans h
          refine lv_iconst (v := 0) hx hb dX11_alikeOf_41 (by decide) ?_
          refine lv_iadd hx hb dX11_alikeOf_42 ?_
          refine lv_topi (fun x5 ex5 => ?_)
          replace h := lt_use h x5 ex5
          refine lv_istore_n (lv' := [(3, .int x5), (0, .ref h0), (1, .int p1), (2, .int p2), (4, .int q5.2)]) hx hb dX11_alikeOf_43 rfl hl (by decide) rfl (fun ls hl => ?_)
          refine lv_iinc (v := (q5.2 + (1 : Int32))) (lv' := [(4, .int (q5.2 + (1 : Int32))), (3, .int x5), (0, .ref h0), (1, .int p1), (2, .int p2)]) hx hb dX11_alikeOf_44 hl (k := 4) rfl rfl (by decide) rfl (fun ls hl => ?_)
          refine lv_goto (tgt := 5) hx hb dX11_alikeOf_47 (by decide) ?_
          exact ih _ o (hgo _ (Option.some.inj h).symm) H locs ls (lv_sub hl [2, 3, 4, 1, 0] rfl) hP hD hS kk50
        · replace h := (if_neg c4).symm.trans h
          refine lv_aload_n hx hb dX11_alikeOf_27 rfl (lv_at hl 0 rfl) ?_
          refine lv_iload_n hx hb dX11_alikeOf_28 rfl (lv_at hl 2 rfl) ?_
          refine lv_iload hx hb dX11_alikeOf_29 (lv_at hl 4 rfl) ?_
          obtain ⟨r6, hr6, h⟩ := bd_elim h
          refine ca_z (w' := [WX11 cy h0 a0 s0]) (rn_V (As := [.int p2, .int q5.2]) (rest := [.int q5.1]) ⟨hx, hb, hml, hown, hts⟩ (kX11_felt l D cy h0 a0 s0 p2 q5.2 r6 hr6 H.size) (cwV 2 hts gX11_alikeOf_X11_felt rfl rfl rfl (by decide +kernel) ⟨Nat.le_of_ble_eq_true rfl, Nat.le_of_ble_eq_true rfl⟩) hK hN hP hD [0] rfl rfl (ci := 11) (q0 := 0) rfl rfl rfl rfl hl.1 rfl (Nat.le_of_ble_eq_true rfl) dX11_alikeOf_31 ⟨Nat.le_refl 0, Nat.le_refl 0⟩) hP hD hS hA [0] ⟨rfl, rfl, rfl, rfl⟩ (fun b7 H locs hP hD hS => ?_)
          refine lv_if_eq (tgt := 41) hx hb dX11_alikeOf_34 (by decide) (fun c8 => ?_) (fun c8 => ?_)
          · replace h := (if_pos c8).symm.trans h
            refine lv_iconst (v := 0) hx hb dX11_alikeOf_41 (by decide) ?_
            refine lv_iadd hx hb dX11_alikeOf_42 ?_
            refine lv_topi (fun x9 ex9 => ?_)
            replace h := lt_use h x9 ex9
            refine lv_istore_n (lv' := [(3, .int x9), (0, .ref h0), (1, .int p1), (2, .int p2), (4, .int q5.2)]) hx hb dX11_alikeOf_43 rfl hl (by decide) rfl (fun ls hl => ?_)
            refine lv_iinc (v := (q5.2 + (1 : Int32))) (lv' := [(4, .int (q5.2 + (1 : Int32))), (3, .int x9), (0, .ref h0), (1, .int p1), (2, .int p2)]) hx hb dX11_alikeOf_44 hl (k := 4) rfl rfl (by decide) rfl (fun ls hl => ?_)
            refine lv_goto (tgt := 5) hx hb dX11_alikeOf_47 (by decide) ?_
            exact ih _ o (hgo _ (Option.some.inj h).symm) H locs ls (lv_sub hl [2, 3, 4, 1, 0] rfl) hP hD hS kk50
          · replace h := (if_neg c8).symm.trans h
            refine lv_iconst (v := 1) hx hb dX11_alikeOf_37 (by decide) ?_
            refine lv_goto (tgt := 42) hx hb dX11_alikeOf_38 (by decide) ?_
            refine lv_iadd hx hb dX11_alikeOf_42 ?_
            refine lv_topi (fun x10 ex10 => ?_)
            replace h := lt_use h x10 ex10
            refine lv_istore_n (lv' := [(3, .int x10), (0, .ref h0), (1, .int p1), (2, .int p2), (4, .int q5.2)]) hx hb dX11_alikeOf_43 rfl hl (by decide) rfl (fun ls hl => ?_)
            refine lv_iinc (v := (q5.2 + (1 : Int32))) (lv' := [(4, .int (q5.2 + (1 : Int32))), (3, .int x10), (0, .ref h0), (1, .int p1), (2, .int p2)]) hx hb dX11_alikeOf_44 hl (k := 4) rfl rfl (by decide) rfl (fun ls hl => ?_)
            refine lv_goto (tgt := 5) hx hb dX11_alikeOf_47 (by decide) ?_
            exact ih _ o (hgo _ (Option.some.inj h).symm) H locs ls (lv_sub hl [2, 3, 4, 1, 0] rfl) hP hD hS kk50
  obtain ⟨o5, ho5, h⟩ := bd_elim h
  obtain ⟨n5, hn5⟩ := loopF_some ho5
  refine L5 n5 _ o5 hn5 H locs ls (lv_sub hl [2, 3, 4, 1, 0] rfl) hP hD hS (fun H locs ls hl hP hD hS => ?_)
  refine lv_iload_n hx hb dX11_alikeOf_50 rfl (lv_at hl 0 rfl) ?_
  exact hret 51 H locs ls o5 (Option.some.inj h) hP hD hS dX11_alikeOf_51
theorem gd_X11_alike : wsX11_alike.all goodWord = true := by decide +kernel
set_option maxRecDepth 20000 in
theorem ggX11_alike_X11_isFarmer : GoodIn wsX11_alike wsX11_isFarmer := goodIn_by gd_X11_alike (List.forall_mem_cons.mpr ⟨List.mem_cons_of_mem _ (List.mem_append_left _ (List.mem_append_left _ (List.mem_of_getElem? (i := 4) rfl))), List.forall_mem_append.mpr ⟨List.forall_mem_cons.mpr ⟨List.mem_cons_of_mem _ (List.mem_append_left _ (List.mem_append_left _ (List.mem_of_getElem? (i := 5) rfl))), nowords_in⟩, (fun _ h => List.mem_cons_of_mem _ (List.mem_append_right _ (h)))⟩⟩)
set_option maxRecDepth 20000 in
theorem gX11_alike_X11_isFarmer : GoodIn wsX11_alike (wsV RX11 267 RX11 yX11_isFarmer wsX11_isFarmer) := goodIn_app (goodIn_by gd_X11_alike (List.forall_mem_cons.mpr ⟨List.mem_cons_of_mem _ (List.mem_append_left _ (List.mem_append_left _ (List.mem_of_getElem? (i := 0) rfl))), List.forall_mem_cons.mpr ⟨List.mem_cons_of_mem _ (List.mem_append_left _ (List.mem_append_left _ (List.mem_of_getElem? (i := 1) rfl))), List.forall_mem_cons.mpr ⟨List.mem_cons_of_mem _ (List.mem_append_left _ (List.mem_append_left _ (List.mem_of_getElem? (i := 2) rfl))), List.forall_mem_cons.mpr ⟨List.mem_cons_of_mem _ (List.mem_append_left _ (List.mem_append_left _ (List.mem_of_getElem? (i := 3) rfl))), nowords_in⟩⟩⟩⟩)) ggX11_alike_X11_isFarmer
set_option maxRecDepth 20000 in
theorem ggX11_alike_X11_alikeOf : GoodIn wsX11_alike wsX11_alikeOf := goodIn_by gd_X11_alike (List.forall_mem_cons.mpr ⟨List.mem_cons_of_mem _ (List.mem_append_left _ (List.mem_append_left _ (List.mem_of_getElem? (i := 9) rfl))), List.forall_mem_append.mpr ⟨List.forall_mem_cons.mpr ⟨List.mem_cons_of_mem _ (List.mem_append_left _ (List.mem_append_left _ (List.mem_of_getElem? (i := 5) rfl))), List.forall_mem_cons.mpr ⟨List.mem_cons_of_mem _ (List.mem_append_left _ (List.mem_append_left _ (List.mem_of_getElem? (i := 10) rfl))), List.forall_mem_cons.mpr ⟨List.mem_cons_of_mem _ (List.mem_append_left _ (List.mem_append_left _ (List.mem_of_getElem? (i := 11) rfl))), List.forall_mem_cons.mpr ⟨List.mem_cons_of_mem _ (List.mem_append_left _ (List.mem_append_left _ (List.mem_of_getElem? (i := 12) rfl))), List.forall_mem_cons.mpr ⟨List.mem_cons_of_mem _ (List.mem_append_left _ (List.mem_append_left _ (List.mem_of_getElem? (i := 3) rfl))), List.forall_mem_cons.mpr ⟨List.mem_cons_of_mem _ (List.mem_append_left _ (List.mem_append_left _ (List.mem_of_getElem? (i := 13) rfl))), List.forall_mem_cons.mpr ⟨List.mem_cons_of_mem _ (List.mem_append_left _ (List.mem_append_left _ (List.mem_of_getElem? (i := 14) rfl))), List.forall_mem_cons.mpr ⟨List.mem_cons_of_mem _ (List.mem_append_left _ (List.mem_append_left _ (List.mem_of_getElem? (i := 15) rfl))), List.forall_mem_cons.mpr ⟨List.mem_cons_of_mem _ (List.mem_append_left _ (List.mem_append_left _ (List.mem_of_getElem? (i := 16) rfl))), nowords_in⟩⟩⟩⟩⟩⟩⟩⟩⟩, (fun _ h => List.mem_cons_of_mem _ (List.mem_append_right _ (h)))⟩⟩)
set_option maxRecDepth 20000 in
theorem gX11_alike_X11_alikeOf : GoodIn wsX11_alike (wsV RX11 392 RX11 yX11_alikeOf wsX11_alikeOf) := goodIn_app (goodIn_by gd_X11_alike (List.forall_mem_cons.mpr ⟨List.mem_cons_of_mem _ (List.mem_append_left _ (List.mem_append_left _ (List.mem_of_getElem? (i := 6) rfl))), List.forall_mem_cons.mpr ⟨List.mem_cons_of_mem _ (List.mem_append_left _ (List.mem_append_left _ (List.mem_of_getElem? (i := 7) rfl))), List.forall_mem_cons.mpr ⟨List.mem_cons_of_mem _ (List.mem_append_left _ (List.mem_append_left _ (List.mem_of_getElem? (i := 8) rfl))), List.forall_mem_cons.mpr ⟨List.mem_cons_of_mem _ (List.mem_append_left _ (List.mem_append_left _ (List.mem_of_getElem? (i := 3) rfl))), nowords_in⟩⟩⟩⟩)) ggX11_alike_X11_alikeOf
set_option maxRecDepth 20000 in
theorem ggX11_alike_X11_gives : GoodIn wsX11_alike wsX11_gives := goodIn_by gd_X11_alike (List.forall_mem_cons.mpr ⟨List.mem_cons_of_mem _ (List.mem_append_left _ (List.mem_append_left _ (List.mem_of_getElem? (i := 20) rfl))), List.forall_mem_append.mpr ⟨List.forall_mem_cons.mpr ⟨List.mem_cons_of_mem _ (List.mem_append_left _ (List.mem_append_left _ (List.mem_of_getElem? (i := 21) rfl))), nowords_in⟩, (fun _ h => List.mem_cons_of_mem _ (List.mem_append_right _ (h)))⟩⟩)
set_option maxRecDepth 20000 in
theorem gX11_alike_X11_gives : GoodIn wsX11_alike (wsV RX11 79 RX11 yX11_gives wsX11_gives) := goodIn_app (goodIn_by gd_X11_alike (List.forall_mem_cons.mpr ⟨List.mem_cons_of_mem _ (List.mem_append_left _ (List.mem_append_left _ (List.mem_of_getElem? (i := 17) rfl))), List.forall_mem_cons.mpr ⟨List.mem_cons_of_mem _ (List.mem_append_left _ (List.mem_append_left _ (List.mem_of_getElem? (i := 18) rfl))), List.forall_mem_cons.mpr ⟨List.mem_cons_of_mem _ (List.mem_append_left _ (List.mem_append_left _ (List.mem_of_getElem? (i := 19) rfl))), List.forall_mem_cons.mpr ⟨List.mem_cons_of_mem _ (List.mem_append_left _ (List.mem_append_left _ (List.mem_of_getElem? (i := 3) rfl))), nowords_in⟩⟩⟩⟩)) ggX11_alike_X11_gives
set_option maxRecDepth 20000 in
theorem ggX11_alike_X11_refuse : GoodIn wsX11_alike wsX11_refuse := goodIn_by gd_X11_alike (List.forall_mem_cons.mpr ⟨List.mem_cons_of_mem _ (List.mem_append_left _ (List.mem_append_right _ (List.mem_of_getElem? (i := 1) rfl))), List.forall_mem_append.mpr ⟨List.forall_mem_cons.mpr ⟨List.mem_cons_of_mem _ (List.mem_append_left _ (List.mem_append_left _ (List.mem_of_getElem? (i := 21) rfl))), nowords_in⟩, (fun _ h => List.mem_cons_of_mem _ (List.mem_append_right _ (h)))⟩⟩)
set_option maxRecDepth 20000 in
theorem gX11_alike_X11_refuse : GoodIn wsX11_alike (wsV RX11 75 RX11 yX11_refuse wsX11_refuse) := goodIn_app (goodIn_by gd_X11_alike (List.forall_mem_cons.mpr ⟨List.mem_cons_of_mem _ (List.mem_append_left _ (List.mem_append_left _ (List.mem_of_getElem? (i := 22) rfl))), List.forall_mem_cons.mpr ⟨List.mem_cons_of_mem _ (List.mem_append_left _ (List.mem_append_left _ (List.mem_of_getElem? (i := 23) rfl))), List.forall_mem_cons.mpr ⟨List.mem_cons_of_mem _ (List.mem_append_left _ (List.mem_append_right _ (List.mem_of_getElem? (i := 0) rfl))), List.forall_mem_cons.mpr ⟨List.mem_cons_of_mem _ (List.mem_append_left _ (List.mem_append_left _ (List.mem_of_getElem? (i := 3) rfl))), nowords_in⟩⟩⟩⟩)) ggX11_alike_X11_refuse
theorem dX11_alike_0 : decode cX11_alike 0 = .ok (.aload_n 0, 1) := by decide +kernel
theorem dX11_alike_1 : decode cX11_alike 1 = .ok (.iload_n 1, 1) := by decide +kernel
theorem dX11_alike_2 : decode cX11_alike 2 = .ok (.invokevirtual 267, 3) := by decide +kernel
theorem dX11_alike_5 : decode cX11_alike 5 = .ok (.ifCond .eq 29, 3) := by decide +kernel
theorem dX11_alike_8 : decode cX11_alike 8 = .ok (.aload_n 0, 1) := by decide +kernel
theorem dX11_alike_9 : decode cX11_alike 9 = .ok (.iload_n 2, 1) := by decide +kernel
theorem dX11_alike_10 : decode cX11_alike 10 = .ok (.invokevirtual 267, 3) := by decide +kernel
theorem dX11_alike_13 : decode cX11_alike 13 = .ok (.ifCond .eq 21, 3) := by decide +kernel
theorem dX11_alike_16 : decode cX11_alike 16 = .ok (.iload_n 1, 1) := by decide +kernel
theorem dX11_alike_17 : decode cX11_alike 17 = .ok (.iload_n 2, 1) := by decide +kernel
theorem dX11_alike_18 : decode cX11_alike 18 = .ok (.if_icmp .eq 16, 3) := by decide +kernel
theorem dX11_alike_21 : decode cX11_alike 21 = .ok (.aload_n 0, 1) := by decide +kernel
theorem dX11_alike_22 : decode cX11_alike 22 = .ok (.aload_n 0, 1) := by decide +kernel
theorem dX11_alike_23 : decode cX11_alike 23 = .ok (.iload_n 1, 1) := by decide +kernel
theorem dX11_alike_24 : decode cX11_alike 24 = .ok (.iload_n 2, 1) := by decide +kernel
theorem dX11_alike_25 : decode cX11_alike 25 = .ok (.invokevirtual 392, 3) := by decide +kernel
theorem dX11_alike_28 : decode cX11_alike 28 = .ok (.invokevirtual 79, 3) := by decide +kernel
theorem dX11_alike_31 : decode cX11_alike 31 = .ok (.goto 8, 3) := by decide +kernel
theorem dX11_alike_34 : decode cX11_alike 34 = .ok (.aload_n 0, 1) := by decide +kernel
theorem dX11_alike_35 : decode cX11_alike 35 = .ok (.iconst 1, 1) := by decide +kernel
theorem dX11_alike_36 : decode cX11_alike 36 = .ok (.invokevirtual 75, 3) := by decide +kernel
theorem dX11_alike_39 : decode cX11_alike 39 = .ok (.ireturn, 1) := by decide +kernel
abbrev rmX11_alike : Room := { frames := 3, cells := 0, slots := 0, locals := 67 }
set_option maxHeartbeats 4000000 in
set_option maxRecDepth 100000 in
theorem kX11_alike (l : Launch) (D : va_G) (cy : Nat → ClassId) (h0 : Nat) (a0 : Nat → Nat) (s0 : Rc) (p1 : Int32) (p2 : Int32) (res : Int32 × Rc) (h : fX11_alike p1 p2 s0 = some res) : CI l D cy yX11_alike wsX11_alike rmX11_alike [.ref h0, .int p1, .int p2] (flat [WX11 cy h0 a0 s0]) (flat [WX11 cy h0 a0 res.2]) res.1 := by
  refine CI.of (cc := cX11_alike) (maxL := 3) (by decide) rfl (Nat.le_of_ble_eq_true rfl) ?_
  intro p e s m args below meth c A QQ ls E hr
  obtain ⟨hx, hb, hml, hown, hts, hK, hN, hP, hD, hA, hl⟩ := E
  have hret : ∀ (pc : Nat) (H : Heap) (locs : List Loc) (ls : Array Slot) (u : Int32 × Rc), u = res → va_P D vwCl (flat [WX11 cy h0 a0 u.2]) H → va_D A (flat [WX11 cy h0 a0 u.2]) → va_S A s.heap H locs → decode cX11_alike pc = .ok (.ireturn, 1) → W p l e rmX11_alike s m args below meth c H locs 0 0 QQ (F0 m pc ls [.int u.1]) := by
    intro pc H locs ls u hu hP hD hS hd; subst hu; exact hr pc H locs ls _ rfl hP hD hS hd
  clear hr
  have hl : lv_has ls 3 [(0, .ref h0), (1, .int p1), (2, .int p2)] := hl
  unfold fX11_alike at h
  suffices key : ∀ (H : Heap) (locs : List Loc), va_P D vwCl (flat [WX11 cy h0 a0 s0]) H → va_S A s.heap H locs → W p l e rmX11_alike s m args below meth c H locs 0 0 QQ (F0 m 0 ls []) from key _ _ hP va_S.rf
  clear hP
  intro H locs hP hS
  refine lv_aload_n hx hb dX11_alike_0 rfl (lv_at hl 0 rfl) ?_
  refine lv_iload_n hx hb dX11_alike_1 rfl (lv_at hl 1 rfl) ?_
  refine ca_z (w' := [WX11 cy h0 a0 s0]) (rn_V (As := [.int p1]) (rest := []) ⟨hx, hb, hml, hown, hts⟩ (kX11_isFarmer l D cy h0 a0 s0 p1 _ rfl H.size) (cwV 1 hts gX11_alike_X11_isFarmer rfl rfl rfl (by decide +kernel) ⟨Nat.le_of_ble_eq_true rfl, Nat.le_of_ble_eq_true rfl⟩) hK hN hP hD [0] rfl rfl (ci := 11) (q0 := 0) rfl rfl rfl rfl hl.1 rfl (Nat.le_of_ble_eq_true rfl) dX11_alike_2 ⟨Nat.le_refl 0, Nat.le_refl 0⟩) hP hD hS hA [0] ⟨rfl, rfl, rfl, rfl⟩ (fun b1 H locs hP hD hS => ?_)
  refine lv_if_eq (tgt := 34) hx hb dX11_alike_5 (by decide) (fun c2 => ?_) (fun c2 => ?_)
  · replace h := (if_pos c2).symm.trans h
    refine lv_aload_n hx hb dX11_alike_34 rfl (lv_at hl 0 rfl) ?_
    refine lv_iconst (v := 1) hx hb dX11_alike_35 (by decide) ?_
    obtain ⟨r3, hr3, h⟩ := lt_elim h
    refine ca_i (w' := [WX11 cy h0 a0 r3.2]) (rn_V (As := [.int (1 : Int32)]) (rest := []) ⟨hx, hb, hml, hown, hts⟩ (kX11_refuse l D cy h0 a0 s0 (1 : Int32) r3 hr3.symm H.size) (cwV 1 hts gX11_alike_X11_refuse rfl rfl rfl (by decide +kernel) ⟨Nat.le_of_ble_eq_true rfl, Nat.le_of_ble_eq_true rfl⟩) hK hN hP hD [0] rfl rfl (ci := 11) (q0 := 0) rfl rfl rfl rfl hl.1 rfl (Nat.le_of_ble_eq_true rfl) dX11_alike_36 ⟨Nat.le_refl 0, Nat.le_refl 0⟩) hP hD hS hA [0] ⟨rfl, rfl, rfl, rfl⟩ (fun H locs hP hD hS => ?_)
    exact hret 39 H locs ls (r3.1, r3.2) (Option.some.inj h) hP hD hS dX11_alike_39
  · replace h := (if_neg c2).symm.trans h
    refine lv_aload_n hx hb dX11_alike_8 rfl (lv_at hl 0 rfl) ?_
    refine lv_iload_n hx hb dX11_alike_9 rfl (lv_at hl 2 rfl) ?_
    refine ca_z (w' := [WX11 cy h0 a0 s0]) (rn_V (As := [.int p2]) (rest := []) ⟨hx, hb, hml, hown, hts⟩ (kX11_isFarmer l D cy h0 a0 s0 p2 _ rfl H.size) (cwV 1 hts gX11_alike_X11_isFarmer rfl rfl rfl (by decide +kernel) ⟨Nat.le_of_ble_eq_true rfl, Nat.le_of_ble_eq_true rfl⟩) hK hN hP hD [0] rfl rfl (ci := 11) (q0 := 0) rfl rfl rfl rfl hl.1 rfl (Nat.le_of_ble_eq_true rfl) dX11_alike_10 ⟨Nat.le_refl 0, Nat.le_refl 0⟩) hP hD hS hA [0] ⟨rfl, rfl, rfl, rfl⟩ (fun b4 H locs hP hD hS => ?_)
    refine lv_if_eq (tgt := 34) hx hb dX11_alike_13 (by decide) (fun c5 => ?_) (fun c5 => ?_)
    · replace h := (if_pos c5).symm.trans h
      refine lv_aload_n hx hb dX11_alike_34 rfl (lv_at hl 0 rfl) ?_
      refine lv_iconst (v := 1) hx hb dX11_alike_35 (by decide) ?_
      obtain ⟨r6, hr6, h⟩ := lt_elim h
      refine ca_i (w' := [WX11 cy h0 a0 r6.2]) (rn_V (As := [.int (1 : Int32)]) (rest := []) ⟨hx, hb, hml, hown, hts⟩ (kX11_refuse l D cy h0 a0 s0 (1 : Int32) r6 hr6.symm H.size) (cwV 1 hts gX11_alike_X11_refuse rfl rfl rfl (by decide +kernel) ⟨Nat.le_of_ble_eq_true rfl, Nat.le_of_ble_eq_true rfl⟩) hK hN hP hD [0] rfl rfl (ci := 11) (q0 := 0) rfl rfl rfl rfl hl.1 rfl (Nat.le_of_ble_eq_true rfl) dX11_alike_36 ⟨Nat.le_refl 0, Nat.le_refl 0⟩) hP hD hS hA [0] ⟨rfl, rfl, rfl, rfl⟩ (fun H locs hP hD hS => ?_)
      exact hret 39 H locs ls (r6.1, r6.2) (Option.some.inj h) hP hD hS dX11_alike_39
    · replace h := (if_neg c5).symm.trans h
      refine lv_iload_n hx hb dX11_alike_16 rfl (lv_at hl 1 rfl) ?_
      refine lv_iload_n hx hb dX11_alike_17 rfl (lv_at hl 2 rfl) ?_
      refine lv_icmp_eq (tgt := 34) hx hb dX11_alike_18 (by decide) (fun c7 => ?_) (fun c7 => ?_)
      · replace h := (if_pos c7).symm.trans h
        refine lv_aload_n hx hb dX11_alike_34 rfl (lv_at hl 0 rfl) ?_
        refine lv_iconst (v := 1) hx hb dX11_alike_35 (by decide) ?_
        obtain ⟨r8, hr8, h⟩ := lt_elim h
        refine ca_i (w' := [WX11 cy h0 a0 r8.2]) (rn_V (As := [.int (1 : Int32)]) (rest := []) ⟨hx, hb, hml, hown, hts⟩ (kX11_refuse l D cy h0 a0 s0 (1 : Int32) r8 hr8.symm H.size) (cwV 1 hts gX11_alike_X11_refuse rfl rfl rfl (by decide +kernel) ⟨Nat.le_of_ble_eq_true rfl, Nat.le_of_ble_eq_true rfl⟩) hK hN hP hD [0] rfl rfl (ci := 11) (q0 := 0) rfl rfl rfl rfl hl.1 rfl (Nat.le_of_ble_eq_true rfl) dX11_alike_36 ⟨Nat.le_refl 0, Nat.le_refl 0⟩) hP hD hS hA [0] ⟨rfl, rfl, rfl, rfl⟩ (fun H locs hP hD hS => ?_)
        exact hret 39 H locs ls (r8.1, r8.2) (Option.some.inj h) hP hD hS dX11_alike_39
      · replace h := (if_neg c7).symm.trans h
        refine lv_aload_n hx hb dX11_alike_21 rfl (lv_at hl 0 rfl) ?_
        refine lv_aload_n hx hb dX11_alike_22 rfl (lv_at hl 0 rfl) ?_
        refine lv_iload_n hx hb dX11_alike_23 rfl (lv_at hl 1 rfl) ?_
        refine lv_iload_n hx hb dX11_alike_24 rfl (lv_at hl 2 rfl) ?_
        obtain ⟨r9, hr9, h⟩ := bd_elim h
        refine ca_i (w' := [WX11 cy h0 a0 s0]) (rn_V (As := [.int p1, .int p2]) (rest := [.ref h0]) ⟨hx, hb, hml, hown, hts⟩ (kX11_alikeOf l D cy h0 a0 s0 p1 p2 r9 hr9 H.size) (cwV 2 hts gX11_alike_X11_alikeOf rfl rfl rfl (by decide +kernel) ⟨Nat.le_of_ble_eq_true rfl, Nat.le_of_ble_eq_true rfl⟩) hK hN hP hD [0] rfl rfl (ci := 11) (q0 := 0) rfl rfl rfl rfl hl.1 rfl (Nat.le_of_ble_eq_true rfl) dX11_alike_25 ⟨Nat.le_refl 0, Nat.le_refl 0⟩) hP hD hS hA [0] ⟨rfl, rfl, rfl, rfl⟩ (fun H locs hP hD hS => ?_)
        obtain ⟨r10, hr10, h⟩ := lt_elim h
        refine ca_i (w' := [WX11 cy h0 a0 r10.2]) (rn_V (As := [.int r9]) (rest := []) ⟨hx, hb, hml, hown, hts⟩ (kX11_gives l D cy h0 a0 s0 r9 r10 hr10.symm H.size) (cwV 1 hts gX11_alike_X11_gives rfl rfl rfl (by decide +kernel) ⟨Nat.le_of_ble_eq_true rfl, Nat.le_of_ble_eq_true rfl⟩) hK hN hP hD [0] rfl rfl (ci := 11) (q0 := 0) rfl rfl rfl rfl hl.1 rfl (Nat.le_of_ble_eq_true rfl) dX11_alike_28 ⟨Nat.le_refl 0, Nat.le_refl 0⟩) hP hD hS hA [0] ⟨rfl, rfl, rfl, rfl⟩ (fun H locs hP hD hS => ?_)
        refine lv_goto (tgt := 39) hx hb dX11_alike_31 (by decide) ?_
        exact hret 39 H locs ls (r10.1, r10.2) (Option.some.inj h) hP hD hS dX11_alike_39
theorem dX11_copies_0 : decode cX11_copies 0 = .ok (.iconst 0, 1) := by decide +kernel
theorem dX11_copies_1 : decode cX11_copies 1 = .ok (.istore_n 3, 1) := by decide +kernel
theorem dX11_copies_2 : decode cX11_copies 2 = .ok (.iload_n 3, 1) := by decide +kernel
theorem dX11_copies_3 : decode cX11_copies 3 = .ok (.sipush 1040, 3) := by decide +kernel
theorem dX11_copies_6 : decode cX11_copies 6 = .ok (.if_icmp .ge 33, 3) := by decide +kernel
theorem dX11_copies_9 : decode cX11_copies 9 = .ok (.aload_n 0, 1) := by decide +kernel
theorem dX11_copies_10 : decode cX11_copies 10 = .ok (.getfield 7, 3) := by decide +kernel
theorem dX11_copies_13 : decode cX11_copies 13 = .ok (.sipush 1040, 3) := by decide +kernel
theorem dX11_copies_16 : decode cX11_copies 16 = .ok (.iload_n 2, 1) := by decide +kernel
theorem dX11_copies_17 : decode cX11_copies 17 = .ok (.imul, 1) := by decide +kernel
theorem dX11_copies_18 : decode cX11_copies 18 = .ok (.iload_n 3, 1) := by decide +kernel
theorem dX11_copies_19 : decode cX11_copies 19 = .ok (.iadd, 1) := by decide +kernel
theorem dX11_copies_20 : decode cX11_copies 20 = .ok (.aload_n 0, 1) := by decide +kernel
theorem dX11_copies_21 : decode cX11_copies 21 = .ok (.getfield 7, 3) := by decide +kernel
theorem dX11_copies_24 : decode cX11_copies 24 = .ok (.sipush 1040, 3) := by decide +kernel
theorem dX11_copies_27 : decode cX11_copies 27 = .ok (.iload_n 1, 1) := by decide +kernel
theorem dX11_copies_28 : decode cX11_copies 28 = .ok (.imul, 1) := by decide +kernel
theorem dX11_copies_29 : decode cX11_copies 29 = .ok (.iload_n 3, 1) := by decide +kernel
theorem dX11_copies_30 : decode cX11_copies 30 = .ok (.iadd, 1) := by decide +kernel
theorem dX11_copies_31 : decode cX11_copies 31 = .ok (.iaload, 1) := by decide +kernel
theorem dX11_copies_32 : decode cX11_copies 32 = .ok (.iastore, 1) := by decide +kernel
theorem dX11_copies_33 : decode cX11_copies 33 = .ok (.iinc 3 1, 3) := by decide +kernel
theorem dX11_copies_36 : decode cX11_copies 36 = .ok (.goto (-34), 3) := by decide +kernel
theorem dX11_copies_39 : decode cX11_copies 39 = .ok (.iconst 0, 1) := by decide +kernel
theorem dX11_copies_40 : decode cX11_copies 40 = .ok (.istore_n 3, 1) := by decide +kernel
theorem dX11_copies_41 : decode cX11_copies 41 = .ok (.iload_n 3, 1) := by decide +kernel
theorem dX11_copies_42 : decode cX11_copies 42 = .ok (.bipush 8, 2) := by decide +kernel
theorem dX11_copies_44 : decode cX11_copies 44 = .ok (.if_icmp .ge 31, 3) := by decide +kernel
theorem dX11_copies_47 : decode cX11_copies 47 = .ok (.aload_n 0, 1) := by decide +kernel
theorem dX11_copies_48 : decode cX11_copies 48 = .ok (.getfield 13, 3) := by decide +kernel
theorem dX11_copies_51 : decode cX11_copies 51 = .ok (.bipush 8, 2) := by decide +kernel
theorem dX11_copies_53 : decode cX11_copies 53 = .ok (.iload_n 2, 1) := by decide +kernel
theorem dX11_copies_54 : decode cX11_copies 54 = .ok (.imul, 1) := by decide +kernel
theorem dX11_copies_55 : decode cX11_copies 55 = .ok (.iload_n 3, 1) := by decide +kernel
theorem dX11_copies_56 : decode cX11_copies 56 = .ok (.iadd, 1) := by decide +kernel
theorem dX11_copies_57 : decode cX11_copies 57 = .ok (.aload_n 0, 1) := by decide +kernel
theorem dX11_copies_58 : decode cX11_copies 58 = .ok (.getfield 13, 3) := by decide +kernel
theorem dX11_copies_61 : decode cX11_copies 61 = .ok (.bipush 8, 2) := by decide +kernel
theorem dX11_copies_63 : decode cX11_copies 63 = .ok (.iload_n 1, 1) := by decide +kernel
theorem dX11_copies_64 : decode cX11_copies 64 = .ok (.imul, 1) := by decide +kernel
theorem dX11_copies_65 : decode cX11_copies 65 = .ok (.iload_n 3, 1) := by decide +kernel
theorem dX11_copies_66 : decode cX11_copies 66 = .ok (.iadd, 1) := by decide +kernel
theorem dX11_copies_67 : decode cX11_copies 67 = .ok (.laload, 1) := by decide +kernel
theorem dX11_copies_68 : decode cX11_copies 68 = .ok (.lastore, 1) := by decide +kernel
theorem dX11_copies_69 : decode cX11_copies 69 = .ok (.iinc 3 1, 3) := by decide +kernel
theorem dX11_copies_72 : decode cX11_copies 72 = .ok (.goto (-31), 3) := by decide +kernel
theorem dX11_copies_75 : decode cX11_copies 75 = .ok (.return_, 1) := by decide +kernel
abbrev rmX11_copies : Room := { frames := 0, cells := 0, slots := 0, locals := 0 }
set_option maxHeartbeats 4000000 in
set_option maxRecDepth 100000 in
theorem kX11_copies (l : Launch) (D : va_G) (cy : Nat → ClassId) (h0 : Nat) (a0 : Nat → Nat) (s0 : Rc) (p1 : Int32) (p2 : Int32) (res : Rc) (h : fX11_copies p1 p2 s0 = some res) : CV l D cy yX11_copies wsX11_copies rmX11_copies [.ref h0, .int p1, .int p2] (flat [WX11 cy h0 a0 s0]) (flat [WX11 cy h0 a0 res]) := by
  refine CV.of (cc := cX11_copies) (maxL := 4) (by decide) rfl (Nat.le_of_ble_eq_true rfl) ?_
  intro p e s m args below meth c A QQ ls E hr
  obtain ⟨hx, hb, hml, hown, hts, hK, hN, hP, hD, hA, hl⟩ := E
  have hret : ∀ (pc : Nat) (H : Heap) (locs : List Loc) (ls : Array Slot) (u : Rc), u = res → va_P D vwCl (flat [WX11 cy h0 a0 u]) H → va_D A (flat [WX11 cy h0 a0 u]) → va_S A s.heap H locs → decode cX11_copies pc = .ok (.return_, 1) → W p l e rmX11_copies s m args below meth c H locs 0 0 QQ (F0 m pc ls []) := by
    intro pc H locs ls u hu hP hD hS hd; subst hu; exact hr pc H locs ls hP hD hS hd
  clear hr
  have hl : lv_has ls 4 [(0, .ref h0), (1, .int p1), (2, .int p2)] := hl
  have hinX11 : ∀ w ∈ wsX110, w ∈ wsX11_copies := fun _ h => List.mem_cons_of_mem _ (List.mem_append_right _ h)
  unfold fX11_copies at h
  suffices key : ∀ (H : Heap) (locs : List Loc), va_P D vwCl (flat [WX11 cy h0 a0 s0]) H → va_S A s.heap H locs → W p l e rmX11_copies s m args below meth c H locs 0 0 QQ (F0 m 0 ls []) from key _ _ hP va_S.rf
  clear hP
  intro H locs hP hS
  refine lv_iconst (v := 0) hx hb dX11_copies_0 (by decide) ?_
  refine lv_istore_n (lv' := [(3, .int (0 : Int32)), (0, .ref h0), (1, .int p1), (2, .int p2)]) hx hb dX11_copies_1 rfl hl (by decide) rfl (fun ls hl => ?_)
  have L2 : ∀ (n : Nat) (q2 : Int32 × Rc) (o : Rc), loopO (fX11_copies_L2 p1 p2) n q2 = some o → ∀ (H : Heap) (locs : List Loc) (ls : Array Slot), lv_has ls 4 [(0, .ref h0), (1, .int p1), (2, .int p2), (3, .int q2.1)] → va_P D vwCl (flat [WX11 cy h0 a0 q2.2]) H → va_D A (flat [WX11 cy h0 a0 q2.2]) → va_S A s.heap H locs → ∀ (kk39 : ∀ (H : Heap) (locs : List Loc) (ls : Array Slot), lv_has ls 4 [(0, .ref h0), (1, .int p1), (2, .int p2)] → va_P D vwCl (flat [WX11 cy h0 a0 o]) H → va_D A (flat [WX11 cy h0 a0 o]) → va_S A s.heap H locs → W p l e rmX11_copies s m args below meth c H locs 0 0 QQ (F0 m 39 ls [])), W p l e rmX11_copies s m args below meth c H locs 0 0 QQ (F0 m 2 ls []) := by
    intro n
    induction n with
    | zero => intro q2 o h; exact absurd h (by rw [loopO_zero]; intro z; cases z)
    | succ n ih =>
      intro q2 o h H locs ls hl hP hD hS kk39
      obtain ⟨w, h, hgo, hst⟩ := loopO_elim h
      unfold fX11_copies_L2 at h
      refine lv_iload_n hx hb dX11_copies_2 rfl (lv_at hl 3 rfl) ?_
      refine lv_sipush (v := 1040) hx hb dX11_copies_3 (by decide) ?_
      refine lv_icmp_ge (tgt := 39) hx hb dX11_copies_6 (by decide) (fun c1 => ?_) (fun c1 => ?_)
      · replace h := (if_pos c1).symm.trans h
        have eo := hst _ (Option.some.inj h).symm
        subst eo
        exact kk39 H locs ls (lv_sub hl [0, 1, 2] rfl) hP hD hS
      · replace h := (if_neg c1).symm.trans h
        refine lv_aload_n hx hb dX11_copies_9 rfl (lv_at hl 0 rfl) ?_
        refine va_get (D := D) (ci := 11) (v := .ref (a0 0)) (C := RX11) (T := TX11) (N := 38) hx hb hts hinX11 hown hK hP 0 rfl rfl 0 (by decide) (hts (.fieldLink RX11 7 "KneeBenchModel" "at" "[I") (List.mem_of_getElem? (i := 1) rfl)) (fun _ h9 => h9) rfl dX11_copies_10 ?_
        refine lv_sipush (v := 1040) hx hb dX11_copies_13 (by decide) ?_
        refine lv_iload_n hx hb dX11_copies_16 rfl (lv_at hl 2 rfl) ?_
        refine lv_imul hx hb dX11_copies_17 ?_
        refine lv_iload_n hx hb dX11_copies_18 rfl (lv_at hl 3 rfl) ?_
        refine lv_iadd hx hb dX11_copies_19 ?_
        refine lv_aload_n hx hb dX11_copies_20 rfl (lv_at hl 0 rfl) ?_
        refine va_get (D := D) (ci := 11) (v := .ref (a0 0)) (C := RX11) (T := TX11) (N := 38) hx hb hts hinX11 hown hK hP 0 rfl rfl 0 (by decide) (hts (.fieldLink RX11 7 "KneeBenchModel" "at" "[I") (List.mem_of_getElem? (i := 1) rfl)) (fun _ h9 => h9) rfl dX11_copies_21 ?_
        refine lv_sipush (v := 1040) hx hb dX11_copies_24 (by decide) ?_
        refine lv_iload_n hx hb dX11_copies_27 rfl (lv_at hl 1 rfl) ?_
        refine lv_imul hx hb dX11_copies_28 ?_
        refine lv_iload_n hx hb dX11_copies_29 rfl (lv_at hl 3 rfl) ?_
        refine lv_iadd hx hb dX11_copies_30 ?_
        obtain ⟨g2, h⟩ := gd_elim h
        refine va_iald hx hb hK hP 1 1 rfl rfl (inb_in g2) dX11_copies_31 ?_
        obtain ⟨g3, h⟩ := gd_elim h
        obtain ⟨s0_4, es, h⟩ := lt_elim h
        refine va_iast hx hb hK hP hD hS 1 1 rfl rfl (inb_in g3) dX11_copies_32 (fun H locs hP hD hS => ?_)
        have hP : va_P D vwCl (flat [WX11 cy h0 a0 s0_4]) H := by rw [es]; exact hP
        have hD : va_D A (flat [WX11 cy h0 a0 s0_4]) := by rw [es]; exact hD
        clear es
        refine lv_iinc (v := (q2.1 + (1 : Int32))) (lv' := [(3, .int (q2.1 + (1 : Int32))), (0, .ref h0), (1, .int p1), (2, .int p2)]) hx hb dX11_copies_33 hl (k := 3) rfl rfl (by decide) rfl (fun ls hl => ?_)
        refine lv_goto (tgt := 2) hx hb dX11_copies_36 (by decide) ?_
        exact ih _ o (hgo _ (Option.some.inj h).symm) H locs ls (lv_sub hl [1, 2, 3, 0] rfl) hP hD hS kk39
  obtain ⟨o2, ho2, h⟩ := bd_elim h
  obtain ⟨n2, hn2⟩ := loopF_some ho2
  refine L2 n2 _ o2 hn2 H locs ls (lv_sub hl [1, 2, 3, 0] rfl) hP hD hS (fun H locs ls hl hP hD hS => ?_)
  refine lv_iconst (v := 0) hx hb dX11_copies_39 (by decide) ?_
  refine lv_istore_n (lv' := [(3, .int (0 : Int32)), (0, .ref h0), (1, .int p1), (2, .int p2)]) hx hb dX11_copies_40 rfl hl (by decide) rfl (fun ls hl => ?_)
  have L41 : ∀ (n : Nat) (q41 : Int32 × Rc) (o : Rc), loopO (fX11_copies_L41 p1 p2) n q41 = some o → ∀ (H : Heap) (locs : List Loc) (ls : Array Slot), lv_has ls 4 [(0, .ref h0), (1, .int p1), (2, .int p2), (3, .int q41.1)] → va_P D vwCl (flat [WX11 cy h0 a0 q41.2]) H → va_D A (flat [WX11 cy h0 a0 q41.2]) → va_S A s.heap H locs → ∀ (kk75 : ∀ (H : Heap) (locs : List Loc) (ls : Array Slot), lv_has ls 4 [] → va_P D vwCl (flat [WX11 cy h0 a0 o]) H → va_D A (flat [WX11 cy h0 a0 o]) → va_S A s.heap H locs → W p l e rmX11_copies s m args below meth c H locs 0 0 QQ (F0 m 75 ls [])), W p l e rmX11_copies s m args below meth c H locs 0 0 QQ (F0 m 41 ls []) := by
    intro n
    induction n with
    | zero => intro q41 o h; exact absurd h (by rw [loopO_zero]; intro z; cases z)
    | succ n ih =>
      intro q41 o h H locs ls hl hP hD hS kk75
      obtain ⟨w, h, hgo, hst⟩ := loopO_elim h
      unfold fX11_copies_L41 at h
      refine lv_iload_n hx hb dX11_copies_41 rfl (lv_at hl 3 rfl) ?_
      refine lv_bipush (v := 8) hx hb dX11_copies_42 (by decide) ?_
      refine lv_icmp_ge (tgt := 75) hx hb dX11_copies_44 (by decide) (fun c5 => ?_) (fun c5 => ?_)
      · replace h := (if_pos c5).symm.trans h
        have eo := hst _ (Option.some.inj h).symm
        subst eo
        exact kk75 H locs ls (lv_sub hl [] rfl) hP hD hS
      · replace h := (if_neg c5).symm.trans h
        refine lv_aload_n hx hb dX11_copies_47 rfl (lv_at hl 0 rfl) ?_
        refine va_get (D := D) (ci := 11) (v := .ref (a0 1)) (C := RX11) (T := TX11) (N := 38) hx hb hts hinX11 hown hK hP 0 rfl rfl 1 (by decide) (hts (.fieldLink RX11 13 "KneeBenchModel" "names" "[J") (List.mem_of_getElem? (i := 2) rfl)) (fun _ h9 => h9) rfl dX11_copies_48 ?_
        refine lv_bipush (v := 8) hx hb dX11_copies_51 (by decide) ?_
        refine lv_iload_n hx hb dX11_copies_53 rfl (lv_at hl 2 rfl) ?_
        refine lv_imul hx hb dX11_copies_54 ?_
        refine lv_iload_n hx hb dX11_copies_55 rfl (lv_at hl 3 rfl) ?_
        refine lv_iadd hx hb dX11_copies_56 ?_
        refine lv_aload_n hx hb dX11_copies_57 rfl (lv_at hl 0 rfl) ?_
        refine va_get (D := D) (ci := 11) (v := .ref (a0 1)) (C := RX11) (T := TX11) (N := 38) hx hb hts hinX11 hown hK hP 0 rfl rfl 1 (by decide) (hts (.fieldLink RX11 13 "KneeBenchModel" "names" "[J") (List.mem_of_getElem? (i := 2) rfl)) (fun _ h9 => h9) rfl dX11_copies_58 ?_
        refine lv_bipush (v := 8) hx hb dX11_copies_61 (by decide) ?_
        refine lv_iload_n hx hb dX11_copies_63 rfl (lv_at hl 1 rfl) ?_
        refine lv_imul hx hb dX11_copies_64 ?_
        refine lv_iload_n hx hb dX11_copies_65 rfl (lv_at hl 3 rfl) ?_
        refine lv_iadd hx hb dX11_copies_66 ?_
        obtain ⟨g6, h⟩ := gd_elim h
        refine va_lald hx hb hK hP 2 2 rfl rfl (inb_in g6) dX11_copies_67 ?_
        obtain ⟨g7, h⟩ := gd_elim h
        obtain ⟨s0_8, es, h⟩ := lt_elim h
        refine va_last hx hb hK hP hD hS 2 2 rfl rfl (inb_in g7) dX11_copies_68 (fun H locs hP hD hS => ?_)
        have hP : va_P D vwCl (flat [WX11 cy h0 a0 s0_8]) H := by rw [es]; exact hP
        have hD : va_D A (flat [WX11 cy h0 a0 s0_8]) := by rw [es]; exact hD
        clear es
        refine lv_iinc (v := (q41.1 + (1 : Int32))) (lv' := [(3, .int (q41.1 + (1 : Int32))), (0, .ref h0), (1, .int p1), (2, .int p2)]) hx hb dX11_copies_69 hl (k := 3) rfl rfl (by decide) rfl (fun ls hl => ?_)
        refine lv_goto (tgt := 41) hx hb dX11_copies_72 (by decide) ?_
        exact ih _ o (hgo _ (Option.some.inj h).symm) H locs ls (lv_sub hl [1, 2, 3, 0] rfl) hP hD hS kk75
  obtain ⟨o41, ho41, h⟩ := bd_elim h
  obtain ⟨n41, hn41⟩ := loopF_some ho41
  refine L41 n41 _ o41 hn41 H locs ls (lv_sub hl [1, 2, 3, 0] rfl) hP hD hS (fun H locs ls hl hP hD hS => ?_)
  exact hret 75 H locs ls o41 (Option.some.inj h) hP hD hS dX11_copies_75
theorem gd_X11_back : wsX11_back.all goodWord = true := by decide +kernel
set_option maxRecDepth 20000 in
theorem ggX11_back_X11_refuse : GoodIn wsX11_back wsX11_refuse := goodIn_by gd_X11_back (List.forall_mem_cons.mpr ⟨List.mem_cons_of_mem _ (List.mem_append_left _ (List.mem_of_getElem? (i := 5) rfl)), List.forall_mem_append.mpr ⟨List.forall_mem_cons.mpr ⟨List.mem_cons_of_mem _ (List.mem_append_left _ (List.mem_of_getElem? (i := 6) rfl)), nowords_in⟩, (fun _ h => List.mem_cons_of_mem _ (List.mem_append_right _ (h)))⟩⟩)
set_option maxRecDepth 20000 in
theorem gX11_back_X11_refuse : GoodIn wsX11_back (wsV RX11 75 RX11 yX11_refuse wsX11_refuse) := goodIn_app (goodIn_by gd_X11_back (List.forall_mem_cons.mpr ⟨List.mem_cons_of_mem _ (List.mem_append_left _ (List.mem_of_getElem? (i := 1) rfl)), List.forall_mem_cons.mpr ⟨List.mem_cons_of_mem _ (List.mem_append_left _ (List.mem_of_getElem? (i := 2) rfl)), List.forall_mem_cons.mpr ⟨List.mem_cons_of_mem _ (List.mem_append_left _ (List.mem_of_getElem? (i := 3) rfl)), List.forall_mem_cons.mpr ⟨List.mem_cons_of_mem _ (List.mem_append_left _ (List.mem_of_getElem? (i := 4) rfl)), nowords_in⟩⟩⟩⟩)) ggX11_back_X11_refuse
set_option maxRecDepth 20000 in
theorem ggX11_back_X11_copies : GoodIn wsX11_back wsX11_copies := goodIn_by gd_X11_back (List.forall_mem_cons.mpr ⟨List.mem_cons_of_mem _ (List.mem_append_left _ (List.mem_of_getElem? (i := 10) rfl)), List.forall_mem_append.mpr ⟨List.forall_mem_cons.mpr ⟨List.mem_cons_of_mem _ (List.mem_append_left _ (List.mem_of_getElem? (i := 11) rfl)), List.forall_mem_cons.mpr ⟨List.mem_cons_of_mem _ (List.mem_append_left _ (List.mem_of_getElem? (i := 12) rfl)), nowords_in⟩⟩, (fun _ h => List.mem_cons_of_mem _ (List.mem_append_right _ (h)))⟩⟩)
set_option maxRecDepth 20000 in
theorem gX11_back_X11_copies : GoodIn wsX11_back (wsV RX11 421 RX11 yX11_copies wsX11_copies) := goodIn_app (goodIn_by gd_X11_back (List.forall_mem_cons.mpr ⟨List.mem_cons_of_mem _ (List.mem_append_left _ (List.mem_of_getElem? (i := 7) rfl)), List.forall_mem_cons.mpr ⟨List.mem_cons_of_mem _ (List.mem_append_left _ (List.mem_of_getElem? (i := 8) rfl)), List.forall_mem_cons.mpr ⟨List.mem_cons_of_mem _ (List.mem_append_left _ (List.mem_of_getElem? (i := 9) rfl)), List.forall_mem_cons.mpr ⟨List.mem_cons_of_mem _ (List.mem_append_left _ (List.mem_of_getElem? (i := 4) rfl)), nowords_in⟩⟩⟩⟩)) ggX11_back_X11_copies
set_option maxRecDepth 20000 in
theorem ggX11_back_X11_gives : GoodIn wsX11_back wsX11_gives := goodIn_by gd_X11_back (List.forall_mem_cons.mpr ⟨List.mem_cons_of_mem _ (List.mem_append_left _ (List.mem_of_getElem? (i := 16) rfl)), List.forall_mem_append.mpr ⟨List.forall_mem_cons.mpr ⟨List.mem_cons_of_mem _ (List.mem_append_left _ (List.mem_of_getElem? (i := 6) rfl)), nowords_in⟩, (fun _ h => List.mem_cons_of_mem _ (List.mem_append_right _ (h)))⟩⟩)
set_option maxRecDepth 20000 in
theorem gX11_back_X11_gives : GoodIn wsX11_back (wsV RX11 79 RX11 yX11_gives wsX11_gives) := goodIn_app (goodIn_by gd_X11_back (List.forall_mem_cons.mpr ⟨List.mem_cons_of_mem _ (List.mem_append_left _ (List.mem_of_getElem? (i := 13) rfl)), List.forall_mem_cons.mpr ⟨List.mem_cons_of_mem _ (List.mem_append_left _ (List.mem_of_getElem? (i := 14) rfl)), List.forall_mem_cons.mpr ⟨List.mem_cons_of_mem _ (List.mem_append_left _ (List.mem_of_getElem? (i := 15) rfl)), List.forall_mem_cons.mpr ⟨List.mem_cons_of_mem _ (List.mem_append_left _ (List.mem_of_getElem? (i := 4) rfl)), nowords_in⟩⟩⟩⟩)) ggX11_back_X11_gives
theorem dX11_back_0 : decode cX11_back 0 = .ok (.aload_n 0, 1) := by decide +kernel
theorem dX11_back_1 : decode cX11_back 1 = .ok (.getfield 418, 3) := by decide +kernel
theorem dX11_back_4 : decode cX11_back 4 = .ok (.ifCond .ne 10, 3) := by decide +kernel
theorem dX11_back_7 : decode cX11_back 7 = .ok (.aload_n 0, 1) := by decide +kernel
theorem dX11_back_8 : decode cX11_back 8 = .ok (.bipush 6, 2) := by decide +kernel
theorem dX11_back_10 : decode cX11_back 10 = .ok (.invokevirtual 75, 3) := by decide +kernel
theorem dX11_back_13 : decode cX11_back 13 = .ok (.ireturn, 1) := by decide +kernel
theorem dX11_back_14 : decode cX11_back 14 = .ok (.aload_n 0, 1) := by decide +kernel
theorem dX11_back_15 : decode cX11_back 15 = .ok (.aload_n 0, 1) := by decide +kernel
theorem dX11_back_16 : decode cX11_back 16 = .ok (.getfield 418, 3) := by decide +kernel
theorem dX11_back_19 : decode cX11_back 19 = .ok (.iconst 0, 1) := by decide +kernel
theorem dX11_back_20 : decode cX11_back 20 = .ok (.invokevirtual 421, 3) := by decide +kernel
theorem dX11_back_23 : decode cX11_back 23 = .ok (.aload_n 0, 1) := by decide +kernel
theorem dX11_back_24 : decode cX11_back 24 = .ok (.dup, 1) := by decide +kernel
theorem dX11_back_25 : decode cX11_back 25 = .ok (.getfield 418, 3) := by decide +kernel
theorem dX11_back_28 : decode cX11_back 28 = .ok (.iconst 1, 1) := by decide +kernel
theorem dX11_back_29 : decode cX11_back 29 = .ok (.isub, 1) := by decide +kernel
theorem dX11_back_30 : decode cX11_back 30 = .ok (.putfield 418, 3) := by decide +kernel
theorem dX11_back_33 : decode cX11_back 33 = .ok (.aload_n 0, 1) := by decide +kernel
theorem dX11_back_34 : decode cX11_back 34 = .ok (.aload_n 0, 1) := by decide +kernel
theorem dX11_back_35 : decode cX11_back 35 = .ok (.getfield 418, 3) := by decide +kernel
theorem dX11_back_38 : decode cX11_back 38 = .ok (.invokevirtual 79, 3) := by decide +kernel
theorem dX11_back_41 : decode cX11_back 41 = .ok (.ireturn, 1) := by decide +kernel
abbrev rmX11_back : Room := { frames := 1, cells := 0, slots := 0, locals := 23 }
set_option maxHeartbeats 4000000 in
set_option maxRecDepth 100000 in
theorem kX11_back (l : Launch) (D : va_G) (cy : Nat → ClassId) (h0 : Nat) (a0 : Nat → Nat) (s0 : Rc) (res : Int32 × Rc) (h : fX11_back s0 = some res) : CI l D cy yX11_back wsX11_back rmX11_back [.ref h0] (flat [WX11 cy h0 a0 s0]) (flat [WX11 cy h0 a0 res.2]) res.1 := by
  refine CI.of (cc := cX11_back) (maxL := 1) (by decide) rfl (Nat.le_of_ble_eq_true rfl) ?_
  intro p e s m args below meth c A QQ ls E hr
  obtain ⟨hx, hb, hml, hown, hts, hK, hN, hP, hD, hA, hl⟩ := E
  have hret : ∀ (pc : Nat) (H : Heap) (locs : List Loc) (ls : Array Slot) (u : Int32 × Rc), u = res → va_P D vwCl (flat [WX11 cy h0 a0 u.2]) H → va_D A (flat [WX11 cy h0 a0 u.2]) → va_S A s.heap H locs → decode cX11_back pc = .ok (.ireturn, 1) → W p l e rmX11_back s m args below meth c H locs 0 0 QQ (F0 m pc ls [.int u.1]) := by
    intro pc H locs ls u hu hP hD hS hd; subst hu; exact hr pc H locs ls _ rfl hP hD hS hd
  clear hr
  have hl : lv_has ls 1 [(0, .ref h0)] := hl
  have hinX11 : ∀ w ∈ wsX110, w ∈ wsX11_back := fun _ h => List.mem_cons_of_mem _ (List.mem_append_right _ h)
  unfold fX11_back at h
  suffices key : ∀ (H : Heap) (locs : List Loc), va_P D vwCl (flat [WX11 cy h0 a0 s0]) H → va_S A s.heap H locs → W p l e rmX11_back s m args below meth c H locs 0 0 QQ (F0 m 0 ls []) from key _ _ hP va_S.rf
  clear hP
  intro H locs hP hS
  refine lv_aload_n hx hb dX11_back_0 rfl (lv_at hl 0 rfl) ?_
  refine va_get (D := D) (ci := 11) (v := .int (gi s0 37)) (C := RX11) (T := TX11) (N := 38) hx hb hts hinX11 hown hK hP 0 rfl rfl 37 (by decide) (hts (.fieldLink RX11 418 "KneeBenchModel" "marks" "I") (List.mem_of_getElem? (i := 1) rfl)) (fun _ h9 => h9) rfl dX11_back_1 ?_
  refine lv_if_ne (tgt := 14) hx hb dX11_back_4 (by decide) (fun c1 => ?_) (fun c1 => ?_)
  · replace h := (if_neg c1).symm.trans h
    refine lv_aload_n hx hb dX11_back_14 rfl (lv_at hl 0 rfl) ?_
    refine lv_aload_n hx hb dX11_back_15 rfl (lv_at hl 0 rfl) ?_
    refine va_get (D := D) (ci := 11) (v := .int (gi s0 37)) (C := RX11) (T := TX11) (N := 38) hx hb hts hinX11 hown hK hP 0 rfl rfl 37 (by decide) (hts (.fieldLink RX11 418 "KneeBenchModel" "marks" "I") (List.mem_of_getElem? (i := 1) rfl)) (fun _ h9 => h9) rfl dX11_back_16 ?_
    refine lv_iconst (v := 0) hx hb dX11_back_19 (by decide) ?_
    obtain ⟨r2, hr2, h⟩ := bd_elim h
    refine ca_v (w' := [WX11 cy h0 a0 r2]) (rn_V (As := [.int (gi s0 37), .int (0 : Int32)]) (rest := []) ⟨hx, hb, hml, hown, hts⟩ (kX11_copies l D cy h0 a0 s0 (gi s0 37) (0 : Int32) r2 hr2 H.size) (cwV 2 hts gX11_back_X11_copies rfl rfl rfl (by decide +kernel) ⟨Nat.le_of_ble_eq_true rfl, Nat.le_of_ble_eq_true rfl⟩) hK hN hP hD [0] rfl rfl (ci := 11) (q0 := 0) rfl rfl rfl rfl hl.1 rfl (Nat.le_of_ble_eq_true rfl) dX11_back_20 ⟨Nat.le_refl 0, Nat.le_refl 0⟩) hP hD hS hA [0] ⟨rfl, rfl, rfl, rfl⟩ (fun H locs hP hD hS => ?_)
    refine lv_aload_n hx hb dX11_back_23 rfl (lv_at hl 0 rfl) ?_
    refine lv_dup hx hb dX11_back_24 rfl ?_
    refine va_get (D := D) (ci := 11) (v := .int (gi r2 37)) (C := RX11) (T := TX11) (N := 38) hx hb hts hinX11 hown hK hP 0 rfl rfl 37 (by decide) (hts (.fieldLink RX11 418 "KneeBenchModel" "marks" "I") (List.mem_of_getElem? (i := 1) rfl)) (fun _ h9 => h9) rfl dX11_back_25 ?_
    refine lv_iconst (v := 1) hx hb dX11_back_28 (by decide) ?_
    refine lv_isub hx hb dX11_back_29 ?_
    obtain ⟨s0_3, es, h⟩ := lt_elim h
    refine va_put (D := D) (ci := 11) (v := .int ((gi r2 37) - (1 : Int32))) (ty := .int) (C := RX11) (T := TX11) (N := 38) hx hb hts hinX11 tyX11 tyX11_ok nmX11 hown hK hP hD hS 0 rfl rfl 37 (by decide) (hts (.fieldLink RX11 418 "KneeBenchModel" "marks" "I") (List.mem_of_getElem? (i := 1) rfl)) (fun _ h9 => h9) rfl (by decide +kernel) rfl rfl (Nat.le_of_ble_eq_true rfl) dX11_back_30 (fun H locs hP hD hS => ?_)
    have hP : va_P D vwCl (flat [WX11 cy h0 a0 s0_3]) H := by rw [es]; exact hP
    have hD : va_D A (flat [WX11 cy h0 a0 s0_3]) := by rw [es]; exact hD
    clear es
    refine lv_aload_n hx hb dX11_back_33 rfl (lv_at hl 0 rfl) ?_
    refine lv_aload_n hx hb dX11_back_34 rfl (lv_at hl 0 rfl) ?_
    refine va_get (D := D) (ci := 11) (v := .int (gi s0_3 37)) (C := RX11) (T := TX11) (N := 38) hx hb hts hinX11 hown hK hP 0 rfl rfl 37 (by decide) (hts (.fieldLink RX11 418 "KneeBenchModel" "marks" "I") (List.mem_of_getElem? (i := 1) rfl)) (fun _ h9 => h9) rfl dX11_back_35 ?_
    obtain ⟨r4, hr4, h⟩ := lt_elim h
    refine ca_i (w' := [WX11 cy h0 a0 r4.2]) (rn_V (As := [.int (gi s0_3 37)]) (rest := []) ⟨hx, hb, hml, hown, hts⟩ (kX11_gives l D cy h0 a0 s0_3 (gi s0_3 37) r4 hr4.symm H.size) (cwV 1 hts gX11_back_X11_gives rfl rfl rfl (by decide +kernel) ⟨Nat.le_of_ble_eq_true rfl, Nat.le_of_ble_eq_true rfl⟩) hK hN hP hD [0] rfl rfl (ci := 11) (q0 := 0) rfl rfl rfl rfl hl.1 rfl (Nat.le_of_ble_eq_true rfl) dX11_back_38 ⟨Nat.le_refl 0, Nat.le_refl 0⟩) hP hD hS hA [0] ⟨rfl, rfl, rfl, rfl⟩ (fun H locs hP hD hS => ?_)
    exact hret 41 H locs ls (r4.1, r4.2) (Option.some.inj h) hP hD hS dX11_back_41
  · replace h := (if_pos c1).symm.trans h
    refine lv_aload_n hx hb dX11_back_7 rfl (lv_at hl 0 rfl) ?_
    refine lv_bipush (v := 6) hx hb dX11_back_8 (by decide) ?_
    obtain ⟨r5, hr5, h⟩ := lt_elim h
    refine ca_i (w' := [WX11 cy h0 a0 r5.2]) (rn_V (As := [.int (6 : Int32)]) (rest := []) ⟨hx, hb, hml, hown, hts⟩ (kX11_refuse l D cy h0 a0 s0 (6 : Int32) r5 hr5.symm H.size) (cwV 1 hts gX11_back_X11_refuse rfl rfl rfl (by decide +kernel) ⟨Nat.le_of_ble_eq_true rfl, Nat.le_of_ble_eq_true rfl⟩) hK hN hP hD [0] rfl rfl (ci := 11) (q0 := 0) rfl rfl rfl rfl hl.1 rfl (Nat.le_of_ble_eq_true rfl) dX11_back_10 ⟨Nat.le_refl 0, Nat.le_refl 0⟩) hP hD hS hA [0] ⟨rfl, rfl, rfl, rfl⟩ (fun H locs hP hD hS => ?_)
    exact hret 13 H locs ls (r5.1, r5.2) (Option.some.inj h) hP hD hS dX11_back_13
theorem gd_X11_begins : wsX11_begins.all goodWord = true := by decide +kernel
set_option maxRecDepth 20000 in
theorem ggX11_begins_X11_ahead : GoodIn wsX11_begins wsX11_ahead := goodIn_by gd_X11_begins (List.forall_mem_cons.mpr ⟨List.mem_cons_of_mem _ (List.mem_append_left _ (List.mem_append_left _ (List.mem_of_getElem? (i := 12) rfl))), List.forall_mem_append.mpr ⟨List.forall_mem_cons.mpr ⟨List.mem_cons_of_mem _ (List.mem_append_left _ (List.mem_append_left _ (List.mem_of_getElem? (i := 6) rfl))), List.forall_mem_cons.mpr ⟨List.mem_cons_of_mem _ (List.mem_append_left _ (List.mem_append_left _ (List.mem_of_getElem? (i := 13) rfl))), List.forall_mem_cons.mpr ⟨List.mem_cons_of_mem _ (List.mem_append_left _ (List.mem_append_left _ (List.mem_of_getElem? (i := 14) rfl))), List.forall_mem_cons.mpr ⟨List.mem_cons_of_mem _ (List.mem_append_left _ (List.mem_append_left _ (List.mem_of_getElem? (i := 15) rfl))), List.forall_mem_cons.mpr ⟨List.mem_cons_of_mem _ (List.mem_append_left _ (List.mem_append_left _ (List.mem_of_getElem? (i := 16) rfl))), List.forall_mem_cons.mpr ⟨List.mem_cons_of_mem _ (List.mem_append_left _ (List.mem_append_left _ (List.mem_of_getElem? (i := 17) rfl))), List.forall_mem_cons.mpr ⟨List.mem_cons_of_mem _ (List.mem_append_left _ (List.mem_append_left _ (List.mem_of_getElem? (i := 18) rfl))), List.forall_mem_cons.mpr ⟨List.mem_cons_of_mem _ (List.mem_append_left _ (List.mem_append_left _ (List.mem_of_getElem? (i := 19) rfl))), List.forall_mem_cons.mpr ⟨List.mem_cons_of_mem _ (List.mem_append_left _ (List.mem_append_left _ (List.mem_of_getElem? (i := 20) rfl))), List.forall_mem_cons.mpr ⟨List.mem_cons_of_mem _ (List.mem_append_left _ (List.mem_append_left _ (List.mem_of_getElem? (i := 21) rfl))), List.forall_mem_cons.mpr ⟨List.mem_cons_of_mem _ (List.mem_append_left _ (List.mem_append_left _ (List.mem_of_getElem? (i := 22) rfl))), List.forall_mem_cons.mpr ⟨List.mem_cons_of_mem _ (List.mem_append_left _ (List.mem_append_left _ (List.mem_of_getElem? (i := 23) rfl))), List.forall_mem_cons.mpr ⟨List.mem_cons_of_mem _ (List.mem_append_left _ (List.mem_append_left _ (List.mem_of_getElem? (i := 11) rfl))), List.forall_mem_cons.mpr ⟨List.mem_cons_of_mem _ (List.mem_append_left _ (List.mem_append_right _ (List.mem_of_getElem? (i := 0) rfl))), List.forall_mem_cons.mpr ⟨List.mem_cons_of_mem _ (List.mem_append_left _ (List.mem_append_left _ (List.mem_of_getElem? (i := 1) rfl))), List.forall_mem_cons.mpr ⟨List.mem_cons_of_mem _ (List.mem_append_left _ (List.mem_append_left _ (List.mem_of_getElem? (i := 2) rfl))), List.forall_mem_cons.mpr ⟨List.mem_cons_of_mem _ (List.mem_append_left _ (List.mem_append_right _ (List.mem_of_getElem? (i := 1) rfl))), List.forall_mem_cons.mpr ⟨List.mem_cons_of_mem _ (List.mem_append_left _ (List.mem_append_right _ (List.mem_of_getElem? (i := 2) rfl))), List.forall_mem_cons.mpr ⟨List.mem_cons_of_mem _ (List.mem_append_left _ (List.mem_append_right _ (List.mem_of_getElem? (i := 3) rfl))), List.forall_mem_cons.mpr ⟨List.mem_cons_of_mem _ (List.mem_append_left _ (List.mem_append_right _ (List.mem_of_getElem? (i := 4) rfl))), List.forall_mem_cons.mpr ⟨List.mem_cons_of_mem _ (List.mem_append_left _ (List.mem_append_right _ (List.mem_of_getElem? (i := 5) rfl))), List.forall_mem_cons.mpr ⟨List.mem_cons_of_mem _ (List.mem_append_left _ (List.mem_append_right _ (List.mem_of_getElem? (i := 6) rfl))), nowords_in⟩⟩⟩⟩⟩⟩⟩⟩⟩⟩⟩⟩⟩⟩⟩⟩⟩⟩⟩⟩⟩⟩, (fun _ h => List.mem_cons_of_mem _ (List.mem_append_right _ (h)))⟩⟩)
set_option maxRecDepth 20000 in
theorem gX11_begins_X11_ahead : GoodIn wsX11_begins (wsV RX11 151 RX11 yX11_ahead wsX11_ahead) := goodIn_app (goodIn_by gd_X11_begins (List.forall_mem_cons.mpr ⟨List.mem_cons_of_mem _ (List.mem_append_left _ (List.mem_append_left _ (List.mem_of_getElem? (i := 8) rfl))), List.forall_mem_cons.mpr ⟨List.mem_cons_of_mem _ (List.mem_append_left _ (List.mem_append_left _ (List.mem_of_getElem? (i := 9) rfl))), List.forall_mem_cons.mpr ⟨List.mem_cons_of_mem _ (List.mem_append_left _ (List.mem_append_left _ (List.mem_of_getElem? (i := 10) rfl))), List.forall_mem_cons.mpr ⟨List.mem_cons_of_mem _ (List.mem_append_left _ (List.mem_append_left _ (List.mem_of_getElem? (i := 11) rfl))), nowords_in⟩⟩⟩⟩)) ggX11_begins_X11_ahead
theorem dX11_begins_0 : decode cX11_begins 0 = .ok (.iload_n 1, 1) := by decide +kernel
theorem dX11_begins_1 : decode cX11_begins 1 = .ok (.ifCond .lt 16, 3) := by decide +kernel
theorem dX11_begins_4 : decode cX11_begins 4 = .ok (.iload_n 1, 1) := by decide +kernel
theorem dX11_begins_5 : decode cX11_begins 5 = .ok (.aload_n 0, 1) := by decide +kernel
theorem dX11_begins_6 : decode cX11_begins 6 = .ok (.getfield 99, 3) := by decide +kernel
theorem dX11_begins_9 : decode cX11_begins 9 = .ok (.if_icmp .gt 8, 3) := by decide +kernel
theorem dX11_begins_12 : decode cX11_begins 12 = .ok (.iload_n 1, 1) := by decide +kernel
theorem dX11_begins_13 : decode cX11_begins 13 = .ok (.iload_n 2, 1) := by decide +kernel
theorem dX11_begins_14 : decode cX11_begins 14 = .ok (.if_icmp .le 5, 3) := by decide +kernel
theorem dX11_begins_17 : decode cX11_begins 17 = .ok (.iconst 0, 1) := by decide +kernel
theorem dX11_begins_18 : decode cX11_begins 18 = .ok (.ireturn, 1) := by decide +kernel
theorem dX11_begins_19 : decode cX11_begins 19 = .ok (.aload_n 0, 1) := by decide +kernel
theorem dX11_begins_20 : decode cX11_begins 20 = .ok (.iload_n 1, 1) := by decide +kernel
theorem dX11_begins_21 : decode cX11_begins 21 = .ok (.putfield 105, 3) := by decide +kernel
theorem dX11_begins_24 : decode cX11_begins 24 = .ok (.iconst 0, 1) := by decide +kernel
theorem dX11_begins_25 : decode cX11_begins 25 = .ok (.istore_n 3, 1) := by decide +kernel
theorem dX11_begins_26 : decode cX11_begins 26 = .ok (.iload_n 3, 1) := by decide +kernel
theorem dX11_begins_27 : decode cX11_begins 27 = .ok (.iload_n 1, 1) := by decide +kernel
theorem dX11_begins_28 : decode cX11_begins 28 = .ok (.if_icmp .ge 21, 3) := by decide +kernel
theorem dX11_begins_31 : decode cX11_begins 31 = .ok (.aload_n 0, 1) := by decide +kernel
theorem dX11_begins_32 : decode cX11_begins 32 = .ok (.getfield 34, 3) := by decide +kernel
theorem dX11_begins_35 : decode cX11_begins 35 = .ok (.iload_n 3, 1) := by decide +kernel
theorem dX11_begins_36 : decode cX11_begins 36 = .ok (.aload_n 0, 1) := by decide +kernel
theorem dX11_begins_37 : decode cX11_begins 37 = .ok (.getfield 30, 3) := by decide +kernel
theorem dX11_begins_40 : decode cX11_begins 40 = .ok (.iload_n 3, 1) := by decide +kernel
theorem dX11_begins_41 : decode cX11_begins 41 = .ok (.baload, 1) := by decide +kernel
theorem dX11_begins_42 : decode cX11_begins 42 = .ok (.bastore, 1) := by decide +kernel
theorem dX11_begins_43 : decode cX11_begins 43 = .ok (.iinc 3 1, 3) := by decide +kernel
theorem dX11_begins_46 : decode cX11_begins 46 = .ok (.goto (-20), 3) := by decide +kernel
theorem dX11_begins_49 : decode cX11_begins 49 = .ok (.aload_n 0, 1) := by decide +kernel
theorem dX11_begins_50 : decode cX11_begins 50 = .ok (.iconst 0, 1) := by decide +kernel
theorem dX11_begins_51 : decode cX11_begins 51 = .ok (.putfield 99, 3) := by decide +kernel
theorem dX11_begins_54 : decode cX11_begins 54 = .ok (.aload_n 0, 1) := by decide +kernel
theorem dX11_begins_55 : decode cX11_begins 55 = .ok (.iconst 0, 1) := by decide +kernel
theorem dX11_begins_56 : decode cX11_begins 56 = .ok (.putfield 145, 3) := by decide +kernel
theorem dX11_begins_59 : decode cX11_begins 59 = .ok (.aload_n 0, 1) := by decide +kernel
theorem dX11_begins_60 : decode cX11_begins 60 = .ok (.iconst (-1), 1) := by decide +kernel
theorem dX11_begins_61 : decode cX11_begins 61 = .ok (.putfield 41, 3) := by decide +kernel
theorem dX11_begins_64 : decode cX11_begins 64 = .ok (.aload_n 0, 1) := by decide +kernel
theorem dX11_begins_65 : decode cX11_begins 65 = .ok (.iconst 0, 1) := by decide +kernel
theorem dX11_begins_66 : decode cX11_begins 66 = .ok (.putfield 108, 3) := by decide +kernel
theorem dX11_begins_69 : decode cX11_begins 69 = .ok (.aload_n 0, 1) := by decide +kernel
theorem dX11_begins_70 : decode cX11_begins 70 = .ok (.iconst 0, 1) := by decide +kernel
theorem dX11_begins_71 : decode cX11_begins 71 = .ok (.putfield 148, 3) := by decide +kernel
theorem dX11_begins_74 : decode cX11_begins 74 = .ok (.aload_n 0, 1) := by decide +kernel
theorem dX11_begins_75 : decode cX11_begins 75 = .ok (.invokevirtual 151, 3) := by decide +kernel
theorem dX11_begins_78 : decode cX11_begins 78 = .ok (.iconst 1, 1) := by decide +kernel
theorem dX11_begins_79 : decode cX11_begins 79 = .ok (.ireturn, 1) := by decide +kernel
abbrev rmX11_begins : Room := { frames := 2, cells := 0, slots := 0, locals := 42 }
set_option maxHeartbeats 4000000 in
set_option maxRecDepth 100000 in
theorem kX11_begins (l : Launch) (D : va_G) (cy : Nat → ClassId) (h0 : Nat) (a0 : Nat → Nat) (s0 : Rc) (p1 : Int32) (p2 : Int32) (res : Int32 × Rc) (h : fX11_begins p1 p2 s0 = some res) : CZ l D cy yX11_begins wsX11_begins rmX11_begins [.ref h0, .int p1, .int p2] (flat [WX11 cy h0 a0 s0]) (flat [WX11 cy h0 a0 res.2]) res.1 := by
  refine CZ.of (cc := cX11_begins) (maxL := 4) (by decide) rfl (Nat.le_of_ble_eq_true rfl) ?_
  intro p e s m args below meth c A QQ ls E hr
  obtain ⟨hx, hb, hml, hown, hts, hK, hN, hP, hD, hA, hl⟩ := E
  have hret : ∀ (pc : Nat) (H : Heap) (locs : List Loc) (ls : Array Slot) (u : Int32 × Rc), u = res → va_P D vwCl (flat [WX11 cy h0 a0 u.2]) H → va_D A (flat [WX11 cy h0 a0 u.2]) → va_S A s.heap H locs → isb u.1 = true → decode cX11_begins pc = .ok (.ireturn, 1) → W p l e rmX11_begins s m args below meth c H locs 0 0 QQ (F0 m pc ls [.int u.1]) := by
    intro pc H locs ls u hu hP hD hS hz hd; subst hu; exact hr pc H locs ls _ rfl hP hD hS hz hd
  clear hr
  have hl : lv_has ls 4 [(0, .ref h0), (1, .int p1), (2, .int p2)] := hl
  have hinX11 : ∀ w ∈ wsX110, w ∈ wsX11_begins := fun _ h => List.mem_cons_of_mem _ (List.mem_append_right _ h)
  unfold fX11_begins at h
  suffices key : ∀ (H : Heap) (locs : List Loc), va_P D vwCl (flat [WX11 cy h0 a0 s0]) H → va_S A s.heap H locs → W p l e rmX11_begins s m args below meth c H locs 0 0 QQ (F0 m 0 ls []) from key _ _ hP va_S.rf
  clear hP
  intro H locs hP hS
  refine lv_iload_n hx hb dX11_begins_0 rfl (lv_at hl 1 rfl) ?_
  refine lv_if_lt (tgt := 17) hx hb dX11_begins_1 (by decide) (fun c1 => ?_) (fun c1 => ?_)
  · replace h := (if_pos c1).symm.trans h
    refine lv_iconst (v := 0) hx hb dX11_begins_17 (by decide) ?_
    exact hret 18 H locs ls ((0 : Int32), s0) (Option.some.inj h) hP hD hS (show isb (0 : Int32) = true by decide) dX11_begins_18
  · replace h := (if_neg c1).symm.trans h
    refine lv_iload_n hx hb dX11_begins_4 rfl (lv_at hl 1 rfl) ?_
    refine lv_aload_n hx hb dX11_begins_5 rfl (lv_at hl 0 rfl) ?_
    refine va_get (D := D) (ci := 11) (v := .int (gi s0 10)) (C := RX11) (T := TX11) (N := 38) hx hb hts hinX11 hown hK hP 0 rfl rfl 10 (by decide) (hts (.fieldLink RX11 99 "KneeBenchModel" "taped" "I") (List.mem_of_getElem? (i := 1) rfl)) (fun _ h9 => h9) rfl dX11_begins_6 ?_
    refine lv_icmp_gt (tgt := 17) hx hb dX11_begins_9 (by decide) (fun c2 => ?_) (fun c2 => ?_)
    · replace h := (if_pos c2).symm.trans h
      refine lv_iconst (v := 0) hx hb dX11_begins_17 (by decide) ?_
      exact hret 18 H locs ls ((0 : Int32), s0) (Option.some.inj h) hP hD hS (show isb (0 : Int32) = true by decide) dX11_begins_18
    · replace h := (if_neg c2).symm.trans h
      refine lv_iload_n hx hb dX11_begins_12 rfl (lv_at hl 1 rfl) ?_
      refine lv_iload_n hx hb dX11_begins_13 rfl (lv_at hl 2 rfl) ?_
      refine lv_icmp_le (tgt := 19) hx hb dX11_begins_14 (by decide) (fun c3 => ?_) (fun c3 => ?_)
      · replace h := (if_pos c3).symm.trans h
        refine lv_aload_n hx hb dX11_begins_19 rfl (lv_at hl 0 rfl) ?_
        refine lv_iload_n hx hb dX11_begins_20 rfl (lv_at hl 1 rfl) ?_
        obtain ⟨s0_4, es, h⟩ := lt_elim h
        refine va_put (D := D) (ci := 11) (v := .int p1) (ty := .int) (C := RX11) (T := TX11) (N := 38) hx hb hts hinX11 tyX11 tyX11_ok nmX11 hown hK hP hD hS 0 rfl rfl 11 (by decide) (hts (.fieldLink RX11 105 "KneeBenchModel" "size" "I") (List.mem_of_getElem? (i := 2) rfl)) (fun _ h9 => h9) rfl (by decide +kernel) rfl rfl (Nat.le_of_ble_eq_true rfl) dX11_begins_21 (fun H locs hP hD hS => ?_)
        have hP : va_P D vwCl (flat [WX11 cy h0 a0 s0_4]) H := by rw [es]; exact hP
        have hD : va_D A (flat [WX11 cy h0 a0 s0_4]) := by rw [es]; exact hD
        clear es
        refine lv_iconst (v := 0) hx hb dX11_begins_24 (by decide) ?_
        refine lv_istore_n (lv' := [(3, .int (0 : Int32)), (0, .ref h0), (1, .int p1), (2, .int p2)]) hx hb dX11_begins_25 rfl hl (by decide) rfl (fun ls hl => ?_)
        have L26 : ∀ (n : Nat) (q26 : Int32 × Rc) (o : Rc), loopO (fX11_begins_L26 p1) n q26 = some o → ∀ (H : Heap) (locs : List Loc) (ls : Array Slot), lv_has ls 4 [(0, .ref h0), (1, .int p1), (3, .int q26.1)] → va_P D vwCl (flat [WX11 cy h0 a0 q26.2]) H → va_D A (flat [WX11 cy h0 a0 q26.2]) → va_S A s.heap H locs → ∀ (kk49 : ∀ (H : Heap) (locs : List Loc) (ls : Array Slot), lv_has ls 4 [(0, .ref h0)] → va_P D vwCl (flat [WX11 cy h0 a0 o]) H → va_D A (flat [WX11 cy h0 a0 o]) → va_S A s.heap H locs → W p l e rmX11_begins s m args below meth c H locs 0 0 QQ (F0 m 49 ls [])), W p l e rmX11_begins s m args below meth c H locs 0 0 QQ (F0 m 26 ls []) := by
          intro n
          induction n with
          | zero => intro q26 o h; exact absurd h (by rw [loopO_zero]; intro z; cases z)
          | succ n ih =>
            intro q26 o h H locs ls hl hP hD hS kk49
            obtain ⟨w, h, hgo, hst⟩ := loopO_elim h
            unfold fX11_begins_L26 at h
            refine lv_iload_n hx hb dX11_begins_26 rfl (lv_at hl 2 rfl) ?_
            refine lv_iload_n hx hb dX11_begins_27 rfl (lv_at hl 1 rfl) ?_
            refine lv_icmp_ge (tgt := 49) hx hb dX11_begins_28 (by decide) (fun c5 => ?_) (fun c5 => ?_)
            · replace h := (if_pos c5).symm.trans h
              have eo := hst _ (Option.some.inj h).symm
              subst eo
              exact kk49 H locs ls (lv_sub hl [0] rfl) hP hD hS
            · replace h := (if_neg c5).symm.trans h
              refine lv_aload_n hx hb dX11_begins_31 rfl (lv_at hl 0 rfl) ?_
              refine va_get (D := D) (ci := 11) (v := .ref (a0 9)) (C := RX11) (T := TX11) (N := 38) hx hb hts hinX11 hown hK hP 0 rfl rfl 9 (by decide) (hts (.fieldLink RX11 34 "KneeBenchModel" "text" "[B") (List.mem_of_getElem? (i := 3) rfl)) (fun _ h9 => h9) rfl dX11_begins_32 ?_
              refine lv_iload_n hx hb dX11_begins_35 rfl (lv_at hl 2 rfl) ?_
              refine lv_aload_n hx hb dX11_begins_36 rfl (lv_at hl 0 rfl) ?_
              refine va_get (D := D) (ci := 11) (v := .ref (a0 8)) (C := RX11) (T := TX11) (N := 38) hx hb hts hinX11 hown hK hP 0 rfl rfl 8 (by decide) (hts (.fieldLink RX11 30 "KneeBenchModel" "tape" "[B") (List.mem_of_getElem? (i := 4) rfl)) (fun _ h9 => h9) rfl dX11_begins_37 ?_
              refine lv_iload_n hx hb dX11_begins_40 rfl (lv_at hl 2 rfl) ?_
              obtain ⟨g6, h⟩ := gd_elim h
              refine va_bald hx hb hK hP 6 0 rfl rfl (inb_in g6) dX11_begins_41 ?_
              obtain ⟨s0_7, es, h⟩ := lt_elim h
              refine va_bast hx hb hK hP hD hS 7 0 rfl rfl (inb_in g6) dX11_begins_42 (fun H locs hP hD hS => ?_)
              have hP : va_P D vwCl (flat [WX11 cy h0 a0 s0_7]) H := by rw [es]; exact hP
              have hD : va_D A (flat [WX11 cy h0 a0 s0_7]) := by rw [es]; exact hD
              clear es
              refine lv_iinc (v := (q26.1 + (1 : Int32))) (lv' := [(3, .int (q26.1 + (1 : Int32))), (0, .ref h0), (1, .int p1)]) hx hb dX11_begins_43 hl (k := 2) rfl rfl (by decide) rfl (fun ls hl => ?_)
              refine lv_goto (tgt := 26) hx hb dX11_begins_46 (by decide) ?_
              exact ih _ o (hgo _ (Option.some.inj h).symm) H locs ls (lv_sub hl [1, 2, 0] rfl) hP hD hS kk49
        obtain ⟨o26, ho26, h⟩ := bd_elim h
        obtain ⟨n26, hn26⟩ := loopF_some ho26
        refine L26 n26 _ o26 hn26 H locs ls (lv_sub hl [1, 2, 0] rfl) hP hD hS (fun H locs ls hl hP hD hS => ?_)
        refine lv_aload_n hx hb dX11_begins_49 rfl (lv_at hl 0 rfl) ?_
        refine lv_iconst (v := 0) hx hb dX11_begins_50 (by decide) ?_
        obtain ⟨s0_8, es, h⟩ := lt_elim h
        refine va_put (D := D) (ci := 11) (v := .int (0 : Int32)) (ty := .int) (C := RX11) (T := TX11) (N := 38) hx hb hts hinX11 tyX11 tyX11_ok nmX11 hown hK hP hD hS 0 rfl rfl 10 (by decide) (hts (.fieldLink RX11 99 "KneeBenchModel" "taped" "I") (List.mem_of_getElem? (i := 1) rfl)) (fun _ h9 => h9) rfl (by decide +kernel) rfl rfl (Nat.le_of_ble_eq_true rfl) dX11_begins_51 (fun H locs hP hD hS => ?_)
        have hP : va_P D vwCl (flat [WX11 cy h0 a0 s0_8]) H := by rw [es]; exact hP
        have hD : va_D A (flat [WX11 cy h0 a0 s0_8]) := by rw [es]; exact hD
        clear es
        refine lv_aload_n hx hb dX11_begins_54 rfl (lv_at hl 0 rfl) ?_
        refine lv_iconst (v := 0) hx hb dX11_begins_55 (by decide) ?_
        obtain ⟨s0_9, es, h⟩ := lt_elim h
        refine va_put (D := D) (ci := 11) (v := .int (0 : Int32)) (ty := .int) (C := RX11) (T := TX11) (N := 38) hx hb hts hinX11 tyX11 tyX11_ok nmX11 hown hK hP hD hS 0 rfl rfl 18 (by decide) (hts (.fieldLink RX11 145 "KneeBenchModel" "faults" "I") (List.mem_of_getElem? (i := 5) rfl)) (fun _ h9 => h9) rfl (by decide +kernel) rfl rfl (Nat.le_of_ble_eq_true rfl) dX11_begins_56 (fun H locs hP hD hS => ?_)
        have hP : va_P D vwCl (flat [WX11 cy h0 a0 s0_9]) H := by rw [es]; exact hP
        have hD : va_D A (flat [WX11 cy h0 a0 s0_9]) := by rw [es]; exact hD
        clear es
        refine lv_aload_n hx hb dX11_begins_59 rfl (lv_at hl 0 rfl) ?_
        refine lv_iconst (v := -1) hx hb dX11_begins_60 (by decide) ?_
        obtain ⟨s0_10, es, h⟩ := lt_elim h
        refine va_put (D := D) (ci := 11) (v := .int (-1 : Int32)) (ty := .int) (C := RX11) (T := TX11) (N := 38) hx hb hts hinX11 tyX11 tyX11_ok nmX11 hown hK hP hD hS 0 rfl rfl 17 (by decide) (hts (.fieldLink RX11 41 "KneeBenchModel" "faultPlace" "I") (List.mem_of_getElem? (i := 6) rfl)) (fun _ h9 => h9) rfl (by decide +kernel) rfl rfl (Nat.le_of_ble_eq_true rfl) dX11_begins_61 (fun H locs hP hD hS => ?_)
        have hP : va_P D vwCl (flat [WX11 cy h0 a0 s0_10]) H := by rw [es]; exact hP
        have hD : va_D A (flat [WX11 cy h0 a0 s0_10]) := by rw [es]; exact hD
        clear es
        refine lv_aload_n hx hb dX11_begins_64 rfl (lv_at hl 0 rfl) ?_
        refine lv_iconst (v := 0) hx hb dX11_begins_65 (by decide) ?_
        obtain ⟨s0_11, es, h⟩ := lt_elim h
        refine va_put (D := D) (ci := 11) (v := .int (0 : Int32)) (ty := .int) (C := RX11) (T := TX11) (N := 38) hx hb hts hinX11 tyX11 tyX11_ok nmX11 hown hK hP hD hS 0 rfl rfl 14 (by decide) (hts (.fieldLink RX11 108 "KneeBenchModel" "end" "I") (List.mem_of_getElem? (i := 7) rfl)) (fun _ h9 => h9) rfl (by decide +kernel) rfl rfl (Nat.le_of_ble_eq_true rfl) dX11_begins_66 (fun H locs hP hD hS => ?_)
        have hP : va_P D vwCl (flat [WX11 cy h0 a0 s0_11]) H := by rw [es]; exact hP
        have hD : va_D A (flat [WX11 cy h0 a0 s0_11]) := by rw [es]; exact hD
        clear es
        refine lv_aload_n hx hb dX11_begins_69 rfl (lv_at hl 0 rfl) ?_
        refine lv_iconst (v := 0) hx hb dX11_begins_70 (by decide) ?_
        obtain ⟨s0_12, es, h⟩ := lt_elim h
        refine va_put (D := D) (ci := 11) (v := .int (0 : Int32)) (ty := .int) (C := RX11) (T := TX11) (N := 38) hx hb hts hinX11 tyX11 tyX11_ok nmX11 hown hK hP hD hS 0 rfl rfl 19 (by decide) (hts (.fieldLink RX11 148 "KneeBenchModel" "seen" "I") (List.mem_of_getElem? (i := 8) rfl)) (fun _ h9 => h9) rfl (by decide +kernel) rfl rfl (Nat.le_of_ble_eq_true rfl) dX11_begins_71 (fun H locs hP hD hS => ?_)
        have hP : va_P D vwCl (flat [WX11 cy h0 a0 s0_12]) H := by rw [es]; exact hP
        have hD : va_D A (flat [WX11 cy h0 a0 s0_12]) := by rw [es]; exact hD
        clear es
        refine lv_aload_n hx hb dX11_begins_74 rfl (lv_at hl 0 rfl) ?_
        obtain ⟨r13, hr13, h⟩ := bd_elim h
        refine ca_v (w' := [WX11 cy h0 a0 r13]) (rn_V (As := []) (rest := []) ⟨hx, hb, hml, hown, hts⟩ (kX11_ahead l D cy h0 a0 s0_12 r13 hr13 H.size) (cwV 0 hts gX11_begins_X11_ahead rfl rfl rfl (by decide +kernel) ⟨Nat.le_of_ble_eq_true rfl, Nat.le_of_ble_eq_true rfl⟩) hK hN hP hD [0] rfl rfl (ci := 11) (q0 := 0) rfl rfl rfl rfl hl.1 rfl (Nat.le_of_ble_eq_true rfl) dX11_begins_75 ⟨Nat.le_refl 0, Nat.le_refl 0⟩) hP hD hS hA [0] ⟨rfl, rfl, rfl, rfl⟩ (fun H locs hP hD hS => ?_)
        refine lv_iconst (v := 1) hx hb dX11_begins_78 (by decide) ?_
        exact hret 79 H locs ls ((1 : Int32), r13) (Option.some.inj h) hP hD hS (show isb (1 : Int32) = true by decide) dX11_begins_79
      · replace h := (if_neg c3).symm.trans h
        refine lv_iconst (v := 0) hx hb dX11_begins_17 (by decide) ?_
        exact hret 18 H locs ls ((0 : Int32), s0) (Option.some.inj h) hP hD hS (show isb (0 : Int32) = true by decide) dX11_begins_18
theorem dX11_behind_0 : decode cX11_behind 0 = .ok (.aload_n 0, 1) := by decide +kernel
theorem dX11_behind_1 : decode cX11_behind 1 = .ok (.getfield 376, 3) := by decide +kernel
theorem dX11_behind_4 : decode cX11_behind 4 = .ok (.ifCond .ne 7, 3) := by decide +kernel
theorem dX11_behind_7 : decode cX11_behind 7 = .ok (.iconst 0, 1) := by decide +kernel
theorem dX11_behind_8 : decode cX11_behind 8 = .ok (.goto 27, 3) := by decide +kernel
theorem dX11_behind_11 : decode cX11_behind 11 = .ok (.aload_n 0, 1) := by decide +kernel
theorem dX11_behind_12 : decode cX11_behind 12 = .ok (.getfield 7, 3) := by decide +kernel
theorem dX11_behind_15 : decode cX11_behind 15 = .ok (.bipush 58, 2) := by decide +kernel
theorem dX11_behind_17 : decode cX11_behind 17 = .ok (.bipush 8, 2) := by decide +kernel
theorem dX11_behind_19 : decode cX11_behind 19 = .ok (.aload_n 0, 1) := by decide +kernel
theorem dX11_behind_20 : decode cX11_behind 20 = .ok (.getfield 53, 3) := by decide +kernel
theorem dX11_behind_23 : decode cX11_behind 23 = .ok (.aload_n 0, 1) := by decide +kernel
theorem dX11_behind_24 : decode cX11_behind 24 = .ok (.getfield 376, 3) := by decide +kernel
theorem dX11_behind_27 : decode cX11_behind 27 = .ok (.iconst 1, 1) := by decide +kernel
theorem dX11_behind_28 : decode cX11_behind 28 = .ok (.isub, 1) := by decide +kernel
theorem dX11_behind_29 : decode cX11_behind 29 = .ok (.iaload, 1) := by decide +kernel
theorem dX11_behind_30 : decode cX11_behind 30 = .ok (.imul, 1) := by decide +kernel
theorem dX11_behind_31 : decode cX11_behind 31 = .ok (.iadd, 1) := by decide +kernel
theorem dX11_behind_32 : decode cX11_behind 32 = .ok (.iload_n 1, 1) := by decide +kernel
theorem dX11_behind_33 : decode cX11_behind 33 = .ok (.iadd, 1) := by decide +kernel
theorem dX11_behind_34 : decode cX11_behind 34 = .ok (.iaload, 1) := by decide +kernel
theorem dX11_behind_35 : decode cX11_behind 35 = .ok (.ireturn, 1) := by decide +kernel
abbrev rmX11_behind : Room := { frames := 0, cells := 0, slots := 0, locals := 0 }
set_option maxHeartbeats 4000000 in
set_option maxRecDepth 100000 in
theorem kX11_behind (l : Launch) (D : va_G) (cy : Nat → ClassId) (h0 : Nat) (a0 : Nat → Nat) (s0 : Rc) (p1 : Int32) (res : Int32) (h : fX11_behind p1 s0 = some res) : CI l D cy yX11_behind wsX11_behind rmX11_behind [.ref h0, .int p1] (flat [WX11 cy h0 a0 s0]) (flat [WX11 cy h0 a0 s0]) res := by
  refine CI.of (cc := cX11_behind) (maxL := 2) (by decide) rfl (Nat.le_of_ble_eq_true rfl) ?_
  intro p e s m args below meth c A QQ ls E hr
  obtain ⟨hx, hb, hml, hown, hts, hK, hN, hP, hD, hA, hl⟩ := E
  have hret : ∀ (pc : Nat) (H : Heap) (locs : List Loc) (ls : Array Slot) (u : Int32), u = res → va_P D vwCl (flat [WX11 cy h0 a0 s0]) H → va_D A (flat [WX11 cy h0 a0 s0]) → va_S A s.heap H locs → decode cX11_behind pc = .ok (.ireturn, 1) → W p l e rmX11_behind s m args below meth c H locs 0 0 QQ (F0 m pc ls [.int u]) := by
    intro pc H locs ls u hu hP hD hS hd; subst hu; exact hr pc H locs ls _ rfl hP hD hS hd
  clear hr
  have hl : lv_has ls 2 [(0, .ref h0), (1, .int p1)] := hl
  have hinX11 : ∀ w ∈ wsX110, w ∈ wsX11_behind := fun _ h => List.mem_cons_of_mem _ (List.mem_append_right _ h)
  unfold fX11_behind at h
  suffices key : ∀ (H : Heap) (locs : List Loc), va_P D vwCl (flat [WX11 cy h0 a0 s0]) H → va_S A s.heap H locs → W p l e rmX11_behind s m args below meth c H locs 0 0 QQ (F0 m 0 ls []) from key _ _ hP va_S.rf
  clear hP
  intro H locs hP hS
  refine lv_aload_n hx hb dX11_behind_0 rfl (lv_at hl 0 rfl) ?_
  refine va_get (D := D) (ci := 11) (v := .int (gi s0 31)) (C := RX11) (T := TX11) (N := 38) hx hb hts hinX11 hown hK hP 0 rfl rfl 31 (by decide) (hts (.fieldLink RX11 376 "KneeBenchModel" "rowMany" "I") (List.mem_of_getElem? (i := 1) rfl)) (fun _ h9 => h9) rfl dX11_behind_1 ?_
  refine lv_if_ne (tgt := 11) hx hb dX11_behind_4 (by decide) (fun c1 => ?_) (fun c1 => ?_)
  · replace h := (if_neg c1).symm.trans h
    refine lv_aload_n hx hb dX11_behind_11 rfl (lv_at hl 0 rfl) ?_
    refine va_get (D := D) (ci := 11) (v := .ref (a0 0)) (C := RX11) (T := TX11) (N := 38) hx hb hts hinX11 hown hK hP 0 rfl rfl 0 (by decide) (hts (.fieldLink RX11 7 "KneeBenchModel" "at" "[I") (List.mem_of_getElem? (i := 2) rfl)) (fun _ h9 => h9) rfl dX11_behind_12 ?_
    refine lv_bipush (v := 58) hx hb dX11_behind_15 (by decide) ?_
    refine lv_bipush (v := 8) hx hb dX11_behind_17 (by decide) ?_
    refine lv_aload_n hx hb dX11_behind_19 rfl (lv_at hl 0 rfl) ?_
    refine va_get (D := D) (ci := 11) (v := .ref (a0 30)) (C := RX11) (T := TX11) (N := 38) hx hb hts hinX11 hown hK hP 0 rfl rfl 30 (by decide) (hts (.fieldLink RX11 53 "KneeBenchModel" "row" "[I") (List.mem_of_getElem? (i := 3) rfl)) (fun _ h9 => h9) rfl dX11_behind_20 ?_
    refine lv_aload_n hx hb dX11_behind_23 rfl (lv_at hl 0 rfl) ?_
    refine va_get (D := D) (ci := 11) (v := .int (gi s0 31)) (C := RX11) (T := TX11) (N := 38) hx hb hts hinX11 hown hK hP 0 rfl rfl 31 (by decide) (hts (.fieldLink RX11 376 "KneeBenchModel" "rowMany" "I") (List.mem_of_getElem? (i := 1) rfl)) (fun _ h9 => h9) rfl dX11_behind_24 ?_
    refine lv_iconst (v := 1) hx hb dX11_behind_27 (by decide) ?_
    refine lv_isub hx hb dX11_behind_28 ?_
    obtain ⟨g2, h⟩ := gd_elim h
    refine va_iald hx hb hK hP 10 1 rfl rfl (inb_in g2) dX11_behind_29 ?_
    refine lv_imul hx hb dX11_behind_30 ?_
    refine lv_iadd hx hb dX11_behind_31 ?_
    refine lv_iload_n hx hb dX11_behind_32 rfl (lv_at hl 1 rfl) ?_
    refine lv_iadd hx hb dX11_behind_33 ?_
    obtain ⟨g3, h⟩ := gd_elim h
    refine va_iald hx hb hK hP 1 1 rfl rfl (inb_in g3) dX11_behind_34 ?_
    exact hret 35 H locs ls (ga s0 0 (((58 : Int32) + ((8 : Int32) * (ga s0 30 ((gi s0 31) - (1 : Int32)).toNatClampNeg))) + p1).toNatClampNeg) (Option.some.inj h) hP hD hS dX11_behind_35
  · replace h := (if_pos c1).symm.trans h
    refine lv_iconst (v := 0) hx hb dX11_behind_7 (by decide) ?_
    refine lv_goto (tgt := 35) hx hb dX11_behind_8 (by decide) ?_
    exact hret 35 H locs ls (0 : Int32) (Option.some.inj h) hP hD hS dX11_behind_35
