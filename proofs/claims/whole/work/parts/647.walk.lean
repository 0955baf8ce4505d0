theorem gd_X11_twinge : wsX11_twinge.all goodWord = true := by decide +kernel
set_option maxRecDepth 20000 in
theorem ggX11_twinge_X11_isIn : GoodIn wsX11_twinge wsX11_isIn := goodIn_by gd_X11_twinge (List.forall_mem_cons.mpr ⟨List.mem_cons_of_mem _ (List.mem_append_left _ (List.mem_of_getElem? (i := 5) rfl)), List.forall_mem_append.mpr ⟨List.forall_mem_cons.mpr ⟨List.mem_cons_of_mem _ (List.mem_append_left _ (List.mem_of_getElem? (i := 6) rfl)), List.forall_mem_cons.mpr ⟨List.mem_cons_of_mem _ (List.mem_append_left _ (List.mem_of_getElem? (i := 7) rfl)), List.forall_mem_cons.mpr ⟨List.mem_cons_of_mem _ (List.mem_append_left _ (List.mem_of_getElem? (i := 8) rfl)), List.forall_mem_cons.mpr ⟨List.mem_cons_of_mem _ (List.mem_append_left _ (List.mem_of_getElem? (i := 4) rfl)), List.forall_mem_cons.mpr ⟨List.mem_cons_of_mem _ (List.mem_append_left _ (List.mem_of_getElem? (i := 9) rfl)), List.forall_mem_cons.mpr ⟨List.mem_cons_of_mem _ (List.mem_append_left _ (List.mem_of_getElem? (i := 0) rfl)), List.forall_mem_cons.mpr ⟨List.mem_cons_of_mem _ (List.mem_append_left _ (List.mem_of_getElem? (i := 10) rfl)), List.forall_mem_cons.mpr ⟨List.mem_cons_of_mem _ (List.mem_append_left _ (List.mem_of_getElem? (i := 11) rfl)), List.forall_mem_cons.mpr ⟨List.mem_cons_of_mem _ (List.mem_append_left _ (List.mem_of_getElem? (i := 12) rfl)), List.forall_mem_cons.mpr ⟨List.mem_cons_of_mem _ (List.mem_append_left _ (List.mem_of_getElem? (i := 13) rfl)), nowords_in⟩⟩⟩⟩⟩⟩⟩⟩⟩⟩, (fun _ h => List.mem_cons_of_mem _ (List.mem_append_right _ (h)))⟩⟩)
set_option maxRecDepth 20000 in
theorem gX11_twinge_X11_isIn : GoodIn wsX11_twinge (wsV RX11 270 RX11 yX11_isIn wsX11_isIn) := goodIn_app (goodIn_by gd_X11_twinge (List.forall_mem_cons.mpr ⟨List.mem_cons_of_mem _ (List.mem_append_left _ (List.mem_of_getElem? (i := 1) rfl)), List.forall_mem_cons.mpr ⟨List.mem_cons_of_mem _ (List.mem_append_left _ (List.mem_of_getElem? (i := 2) rfl)), List.forall_mem_cons.mpr ⟨List.mem_cons_of_mem _ (List.mem_append_left _ (List.mem_of_getElem? (i := 3) rfl)), List.forall_mem_cons.mpr ⟨List.mem_cons_of_mem _ (List.mem_append_left _ (List.mem_of_getElem? (i := 4) rfl)), nowords_in⟩⟩⟩⟩)) ggX11_twinge_X11_isIn
set_option maxRecDepth 20000 in
theorem ggX11_twinge_X11_is : GoodIn wsX11_twinge wsX11_is := goodIn_by gd_X11_twinge (List.forall_mem_cons.mpr ⟨List.mem_cons_of_mem _ (List.mem_append_left _ (List.mem_of_getElem? (i := 17) rfl)), List.forall_mem_append.mpr ⟨List.forall_mem_cons.mpr ⟨List.mem_cons_of_mem _ (List.mem_append_left _ (List.mem_of_getElem? (i := 18) rfl)), nowords_in⟩, (fun _ h => List.mem_cons_of_mem _ (List.mem_append_right _ (h)))⟩⟩)
set_option maxRecDepth 20000 in
theorem gX11_twinge_X11_is : GoodIn wsX11_twinge (wsV RX11 82 RX11 yX11_is wsX11_is) := goodIn_app (goodIn_by gd_X11_twinge (List.forall_mem_cons.mpr ⟨List.mem_cons_of_mem _ (List.mem_append_left _ (List.mem_of_getElem? (i := 14) rfl)), List.forall_mem_cons.mpr ⟨List.mem_cons_of_mem _ (List.mem_append_left _ (List.mem_of_getElem? (i := 15) rfl)), List.forall_mem_cons.mpr ⟨List.mem_cons_of_mem _ (List.mem_append_left _ (List.mem_of_getElem? (i := 16) rfl)), List.forall_mem_cons.mpr ⟨List.mem_cons_of_mem _ (List.mem_append_left _ (List.mem_of_getElem? (i := 4) rfl)), nowords_in⟩⟩⟩⟩)) ggX11_twinge_X11_is
set_option maxRecDepth 20000 in
theorem ggX11_twinge_X11_twingeRow : GoodIn wsX11_twinge wsX11_twingeRow := goodIn_by gd_X11_twinge (List.forall_mem_cons.mpr ⟨List.mem_cons_of_mem _ (List.mem_append_left _ (List.mem_of_getElem? (i := 21) rfl)), nowords_in⟩)
set_option maxRecDepth 20000 in
theorem gX11_twinge_X11_twingeRow : GoodIn wsX11_twinge (va_wsS RX11 225 yX11_twingeRow wsX11_twingeRow) := goodIn_app (goodIn_by gd_X11_twinge (List.forall_mem_cons.mpr ⟨List.mem_cons_of_mem _ (List.mem_append_left _ (List.mem_of_getElem? (i := 19) rfl)), List.forall_mem_cons.mpr ⟨List.mem_cons_of_mem _ (List.mem_append_left _ (List.mem_of_getElem? (i := 20) rfl)), List.forall_mem_cons.mpr ⟨List.mem_cons_of_mem _ (List.mem_append_left _ (List.mem_of_getElem? (i := 4) rfl)), nowords_in⟩⟩⟩)) ggX11_twinge_X11_twingeRow
theorem dX11_twinge_0 : decode cX11_twinge 0 = .ok (.aload_n 0, 1) := by decide +kernel
theorem dX11_twinge_1 : decode cX11_twinge 1 = .ok (.iload_n 1, 1) := by decide +kernel
theorem dX11_twinge_2 : decode cX11_twinge 2 = .ok (.iload_n 2, 1) := by decide +kernel
theorem dX11_twinge_3 : decode cX11_twinge 3 = .ok (.invokevirtual 270, 3) := by decide +kernel
theorem dX11_twinge_6 : decode cX11_twinge 6 = .ok (.ifCond .ne 9, 3) := by decide +kernel
theorem dX11_twinge_9 : decode cX11_twinge 9 = .ok (.aload_n 0, 1) := by decide +kernel
theorem dX11_twinge_10 : decode cX11_twinge 10 = .ok (.iconst 1, 1) := by decide +kernel
theorem dX11_twinge_11 : decode cX11_twinge 11 = .ok (.invokevirtual 82, 3) := by decide +kernel
theorem dX11_twinge_14 : decode cX11_twinge 14 = .ok (.ireturn, 1) := by decide +kernel
theorem dX11_twinge_15 : decode cX11_twinge 15 = .ok (.aload_n 0, 1) := by decide +kernel
theorem dX11_twinge_16 : decode cX11_twinge 16 = .ok (.getfield 7, 3) := by decide +kernel
theorem dX11_twinge_19 : decode cX11_twinge 19 = .ok (.iload_n 1, 1) := by decide +kernel
theorem dX11_twinge_20 : decode cX11_twinge 20 = .ok (.iload_n 2, 1) := by decide +kernel
theorem dX11_twinge_21 : decode cX11_twinge 21 = .ok (.invokestatic 225, 3) := by decide +kernel
theorem dX11_twinge_24 : decode cX11_twinge 24 = .ok (.iload_n 3, 1) := by decide +kernel
theorem dX11_twinge_25 : decode cX11_twinge 25 = .ok (.ifCond .eq 7, 3) := by decide +kernel
theorem dX11_twinge_28 : decode cX11_twinge 28 = .ok (.iconst 1, 1) := by decide +kernel
theorem dX11_twinge_29 : decode cX11_twinge 29 = .ok (.goto 4, 3) := by decide +kernel
theorem dX11_twinge_32 : decode cX11_twinge 32 = .ok (.iconst 0, 1) := by decide +kernel
theorem dX11_twinge_33 : decode cX11_twinge 33 = .ok (.iastore, 1) := by decide +kernel
theorem dX11_twinge_34 : decode cX11_twinge 34 = .ok (.aload_n 0, 1) := by decide +kernel
theorem dX11_twinge_35 : decode cX11_twinge 35 = .ok (.iconst 0, 1) := by decide +kernel
theorem dX11_twinge_36 : decode cX11_twinge 36 = .ok (.invokevirtual 82, 3) := by decide +kernel
theorem dX11_twinge_39 : decode cX11_twinge 39 = .ok (.ireturn, 1) := by decide +kernel
abbrev rmX11_twinge : Room := { frames := 2, cells := 0, slots := 0, locals := 43 }
set_option maxHeartbeats 4000000 in
set_option maxRecDepth 100000 in
theorem kX11_twinge (l : Launch) (D : va_G) (cy : Nat → ClassId) (h0 : Nat) (a0 : Nat → Nat) (s0 : Rc) (p1 : Int32) (p2 : Int32) (p3 : Int32) (res : Int32 × Rc) (h : fX11_twinge p1 p2 p3 s0 = some res) : CZ l D cy yX11_twinge wsX11_twinge rmX11_twinge [.ref h0, .int p1, .int p2, .int p3] (flat [WX11 cy h0 a0 s0]) (flat [WX11 cy h0 a0 res.2]) res.1 := by
  refine CZ.of (cc := cX11_twinge) (maxL := 4) (by decide) rfl (Nat.le_of_ble_eq_true rfl) ?_
  intro p e s m args below meth c A QQ ls E hr
  obtain ⟨hx, hb, hml, hown, hts, hK, hN, hP, hD, hA, hl⟩ := E
  have hret : ∀ (pc : Nat) (H : Heap) (locs : List Loc) (ls : Array Slot) (u : Int32 × Rc), u = res → va_P D vwCl (flat [WX11 cy h0 a0 u.2]) H → va_D A (flat [WX11 cy h0 a0 u.2]) → va_S A s.heap H locs → isb u.1 = true → decode cX11_twinge pc = .ok (.ireturn, 1) → W p l e rmX11_twinge s m args below meth c H locs 0 0 QQ (F0 m pc ls [.int u.1]) := by
    intro pc H locs ls u hu hP hD hS hz hd; subst hu; exact hr pc H locs ls _ rfl hP hD hS hz hd
  clear hr
  have hl : lv_has ls 4 [(0, .ref h0), (1, .int p1), (2, .int p2), (3, .int p3)] := hl
  have hinX11 : ∀ w ∈ wsX110, w ∈ wsX11_twinge := fun _ h => List.mem_cons_of_mem _ (List.mem_append_right _ h)
  unfold fX11_twinge at h
  suffices key : ∀ (H : Heap) (locs : List Loc), va_P D vwCl (flat [WX11 cy h0 a0 s0]) H → va_S A s.heap H locs → W p l e rmX11_twinge s m args below meth c H locs 0 0 QQ (F0 m 0 ls []) from key _ _ hP va_S.rf
  clear hP
  intro H locs hP hS
  refine lv_aload_n hx hb dX11_twinge_0 rfl (lv_at hl 0 rfl) ?_
  refine lv_iload_n hx hb dX11_twinge_1 rfl (lv_at hl 1 rfl) ?_
  refine lv_iload_n hx hb dX11_twinge_2 rfl (lv_at hl 2 rfl) ?_
  refine ca_z (w' := [WX11 cy h0 a0 s0]) (rn_V (As := [.int p1, .int p2]) (rest := []) ⟨hx, hb, hml, hown, hts⟩ (kX11_isIn l D cy h0 a0 s0 p1 p2 _ rfl H.size) (cwV 2 hts gX11_twinge_X11_isIn rfl rfl rfl (by decide +kernel) ⟨Nat.le_of_ble_eq_true rfl, Nat.le_of_ble_eq_true rfl⟩) hK hN hP hD [0] rfl rfl (ci := 11) (q0 := 0) rfl rfl rfl rfl hl.1 rfl (Nat.le_of_ble_eq_true rfl) dX11_twinge_3 ⟨Nat.le_refl 0, Nat.le_refl 0⟩) hP hD hS hA [0] ⟨rfl, rfl, rfl, rfl⟩ (fun b1 H locs hP hD hS => ?_)
  refine lv_if_ne (tgt := 15) hx hb dX11_twinge_6 (by decide) (fun c2 => ?_) (fun c2 => ?_)
  · replace h := (if_neg c2).symm.trans h
    refine lv_aload_n hx hb dX11_twinge_15 rfl (lv_at hl 0 rfl) ?_
    refine va_get (D := D) (ci := 11) (v := .ref (a0 0)) (C := RX11) (T := TX11) (N := 38) hx hb hts hinX11 hown hK hP 0 rfl rfl 0 (by decide) (hts (.fieldLink RX11 7 "KneeBenchModel" "at" "[I") (List.mem_of_getElem? (i := 1) rfl)) (fun _ h9 => h9) rfl dX11_twinge_16 ?_
    refine lv_iload_n hx hb dX11_twinge_19 rfl (lv_at hl 1 rfl) ?_
    refine lv_iload_n hx hb dX11_twinge_20 rfl (lv_at hl 2 rfl) ?_
    refine ca_i (w' := [WX11 cy h0 a0 s0]) (rn_S (As := [.int p1, .int p2]) (rest := [.ref (a0 0)]) ⟨hx, hb, hml, hown, hts⟩ (kX11_twingeRow l D cy p1 p2 _ rfl H.size) (va_cwS 2 hts gX11_twinge_X11_twingeRow rfl rfl rfl (by decide +kernel) ⟨Nat.le_of_ble_eq_true rfl, Nat.le_of_ble_eq_true rfl⟩) hK hN hP hD [] rfl rfl rfl hl.1 rfl (Nat.le_of_ble_eq_true rfl) dX11_twinge_21 ⟨Nat.le_refl 0, Nat.le_refl 0⟩) hP hD hS hA [] ⟨rfl, rfl, rfl, rfl⟩ (fun H locs hP hD hS => ?_)
    refine lv_iload_n hx hb dX11_twinge_24 rfl (lv_at hl 3 rfl) ?_
    refine lv_if_eq (tgt := 32) hx hb dX11_twinge_25 (by decide) (fun c3 => ?_) (fun c3 => ?_)
    · replace h := (if_pos c3).symm.trans h
      refine lv_iconst (v := 0) hx hb dX11_twinge_32 (by decide) ?_
      obtain ⟨g4, h⟩ := gd_elim h
      obtain ⟨s0_5, es, h⟩ := lt_elim h
      refine va_iast hx hb hK hP hD hS 1 1 rfl rfl (inb_in g4) dX11_twinge_33 (fun H locs hP hD hS => ?_)
      have hP : va_P D vwCl (flat [WX11 cy h0 a0 s0_5]) H := by rw [es]; exact hP
      have hD : va_D A (flat [WX11 cy h0 a0 s0_5]) := by rw [es]; exact hD
      clear es
      refine lv_aload_n hx hb dX11_twinge_34 rfl (lv_at hl 0 rfl) ?_
      refine lv_iconst (v := 0) hx hb dX11_twinge_35 (by decide) ?_
      obtain ⟨r6, hr6, h⟩ := lt_elim h
      refine ca_z (w' := [WX11 cy h0 a0 r6.2]) (rn_V (As := [.int (0 : Int32)]) (rest := []) ⟨hx, hb, hml, hown, hts⟩ (kX11_is l D cy h0 a0 s0_5 (0 : Int32) r6 hr6.symm H.size) (cwV 1 hts gX11_twinge_X11_is rfl rfl rfl (by decide +kernel) ⟨Nat.le_of_ble_eq_true rfl, Nat.le_of_ble_eq_true rfl⟩) hK hN hP hD [0] rfl rfl (ci := 11) (q0 := 0) rfl rfl rfl rfl hl.1 rfl (Nat.le_of_ble_eq_true rfl) dX11_twinge_36 ⟨Nat.le_refl 0, Nat.le_refl 0⟩) hP hD hS hA [0] ⟨rfl, rfl, rfl, rfl⟩ (fun b7 H locs hP hD hS => ?_)
      exact hret 39 H locs ls (r6.1, r6.2) (Option.some.inj h) hP hD hS b7 dX11_twinge_39
    · replace h := (if_neg c3).symm.trans h
      refine lv_iconst (v := 1) hx hb dX11_twinge_28 (by decide) ?_
      refine lv_goto (tgt := 33) hx hb dX11_twinge_29 (by decide) ?_
      obtain ⟨g8, h⟩ := gd_elim h
      obtain ⟨s0_9, es, h⟩ := lt_elim h
      refine va_iast hx hb hK hP hD hS 1 1 rfl rfl (inb_in g8) dX11_twinge_33 (fun H locs hP hD hS => ?_)
      have hP : va_P D vwCl (flat [WX11 cy h0 a0 s0_9]) H := by rw [es]; exact hP
      have hD : va_D A (flat [WX11 cy h0 a0 s0_9]) := by rw [es]; exact hD
      clear es
      refine lv_aload_n hx hb dX11_twinge_34 rfl (lv_at hl 0 rfl) ?_
      refine lv_iconst (v := 0) hx hb dX11_twinge_35 (by decide) ?_
      obtain ⟨r10, hr10, h⟩ := lt_elim h
      refine ca_z (w' := [WX11 cy h0 a0 r10.2]) (rn_V (As := [.int (0 : Int32)]) (rest := []) ⟨hx, hb, hml, hown, hts⟩ (kX11_is l D cy h0 a0 s0_9 (0 : Int32) r10 hr10.symm H.size) (cwV 1 hts gX11_twinge_X11_is rfl rfl rfl (by decide +kernel) ⟨Nat.le_of_ble_eq_true rfl, Nat.le_of_ble_eq_true rfl⟩) hK hN hP hD [0] rfl rfl (ci := 11) (q0 := 0) rfl rfl rfl rfl hl.1 rfl (Nat.le_of_ble_eq_true rfl) dX11_twinge_36 ⟨Nat.le_refl 0, Nat.le_refl 0⟩) hP hD hS hA [0] ⟨rfl, rfl, rfl, rfl⟩ (fun b11 H locs hP hD hS => ?_)
      exact hret 39 H locs ls (r10.1, r10.2) (Option.some.inj h) hP hD hS b11 dX11_twinge_39
  · replace h := (if_pos c2).symm.trans h
    refine lv_aload_n hx hb dX11_twinge_9 rfl (lv_at hl 0 rfl) ?_
    refine lv_iconst (v := 1) hx hb dX11_twinge_10 (by decide) ?_
    obtain ⟨r12, hr12, h⟩ := lt_elim h
    refine ca_z (w' := [WX11 cy h0 a0 r12.2]) (rn_V (As := [.int (1 : Int32)]) (rest := []) ⟨hx, hb, hml, hown, hts⟩ (kX11_is l D cy h0 a0 s0 (1 : Int32) r12 hr12.symm H.size) (cwV 1 hts gX11_twinge_X11_is rfl rfl rfl (by decide +kernel) ⟨Nat.le_of_ble_eq_true rfl, Nat.le_of_ble_eq_true rfl⟩) hK hN hP hD [0] rfl rfl (ci := 11) (q0 := 0) rfl rfl rfl rfl hl.1 rfl (Nat.le_of_ble_eq_true rfl) dX11_twinge_11 ⟨Nat.le_refl 0, Nat.le_refl 0⟩) hP hD hS hA [0] ⟨rfl, rfl, rfl, rfl⟩ (fun b13 H locs hP hD hS => ?_)
    exact hret 14 H locs ls (r12.1, r12.2) (Option.some.inj h) hP hD hS b13 dX11_twinge_14
theorem gd_X11_twinges : wsX11_twinges.all goodWord = true := by decide +kernel
set_option maxRecDepth 20000 in
theorem ggX11_twinges_X11_isIn : GoodIn wsX11_twinges wsX11_isIn := goodIn_by gd_X11_twinges (List.forall_mem_cons.mpr ⟨List.mem_cons_of_mem _ (List.mem_append_left _ (List.mem_append_left _ (List.mem_of_getElem? (i := 5) rfl))), List.forall_mem_append.mpr ⟨List.forall_mem_cons.mpr ⟨List.mem_cons_of_mem _ (List.mem_append_left _ (List.mem_append_left _ (List.mem_of_getElem? (i := 6) rfl))), List.forall_mem_cons.mpr ⟨List.mem_cons_of_mem _ (List.mem_append_left _ (List.mem_append_left _ (List.mem_of_getElem? (i := 7) rfl))), List.forall_mem_cons.mpr ⟨List.mem_cons_of_mem _ (List.mem_append_left _ (List.mem_append_left _ (List.mem_of_getElem? (i := 8) rfl))), List.forall_mem_cons.mpr ⟨List.mem_cons_of_mem _ (List.mem_append_left _ (List.mem_append_left _ (List.mem_of_getElem? (i := 4) rfl))), List.forall_mem_cons.mpr ⟨List.mem_cons_of_mem _ (List.mem_append_left _ (List.mem_append_left _ (List.mem_of_getElem? (i := 9) rfl))), List.forall_mem_cons.mpr ⟨List.mem_cons_of_mem _ (List.mem_append_left _ (List.mem_append_left _ (List.mem_of_getElem? (i := 0) rfl))), List.forall_mem_cons.mpr ⟨List.mem_cons_of_mem _ (List.mem_append_left _ (List.mem_append_left _ (List.mem_of_getElem? (i := 10) rfl))), List.forall_mem_cons.mpr ⟨List.mem_cons_of_mem _ (List.mem_append_left _ (List.mem_append_left _ (List.mem_of_getElem? (i := 11) rfl))), List.forall_mem_cons.mpr ⟨List.mem_cons_of_mem _ (List.mem_append_left _ (List.mem_append_left _ (List.mem_of_getElem? (i := 12) rfl))), List.forall_mem_cons.mpr ⟨List.mem_cons_of_mem _ (List.mem_append_left _ (List.mem_append_left _ (List.mem_of_getElem? (i := 13) rfl))), nowords_in⟩⟩⟩⟩⟩⟩⟩⟩⟩⟩, (fun _ h => List.mem_cons_of_mem _ (List.mem_append_right _ (h)))⟩⟩)
set_option maxRecDepth 20000 in
theorem gX11_twinges_X11_isIn : GoodIn wsX11_twinges (wsV RX11 270 RX11 yX11_isIn wsX11_isIn) := goodIn_app (goodIn_by gd_X11_twinges (List.forall_mem_cons.mpr ⟨List.mem_cons_of_mem _ (List.mem_append_left _ (List.mem_append_left _ (List.mem_of_getElem? (i := 1) rfl))), List.forall_mem_cons.mpr ⟨List.mem_cons_of_mem _ (List.mem_append_left _ (List.mem_append_left _ (List.mem_of_getElem? (i := 2) rfl))), List.forall_mem_cons.mpr ⟨List.mem_cons_of_mem _ (List.mem_append_left _ (List.mem_append_left _ (List.mem_of_getElem? (i := 3) rfl))), List.forall_mem_cons.mpr ⟨List.mem_cons_of_mem _ (List.mem_append_left _ (List.mem_append_left _ (List.mem_of_getElem? (i := 4) rfl))), nowords_in⟩⟩⟩⟩)) ggX11_twinges_X11_isIn
set_option maxRecDepth 20000 in
theorem ggX11_twinges_X11_twingeRow : GoodIn wsX11_twinges wsX11_twingeRow := goodIn_by gd_X11_twinges (List.forall_mem_cons.mpr ⟨List.mem_cons_of_mem _ (List.mem_append_left _ (List.mem_append_left _ (List.mem_of_getElem? (i := 16) rfl))), nowords_in⟩)
set_option maxRecDepth 20000 in
theorem gX11_twinges_X11_twingeRow : GoodIn wsX11_twinges (va_wsS RX11 225 yX11_twingeRow wsX11_twingeRow) := goodIn_app (goodIn_by gd_X11_twinges (List.forall_mem_cons.mpr ⟨List.mem_cons_of_mem _ (List.mem_append_left _ (List.mem_append_left _ (List.mem_of_getElem? (i := 14) rfl))), List.forall_mem_cons.mpr ⟨List.mem_cons_of_mem _ (List.mem_append_left _ (List.mem_append_left _ (List.mem_of_getElem? (i := 15) rfl))), List.forall_mem_cons.mpr ⟨List.mem_cons_of_mem _ (List.mem_append_left _ (List.mem_append_left _ (List.mem_of_getElem? (i := 4) rfl))), nowords_in⟩⟩⟩)) ggX11_twinges_X11_twingeRow
set_option maxRecDepth 20000 in
theorem ggX11_twinges_X11_gives : GoodIn wsX11_twinges wsX11_gives := goodIn_by gd_X11_twinges (List.forall_mem_cons.mpr ⟨List.mem_cons_of_mem _ (List.mem_append_left _ (List.mem_append_left _ (List.mem_of_getElem? (i := 20) rfl))), List.forall_mem_append.mpr ⟨List.forall_mem_cons.mpr ⟨List.mem_cons_of_mem _ (List.mem_append_left _ (List.mem_append_left _ (List.mem_of_getElem? (i := 21) rfl))), nowords_in⟩, (fun _ h => List.mem_cons_of_mem _ (List.mem_append_right _ (h)))⟩⟩)
set_option maxRecDepth 20000 in
theorem gX11_twinges_X11_gives : GoodIn wsX11_twinges (wsV RX11 79 RX11 yX11_gives wsX11_gives) := goodIn_app (goodIn_by gd_X11_twinges (List.forall_mem_cons.mpr ⟨List.mem_cons_of_mem _ (List.mem_append_left _ (List.mem_append_left _ (List.mem_of_getElem? (i := 17) rfl))), List.forall_mem_cons.mpr ⟨List.mem_cons_of_mem _ (List.mem_append_left _ (List.mem_append_left _ (List.mem_of_getElem? (i := 18) rfl))), List.forall_mem_cons.mpr ⟨List.mem_cons_of_mem _ (List.mem_append_left _ (List.mem_append_left _ (List.mem_of_getElem? (i := 19) rfl))), List.forall_mem_cons.mpr ⟨List.mem_cons_of_mem _ (List.mem_append_left _ (List.mem_append_left _ (List.mem_of_getElem? (i := 4) rfl))), nowords_in⟩⟩⟩⟩)) ggX11_twinges_X11_gives
set_option maxRecDepth 20000 in
theorem ggX11_twinges_X11_refuse : GoodIn wsX11_twinges wsX11_refuse := goodIn_by gd_X11_twinges (List.forall_mem_cons.mpr ⟨List.mem_cons_of_mem _ (List.mem_append_left _ (List.mem_append_right _ (List.mem_of_getElem? (i := 1) rfl))), List.forall_mem_append.mpr ⟨List.forall_mem_cons.mpr ⟨List.mem_cons_of_mem _ (List.mem_append_left _ (List.mem_append_left _ (List.mem_of_getElem? (i := 21) rfl))), nowords_in⟩, (fun _ h => List.mem_cons_of_mem _ (List.mem_append_right _ (h)))⟩⟩)
set_option maxRecDepth 20000 in
theorem gX11_twinges_X11_refuse : GoodIn wsX11_twinges (wsV RX11 75 RX11 yX11_refuse wsX11_refuse) := goodIn_app (goodIn_by gd_X11_twinges (List.forall_mem_cons.mpr ⟨List.mem_cons_of_mem _ (List.mem_append_left _ (List.mem_append_left _ (List.mem_of_getElem? (i := 22) rfl))), List.forall_mem_cons.mpr ⟨List.mem_cons_of_mem _ (List.mem_append_left _ (List.mem_append_left _ (List.mem_of_getElem? (i := 23) rfl))), List.forall_mem_cons.mpr ⟨List.mem_cons_of_mem _ (List.mem_append_left _ (List.mem_append_right _ (List.mem_of_getElem? (i := 0) rfl))), List.forall_mem_cons.mpr ⟨List.mem_cons_of_mem _ (List.mem_append_left _ (List.mem_append_left _ (List.mem_of_getElem? (i := 4) rfl))), nowords_in⟩⟩⟩⟩)) ggX11_twinges_X11_refuse
theorem dX11_twinges_0 : decode cX11_twinges 0 = .ok (.aload_n 0, 1) := by decide +kernel
theorem dX11_twinges_1 : decode cX11_twinges 1 = .ok (.iload_n 1, 1) := by decide +kernel
theorem dX11_twinges_2 : decode cX11_twinges 2 = .ok (.iload_n 2, 1) := by decide +kernel
theorem dX11_twinges_3 : decode cX11_twinges 3 = .ok (.invokevirtual 270, 3) := by decide +kernel
theorem dX11_twinges_6 : decode cX11_twinges 6 = .ok (.ifCond .eq 20, 3) := by decide +kernel
theorem dX11_twinges_9 : decode cX11_twinges 9 = .ok (.aload_n 0, 1) := by decide +kernel
theorem dX11_twinges_10 : decode cX11_twinges 10 = .ok (.aload_n 0, 1) := by decide +kernel
theorem dX11_twinges_11 : decode cX11_twinges 11 = .ok (.getfield 7, 3) := by decide +kernel
theorem dX11_twinges_14 : decode cX11_twinges 14 = .ok (.iload_n 1, 1) := by decide +kernel
theorem dX11_twinges_15 : decode cX11_twinges 15 = .ok (.iload_n 2, 1) := by decide +kernel
theorem dX11_twinges_16 : decode cX11_twinges 16 = .ok (.invokestatic 225, 3) := by decide +kernel
theorem dX11_twinges_19 : decode cX11_twinges 19 = .ok (.iaload, 1) := by decide +kernel
theorem dX11_twinges_20 : decode cX11_twinges 20 = .ok (.invokevirtual 79, 3) := by decide +kernel
theorem dX11_twinges_23 : decode cX11_twinges 23 = .ok (.goto 8, 3) := by decide +kernel
theorem dX11_twinges_26 : decode cX11_twinges 26 = .ok (.aload_n 0, 1) := by decide +kernel
theorem dX11_twinges_27 : decode cX11_twinges 27 = .ok (.iconst 1, 1) := by decide +kernel
theorem dX11_twinges_28 : decode cX11_twinges 28 = .ok (.invokevirtual 75, 3) := by decide +kernel
theorem dX11_twinges_31 : decode cX11_twinges 31 = .ok (.ireturn, 1) := by decide +kernel
abbrev rmX11_twinges : Room := { frames := 2, cells := 0, slots := 0, locals := 43 }
set_option maxHeartbeats 4000000 in
set_option maxRecDepth 100000 in
theorem kX11_twinges (l : Launch) (D : va_G) (cy : Nat → ClassId) (h0 : Nat) (a0 : Nat → Nat) (s0 : Rc) (p1 : Int32) (p2 : Int32) (res : Int32 × Rc) (h : fX11_twinges p1 p2 s0 = some res) : CI l D cy yX11_twinges wsX11_twinges rmX11_twinges [.ref h0, .int p1, .int p2] (flat [WX11 cy h0 a0 s0]) (flat [WX11 cy h0 a0 res.2]) res.1 := by
  refine CI.of (cc := cX11_twinges) (maxL := 3) (by decide) rfl (Nat.le_of_ble_eq_true rfl) ?_
  intro p e s m args below meth c A QQ ls E hr
  obtain ⟨hx, hb, hml, hown, hts, hK, hN, hP, hD, hA, hl⟩ := E
  have hret : ∀ (pc : Nat) (H : Heap) (locs : List Loc) (ls : Array Slot) (u : Int32 × Rc), u = res → va_P D vwCl (flat [WX11 cy h0 a0 u.2]) H → va_D A (flat [WX11 cy h0 a0 u.2]) → va_S A s.heap H locs → decode cX11_twinges pc = .ok (.ireturn, 1) → W p l e rmX11_twinges s m args below meth c H locs 0 0 QQ (F0 m pc ls [.int u.1]) := by
    intro pc H locs ls u hu hP hD hS hd; subst hu; exact hr pc H locs ls _ rfl hP hD hS hd
  clear hr
  have hl : lv_has ls 3 [(0, .ref h0), (1, .int p1), (2, .int p2)] := hl
  have hinX11 : ∀ w ∈ wsX110, w ∈ wsX11_twinges := fun _ h => List.mem_cons_of_mem _ (List.mem_append_right _ h)
  unfold fX11_twinges at h
  suffices key : ∀ (H : Heap) (locs : List Loc), va_P D vwCl (flat [WX11 cy h0 a0 s0]) H → va_S A s.heap H locs → W p l e rmX11_twinges s m args below meth c H locs 0 0 QQ (F0 m 0 ls []) from key _ _ hP va_S.rf
  clear hP
  intro H locs hP hS
  refine lv_aload_n hx hb dX11_twinges_0 rfl (lv_at hl 0 rfl) ?_
  refine lv_iload_n hx hb dX11_twinges_1 rfl (lv_at hl 1 rfl) ?_
  refine lv_iload_n hx hb dX11_twinges_2 rfl (lv_at hl 2 rfl) ?_
  refine ca_z (w' := [WX11 cy h0 a0 s0]) (rn_V (As := [.int p1, .int p2]) (rest := []) ⟨hx, hb, hml, hown, hts⟩ (kX11_isIn l D cy h0 a0 s0 p1 p2 _ rfl H.size) (cwV 2 hts gX11_twinges_X11_isIn rfl rfl rfl (by decide +kernel) ⟨Nat.le_of_ble_eq_true rfl, Nat.le_of_ble_eq_true rfl⟩) hK hN hP hD [0] rfl rfl (ci := 11) (q0 := 0) rfl rfl rfl rfl hl.1 rfl (Nat.le_of_ble_eq_true rfl) dX11_twinges_3 ⟨Nat.le_refl 0, Nat.le_refl 0⟩) hP hD hS hA [0] ⟨rfl, rfl, rfl, rfl⟩ (fun b1 H locs hP hD hS => ?_)
  refine lv_if_eq (tgt := 26) hx hb dX11_twinges_6 (by decide) (fun c2 => ?_) (fun c2 => ?_)
  · replace h := (if_pos c2).symm.trans h
    refine lv_aload_n hx hb dX11_twinges_26 rfl (lv_at hl 0 rfl) ?_
    refine lv_iconst (v := 1) hx hb dX11_twinges_27 (by decide) ?_
    obtain ⟨r3, hr3, h⟩ := lt_elim h
    refine ca_i (w' := [WX11 cy h0 a0 r3.2]) (rn_V (As := [.int (1 : Int32)]) (rest := []) ⟨hx, hb, hml, hown, hts⟩ (kX11_refuse l D cy h0 a0 s0 (1 : Int32) r3 hr3.symm H.size) (cwV 1 hts gX11_twinges_X11_refuse rfl rfl rfl (by decide +kernel) ⟨Nat.le_of_ble_eq_true rfl, Nat.le_of_ble_eq_true rfl⟩) hK hN hP hD [0] rfl rfl (ci := 11) (q0 := 0) rfl rfl rfl rfl hl.1 rfl (Nat.le_of_ble_eq_true rfl) dX11_twinges_28 ⟨Nat.le_refl 0, Nat.le_refl 0⟩) hP hD hS hA [0] ⟨rfl, rfl, rfl, rfl⟩ (fun H locs hP hD hS => ?_)
    exact hret 31 H locs ls (r3.1, r3.2) (Option.some.inj h) hP hD hS dX11_twinges_31
  · replace h := (if_neg c2).symm.trans h
    refine lv_aload_n hx hb dX11_twinges_9 rfl (lv_at hl 0 rfl) ?_
    refine lv_aload_n hx hb dX11_twinges_10 rfl (lv_at hl 0 rfl) ?_
    refine va_get (D := D) (ci := 11) (v := .ref (a0 0)) (C := RX11) (T := TX11) (N := 38) hx hb hts hinX11 hown hK hP 0 rfl rfl 0 (by decide) (hts (.fieldLink RX11 7 "KneeBenchModel" "at" "[I") (List.mem_of_getElem? (i := 1) rfl)) (fun _ h9 => h9) rfl dX11_twinges_11 ?_
    refine lv_iload_n hx hb dX11_twinges_14 rfl (lv_at hl 1 rfl) ?_
    refine lv_iload_n hx hb dX11_twinges_15 rfl (lv_at hl 2 rfl) ?_
    refine ca_i (w' := [WX11 cy h0 a0 s0]) (rn_S (As := [.int p1, .int p2]) (rest := [.ref (a0 0), .ref h0]) ⟨hx, hb, hml, hown, hts⟩ (kX11_twingeRow l D cy p1 p2 _ rfl H.size) (va_cwS 2 hts gX11_twinges_X11_twingeRow rfl rfl rfl (by decide +kernel) ⟨Nat.le_of_ble_eq_true rfl, Nat.le_of_ble_eq_true rfl⟩) hK hN hP hD [] rfl rfl rfl hl.1 rfl (Nat.le_of_ble_eq_true rfl) dX11_twinges_16 ⟨Nat.le_refl 0, Nat.le_refl 0⟩) hP hD hS hA [] ⟨rfl, rfl, rfl, rfl⟩ (fun H locs hP hD hS => ?_)
    obtain ⟨g4, h⟩ := gd_elim h
    refine va_iald hx hb hK hP 1 1 rfl rfl (inb_in g4) dX11_twinges_19 ?_
    obtain ⟨r5, hr5, h⟩ := lt_elim h
    refine ca_i (w' := [WX11 cy h0 a0 r5.2]) (rn_V (As := [.int (ga s0 0 (fX11_twingeRow p1 p2).toNatClampNeg)]) (rest := []) ⟨hx, hb, hml, hown, hts⟩ (kX11_gives l D cy h0 a0 s0 (ga s0 0 (fX11_twingeRow p1 p2).toNatClampNeg) r5 hr5.symm H.size) (cwV 1 hts gX11_twinges_X11_gives rfl rfl rfl (by decide +kernel) ⟨Nat.le_of_ble_eq_true rfl, Nat.le_of_ble_eq_true rfl⟩) hK hN hP hD [0] rfl rfl (ci := 11) (q0 := 0) rfl rfl rfl rfl hl.1 rfl (Nat.le_of_ble_eq_true rfl) dX11_twinges_20 ⟨Nat.le_refl 0, Nat.le_refl 0⟩) hP hD hS hA [0] ⟨rfl, rfl, rfl, rfl⟩ (fun H locs hP hD hS => ?_)
    refine lv_goto (tgt := 31) hx hb dX11_twinges_23 (by decide) ?_
    exact hret 31 H locs ls (r5.1, r5.2) (Option.some.inj h) hP hD hS dX11_twinges_31
theorem gd_X11_useful : wsX11_useful.all goodWord = true := by decide +kernel
set_option maxRecDepth 20000 in
theorem ggX11_useful_X11_isFarmer : GoodIn wsX11_useful wsX11_isFarmer := goodIn_by gd_X11_useful (List.forall_mem_cons.mpr ⟨List.mem_cons_of_mem _ (List.mem_append_left _ (List.mem_append_left _ (List.mem_of_getElem? (i := 5) rfl))), List.forall_mem_append.mpr ⟨List.forall_mem_cons.mpr ⟨List.mem_cons_of_mem _ (List.mem_append_left _ (List.mem_append_left _ (List.mem_of_getElem? (i := 6) rfl))), nowords_in⟩, (fun _ h => List.mem_cons_of_mem _ (List.mem_append_right _ (h)))⟩⟩)
set_option maxRecDepth 20000 in
theorem gX11_useful_X11_isFarmer : GoodIn wsX11_useful (wsV RX11 267 RX11 yX11_isFarmer wsX11_isFarmer) := goodIn_app (goodIn_by gd_X11_useful (List.forall_mem_cons.mpr ⟨List.mem_cons_of_mem _ (List.mem_append_left _ (List.mem_append_left _ (List.mem_of_getElem? (i := 1) rfl))), List.forall_mem_cons.mpr ⟨List.mem_cons_of_mem _ (List.mem_append_left _ (List.mem_append_left _ (List.mem_of_getElem? (i := 2) rfl))), List.forall_mem_cons.mpr ⟨List.mem_cons_of_mem _ (List.mem_append_left _ (List.mem_append_left _ (List.mem_of_getElem? (i := 3) rfl))), List.forall_mem_cons.mpr ⟨List.mem_cons_of_mem _ (List.mem_append_left _ (List.mem_append_left _ (List.mem_of_getElem? (i := 4) rfl))), nowords_in⟩⟩⟩⟩)) ggX11_useful_X11_isFarmer
set_option maxRecDepth 20000 in
theorem ggX11_useful_X11_refuse : GoodIn wsX11_useful wsX11_refuse := goodIn_by gd_X11_useful (List.forall_mem_cons.mpr ⟨List.mem_cons_of_mem _ (List.mem_append_left _ (List.mem_append_left _ (List.mem_of_getElem? (i := 10) rfl))), List.forall_mem_append.mpr ⟨List.forall_mem_cons.mpr ⟨List.mem_cons_of_mem _ (List.mem_append_left _ (List.mem_append_left _ (List.mem_of_getElem? (i := 11) rfl))), nowords_in⟩, (fun _ h => List.mem_cons_of_mem _ (List.mem_append_right _ (h)))⟩⟩)
set_option maxRecDepth 20000 in
theorem gX11_useful_X11_refuse : GoodIn wsX11_useful (wsV RX11 75 RX11 yX11_refuse wsX11_refuse) := goodIn_app (goodIn_by gd_X11_useful (List.forall_mem_cons.mpr ⟨List.mem_cons_of_mem _ (List.mem_append_left _ (List.mem_append_left _ (List.mem_of_getElem? (i := 7) rfl))), List.forall_mem_cons.mpr ⟨List.mem_cons_of_mem _ (List.mem_append_left _ (List.mem_append_left _ (List.mem_of_getElem? (i := 8) rfl))), List.forall_mem_cons.mpr ⟨List.mem_cons_of_mem _ (List.mem_append_left _ (List.mem_append_left _ (List.mem_of_getElem? (i := 9) rfl))), List.forall_mem_cons.mpr ⟨List.mem_cons_of_mem _ (List.mem_append_left _ (List.mem_append_left _ (List.mem_of_getElem? (i := 4) rfl))), nowords_in⟩⟩⟩⟩)) ggX11_useful_X11_refuse
set_option maxRecDepth 20000 in
theorem ggX11_useful_X11_keptOf : GoodIn wsX11_useful wsX11_keptOf := goodIn_by gd_X11_useful (List.forall_mem_cons.mpr ⟨List.mem_cons_of_mem _ (List.mem_append_left _ (List.mem_append_left _ (List.mem_of_getElem? (i := 15) rfl))), List.forall_mem_append.mpr ⟨List.forall_mem_append.mpr ⟨List.forall_mem_cons.mpr ⟨List.mem_cons_of_mem _ (List.mem_append_left _ (List.mem_append_left _ (List.mem_of_getElem? (i := 6) rfl))), List.forall_mem_cons.mpr ⟨List.mem_cons_of_mem _ (List.mem_append_left _ (List.mem_append_left _ (List.mem_of_getElem? (i := 16) rfl))), List.forall_mem_cons.mpr ⟨List.mem_cons_of_mem _ (List.mem_append_left _ (List.mem_append_left _ (List.mem_of_getElem? (i := 17) rfl))), List.forall_mem_cons.mpr ⟨List.mem_cons_of_mem _ (List.mem_append_left _ (List.mem_append_left _ (List.mem_of_getElem? (i := 18) rfl))), List.forall_mem_cons.mpr ⟨List.mem_cons_of_mem _ (List.mem_append_left _ (List.mem_append_left _ (List.mem_of_getElem? (i := 4) rfl))), List.forall_mem_cons.mpr ⟨List.mem_cons_of_mem _ (List.mem_append_left _ (List.mem_append_left _ (List.mem_of_getElem? (i := 19) rfl))), List.forall_mem_cons.mpr ⟨List.mem_cons_of_mem _ (List.mem_append_left _ (List.mem_append_left _ (List.mem_of_getElem? (i := 20) rfl))), List.forall_mem_cons.mpr ⟨List.mem_cons_of_mem _ (List.mem_append_left _ (List.mem_append_left _ (List.mem_of_getElem? (i := 21) rfl))), List.forall_mem_cons.mpr ⟨List.mem_cons_of_mem _ (List.mem_append_left _ (List.mem_append_left _ (List.mem_of_getElem? (i := 22) rfl))), List.forall_mem_cons.mpr ⟨List.mem_cons_of_mem _ (List.mem_append_left _ (List.mem_append_left _ (List.mem_of_getElem? (i := 23) rfl))), List.forall_mem_cons.mpr ⟨List.mem_cons_of_mem _ (List.mem_append_left _ (List.mem_append_left _ (List.mem_of_getElem? (i := 0) rfl))), List.forall_mem_cons.mpr ⟨List.mem_cons_of_mem _ (List.mem_append_left _ (List.mem_append_right _ (List.mem_append_left _ (List.mem_of_getElem? (i := 0) rfl)))), List.forall_mem_cons.mpr ⟨List.mem_cons_of_mem _ (List.mem_append_left _ (List.mem_append_right _ (List.mem_append_left _ (List.mem_of_getElem? (i := 1) rfl)))), List.forall_mem_cons.mpr ⟨List.mem_cons_of_mem _ (List.mem_append_left _ (List.mem_append_right _ (List.mem_append_left _ (List.mem_of_getElem? (i := 2) rfl)))), List.forall_mem_cons.mpr ⟨List.mem_cons_of_mem _ (List.mem_append_left _ (List.mem_append_right _ (List.mem_append_left _ (List.mem_of_getElem? (i := 3) rfl)))), List.forall_mem_cons.mpr ⟨List.mem_cons_of_mem _ (List.mem_append_left _ (List.mem_append_right _ (List.mem_append_left _ (List.mem_of_getElem? (i := 4) rfl)))), List.forall_mem_cons.mpr ⟨List.mem_cons_of_mem _ (List.mem_append_left _ (List.mem_append_right _ (List.mem_append_left _ (List.mem_of_getElem? (i := 5) rfl)))), List.forall_mem_cons.mpr ⟨List.mem_cons_of_mem _ (List.mem_append_left _ (List.mem_append_right _ (List.mem_append_left _ (List.mem_of_getElem? (i := 6) rfl)))), List.forall_mem_cons.mpr ⟨List.mem_cons_of_mem _ (List.mem_append_left _ (List.mem_append_right _ (List.mem_append_left _ (List.mem_of_getElem? (i := 7) rfl)))), List.forall_mem_cons.mpr ⟨List.mem_cons_of_mem _ (List.mem_append_left _ (List.mem_append_right _ (List.mem_append_left _ (List.mem_of_getElem? (i := 8) rfl)))), List.forall_mem_cons.mpr ⟨List.mem_cons_of_mem _ (List.mem_append_left _ (List.mem_append_right _ (List.mem_append_left _ (List.mem_of_getElem? (i := 9) rfl)))), List.forall_mem_cons.mpr ⟨List.mem_cons_of_mem _ (List.mem_append_left _ (List.mem_append_right _ (List.mem_append_left _ (List.mem_of_getElem? (i := 10) rfl)))), List.forall_mem_cons.mpr ⟨List.mem_cons_of_mem _ (List.mem_append_left _ (List.mem_append_right _ (List.mem_append_left _ (List.mem_of_getElem? (i := 11) rfl)))), List.forall_mem_cons.mpr ⟨List.mem_cons_of_mem _ (List.mem_append_left _ (List.mem_append_right _ (List.mem_append_left _ (List.mem_of_getElem? (i := 12) rfl)))), nowords_in⟩⟩⟩⟩⟩⟩⟩⟩⟩⟩⟩⟩⟩⟩⟩⟩⟩⟩⟩⟩⟩⟩⟩⟩, List.forall_mem_cons.mpr ⟨List.mem_cons_of_mem _ (List.mem_append_left _ (List.mem_append_right _ (List.mem_append_left _ (List.mem_of_getElem? (i := 13) rfl)))), List.forall_mem_cons.mpr ⟨List.mem_cons_of_mem _ (List.mem_append_left _ (List.mem_append_right _ (List.mem_append_left _ (List.mem_of_getElem? (i := 14) rfl)))), List.forall_mem_cons.mpr ⟨List.mem_cons_of_mem _ (List.mem_append_left _ (List.mem_append_right _ (List.mem_append_left _ (List.mem_of_getElem? (i := 15) rfl)))), List.forall_mem_cons.mpr ⟨List.mem_cons_of_mem _ (List.mem_append_left _ (List.mem_append_right _ (List.mem_append_left _ (List.mem_of_getElem? (i := 16) rfl)))), List.forall_mem_cons.mpr ⟨List.mem_cons_of_mem _ (List.mem_append_left _ (List.mem_append_right _ (List.mem_append_left _ (List.mem_of_getElem? (i := 17) rfl)))), List.forall_mem_cons.mpr ⟨List.mem_cons_of_mem _ (List.mem_append_left _ (List.mem_append_right _ (List.mem_append_left _ (List.mem_of_getElem? (i := 18) rfl)))), List.forall_mem_cons.mpr ⟨List.mem_cons_of_mem _ (List.mem_append_left _ (List.mem_append_right _ (List.mem_append_left _ (List.mem_of_getElem? (i := 19) rfl)))), List.forall_mem_cons.mpr ⟨List.mem_cons_of_mem _ (List.mem_append_left _ (List.mem_append_right _ (List.mem_append_left _ (List.mem_of_getElem? (i := 20) rfl)))), List.forall_mem_cons.mpr ⟨List.mem_cons_of_mem _ (List.mem_append_left _ (List.mem_append_right _ (List.mem_append_left _ (List.mem_of_getElem? (i := 21) rfl)))), List.forall_mem_cons.mpr ⟨List.mem_cons_of_mem _ (List.mem_append_left _ (List.mem_append_right _ (List.mem_append_left _ (List.mem_of_getElem? (i := 22) rfl)))), nowords_in⟩⟩⟩⟩⟩⟩⟩⟩⟩⟩⟩, (fun _ h => List.mem_cons_of_mem _ (List.mem_append_right _ (h)))⟩⟩)
set_option maxRecDepth 20000 in
theorem gX11_useful_X11_keptOf : GoodIn wsX11_useful (wsV RX11 338 RX11 yX11_keptOf wsX11_keptOf) := goodIn_app (goodIn_by gd_X11_useful (List.forall_mem_cons.mpr ⟨List.mem_cons_of_mem _ (List.mem_append_left _ (List.mem_append_left _ (List.mem_of_getElem? (i := 12) rfl))), List.forall_mem_cons.mpr ⟨List.mem_cons_of_mem _ (List.mem_append_left _ (List.mem_append_left _ (List.mem_of_getElem? (i := 13) rfl))), List.forall_mem_cons.mpr ⟨List.mem_cons_of_mem _ (List.mem_append_left _ (List.mem_append_left _ (List.mem_of_getElem? (i := 14) rfl))), List.forall_mem_cons.mpr ⟨List.mem_cons_of_mem _ (List.mem_append_left _ (List.mem_append_left _ (List.mem_of_getElem? (i := 4) rfl))), nowords_in⟩⟩⟩⟩)) ggX11_useful_X11_keptOf
set_option maxRecDepth 20000 in
theorem ggX11_useful_X11_gives : GoodIn wsX11_useful wsX11_gives := goodIn_by gd_X11_useful (List.forall_mem_cons.mpr ⟨List.mem_cons_of_mem _ (List.mem_append_left _ (List.mem_append_right _ (List.mem_append_right _ (List.mem_of_getElem? (i := 2) rfl)))), List.forall_mem_append.mpr ⟨List.forall_mem_cons.mpr ⟨List.mem_cons_of_mem _ (List.mem_append_left _ (List.mem_append_left _ (List.mem_of_getElem? (i := 11) rfl))), nowords_in⟩, (fun _ h => List.mem_cons_of_mem _ (List.mem_append_right _ (h)))⟩⟩)
set_option maxRecDepth 20000 in
theorem gX11_useful_X11_gives : GoodIn wsX11_useful (wsV RX11 79 RX11 yX11_gives wsX11_gives) := goodIn_app (goodIn_by gd_X11_useful (List.forall_mem_cons.mpr ⟨List.mem_cons_of_mem _ (List.mem_append_left _ (List.mem_append_right _ (List.mem_append_left _ (List.mem_of_getElem? (i := 23) rfl)))), List.forall_mem_cons.mpr ⟨List.mem_cons_of_mem _ (List.mem_append_left _ (List.mem_append_right _ (List.mem_append_right _ (List.mem_of_getElem? (i := 0) rfl)))), List.forall_mem_cons.mpr ⟨List.mem_cons_of_mem _ (List.mem_append_left _ (List.mem_append_right _ (List.mem_append_right _ (List.mem_of_getElem? (i := 1) rfl)))), List.forall_mem_cons.mpr ⟨List.mem_cons_of_mem _ (List.mem_append_left _ (List.mem_append_left _ (List.mem_of_getElem? (i := 4) rfl))), nowords_in⟩⟩⟩⟩)) ggX11_useful_X11_gives
theorem dX11_useful_0 : decode cX11_useful 0 = .ok (.aload_n 0, 1) := by decide +kernel
theorem dX11_useful_1 : decode cX11_useful 1 = .ok (.iload_n 1, 1) := by decide +kernel
theorem dX11_useful_2 : decode cX11_useful 2 = .ok (.invokevirtual 267, 3) := by decide +kernel
theorem dX11_useful_5 : decode cX11_useful 5 = .ok (.ifCond .ne 9, 3) := by decide +kernel
theorem dX11_useful_8 : decode cX11_useful 8 = .ok (.aload_n 0, 1) := by decide +kernel
theorem dX11_useful_9 : decode cX11_useful 9 = .ok (.iconst 1, 1) := by decide +kernel
theorem dX11_useful_10 : decode cX11_useful 10 = .ok (.invokevirtual 75, 3) := by decide +kernel
theorem dX11_useful_13 : decode cX11_useful 13 = .ok (.ireturn, 1) := by decide +kernel
theorem dX11_useful_14 : decode cX11_useful 14 = .ok (.aload_n 0, 1) := by decide +kernel
theorem dX11_useful_15 : decode cX11_useful 15 = .ok (.invokevirtual 338, 3) := by decide +kernel
theorem dX11_useful_18 : decode cX11_useful 18 = .ok (.istore_n 2, 1) := by decide +kernel
theorem dX11_useful_19 : decode cX11_useful 19 = .ok (.aload_n 0, 1) := by decide +kernel
theorem dX11_useful_20 : decode cX11_useful 20 = .ok (.iload_n 1, 1) := by decide +kernel
theorem dX11_useful_21 : decode cX11_useful 21 = .ok (.putfield 47, 3) := by decide +kernel
theorem dX11_useful_24 : decode cX11_useful 24 = .ok (.aload_n 0, 1) := by decide +kernel
theorem dX11_useful_25 : decode cX11_useful 25 = .ok (.invokevirtual 338, 3) := by decide +kernel
theorem dX11_useful_28 : decode cX11_useful 28 = .ok (.istore_n 3, 1) := by decide +kernel
theorem dX11_useful_29 : decode cX11_useful 29 = .ok (.aload_n 0, 1) := by decide +kernel
theorem dX11_useful_30 : decode cX11_useful 30 = .ok (.iconst (-1), 1) := by decide +kernel
theorem dX11_useful_31 : decode cX11_useful 31 = .ok (.putfield 47, 3) := by decide +kernel
theorem dX11_useful_34 : decode cX11_useful 34 = .ok (.aload_n 0, 1) := by decide +kernel
theorem dX11_useful_35 : decode cX11_useful 35 = .ok (.iload_n 2, 1) := by decide +kernel
theorem dX11_useful_36 : decode cX11_useful 36 = .ok (.iload_n 3, 1) := by decide +kernel
theorem dX11_useful_37 : decode cX11_useful 37 = .ok (.isub, 1) := by decide +kernel
theorem dX11_useful_38 : decode cX11_useful 38 = .ok (.invokevirtual 79, 3) := by decide +kernel
theorem dX11_useful_41 : decode cX11_useful 41 = .ok (.ireturn, 1) := by decide +kernel
abbrev rmX11_useful : Room := { frames := 5, cells := 0, slots := 0, locals := 114 }
set_option maxHeartbeats 4000000 in
set_option maxRecDepth 100000 in
theorem kX11_useful (l : Launch) (D : va_G) (cy : Nat → ClassId) (h0 : Nat) (a0 : Nat → Nat) (s0 : Rc) (p1 : Int32) (res : Int32 × Rc) (h : fX11_useful p1 s0 = some res) : CI l D cy yX11_useful wsX11_useful rmX11_useful [.ref h0, .int p1] (flat [WX11 cy h0 a0 s0]) (flat [WX11 cy h0 a0 res.2]) res.1 := by
  refine CI.of (cc := cX11_useful) (maxL := 4) (by decide) rfl (Nat.le_of_ble_eq_true rfl) ?_
  intro p e s m args below meth c A QQ ls E hr
  obtain ⟨hx, hb, hml, hown, hts, hK, hN, hP, hD, hA, hl⟩ := E
  have hret : ∀ (pc : Nat) (H : Heap) (locs : List Loc) (ls : Array Slot) (u : Int32 × Rc), u = res → va_P D vwCl (flat [WX11 cy h0 a0 u.2]) H → va_D A (flat [WX11 cy h0 a0 u.2]) → va_S A s.heap H locs → decode cX11_useful pc = .ok (.ireturn, 1) → W p l e rmX11_useful s m args below meth c H locs 0 0 QQ (F0 m pc ls [.int u.1]) := by
    intro pc H locs ls u hu hP hD hS hd; subst hu; exact hr pc H locs ls _ rfl hP hD hS hd
  clear hr
  have hl : lv_has ls 4 [(0, .ref h0), (1, .int p1)] := hl
  have hinX11 : ∀ w ∈ wsX110, w ∈ wsX11_useful := fun _ h => List.mem_cons_of_mem _ (List.mem_append_right _ h)
  unfold fX11_useful at h
  suffices key : ∀ (H : Heap) (locs : List Loc), va_P D vwCl (flat [WX11 cy h0 a0 s0]) H → va_S A s.heap H locs → W p l e rmX11_useful s m args below meth c H locs 0 0 QQ (F0 m 0 ls []) from key _ _ hP va_S.rf
  clear hP
  intro H locs hP hS
  refine lv_aload_n hx hb dX11_useful_0 rfl (lv_at hl 0 rfl) ?_
  refine lv_iload_n hx hb dX11_useful_1 rfl (lv_at hl 1 rfl) ?_
  refine ca_z (w' := [WX11 cy h0 a0 s0]) (rn_V (As := [.int p1]) (rest := []) ⟨hx, hb, hml, hown, hts⟩ (kX11_isFarmer l D cy h0 a0 s0 p1 _ rfl H.size) (cwV 1 hts gX11_useful_X11_isFarmer rfl rfl rfl (by decide +kernel) ⟨Nat.le_of_ble_eq_true rfl, Nat.le_of_ble_eq_true rfl⟩) hK hN hP hD [0] rfl rfl (ci := 11) (q0 := 0) rfl rfl rfl rfl hl.1 rfl (Nat.le_of_ble_eq_true rfl) dX11_useful_2 ⟨Nat.le_refl 0, Nat.le_refl 0⟩) hP hD hS hA [0] ⟨rfl, rfl, rfl, rfl⟩ (fun b1 H locs hP hD hS => ?_)
  refine lv_if_ne (tgt := 14) hx hb dX11_useful_5 (by decide) (fun c2 => ?_) (fun c2 => ?_)
  · replace h := (if_neg c2).symm.trans h
    refine lv_aload_n hx hb dX11_useful_14 rfl (lv_at hl 0 rfl) ?_
    obtain ⟨r3, hr3, h⟩ := bd_elim h
    refine ca_i (w' := [WX11 cy h0 a0 s0]) (rn_V (As := []) (rest := []) ⟨hx, hb, hml, hown, hts⟩ (kX11_keptOf l D cy h0 a0 s0 r3 hr3 H.size) (cwV 0 hts gX11_useful_X11_keptOf rfl rfl rfl (by decide +kernel) ⟨Nat.le_of_ble_eq_true rfl, Nat.le_of_ble_eq_true rfl⟩) hK hN hP hD [0] rfl rfl (ci := 11) (q0 := 0) rfl rfl rfl rfl hl.1 rfl (Nat.le_of_ble_eq_true rfl) dX11_useful_15 ⟨Nat.le_refl 0, Nat.le_refl 0⟩) hP hD hS hA [0] ⟨rfl, rfl, rfl, rfl⟩ (fun H locs hP hD hS => ?_)
    refine lv_istore_n (lv' := [(2, .int r3), (0, .ref h0), (1, .int p1)]) hx hb dX11_useful_18 rfl hl (by decide) rfl (fun ls hl => ?_)
    refine lv_aload_n hx hb dX11_useful_19 rfl (lv_at hl 1 rfl) ?_
    refine lv_iload_n hx hb dX11_useful_20 rfl (lv_at hl 2 rfl) ?_
    obtain ⟨s0_4, es, h⟩ := lt_elim h
    refine va_put (D := D) (ci := 11) (v := .int p1) (ty := .int) (C := RX11) (T := TX11) (N := 38) hx hb hts hinX11 tyX11 tyX11_ok nmX11 hown hK hP hD hS 0 rfl rfl 25 (by decide) (hts (.fieldLink RX11 47 "KneeBenchModel" "mute" "I") (List.mem_of_getElem? (i := 1) rfl)) (fun _ h9 => h9) rfl (by decide +kernel) rfl rfl (Nat.le_of_ble_eq_true rfl) dX11_useful_21 (fun H locs hP hD hS => ?_)
    have hP : va_P D vwCl (flat [WX11 cy h0 a0 s0_4]) H := by rw [es]; exact hP
    have hD : va_D A (flat [WX11 cy h0 a0 s0_4]) := by rw [es]; exact hD
    clear es
    refine lv_aload_n hx hb dX11_useful_24 rfl (lv_at hl 1 rfl) ?_
    obtain ⟨r5, hr5, h⟩ := bd_elim h
    refine ca_i (w' := [WX11 cy h0 a0 s0_4]) (rn_V (As := []) (rest := []) ⟨hx, hb, hml, hown, hts⟩ (kX11_keptOf l D cy h0 a0 s0_4 r5 hr5 H.size) (cwV 0 hts gX11_useful_X11_keptOf rfl rfl rfl (by decide +kernel) ⟨Nat.le_of_ble_eq_true rfl, Nat.le_of_ble_eq_true rfl⟩) hK hN hP hD [0] rfl rfl (ci := 11) (q0 := 0) rfl rfl rfl rfl hl.1 rfl (Nat.le_of_ble_eq_true rfl) dX11_useful_25 ⟨Nat.le_refl 0, Nat.le_refl 0⟩) hP hD hS hA [0] ⟨rfl, rfl, rfl, rfl⟩ (fun H locs hP hD hS => ?_)
    refine lv_istore_n (lv' := [(3, .int r5), (2, .int r3), (0, .ref h0), (1, .int p1)]) hx hb dX11_useful_28 rfl hl (by decide) rfl (fun ls hl => ?_)
    refine lv_aload_n hx hb dX11_useful_29 rfl (lv_at hl 2 rfl) ?_
    refine lv_iconst (v := -1) hx hb dX11_useful_30 (by decide) ?_
    obtain ⟨s0_6, es, h⟩ := lt_elim h
    refine va_put (D := D) (ci := 11) (v := .int (-1 : Int32)) (ty := .int) (C := RX11) (T := TX11) (N := 38) hx hb hts hinX11 tyX11 tyX11_ok nmX11 hown hK hP hD hS 0 rfl rfl 25 (by decide) (hts (.fieldLink RX11 47 "KneeBenchModel" "mute" "I") (List.mem_of_getElem? (i := 1) rfl)) (fun _ h9 => h9) rfl (by decide +kernel) rfl rfl (Nat.le_of_ble_eq_true rfl) dX11_useful_31 (fun H locs hP hD hS => ?_)
    have hP : va_P D vwCl (flat [WX11 cy h0 a0 s0_6]) H := by rw [es]; exact hP
    have hD : va_D A (flat [WX11 cy h0 a0 s0_6]) := by rw [es]; exact hD
    clear es
    refine lv_aload_n hx hb dX11_useful_34 rfl (lv_at hl 2 rfl) ?_
    refine lv_iload_n hx hb dX11_useful_35 rfl (lv_at hl 1 rfl) ?_
    refine lv_iload_n hx hb dX11_useful_36 rfl (lv_at hl 0 rfl) ?_
    refine lv_isub hx hb dX11_useful_37 ?_
    obtain ⟨r7, hr7, h⟩ := lt_elim h
    refine ca_i (w' := [WX11 cy h0 a0 r7.2]) (rn_V (As := [.int (r3 - r5)]) (rest := []) ⟨hx, hb, hml, hown, hts⟩ (kX11_gives l D cy h0 a0 s0_6 (r3 - r5) r7 hr7.symm H.size) (cwV 1 hts gX11_useful_X11_gives rfl rfl rfl (by decide +kernel) ⟨Nat.le_of_ble_eq_true rfl, Nat.le_of_ble_eq_true rfl⟩) hK hN hP hD [0] rfl rfl (ci := 11) (q0 := 0) rfl rfl rfl rfl hl.1 rfl (Nat.le_of_ble_eq_true rfl) dX11_useful_38 ⟨Nat.le_refl 0, Nat.le_refl 0⟩) hP hD hS hA [0] ⟨rfl, rfl, rfl, rfl⟩ (fun H locs hP hD hS => ?_)
    exact hret 41 H locs ls (r7.1, r7.2) (Option.some.inj h) hP hD hS dX11_useful_41
  · replace h := (if_pos c2).symm.trans h
    refine lv_aload_n hx hb dX11_useful_8 rfl (lv_at hl 0 rfl) ?_
    refine lv_iconst (v := 1) hx hb dX11_useful_9 (by decide) ?_
    obtain ⟨r8, hr8, h⟩ := lt_elim h
    refine ca_i (w' := [WX11 cy h0 a0 r8.2]) (rn_V (As := [.int (1 : Int32)]) (rest := []) ⟨hx, hb, hml, hown, hts⟩ (kX11_refuse l D cy h0 a0 s0 (1 : Int32) r8 hr8.symm H.size) (cwV 1 hts gX11_useful_X11_refuse rfl rfl rfl (by decide +kernel) ⟨Nat.le_of_ble_eq_true rfl, Nat.le_of_ble_eq_true rfl⟩) hK hN hP hD [0] rfl rfl (ci := 11) (q0 := 0) rfl rfl rfl rfl hl.1 rfl (Nat.le_of_ble_eq_true rfl) dX11_useful_10 ⟨Nat.le_refl 0, Nat.le_refl 0⟩) hP hD hS hA [0] ⟨rfl, rfl, rfl, rfl⟩ (fun H locs hP hD hS => ?_)
    exact hret 13 H locs ls (r8.1, r8.2) (Option.some.inj h) hP hD hS dX11_useful_13
theorem gd_X11_warned : wsX11_warned.all goodWord = true := by decide +kernel
set_option maxRecDepth 20000 in
theorem ggX11_warned_X11_refuse : GoodIn wsX11_warned wsX11_refuse := goodIn_by gd_X11_warned (List.forall_mem_cons.mpr ⟨List.mem_cons_of_mem _ (List.mem_append_left _ (List.mem_append_left _ (List.mem_of_getElem? (i := 5) rfl))), List.forall_mem_append.mpr ⟨List.forall_mem_cons.mpr ⟨List.mem_cons_of_mem _ (List.mem_append_left _ (List.mem_append_left _ (List.mem_of_getElem? (i := 6) rfl))), nowords_in⟩, (fun _ h => List.mem_cons_of_mem _ (List.mem_append_right _ (h)))⟩⟩)
set_option maxRecDepth 20000 in
theorem gX11_warned_X11_refuse : GoodIn wsX11_warned (wsV RX11 75 RX11 yX11_refuse wsX11_refuse) := goodIn_app (goodIn_by gd_X11_warned (List.forall_mem_cons.mpr ⟨List.mem_cons_of_mem _ (List.mem_append_left _ (List.mem_append_left _ (List.mem_of_getElem? (i := 1) rfl))), List.forall_mem_cons.mpr ⟨List.mem_cons_of_mem _ (List.mem_append_left _ (List.mem_append_left _ (List.mem_of_getElem? (i := 2) rfl))), List.forall_mem_cons.mpr ⟨List.mem_cons_of_mem _ (List.mem_append_left _ (List.mem_append_left _ (List.mem_of_getElem? (i := 3) rfl))), List.forall_mem_cons.mpr ⟨List.mem_cons_of_mem _ (List.mem_append_left _ (List.mem_append_left _ (List.mem_of_getElem? (i := 4) rfl))), nowords_in⟩⟩⟩⟩)) ggX11_warned_X11_refuse
set_option maxRecDepth 20000 in
theorem ggX11_warned_X11_tellOf : GoodIn wsX11_warned wsX11_tellOf := goodIn_by gd_X11_warned (List.forall_mem_cons.mpr ⟨List.mem_cons_of_mem _ (List.mem_append_left _ (List.mem_append_left _ (List.mem_of_getElem? (i := 10) rfl))), List.forall_mem_append.mpr ⟨List.forall_mem_cons.mpr ⟨List.mem_cons_of_mem _ (List.mem_append_left _ (List.mem_append_left _ (List.mem_of_getElem? (i := 11) rfl))), List.forall_mem_cons.mpr ⟨List.mem_cons_of_mem _ (List.mem_append_left _ (List.mem_append_left _ (List.mem_of_getElem? (i := 0) rfl))), List.forall_mem_cons.mpr ⟨List.mem_cons_of_mem _ (List.mem_append_left _ (List.mem_append_left _ (List.mem_of_getElem? (i := 12) rfl))), List.forall_mem_cons.mpr ⟨List.mem_cons_of_mem _ (List.mem_append_left _ (List.mem_append_left _ (List.mem_of_getElem? (i := 13) rfl))), List.forall_mem_cons.mpr ⟨List.mem_cons_of_mem _ (List.mem_append_left _ (List.mem_append_left _ (List.mem_of_getElem? (i := 14) rfl))), List.forall_mem_cons.mpr ⟨List.mem_cons_of_mem _ (List.mem_append_left _ (List.mem_append_left _ (List.mem_of_getElem? (i := 15) rfl))), List.forall_mem_cons.mpr ⟨List.mem_cons_of_mem _ (List.mem_append_left _ (List.mem_append_left _ (List.mem_of_getElem? (i := 4) rfl))), List.forall_mem_cons.mpr ⟨List.mem_cons_of_mem _ (List.mem_append_left _ (List.mem_append_left _ (List.mem_of_getElem? (i := 16) rfl))), List.forall_mem_cons.mpr ⟨List.mem_cons_of_mem _ (List.mem_append_left _ (List.mem_append_left _ (List.mem_of_getElem? (i := 17) rfl))), List.forall_mem_cons.mpr ⟨List.mem_cons_of_mem _ (List.mem_append_left _ (List.mem_append_left _ (List.mem_of_getElem? (i := 18) rfl))), List.forall_mem_cons.mpr ⟨List.mem_cons_of_mem _ (List.mem_append_left _ (List.mem_append_left _ (List.mem_of_getElem? (i := 19) rfl))), List.forall_mem_cons.mpr ⟨List.mem_cons_of_mem _ (List.mem_append_left _ (List.mem_append_left _ (List.mem_of_getElem? (i := 20) rfl))), List.forall_mem_cons.mpr ⟨List.mem_cons_of_mem _ (List.mem_append_left _ (List.mem_append_left _ (List.mem_of_getElem? (i := 21) rfl))), List.forall_mem_cons.mpr ⟨List.mem_cons_of_mem _ (List.mem_append_left _ (List.mem_append_left _ (List.mem_of_getElem? (i := 22) rfl))), List.forall_mem_cons.mpr ⟨List.mem_cons_of_mem _ (List.mem_append_left _ (List.mem_append_left _ (List.mem_of_getElem? (i := 23) rfl))), List.forall_mem_cons.mpr ⟨List.mem_cons_of_mem _ (List.mem_append_left _ (List.mem_append_right _ (List.mem_of_getElem? (i := 0) rfl))), List.forall_mem_cons.mpr ⟨List.mem_cons_of_mem _ (List.mem_append_left _ (List.mem_append_right _ (List.mem_of_getElem? (i := 1) rfl))), List.forall_mem_cons.mpr ⟨List.mem_cons_of_mem _ (List.mem_append_left _ (List.mem_append_right _ (List.mem_of_getElem? (i := 2) rfl))), List.forall_mem_cons.mpr ⟨List.mem_cons_of_mem _ (List.mem_append_left _ (List.mem_append_right _ (List.mem_of_getElem? (i := 3) rfl))), List.forall_mem_cons.mpr ⟨List.mem_cons_of_mem _ (List.mem_append_left _ (List.mem_append_right _ (List.mem_of_getElem? (i := 4) rfl))), List.forall_mem_cons.mpr ⟨List.mem_cons_of_mem _ (List.mem_append_left _ (List.mem_append_right _ (List.mem_of_getElem? (i := 5) rfl))), List.forall_mem_cons.mpr ⟨List.mem_cons_of_mem _ (List.mem_append_left _ (List.mem_append_right _ (List.mem_of_getElem? (i := 6) rfl))), nowords_in⟩⟩⟩⟩⟩⟩⟩⟩⟩⟩⟩⟩⟩⟩⟩⟩⟩⟩⟩⟩⟩⟩, (fun _ h => List.mem_cons_of_mem _ (List.mem_append_right _ (h)))⟩⟩)
set_option maxRecDepth 20000 in
theorem gX11_warned_X11_tellOf : GoodIn wsX11_warned (wsV RX11 307 RX11 yX11_tellOf wsX11_tellOf) := goodIn_app (goodIn_by gd_X11_warned (List.forall_mem_cons.mpr ⟨List.mem_cons_of_mem _ (List.mem_append_left _ (List.mem_append_left _ (List.mem_of_getElem? (i := 7) rfl))), List.forall_mem_cons.mpr ⟨List.mem_cons_of_mem _ (List.mem_append_left _ (List.mem_append_left _ (List.mem_of_getElem? (i := 8) rfl))), List.forall_mem_cons.mpr ⟨List.mem_cons_of_mem _ (List.mem_append_left _ (List.mem_append_left _ (List.mem_of_getElem? (i := 9) rfl))), List.forall_mem_cons.mpr ⟨List.mem_cons_of_mem _ (List.mem_append_left _ (List.mem_append_left _ (List.mem_of_getElem? (i := 4) rfl))), nowords_in⟩⟩⟩⟩)) ggX11_warned_X11_tellOf
set_option maxRecDepth 20000 in
theorem ggX11_warned_X11_isWet : GoodIn wsX11_warned wsX11_isWet := goodIn_by gd_X11_warned (List.forall_mem_cons.mpr ⟨List.mem_cons_of_mem _ (List.mem_append_left _ (List.mem_append_right _ (List.mem_of_getElem? (i := 10) rfl))), List.forall_mem_append.mpr ⟨List.forall_mem_cons.mpr ⟨List.mem_cons_of_mem _ (List.mem_append_left _ (List.mem_append_left _ (List.mem_of_getElem? (i := 0) rfl))), nowords_in⟩, (fun _ h => List.mem_cons_of_mem _ (List.mem_append_right _ (h)))⟩⟩)
set_option maxRecDepth 20000 in
theorem gX11_warned_X11_isWet : GoodIn wsX11_warned (wsV RX11 264 RX11 yX11_isWet wsX11_isWet) := goodIn_app (goodIn_by gd_X11_warned (List.forall_mem_cons.mpr ⟨List.mem_cons_of_mem _ (List.mem_append_left _ (List.mem_append_right _ (List.mem_of_getElem? (i := 7) rfl))), List.forall_mem_cons.mpr ⟨List.mem_cons_of_mem _ (List.mem_append_left _ (List.mem_append_right _ (List.mem_of_getElem? (i := 8) rfl))), List.forall_mem_cons.mpr ⟨List.mem_cons_of_mem _ (List.mem_append_left _ (List.mem_append_right _ (List.mem_of_getElem? (i := 9) rfl))), List.forall_mem_cons.mpr ⟨List.mem_cons_of_mem _ (List.mem_append_left _ (List.mem_append_left _ (List.mem_of_getElem? (i := 4) rfl))), nowords_in⟩⟩⟩⟩)) ggX11_warned_X11_isWet
set_option maxRecDepth 20000 in
theorem ggX11_warned_X11_gives : GoodIn wsX11_warned wsX11_gives := goodIn_by gd_X11_warned (List.forall_mem_cons.mpr ⟨List.mem_cons_of_mem _ (List.mem_append_left _ (List.mem_append_right _ (List.mem_of_getElem? (i := 14) rfl))), List.forall_mem_append.mpr ⟨List.forall_mem_cons.mpr ⟨List.mem_cons_of_mem _ (List.mem_append_left _ (List.mem_append_left _ (List.mem_of_getElem? (i := 6) rfl))), nowords_in⟩, (fun _ h => List.mem_cons_of_mem _ (List.mem_append_right _ (h)))⟩⟩)
set_option maxRecDepth 20000 in
theorem gX11_warned_X11_gives : GoodIn wsX11_warned (wsV RX11 79 RX11 yX11_gives wsX11_gives) := goodIn_app (goodIn_by gd_X11_warned (List.forall_mem_cons.mpr ⟨List.mem_cons_of_mem _ (List.mem_append_left _ (List.mem_append_right _ (List.mem_of_getElem? (i := 11) rfl))), List.forall_mem_cons.mpr ⟨List.mem_cons_of_mem _ (List.mem_append_left _ (List.mem_append_right _ (List.mem_of_getElem? (i := 12) rfl))), List.forall_mem_cons.mpr ⟨List.mem_cons_of_mem _ (List.mem_append_left _ (List.mem_append_right _ (List.mem_of_getElem? (i := 13) rfl))), List.forall_mem_cons.mpr ⟨List.mem_cons_of_mem _ (List.mem_append_left _ (List.mem_append_left _ (List.mem_of_getElem? (i := 4) rfl))), nowords_in⟩⟩⟩⟩)) ggX11_warned_X11_gives
theorem dX11_warned_0 : decode cX11_warned 0 = .ok (.iload_n 1, 1) := by decide +kernel
theorem dX11_warned_1 : decode cX11_warned 1 = .ok (.ifCond .lt 8, 3) := by decide +kernel
theorem dX11_warned_4 : decode cX11_warned 4 = .ok (.iload_n 1, 1) := by decide +kernel
theorem dX11_warned_5 : decode cX11_warned 5 = .ok (.iconst 1, 1) := by decide +kernel
theorem dX11_warned_6 : decode cX11_warned 6 = .ok (.if_icmp .le 9, 3) := by decide +kernel
theorem dX11_warned_9 : decode cX11_warned 9 = .ok (.aload_n 0, 1) := by decide +kernel
theorem dX11_warned_10 : decode cX11_warned 10 = .ok (.iconst 1, 1) := by decide +kernel
theorem dX11_warned_11 : decode cX11_warned 11 = .ok (.invokevirtual 75, 3) := by decide +kernel
theorem dX11_warned_14 : decode cX11_warned 14 = .ok (.ireturn, 1) := by decide +kernel
theorem dX11_warned_15 : decode cX11_warned 15 = .ok (.iconst 0, 1) := by decide +kernel
theorem dX11_warned_16 : decode cX11_warned 16 = .ok (.istore_n 2, 1) := by decide +kernel
theorem dX11_warned_17 : decode cX11_warned 17 = .ok (.iconst 0, 1) := by decide +kernel
theorem dX11_warned_18 : decode cX11_warned 18 = .ok (.istore_n 3, 1) := by decide +kernel
theorem dX11_warned_19 : decode cX11_warned 19 = .ok (.iload_n 3, 1) := by decide +kernel
theorem dX11_warned_20 : decode cX11_warned 20 = .ok (.aload_n 0, 1) := by decide +kernel
theorem dX11_warned_21 : decode cX11_warned 21 = .ok (.getfield 7, 3) := by decide +kernel
theorem dX11_warned_24 : decode cX11_warned 24 = .ok (.iconst 1, 1) := by decide +kernel
theorem dX11_warned_25 : decode cX11_warned 25 = .ok (.iaload, 1) := by decide +kernel
theorem dX11_warned_26 : decode cX11_warned 26 = .ok (.if_icmp .ge 85, 3) := by decide +kernel
theorem dX11_warned_29 : decode cX11_warned 29 = .ok (.iconst 0, 1) := by decide +kernel
theorem dX11_warned_30 : decode cX11_warned 30 = .ok (.istore 4, 2) := by decide +kernel
theorem dX11_warned_32 : decode cX11_warned 32 = .ok (.iconst 0, 1) := by decide +kernel
theorem dX11_warned_33 : decode cX11_warned 33 = .ok (.istore 5, 2) := by decide +kernel
theorem dX11_warned_35 : decode cX11_warned 35 = .ok (.iload 5, 2) := by decide +kernel
theorem dX11_warned_37 : decode cX11_warned 37 = .ok (.aload_n 0, 1) := by decide +kernel
theorem dX11_warned_38 : decode cX11_warned 38 = .ok (.getfield 7, 3) := by decide +kernel
theorem dX11_warned_41 : decode cX11_warned 41 = .ok (.iconst 0, 1) := by decide +kernel
theorem dX11_warned_42 : decode cX11_warned 42 = .ok (.iaload, 1) := by decide +kernel
theorem dX11_warned_43 : decode cX11_warned 43 = .ok (.if_icmp .ge 32, 3) := by decide +kernel
theorem dX11_warned_46 : decode cX11_warned 46 = .ok (.iload 4, 2) := by decide +kernel
theorem dX11_warned_48 : decode cX11_warned 48 = .ok (.ifCond .ne 14, 3) := by decide +kernel
theorem dX11_warned_51 : decode cX11_warned 51 = .ok (.aload_n 0, 1) := by decide +kernel
theorem dX11_warned_52 : decode cX11_warned 52 = .ok (.iload 5, 2) := by decide +kernel
theorem dX11_warned_54 : decode cX11_warned 54 = .ok (.iload_n 3, 1) := by decide +kernel
theorem dX11_warned_55 : decode cX11_warned 55 = .ok (.invokevirtual 307, 3) := by decide +kernel
theorem dX11_warned_58 : decode cX11_warned 58 = .ok (.iconst 1, 1) := by decide +kernel
theorem dX11_warned_59 : decode cX11_warned 59 = .ok (.if_icmp .ne 7, 3) := by decide +kernel
theorem dX11_warned_62 : decode cX11_warned 62 = .ok (.iconst 1, 1) := by decide +kernel
theorem dX11_warned_63 : decode cX11_warned 63 = .ok (.goto 4, 3) := by decide +kernel
theorem dX11_warned_66 : decode cX11_warned 66 = .ok (.iconst 0, 1) := by decide +kernel
theorem dX11_warned_67 : decode cX11_warned 67 = .ok (.istore 4, 2) := by decide +kernel
theorem dX11_warned_69 : decode cX11_warned 69 = .ok (.iinc 5 1, 3) := by decide +kernel
theorem dX11_warned_72 : decode cX11_warned 72 = .ok (.goto (-37), 3) := by decide +kernel
theorem dX11_warned_75 : decode cX11_warned 75 = .ok (.iload_n 2, 1) := by decide +kernel
theorem dX11_warned_76 : decode cX11_warned 76 = .ok (.aload_n 0, 1) := by decide +kernel
theorem dX11_warned_77 : decode cX11_warned 77 = .ok (.iload_n 3, 1) := by decide +kernel
theorem dX11_warned_78 : decode cX11_warned 78 = .ok (.invokevirtual 264, 3) := by decide +kernel
theorem dX11_warned_81 : decode cX11_warned 81 = .ok (.ifCond .eq 21, 3) := by decide +kernel
theorem dX11_warned_84 : decode cX11_warned 84 = .ok (.iload 4, 2) := by decide +kernel
theorem dX11_warned_86 : decode cX11_warned 86 = .ok (.iload_n 1, 1) := by decide +kernel
theorem dX11_warned_87 : decode cX11_warned 87 = .ok (.ifCond .ne 7, 3) := by decide +kernel
theorem dX11_warned_90 : decode cX11_warned 90 = .ok (.iconst 1, 1) := by decide +kernel
theorem dX11_warned_91 : decode cX11_warned 91 = .ok (.goto 4, 3) := by decide +kernel
theorem dX11_warned_94 : decode cX11_warned 94 = .ok (.iconst 0, 1) := by decide +kernel
theorem dX11_warned_95 : decode cX11_warned 95 = .ok (.if_icmp .ne 7, 3) := by decide +kernel
theorem dX11_warned_98 : decode cX11_warned 98 = .ok (.iconst 1, 1) := by decide +kernel
theorem dX11_warned_99 : decode cX11_warned 99 = .ok (.goto 4, 3) := by decide +kernel
theorem dX11_warned_102 : decode cX11_warned 102 = .ok (.iconst 0, 1) := by decide +kernel
theorem dX11_warned_103 : decode cX11_warned 103 = .ok (.iadd, 1) := by decide +kernel
theorem dX11_warned_104 : decode cX11_warned 104 = .ok (.istore_n 2, 1) := by decide +kernel
theorem dX11_warned_105 : decode cX11_warned 105 = .ok (.iinc 3 1, 3) := by decide +kernel
theorem dX11_warned_108 : decode cX11_warned 108 = .ok (.goto (-89), 3) := by decide +kernel
theorem dX11_warned_111 : decode cX11_warned 111 = .ok (.aload_n 0, 1) := by decide +kernel
theorem dX11_warned_112 : decode cX11_warned 112 = .ok (.iload_n 2, 1) := by decide +kernel
theorem dX11_warned_113 : decode cX11_warned 113 = .ok (.invokevirtual 79, 3) := by decide +kernel
theorem dX11_warned_116 : decode cX11_warned 116 = .ok (.ireturn, 1) := by decide +kernel
abbrev rmX11_warned : Room := { frames := 3, cells := 0, slots := 0, locals := 66 }
set_option maxHeartbeats 4000000 in
set_option maxRecDepth 100000 in
theorem kX11_warned (l : Launch) (D : va_G) (cy : Nat → ClassId) (h0 : Nat) (a0 : Nat → Nat) (s0 : Rc) (p1 : Int32) (res : Int32 × Rc) (h : fX11_warned p1 s0 = some res) : CI l D cy yX11_warned wsX11_warned rmX11_warned [.ref h0, .int p1] (flat [WX11 cy h0 a0 s0]) (flat [WX11 cy h0 a0 res.2]) res.1 := by
  refine CI.of (cc := cX11_warned) (maxL := 6) (by decide) rfl (Nat.le_of_ble_eq_true rfl) ?_
  intro p e s m args below meth c A QQ ls E hr
  obtain ⟨hx, hb, hml, hown, hts, hK, hN, hP, hD, hA, hl⟩ := E
  have hret : ∀ (pc : Nat) (H : Heap) (locs : List Loc) (ls : Array Slot) (u : Int32 × Rc), u = res → va_P D vwCl (flat [WX11 cy h0 a0 u.2]) H → va_D A (flat [WX11 cy h0 a0 u.2]) → va_S A s.heap H locs → decode cX11_warned pc = .ok (.ireturn, 1) → W p l e rmX11_warned s m args below meth c H locs 0 0 QQ (F0 m pc ls [.int u.1]) := by
    intro pc H locs ls u hu hP hD hS hd; subst hu; exact hr pc H locs ls _ rfl hP hD hS hd
  clear hr
  have hl : lv_has ls 6 [(0, .ref h0), (1, .int p1)] := hl
  have hinX11 : ∀ w ∈ wsX110, w ∈ wsX11_warned := fun _ h => List.mem_cons_of_mem _ (List.mem_append_right _ h)
  unfold fX11_warned at h
  suffices key : ∀ (H : Heap) (locs : List Loc), va_P D vwCl (flat [WX11 cy h0 a0 s0]) H → va_S A s.heap H locs → W p l e rmX11_warned s m args below meth c H locs 0 0 QQ (F0 m 0 ls []) from key _ _ hP va_S.rf
  clear hP
  intro H locs hP hS
  refine lv_iload_n hx hb dX11_warned_0 rfl (lv_at hl 1 rfl) ?_
  refine lv_if_lt (tgt := 9) hx hb dX11_warned_1 (by decide) (fun c1 => ?_) (fun c1 => ?_)
  · replace h := (if_pos c1).symm.trans h
    refine lv_aload_n hx hb dX11_warned_9 rfl (lv_at hl 0 rfl) ?_
    refine lv_iconst (v := 1) hx hb dX11_warned_10 (by decide) ?_
    obtain ⟨r2, hr2, h⟩ := lt_elim h
    refine ca_i (w' := [WX11 cy h0 a0 r2.2]) (rn_V (As := [.int (1 : Int32)]) (rest := []) ⟨hx, hb, hml, hown, hts⟩ (kX11_refuse l D cy h0 a0 s0 (1 : Int32) r2 hr2.symm H.size) (cwV 1 hts gX11_warned_X11_refuse rfl rfl rfl (by decide +kernel) ⟨Nat.le_of_ble_eq_true rfl, Nat.le_of_ble_eq_true rfl⟩) hK hN hP hD [0] rfl rfl (ci := 11) (q0 := 0) rfl rfl rfl rfl hl.1 rfl (Nat.le_of_ble_eq_true rfl) dX11_warned_11 ⟨Nat.le_refl 0, Nat.le_refl 0⟩) hP hD hS hA [0] ⟨rfl, rfl, rfl, rfl⟩ (fun H locs hP hD hS => ?_)
    exact hret 14 H locs ls (r2.1, r2.2) (Option.some.inj h) hP hD hS dX11_warned_14
  · replace h := (if_neg c1).symm.trans h
    refine lv_iload_n hx hb dX11_warned_4 rfl (lv_at hl 1 rfl) ?_
    refine lv_iconst (v := 1) hx hb dX11_warned_5 (by decide) ?_
    refine lv_icmp_le (tgt := 15) hx hb dX11_warned_6 (by decide) (fun c3 => ?_) (fun c3 => ?_)
    · replace h := (if_pos c3).symm.trans h
      refine lv_iconst (v := 0) hx hb dX11_warned_15 (by decide) ?_
      refine lv_istore_n (lv' := [(2, .int (0 : Int32)), (0, .ref h0), (1, .int p1)]) hx hb dX11_warned_16 rfl hl (by decide) rfl (fun ls hl => ?_)
      refine lv_iconst (v := 0) hx hb dX11_warned_17 (by decide) ?_
      refine lv_istore_n (lv' := [(3, .int (0 : Int32)), (2, .int (0 : Int32)), (0, .ref h0), (1, .int p1)]) hx hb dX11_warned_18 rfl hl (by decide) rfl (fun ls hl => ?_)
      have L19 : ∀ (n : Nat) (q19 : Int32 × Int32) (o : Int32), loopO (fX11_warned_L19 p1 s0) n q19 = some o → ∀ (H : Heap) (locs : List Loc) (ls : Array Slot), lv_has ls 6 [(0, .ref h0), (1, .int p1), (2, .int q19.1), (3, .int q19.2)] → va_P D vwCl (flat [WX11 cy h0 a0 s0]) H → va_D A (flat [WX11 cy h0 a0 s0]) → va_S A s.heap H locs → ∀ (kk111 : ∀ (H : Heap) (locs : List Loc) (ls : Array Slot), lv_has ls 6 [(0, .ref h0), (2, .int o)] → va_P D vwCl (flat [WX11 cy h0 a0 s0]) H → va_D A (flat [WX11 cy h0 a0 s0]) → va_S A s.heap H locs → W p l e rmX11_warned s m args below meth c H locs 0 0 QQ (F0 m 111 ls [])), W p l e rmX11_warned s m args below meth c H locs 0 0 QQ (F0 m 19 ls []) := by
        intro n
        induction n with
        | zero => intro q19 o h; exact absurd h (by rw [loopO_zero]; intro z; cases z)
        | succ n ih =>
          intro q19 o h H locs ls hl hP hD hS kk111
          obtain ⟨w, h, hgo, hst⟩ := loopO_elim h
          unfold fX11_warned_L19 at h
          have J95 : ∀ (z95_0 : Int32) (z95_1 : Int32) (z95_2 : Int32) (H : Heap) (locs : List Loc) (ls : Array Slot), lv_has ls 6 [(0, .ref h0), (1, .int p1), (3, .int q19.2)] → va_P D vwCl (flat [WX11 cy h0 a0 s0]) H → va_D A (flat [WX11 cy h0 a0 s0]) → va_S A s.heap H locs → fX11_warned_J95 q19 z95_0 z95_1 z95_2 = some w → W p l e rmX11_warned s m args below meth c H locs 0 0 QQ (F0 m 95 ls [.int z95_0, .int z95_1, .int z95_2]) := by
            intro z95_0 z95_1 z95_2 H locs ls hl hP hD hS h
            unfold fX11_warned_J95 at h
            refine lv_icmp_ne (tgt := 102) hx hb dX11_warned_95 (by decide) (fun c4 => ?_) (fun c4 => ?_)
            · replace h := (if_neg c4).symm.trans h
              refine lv_iconst (v := 0) hx hb dX11_warned_102 (by decide) ?_
              refine lv_iadd hx hb dX11_warned_103 ?_
              refine lv_topi (fun x5 ex5 => ?_)
              replace h := lt_use h x5 ex5
              refine lv_istore_n (lv' := [(2, .int x5), (0, .ref h0), (1, .int p1), (3, .int q19.2)]) hx hb dX11_warned_104 rfl hl (by decide) rfl (fun ls hl => ?_)
              refine lv_iinc (v := (q19.2 + (1 : Int32))) (lv' := [(3, .int (q19.2 + (1 : Int32))), (2, .int x5), (0, .ref h0), (1, .int p1)]) hx hb dX11_warned_105 hl (k := 3) rfl rfl (by decide) rfl (fun ls hl => ?_)
              refine lv_goto (tgt := 19) hx hb dX11_warned_108 (by decide) ?_
              exact ih _ o (hgo _ (Option.some.inj h).symm) H locs ls (lv_sub hl [2, 3, 1, 0] rfl) hP hD hS kk111
            · replace h := (if_pos c4).symm.trans h
              refine lv_iconst (v := 1) hx hb dX11_warned_98 (by decide) ?_
              refine lv_goto (tgt := 103) hx hb dX11_warned_99 (by decide) ?_
              refine lv_iadd hx hb dX11_warned_103 ?_
              refine lv_topi (fun x6 ex6 => ?_)
              replace h := lt_use h x6 ex6
              refine lv_istore_n (lv' := [(2, .int x6), (0, .ref h0), (1, .int p1), (3, .int q19.2)]) hx hb dX11_warned_104 rfl hl (by decide) rfl (fun ls hl => ?_)
              refine lv_iinc (v := (q19.2 + (1 : Int32))) (lv' := [(3, .int (q19.2 + (1 : Int32))), (2, .int x6), (0, .ref h0), (1, .int p1)]) hx hb dX11_warned_105 hl (k := 3) rfl rfl (by decide) rfl (fun ls hl => ?_)
              refine lv_goto (tgt := 19) hx hb dX11_warned_108 (by decide) ?_
              exact ih _ o (hgo _ (Option.some.inj h).symm) H locs ls (lv_sub hl [2, 3, 1, 0] rfl) hP hD hS kk111
          refine lv_iload_n hx hb dX11_warned_19 rfl (lv_at hl 3 rfl) ?_
          refine lv_aload_n hx hb dX11_warned_20 rfl (lv_at hl 0 rfl) ?_
          refine va_get (D := D) (ci := 11) (v := .ref (a0 0)) (C := RX11) (T := TX11) (N := 38) hx hb hts hinX11 hown hK hP 0 rfl rfl 0 (by decide) (hts (.fieldLink RX11 7 "KneeBenchModel" "at" "[I") (List.mem_of_getElem? (i := 1) rfl)) (fun _ h9 => h9) rfl dX11_warned_21 ?_
          refine lv_iconst (v := 1) hx hb dX11_warned_24 (by decide) ?_
          refine va_iald hx hb hK hP 1 1 rfl rfl (inb_in (by decide)) dX11_warned_25 ?_
          refine lv_icmp_ge (tgt := 111) hx hb dX11_warned_26 (by decide) (fun c7 => ?_) (fun c7 => ?_)
          · replace h := (if_pos c7).symm.trans h
            have eo := hst _ (Option.some.inj h).symm
            subst eo
            exact kk111 H locs ls (lv_sub hl [0, 2] rfl) hP hD hS
          · replace h := (if_neg c7).symm.trans h
            refine lv_iconst (v := 0) hx hb dX11_warned_29 (by decide) ?_
            refine lv_istore (lv' := [(4, .int (0 : Int32)), (0, .ref h0), (1, .int p1), (2, .int q19.1), (3, .int q19.2)]) hx hb dX11_warned_30 hl (by decide) rfl (fun ls hl => ?_)
            refine lv_iconst (v := 0) hx hb dX11_warned_32 (by decide) ?_
            refine lv_istore (lv' := [(5, .int (0 : Int32)), (4, .int (0 : Int32)), (0, .ref h0), (1, .int p1), (2, .int q19.1), (3, .int q19.2)]) hx hb dX11_warned_33 hl (by decide) rfl (fun ls hl => ?_)
            have L35 : ∀ (n : Nat) (q35 : Int32 × Int32) (o : Int32), loopO (fX11_warned_L35 s0 q19) n q35 = some o → ∀ (H : Heap) (locs : List Loc) (ls : Array Slot), lv_has ls 6 [(0, .ref h0), (1, .int p1), (2, .int q19.1), (3, .int q19.2), (4, .int q35.1), (5, .int q35.2)] → va_P D vwCl (flat [WX11 cy h0 a0 s0]) H → va_D A (flat [WX11 cy h0 a0 s0]) → va_S A s.heap H locs → ∀ (kk75 : ∀ (H : Heap) (locs : List Loc) (ls : Array Slot), lv_has ls 6 [(0, .ref h0), (1, .int p1), (2, .int q19.1), (3, .int q19.2), (4, .int o)] → va_P D vwCl (flat [WX11 cy h0 a0 s0]) H → va_D A (flat [WX11 cy h0 a0 s0]) → va_S A s.heap H locs → W p l e rmX11_warned s m args below meth c H locs 0 0 QQ (F0 m 75 ls [])), W p l e rmX11_warned s m args below meth c H locs 0 0 QQ (F0 m 35 ls []) := by
              intro n
              induction n with
              | zero => intro q35 o h; exact absurd h (by rw [loopO_zero]; intro z; cases z)
              | succ n ih =>
                intro q35 o h H locs ls hl hP hD hS kk75
                obtain ⟨w, h, hgo, hst⟩ := loopO_elim h
                unfold fX11_warned_L35 at h
                refine lv_iload hx hb dX11_warned_35 (lv_at hl 5 rfl) ?_
                refine lv_aload_n hx hb dX11_warned_37 rfl (lv_at hl 0 rfl) ?_
                refine va_get (D := D) (ci := 11) (v := .ref (a0 0)) (C := RX11) (T := TX11) (N := 38) hx hb hts hinX11 hown hK hP 0 rfl rfl 0 (by decide) (hts (.fieldLink RX11 7 "KneeBenchModel" "at" "[I") (List.mem_of_getElem? (i := 1) rfl)) (fun _ h9 => h9) rfl dX11_warned_38 ?_
                refine lv_iconst (v := 0) hx hb dX11_warned_41 (by decide) ?_
                refine va_iald hx hb hK hP 1 1 rfl rfl (inb_in (by decide)) dX11_warned_42 ?_
                refine lv_icmp_ge (tgt := 75) hx hb dX11_warned_43 (by decide) (fun c8 => ?_) (fun c8 => ?_)
                · replace h := (if_pos c8).symm.trans h
                  have eo := hst _ (Option.some.inj h).symm
                  subst eo
                  exact kk75 H locs ls (lv_sub hl [0, 1, 2, 3, 4] rfl) hP hD hS
                · replace h := (if_neg c8).symm.trans h
                  refine lv_iload hx hb dX11_warned_46 (lv_at hl 4 rfl) ?_
                  refine lv_if_ne (tgt := 62) hx hb dX11_warned_48 (by decide) (fun c9 => ?_) (fun c9 => ?_)
                  · replace h := (if_neg c9).symm.trans h
                    refine lv_iconst (v := 1) hx hb dX11_warned_62 (by decide) ?_
                    refine lv_goto (tgt := 67) hx hb dX11_warned_63 (by decide) ?_
                    refine lv_istore (lv' := [(4, .int (1 : Int32)), (0, .ref h0), (1, .int p1), (2, .int q19.1), (3, .int q19.2), (5, .int q35.2)]) hx hb dX11_warned_67 hl (by decide) rfl (fun ls hl => ?_)
                    refine lv_iinc (v := (q35.2 + (1 : Int32))) (lv' := [(5, .int (q35.2 + (1 : Int32))), (4, .int (1 : Int32)), (0, .ref h0), (1, .int p1), (2, .int q19.1), (3, .int q19.2)]) hx hb dX11_warned_69 hl (k := 5) rfl rfl (by decide) rfl (fun ls hl => ?_)
                    refine lv_goto (tgt := 35) hx hb dX11_warned_72 (by decide) ?_
                    exact ih _ o (hgo _ (Option.some.inj h).symm) H locs ls (lv_sub hl [2, 3, 4, 5, 1, 0] rfl) hP hD hS kk75
                  · replace h := (if_pos c9).symm.trans h
                    refine lv_aload_n hx hb dX11_warned_51 rfl (lv_at hl 0 rfl) ?_
                    refine lv_iload hx hb dX11_warned_52 (lv_at hl 5 rfl) ?_
                    refine lv_iload_n hx hb dX11_warned_54 rfl (lv_at hl 3 rfl) ?_
                    obtain ⟨r10, hr10, h⟩ := bd_elim h
                    refine ca_i (w' := [WX11 cy h0 a0 s0]) (rn_V (As := [.int q35.2, .int q19.2]) (rest := []) ⟨hx, hb, hml, hown, hts⟩ (kX11_tellOf l D cy h0 a0 s0 q35.2 q19.2 r10 hr10 H.size) (cwV 2 hts gX11_warned_X11_tellOf rfl rfl rfl (by decide +kernel) ⟨Nat.le_of_ble_eq_true rfl, Nat.le_of_ble_eq_true rfl⟩) hK hN hP hD [0] rfl rfl (ci := 11) (q0 := 0) rfl rfl rfl rfl hl.1 rfl (Nat.le_of_ble_eq_true rfl) dX11_warned_55 ⟨Nat.le_refl 0, Nat.le_refl 0⟩) hP hD hS hA [0] ⟨rfl, rfl, rfl, rfl⟩ (fun H locs hP hD hS => ?_)
                    refine lv_iconst (v := 1) hx hb dX11_warned_58 (by decide) ?_
                    refine lv_icmp_ne (tgt := 66) hx hb dX11_warned_59 (by decide) (fun c11 => ?_) (fun c11 => ?_)
                    · replace h := (if_neg c11).symm.trans h
                      refine lv_iconst (v := 0) hx hb dX11_warned_66 (by decide) ?_
                      refine lv_istore (lv' := [(4, .int (0 : Int32)), (0, .ref h0), (1, .int p1), (2, .int q19.1), (3, .int q19.2), (5, .int q35.2)]) hx hb dX11_warned_67 hl (by decide) rfl (fun ls hl => ?_)
                      refine lv_iinc (v := (q35.2 + (1 : Int32))) (lv' := [(5, .int (q35.2 + (1 : Int32))), (4, .int (0 : Int32)), (0, .ref h0), (1, .int p1), (2, .int q19.1), (3, .int q19.2)]) hx hb dX11_warned_69 hl (k := 5) rfl rfl (by decide) rfl (fun ls hl => ?_)
                      refine lv_goto (tgt := 35) hx hb dX11_warned_72 (by decide) ?_
                      exact ih _ o (hgo _ (Option.some.inj h).symm) H locs ls (lv_sub hl [2, 3, 4, 5, 1, 0] rfl) hP hD hS kk75
                    · replace h := (if_pos c11).symm.trans h
                      refine lv_iconst (v := 1) hx hb dX11_warned_62 (by decide) ?_
                      refine lv_goto (tgt := 67) hx hb dX11_warned_63 (by decide) ?_
                      refine lv_istore (lv' := [(4, .int (1 : Int32)), (0, .ref h0), (1, .int p1), (2, .int q19.1), (3, .int q19.2), (5, .int q35.2)]) hx hb dX11_warned_67 hl (by decide) rfl (fun ls hl => ?_)
                      refine lv_iinc (v := (q35.2 + (1 : Int32))) (lv' := [(5, .int (q35.2 + (1 : Int32))), (4, .int (1 : Int32)), (0, .ref h0), (1, .int p1), (2, .int q19.1), (3, .int q19.2)]) hx hb dX11_warned_69 hl (k := 5) rfl rfl (by decide) rfl (fun ls hl => ?_)
                      refine lv_goto (tgt := 35) hx hb dX11_warned_72 (by decide) ?_
                      exact ih _ o (hgo _ (Option.some.inj h).symm) H locs ls (lv_sub hl [2, 3, 4, 5, 1, 0] rfl) hP hD hS kk75
            obtain ⟨o35, ho35, h⟩ := bd_elim h
            obtain ⟨n35, hn35⟩ := loopF_some ho35
            refine L35 n35 _ o35 hn35 H locs ls (lv_sub hl [2, 3, 4, 5, 1, 0] rfl) hP hD hS (fun H locs ls hl hP hD hS => ?_)
            refine lv_iload_n hx hb dX11_warned_75 rfl (lv_at hl 2 rfl) ?_
            refine lv_aload_n hx hb dX11_warned_76 rfl (lv_at hl 0 rfl) ?_
            refine lv_iload_n hx hb dX11_warned_77 rfl (lv_at hl 3 rfl) ?_
            obtain ⟨r12, hr12, h⟩ := bd_elim h
            refine ca_z (w' := [WX11 cy h0 a0 s0]) (rn_V (As := [.int q19.2]) (rest := [.int q19.1]) ⟨hx, hb, hml, hown, hts⟩ (kX11_isWet l D cy h0 a0 s0 q19.2 r12 hr12 H.size) (cwV 1 hts gX11_warned_X11_isWet rfl rfl rfl (by decide +kernel) ⟨Nat.le_of_ble_eq_true rfl, Nat.le_of_ble_eq_true rfl⟩) hK hN hP hD [0] rfl rfl (ci := 11) (q0 := 0) rfl rfl rfl rfl hl.1 rfl (Nat.le_of_ble_eq_true rfl) dX11_warned_78 ⟨Nat.le_refl 0, Nat.le_refl 0⟩) hP hD hS hA [0] ⟨rfl, rfl, rfl, rfl⟩ (fun b13 H locs hP hD hS => ?_)
            refine lv_if_eq (tgt := 102) hx hb dX11_warned_81 (by decide) (fun c14 => ?_) (fun c14 => ?_)
            · replace h := (if_pos c14).symm.trans h
              refine lv_iconst (v := 0) hx hb dX11_warned_102 (by decide) ?_
              refine lv_iadd hx hb dX11_warned_103 ?_
              refine lv_topi (fun x15 ex15 => ?_)
              replace h := lt_use h x15 ex15
              refine lv_istore_n (lv' := [(2, .int x15), (0, .ref h0), (1, .int p1), (3, .int q19.2), (4, .int o35)]) hx hb dX11_warned_104 rfl hl (by decide) rfl (fun ls hl => ?_)
              refine lv_iinc (v := (q19.2 + (1 : Int32))) (lv' := [(3, .int (q19.2 + (1 : Int32))), (2, .int x15), (0, .ref h0), (1, .int p1), (4, .int o35)]) hx hb dX11_warned_105 hl (k := 3) rfl rfl (by decide) rfl (fun ls hl => ?_)
              refine lv_goto (tgt := 19) hx hb dX11_warned_108 (by decide) ?_
              exact ih _ o (hgo _ (Option.some.inj h).symm) H locs ls (lv_sub hl [2, 3, 1, 0] rfl) hP hD hS kk111
            · replace h := (if_neg c14).symm.trans h
              refine lv_iload hx hb dX11_warned_84 (lv_at hl 4 rfl) ?_
              refine lv_iload_n hx hb dX11_warned_86 rfl (lv_at hl 1 rfl) ?_
              refine lv_if_ne (tgt := 94) hx hb dX11_warned_87 (by decide) (fun c16 => ?_) (fun c16 => ?_)
              · replace h := (if_neg c16).symm.trans h
                refine lv_iconst (v := 0) hx hb dX11_warned_94 (by decide) ?_
                exact J95 (0 : Int32) o35 q19.1 H locs ls (lv_sub hl [0, 1, 3] rfl) hP hD hS h
              · replace h := (if_pos c16).symm.trans h
                refine lv_iconst (v := 1) hx hb dX11_warned_90 (by decide) ?_
                refine lv_goto (tgt := 95) hx hb dX11_warned_91 (by decide) ?_
                exact J95 (1 : Int32) o35 q19.1 H locs ls (lv_sub hl [0, 1, 3] rfl) hP hD hS h
      obtain ⟨o19, ho19, h⟩ := bd_elim h
      obtain ⟨n19, hn19⟩ := loopF_some ho19
      refine L19 n19 _ o19 hn19 H locs ls (lv_sub hl [2, 3, 1, 0] rfl) hP hD hS (fun H locs ls hl hP hD hS => ?_)
      refine lv_aload_n hx hb dX11_warned_111 rfl (lv_at hl 0 rfl) ?_
      refine lv_iload_n hx hb dX11_warned_112 rfl (lv_at hl 1 rfl) ?_
      obtain ⟨r17, hr17, h⟩ := lt_elim h
      refine ca_i (w' := [WX11 cy h0 a0 r17.2]) (rn_V (As := [.int o19]) (rest := []) ⟨hx, hb, hml, hown, hts⟩ (kX11_gives l D cy h0 a0 s0 o19 r17 hr17.symm H.size) (cwV 1 hts gX11_warned_X11_gives rfl rfl rfl (by decide +kernel) ⟨Nat.le_of_ble_eq_true rfl, Nat.le_of_ble_eq_true rfl⟩) hK hN hP hD [0] rfl rfl (ci := 11) (q0 := 0) rfl rfl rfl rfl hl.1 rfl (Nat.le_of_ble_eq_true rfl) dX11_warned_113 ⟨Nat.le_refl 0, Nat.le_refl 0⟩) hP hD hS hA [0] ⟨rfl, rfl, rfl, rfl⟩ (fun H locs hP hD hS => ?_)
      exact hret 116 H locs ls (r17.1, r17.2) (Option.some.inj h) hP hD hS dX11_warned_116
    · replace h := (if_neg c3).symm.trans h
      refine lv_aload_n hx hb dX11_warned_9 rfl (lv_at hl 0 rfl) ?_
      refine lv_iconst (v := 1) hx hb dX11_warned_10 (by decide) ?_
      obtain ⟨r18, hr18, h⟩ := lt_elim h
      refine ca_i (w' := [WX11 cy h0 a0 r18.2]) (rn_V (As := [.int (1 : Int32)]) (rest := []) ⟨hx, hb, hml, hown, hts⟩ (kX11_refuse l D cy h0 a0 s0 (1 : Int32) r18 hr18.symm H.size) (cwV 1 hts gX11_warned_X11_refuse rfl rfl rfl (by decide +kernel) ⟨Nat.le_of_ble_eq_true rfl, Nat.le_of_ble_eq_true rfl⟩) hK hN hP hD [0] rfl rfl (ci := 11) (q0 := 0) rfl rfl rfl rfl hl.1 rfl (Nat.le_of_ble_eq_true rfl) dX11_warned_11 ⟨Nat.le_refl 0, Nat.le_refl 0⟩) hP hD hS hA [0] ⟨rfl, rfl, rfl, rfl⟩ (fun H locs hP hD hS => ?_)
      exact hret 14 H locs ls (r18.1, r18.2) (Option.some.inj h) hP hD hS dX11_warned_14
theorem gd_X11_weather : wsX11_weather.all goodWord = true := by decide +kernel
set_option maxRecDepth 20000 in
theorem ggX11_weather_X11_isDay : GoodIn wsX11_weather wsX11_isDay := goodIn_by gd_X11_weather (List.forall_mem_cons.mpr ⟨List.mem_cons_of_mem _ (List.mem_append_left _ (List.mem_of_getElem? (i := 5) rfl)), List.forall_mem_append.mpr ⟨List.forall_mem_cons.mpr ⟨List.mem_cons_of_mem _ (List.mem_append_left _ (List.mem_of_getElem? (i := 0) rfl)), nowords_in⟩, (fun _ h => List.mem_cons_of_mem _ (List.mem_append_right _ (h)))⟩⟩)
set_option maxRecDepth 20000 in
theorem gX11_weather_X11_isDay : GoodIn wsX11_weather (wsV RX11 255 RX11 yX11_isDay wsX11_isDay) := goodIn_app (goodIn_by gd_X11_weather (List.forall_mem_cons.mpr ⟨List.mem_cons_of_mem _ (List.mem_append_left _ (List.mem_of_getElem? (i := 1) rfl)), List.forall_mem_cons.mpr ⟨List.mem_cons_of_mem _ (List.mem_append_left _ (List.mem_of_getElem? (i := 2) rfl)), List.forall_mem_cons.mpr ⟨List.mem_cons_of_mem _ (List.mem_append_left _ (List.mem_of_getElem? (i := 3) rfl)), List.forall_mem_cons.mpr ⟨List.mem_cons_of_mem _ (List.mem_append_left _ (List.mem_of_getElem? (i := 4) rfl)), nowords_in⟩⟩⟩⟩)) ggX11_weather_X11_isDay
set_option maxRecDepth 20000 in
theorem ggX11_weather_X11_gives : GoodIn wsX11_weather wsX11_gives := goodIn_by gd_X11_weather (List.forall_mem_cons.mpr ⟨List.mem_cons_of_mem _ (List.mem_append_left _ (List.mem_of_getElem? (i := 9) rfl)), List.forall_mem_append.mpr ⟨List.forall_mem_cons.mpr ⟨List.mem_cons_of_mem _ (List.mem_append_left _ (List.mem_of_getElem? (i := 10) rfl)), nowords_in⟩, (fun _ h => List.mem_cons_of_mem _ (List.mem_append_right _ (h)))⟩⟩)
set_option maxRecDepth 20000 in
theorem gX11_weather_X11_gives : GoodIn wsX11_weather (wsV RX11 79 RX11 yX11_gives wsX11_gives) := goodIn_app (goodIn_by gd_X11_weather (List.forall_mem_cons.mpr ⟨List.mem_cons_of_mem _ (List.mem_append_left _ (List.mem_of_getElem? (i := 6) rfl)), List.forall_mem_cons.mpr ⟨List.mem_cons_of_mem _ (List.mem_append_left _ (List.mem_of_getElem? (i := 7) rfl)), List.forall_mem_cons.mpr ⟨List.mem_cons_of_mem _ (List.mem_append_left _ (List.mem_of_getElem? (i := 8) rfl)), List.forall_mem_cons.mpr ⟨List.mem_cons_of_mem _ (List.mem_append_left _ (List.mem_of_getElem? (i := 4) rfl)), nowords_in⟩⟩⟩⟩)) ggX11_weather_X11_gives
set_option maxRecDepth 20000 in
theorem ggX11_weather_X11_refuse : GoodIn wsX11_weather wsX11_refuse := goodIn_by gd_X11_weather (List.forall_mem_cons.mpr ⟨List.mem_cons_of_mem _ (List.mem_append_left _ (List.mem_of_getElem? (i := 14) rfl)), List.forall_mem_append.mpr ⟨List.forall_mem_cons.mpr ⟨List.mem_cons_of_mem _ (List.mem_append_left _ (List.mem_of_getElem? (i := 10) rfl)), nowords_in⟩, (fun _ h => List.mem_cons_of_mem _ (List.mem_append_right _ (h)))⟩⟩)
set_option maxRecDepth 20000 in
theorem gX11_weather_X11_refuse : GoodIn wsX11_weather (wsV RX11 75 RX11 yX11_refuse wsX11_refuse) := goodIn_app (goodIn_by gd_X11_weather (List.forall_mem_cons.mpr ⟨List.mem_cons_of_mem _ (List.mem_append_left _ (List.mem_of_getElem? (i := 11) rfl)), List.forall_mem_cons.mpr ⟨List.mem_cons_of_mem _ (List.mem_append_left _ (List.mem_of_getElem? (i := 12) rfl)), List.forall_mem_cons.mpr ⟨List.mem_cons_of_mem _ (List.mem_append_left _ (List.mem_of_getElem? (i := 13) rfl)), List.forall_mem_cons.mpr ⟨List.mem_cons_of_mem _ (List.mem_append_left _ (List.mem_of_getElem? (i := 4) rfl)), nowords_in⟩⟩⟩⟩)) ggX11_weather_X11_refuse
theorem dX11_weather_0 : decode cX11_weather 0 = .ok (.aload_n 0, 1) := by decide +kernel
theorem dX11_weather_1 : decode cX11_weather 1 = .ok (.iload_n 1, 1) := by decide +kernel
theorem dX11_weather_2 : decode cX11_weather 2 = .ok (.invokevirtual 255, 3) := by decide +kernel
theorem dX11_weather_5 : decode cX11_weather 5 = .ok (.ifCond .eq 19, 3) := by decide +kernel
theorem dX11_weather_8 : decode cX11_weather 8 = .ok (.aload_n 0, 1) := by decide +kernel
theorem dX11_weather_9 : decode cX11_weather 9 = .ok (.aload_n 0, 1) := by decide +kernel
theorem dX11_weather_10 : decode cX11_weather 10 = .ok (.getfield 7, 3) := by decide +kernel
theorem dX11_weather_13 : decode cX11_weather 13 = .ok (.bipush 122, 2) := by decide +kernel
theorem dX11_weather_15 : decode cX11_weather 15 = .ok (.iload_n 1, 1) := by decide +kernel
theorem dX11_weather_16 : decode cX11_weather 16 = .ok (.iadd, 1) := by decide +kernel
theorem dX11_weather_17 : decode cX11_weather 17 = .ok (.iaload, 1) := by decide +kernel
theorem dX11_weather_18 : decode cX11_weather 18 = .ok (.invokevirtual 79, 3) := by decide +kernel
theorem dX11_weather_21 : decode cX11_weather 21 = .ok (.goto 8, 3) := by decide +kernel
theorem dX11_weather_24 : decode cX11_weather 24 = .ok (.aload_n 0, 1) := by decide +kernel
theorem dX11_weather_25 : decode cX11_weather 25 = .ok (.iconst 1, 1) := by decide +kernel
theorem dX11_weather_26 : decode cX11_weather 26 = .ok (.invokevirtual 75, 3) := by decide +kernel
theorem dX11_weather_29 : decode cX11_weather 29 = .ok (.ireturn, 1) := by decide +kernel
abbrev rmX11_weather : Room := { frames := 1, cells := 0, slots := 0, locals := 21 }
set_option maxHeartbeats 4000000 in
set_option maxRecDepth 100000 in
theorem kX11_weather (l : Launch) (D : va_G) (cy : Nat → ClassId) (h0 : Nat) (a0 : Nat → Nat) (s0 : Rc) (p1 : Int32) (res : Int32 × Rc) (h : fX11_weather p1 s0 = some res) : CI l D cy yX11_weather wsX11_weather rmX11_weather [.ref h0, .int p1] (flat [WX11 cy h0 a0 s0]) (flat [WX11 cy h0 a0 res.2]) res.1 := by
  refine CI.of (cc := cX11_weather) (maxL := 2) (by decide) rfl (Nat.le_of_ble_eq_true rfl) ?_
  intro p e s m args below meth c A QQ ls E hr
  obtain ⟨hx, hb, hml, hown, hts, hK, hN, hP, hD, hA, hl⟩ := E
  have hret : ∀ (pc : Nat) (H : Heap) (locs : List Loc) (ls : Array Slot) (u : Int32 × Rc), u = res → va_P D vwCl (flat [WX11 cy h0 a0 u.2]) H → va_D A (flat [WX11 cy h0 a0 u.2]) → va_S A s.heap H locs → decode cX11_weather pc = .ok (.ireturn, 1) → W p l e rmX11_weather s m args below meth c H locs 0 0 QQ (F0 m pc ls [.int u.1]) := by
    intro pc H locs ls u hu hP hD hS hd; subst hu; exact hr pc H locs ls _ rfl hP hD hS hd
  clear hr
  have hl : lv_has ls 2 [(0, .ref h0), (1, .int p1)] := hl
  have hinX11 : ∀ w ∈ wsX110, w ∈ wsX11_weather := fun _ h => List.mem_cons_of_mem _ (List.mem_append_right _ h)
  unfold fX11_weather at h
  suffices key : ∀ (H : Heap) (locs : List Loc), va_P D vwCl (flat [WX11 cy h0 a0 s0]) H → va_S A s.heap H locs → W p l e rmX11_weather s m args below meth c H locs 0 0 QQ (F0 m 0 ls []) from key _ _ hP va_S.rf
  clear hP
  intro H locs hP hS
  refine lv_aload_n hx hb dX11_weather_0 rfl (lv_at hl 0 rfl) ?_
  refine lv_iload_n hx hb dX11_weather_1 rfl (lv_at hl 1 rfl) ?_
  refine ca_z (w' := [WX11 cy h0 a0 s0]) (rn_V (As := [.int p1]) (rest := []) ⟨hx, hb, hml, hown, hts⟩ (kX11_isDay l D cy h0 a0 s0 p1 _ rfl H.size) (cwV 1 hts gX11_weather_X11_isDay rfl rfl rfl (by decide +kernel) ⟨Nat.le_of_ble_eq_true rfl, Nat.le_of_ble_eq_true rfl⟩) hK hN hP hD [0] rfl rfl (ci := 11) (q0 := 0) rfl rfl rfl rfl hl.1 rfl (Nat.le_of_ble_eq_true rfl) dX11_weather_2 ⟨Nat.le_refl 0, Nat.le_refl 0⟩) hP hD hS hA [0] ⟨rfl, rfl, rfl, rfl⟩ (fun b1 H locs hP hD hS => ?_)
  refine lv_if_eq (tgt := 24) hx hb dX11_weather_5 (by decide) (fun c2 => ?_) (fun c2 => ?_)
  · replace h := (if_pos c2).symm.trans h
    refine lv_aload_n hx hb dX11_weather_24 rfl (lv_at hl 0 rfl) ?_
    refine lv_iconst (v := 1) hx hb dX11_weather_25 (by decide) ?_
    obtain ⟨r3, hr3, h⟩ := lt_elim h
    refine ca_i (w' := [WX11 cy h0 a0 r3.2]) (rn_V (As := [.int (1 : Int32)]) (rest := []) ⟨hx, hb, hml, hown, hts⟩ (kX11_refuse l D cy h0 a0 s0 (1 : Int32) r3 hr3.symm H.size) (cwV 1 hts gX11_weather_X11_refuse rfl rfl rfl (by decide +kernel) ⟨Nat.le_of_ble_eq_true rfl, Nat.le_of_ble_eq_true rfl⟩) hK hN hP hD [0] rfl rfl (ci := 11) (q0 := 0) rfl rfl rfl rfl hl.1 rfl (Nat.le_of_ble_eq_true rfl) dX11_weather_26 ⟨Nat.le_refl 0, Nat.le_refl 0⟩) hP hD hS hA [0] ⟨rfl, rfl, rfl, rfl⟩ (fun H locs hP hD hS => ?_)
    exact hret 29 H locs ls (r3.1, r3.2) (Option.some.inj h) hP hD hS dX11_weather_29
  · replace h := (if_neg c2).symm.trans h
    refine lv_aload_n hx hb dX11_weather_8 rfl (lv_at hl 0 rfl) ?_
    refine lv_aload_n hx hb dX11_weather_9 rfl (lv_at hl 0 rfl) ?_
    refine va_get (D := D) (ci := 11) (v := .ref (a0 0)) (C := RX11) (T := TX11) (N := 38) hx hb hts hinX11 hown hK hP 0 rfl rfl 0 (by decide) (hts (.fieldLink RX11 7 "KneeBenchModel" "at" "[I") (List.mem_of_getElem? (i := 1) rfl)) (fun _ h9 => h9) rfl dX11_weather_10 ?_
    refine lv_bipush (v := 122) hx hb dX11_weather_13 (by decide) ?_
    refine lv_iload_n hx hb dX11_weather_15 rfl (lv_at hl 1 rfl) ?_
    refine lv_iadd hx hb dX11_weather_16 ?_
    obtain ⟨g4, h⟩ := gd_elim h
    refine va_iald hx hb hK hP 1 1 rfl rfl (inb_in g4) dX11_weather_17 ?_
    obtain ⟨r5, hr5, h⟩ := lt_elim h
    refine ca_i (w' := [WX11 cy h0 a0 r5.2]) (rn_V (As := [.int (ga s0 0 ((122 : Int32) + p1).toNatClampNeg)]) (rest := []) ⟨hx, hb, hml, hown, hts⟩ (kX11_gives l D cy h0 a0 s0 (ga s0 0 ((122 : Int32) + p1).toNatClampNeg) r5 hr5.symm H.size) (cwV 1 hts gX11_weather_X11_gives rfl rfl rfl (by decide +kernel) ⟨Nat.le_of_ble_eq_true rfl, Nat.le_of_ble_eq_true rfl⟩) hK hN hP hD [0] rfl rfl (ci := 11) (q0 := 0) rfl rfl rfl rfl hl.1 rfl (Nat.le_of_ble_eq_true rfl) dX11_weather_18 ⟨Nat.le_refl 0, Nat.le_refl 0⟩) hP hD hS hA [0] ⟨rfl, rfl, rfl, rfl⟩ (fun H locs hP hD hS => ?_)
    refine lv_goto (tgt := 29) hx hb dX11_weather_21 (by decide) ?_
    exact hret 29 H locs ls (r5.1, r5.2) (Option.some.inj h) hP hD hS dX11_weather_29
theorem gd_X11_wedding : wsX11_wedding.all goodWord = true := by decide +kernel
set_option maxRecDepth 20000 in
theorem ggX11_wedding_X11_isSpan : GoodIn wsX11_wedding wsX11_isSpan := goodIn_by gd_X11_wedding (List.forall_mem_cons.mpr ⟨List.mem_cons_of_mem _ (List.mem_append_left _ (List.mem_append_left _ (List.mem_of_getElem? (i := 4) rfl))), List.forall_mem_cons.mpr ⟨List.mem_cons_of_mem _ (List.mem_append_left _ (List.mem_append_left _ (List.mem_of_getElem? (i := 5) rfl))), List.forall_mem_cons.mpr ⟨List.mem_cons_of_mem _ (List.mem_append_left _ (List.mem_append_left _ (List.mem_of_getElem? (i := 6) rfl))), List.forall_mem_cons.mpr ⟨List.mem_cons_of_mem _ (List.mem_append_left _ (List.mem_append_left _ (List.mem_of_getElem? (i := 3) rfl))), List.forall_mem_cons.mpr ⟨List.mem_cons_of_mem _ (List.mem_append_left _ (List.mem_append_left _ (List.mem_of_getElem? (i := 7) rfl))), nowords_in⟩⟩⟩⟩⟩)
set_option maxRecDepth 20000 in
theorem gX11_wedding_X11_isSpan : GoodIn wsX11_wedding (va_wsS RX11 349 yX11_isSpan wsX11_isSpan) := goodIn_app (goodIn_by gd_X11_wedding (List.forall_mem_cons.mpr ⟨List.mem_cons_of_mem _ (List.mem_append_left _ (List.mem_append_left _ (List.mem_of_getElem? (i := 1) rfl))), List.forall_mem_cons.mpr ⟨List.mem_cons_of_mem _ (List.mem_append_left _ (List.mem_append_left _ (List.mem_of_getElem? (i := 2) rfl))), List.forall_mem_cons.mpr ⟨List.mem_cons_of_mem _ (List.mem_append_left _ (List.mem_append_left _ (List.mem_of_getElem? (i := 3) rfl))), nowords_in⟩⟩⟩)) ggX11_wedding_X11_isSpan
set_option maxRecDepth 20000 in
theorem ggX11_wedding_X11_refuse : GoodIn wsX11_wedding wsX11_refuse := goodIn_by gd_X11_wedding (List.forall_mem_cons.mpr ⟨List.mem_cons_of_mem _ (List.mem_append_left _ (List.mem_append_left _ (List.mem_of_getElem? (i := 11) rfl))), List.forall_mem_append.mpr ⟨List.forall_mem_cons.mpr ⟨List.mem_cons_of_mem _ (List.mem_append_left _ (List.mem_append_left _ (List.mem_of_getElem? (i := 12) rfl))), nowords_in⟩, (fun _ h => List.mem_cons_of_mem _ (List.mem_append_right _ (h)))⟩⟩)
set_option maxRecDepth 20000 in
theorem gX11_wedding_X11_refuse : GoodIn wsX11_wedding (wsV RX11 75 RX11 yX11_refuse wsX11_refuse) := goodIn_app (goodIn_by gd_X11_wedding (List.forall_mem_cons.mpr ⟨List.mem_cons_of_mem _ (List.mem_append_left _ (List.mem_append_left _ (List.mem_of_getElem? (i := 8) rfl))), List.forall_mem_cons.mpr ⟨List.mem_cons_of_mem _ (List.mem_append_left _ (List.mem_append_left _ (List.mem_of_getElem? (i := 9) rfl))), List.forall_mem_cons.mpr ⟨List.mem_cons_of_mem _ (List.mem_append_left _ (List.mem_append_left _ (List.mem_of_getElem? (i := 10) rfl))), List.forall_mem_cons.mpr ⟨List.mem_cons_of_mem _ (List.mem_append_left _ (List.mem_append_left _ (List.mem_of_getElem? (i := 3) rfl))), nowords_in⟩⟩⟩⟩)) ggX11_wedding_X11_refuse
set_option maxRecDepth 20000 in
theorem ggX11_wedding_X11_tellOf : GoodIn wsX11_wedding wsX11_tellOf := goodIn_by gd_X11_wedding (List.forall_mem_cons.mpr ⟨List.mem_cons_of_mem _ (List.mem_append_left _ (List.mem_append_left _ (List.mem_of_getElem? (i := 16) rfl))), List.forall_mem_append.mpr ⟨List.forall_mem_cons.mpr ⟨List.mem_cons_of_mem _ (List.mem_append_left _ (List.mem_append_left _ (List.mem_of_getElem? (i := 17) rfl))), List.forall_mem_cons.mpr ⟨List.mem_cons_of_mem _ (List.mem_append_left _ (List.mem_append_left _ (List.mem_of_getElem? (i := 0) rfl))), List.forall_mem_cons.mpr ⟨List.mem_cons_of_mem _ (List.mem_append_left _ (List.mem_append_left _ (List.mem_of_getElem? (i := 18) rfl))), List.forall_mem_cons.mpr ⟨List.mem_cons_of_mem _ (List.mem_append_left _ (List.mem_append_left _ (List.mem_of_getElem? (i := 19) rfl))), List.forall_mem_cons.mpr ⟨List.mem_cons_of_mem _ (List.mem_append_left _ (List.mem_append_left _ (List.mem_of_getElem? (i := 20) rfl))), List.forall_mem_cons.mpr ⟨List.mem_cons_of_mem _ (List.mem_append_left _ (List.mem_append_left _ (List.mem_of_getElem? (i := 21) rfl))), List.forall_mem_cons.mpr ⟨List.mem_cons_of_mem _ (List.mem_append_left _ (List.mem_append_left _ (List.mem_of_getElem? (i := 3) rfl))), List.forall_mem_cons.mpr ⟨List.mem_cons_of_mem _ (List.mem_append_left _ (List.mem_append_left _ (List.mem_of_getElem? (i := 22) rfl))), List.forall_mem_cons.mpr ⟨List.mem_cons_of_mem _ (List.mem_append_left _ (List.mem_append_left _ (List.mem_of_getElem? (i := 23) rfl))), List.forall_mem_cons.mpr ⟨List.mem_cons_of_mem _ (List.mem_append_left _ (List.mem_append_right _ (List.mem_of_getElem? (i := 0) rfl))), List.forall_mem_cons.mpr ⟨List.mem_cons_of_mem _ (List.mem_append_left _ (List.mem_append_right _ (List.mem_of_getElem? (i := 1) rfl))), List.forall_mem_cons.mpr ⟨List.mem_cons_of_mem _ (List.mem_append_left _ (List.mem_append_right _ (List.mem_of_getElem? (i := 2) rfl))), List.forall_mem_cons.mpr ⟨List.mem_cons_of_mem _ (List.mem_append_left _ (List.mem_append_right _ (List.mem_of_getElem? (i := 3) rfl))), List.forall_mem_cons.mpr ⟨List.mem_cons_of_mem _ (List.mem_append_left _ (List.mem_append_right _ (List.mem_of_getElem? (i := 4) rfl))), List.forall_mem_cons.mpr ⟨List.mem_cons_of_mem _ (List.mem_append_left _ (List.mem_append_right _ (List.mem_of_getElem? (i := 5) rfl))), List.forall_mem_cons.mpr ⟨List.mem_cons_of_mem _ (List.mem_append_left _ (List.mem_append_right _ (List.mem_of_getElem? (i := 6) rfl))), List.forall_mem_cons.mpr ⟨List.mem_cons_of_mem _ (List.mem_append_left _ (List.mem_append_right _ (List.mem_of_getElem? (i := 7) rfl))), List.forall_mem_cons.mpr ⟨List.mem_cons_of_mem _ (List.mem_append_left _ (List.mem_append_right _ (List.mem_of_getElem? (i := 8) rfl))), List.forall_mem_cons.mpr ⟨List.mem_cons_of_mem _ (List.mem_append_left _ (List.mem_append_right _ (List.mem_of_getElem? (i := 9) rfl))), List.forall_mem_cons.mpr ⟨List.mem_cons_of_mem _ (List.mem_append_left _ (List.mem_append_right _ (List.mem_of_getElem? (i := 10) rfl))), List.forall_mem_cons.mpr ⟨List.mem_cons_of_mem _ (List.mem_append_left _ (List.mem_append_right _ (List.mem_of_getElem? (i := 11) rfl))), List.forall_mem_cons.mpr ⟨List.mem_cons_of_mem _ (List.mem_append_left _ (List.mem_append_right _ (List.mem_of_getElem? (i := 12) rfl))), nowords_in⟩⟩⟩⟩⟩⟩⟩⟩⟩⟩⟩⟩⟩⟩⟩⟩⟩⟩⟩⟩⟩⟩, (fun _ h => List.mem_cons_of_mem _ (List.mem_append_right _ (h)))⟩⟩)
set_option maxRecDepth 20000 in
theorem gX11_wedding_X11_tellOf : GoodIn wsX11_wedding (wsV RX11 307 RX11 yX11_tellOf wsX11_tellOf) := goodIn_app (goodIn_by gd_X11_wedding (List.forall_mem_cons.mpr ⟨List.mem_cons_of_mem _ (List.mem_append_left _ (List.mem_append_left _ (List.mem_of_getElem? (i := 13) rfl))), List.forall_mem_cons.mpr ⟨List.mem_cons_of_mem _ (List.mem_append_left _ (List.mem_append_left _ (List.mem_of_getElem? (i := 14) rfl))), List.forall_mem_cons.mpr ⟨List.mem_cons_of_mem _ (List.mem_append_left _ (List.mem_append_left _ (List.mem_of_getElem? (i := 15) rfl))), List.forall_mem_cons.mpr ⟨List.mem_cons_of_mem _ (List.mem_append_left _ (List.mem_append_left _ (List.mem_of_getElem? (i := 3) rfl))), nowords_in⟩⟩⟩⟩)) ggX11_wedding_X11_tellOf
set_option maxRecDepth 20000 in
theorem ggX11_wedding_X11_farmerRow : GoodIn wsX11_wedding wsX11_farmerRow := goodIn_by gd_X11_wedding (List.forall_mem_cons.mpr ⟨List.mem_cons_of_mem _ (List.mem_append_left _ (List.mem_append_right _ (List.mem_of_getElem? (i := 1) rfl))), nowords_in⟩)
set_option maxRecDepth 20000 in
theorem gX11_wedding_X11_farmerRow : GoodIn wsX11_wedding (va_wsS RX11 177 yX11_farmerRow wsX11_farmerRow) := goodIn_app (goodIn_by gd_X11_wedding (List.forall_mem_cons.mpr ⟨List.mem_cons_of_mem _ (List.mem_append_left _ (List.mem_append_left _ (List.mem_of_getElem? (i := 23) rfl))), List.forall_mem_cons.mpr ⟨List.mem_cons_of_mem _ (List.mem_append_left _ (List.mem_append_right _ (List.mem_of_getElem? (i := 0) rfl))), List.forall_mem_cons.mpr ⟨List.mem_cons_of_mem _ (List.mem_append_left _ (List.mem_append_left _ (List.mem_of_getElem? (i := 3) rfl))), nowords_in⟩⟩⟩)) ggX11_wedding_X11_farmerRow
set_option maxRecDepth 20000 in
theorem ggX11_wedding_X11_gives : GoodIn wsX11_wedding wsX11_gives := goodIn_by gd_X11_wedding (List.forall_mem_cons.mpr ⟨List.mem_cons_of_mem _ (List.mem_append_left _ (List.mem_append_right _ (List.mem_of_getElem? (i := 16) rfl))), List.forall_mem_append.mpr ⟨List.forall_mem_cons.mpr ⟨List.mem_cons_of_mem _ (List.mem_append_left _ (List.mem_append_left _ (List.mem_of_getElem? (i := 12) rfl))), nowords_in⟩, (fun _ h => List.mem_cons_of_mem _ (List.mem_append_right _ (h)))⟩⟩)
set_option maxRecDepth 20000 in
theorem gX11_wedding_X11_gives : GoodIn wsX11_wedding (wsV RX11 79 RX11 yX11_gives wsX11_gives) := goodIn_app (goodIn_by gd_X11_wedding (List.forall_mem_cons.mpr ⟨List.mem_cons_of_mem _ (List.mem_append_left _ (List.mem_append_right _ (List.mem_of_getElem? (i := 13) rfl))), List.forall_mem_cons.mpr ⟨List.mem_cons_of_mem _ (List.mem_append_left _ (List.mem_append_right _ (List.mem_of_getElem? (i := 14) rfl))), List.forall_mem_cons.mpr ⟨List.mem_cons_of_mem _ (List.mem_append_left _ (List.mem_append_right _ (List.mem_of_getElem? (i := 15) rfl))), List.forall_mem_cons.mpr ⟨List.mem_cons_of_mem _ (List.mem_append_left _ (List.mem_append_left _ (List.mem_of_getElem? (i := 3) rfl))), nowords_in⟩⟩⟩⟩)) ggX11_wedding_X11_gives
theorem dX11_wedding_0 : decode cX11_wedding 0 = .ok (.iload_n 1, 1) := by decide +kernel
theorem dX11_wedding_1 : decode cX11_wedding 1 = .ok (.iload_n 2, 1) := by decide +kernel
theorem dX11_wedding_2 : decode cX11_wedding 2 = .ok (.invokestatic 349, 3) := by decide +kernel
theorem dX11_wedding_5 : decode cX11_wedding 5 = .ok (.ifCond .ne 9, 3) := by decide +kernel
theorem dX11_wedding_8 : decode cX11_wedding 8 = .ok (.aload_n 0, 1) := by decide +kernel
theorem dX11_wedding_9 : decode cX11_wedding 9 = .ok (.iconst 1, 1) := by decide +kernel
theorem dX11_wedding_10 : decode cX11_wedding 10 = .ok (.invokevirtual 75, 3) := by decide +kernel
theorem dX11_wedding_13 : decode cX11_wedding 13 = .ok (.ireturn, 1) := by decide +kernel
theorem dX11_wedding_14 : decode cX11_wedding 14 = .ok (.iconst (-1), 1) := by decide +kernel
theorem dX11_wedding_15 : decode cX11_wedding 15 = .ok (.istore_n 3, 1) := by decide +kernel
theorem dX11_wedding_16 : decode cX11_wedding 16 = .ok (.iconst 0, 1) := by decide +kernel
theorem dX11_wedding_17 : decode cX11_wedding 17 = .ok (.istore 4, 2) := by decide +kernel
theorem dX11_wedding_19 : decode cX11_wedding 19 = .ok (.iload_n 1, 1) := by decide +kernel
theorem dX11_wedding_20 : decode cX11_wedding 20 = .ok (.istore 5, 2) := by decide +kernel
theorem dX11_wedding_22 : decode cX11_wedding 22 = .ok (.iload 5, 2) := by decide +kernel
theorem dX11_wedding_24 : decode cX11_wedding 24 = .ok (.iload_n 2, 1) := by decide +kernel
theorem dX11_wedding_25 : decode cX11_wedding 25 = .ok (.if_icmp .gt 116, 3) := by decide +kernel
theorem dX11_wedding_28 : decode cX11_wedding 28 = .ok (.iconst 0, 1) := by decide +kernel
theorem dX11_wedding_29 : decode cX11_wedding 29 = .ok (.istore 6, 2) := by decide +kernel
theorem dX11_wedding_31 : decode cX11_wedding 31 = .ok (.iconst 0, 1) := by decide +kernel
theorem dX11_wedding_32 : decode cX11_wedding 32 = .ok (.istore 7, 2) := by decide +kernel
theorem dX11_wedding_34 : decode cX11_wedding 34 = .ok (.iload 7, 2) := by decide +kernel
theorem dX11_wedding_36 : decode cX11_wedding 36 = .ok (.aload_n 0, 1) := by decide +kernel
theorem dX11_wedding_37 : decode cX11_wedding 37 = .ok (.getfield 7, 3) := by decide +kernel
theorem dX11_wedding_40 : decode cX11_wedding 40 = .ok (.iconst 0, 1) := by decide +kernel
theorem dX11_wedding_41 : decode cX11_wedding 41 = .ok (.iaload, 1) := by decide +kernel
theorem dX11_wedding_42 : decode cX11_wedding 42 = .ok (.if_icmp .ge 71, 3) := by decide +kernel
theorem dX11_wedding_45 : decode cX11_wedding 45 = .ok (.iload 6, 2) := by decide +kernel
theorem dX11_wedding_47 : decode cX11_wedding 47 = .ok (.aload_n 0, 1) := by decide +kernel
theorem dX11_wedding_48 : decode cX11_wedding 48 = .ok (.iload 7, 2) := by decide +kernel
theorem dX11_wedding_50 : decode cX11_wedding 50 = .ok (.iload 5, 2) := by decide +kernel
theorem dX11_wedding_52 : decode cX11_wedding 52 = .ok (.invokevirtual 307, 3) := by decide +kernel
theorem dX11_wedding_55 : decode cX11_wedding 55 = .ok (.iconst (-1), 1) := by decide +kernel
theorem dX11_wedding_56 : decode cX11_wedding 56 = .ok (.if_icmp .ne 7, 3) := by decide +kernel
theorem dX11_wedding_59 : decode cX11_wedding 59 = .ok (.iconst 0, 1) := by decide +kernel
theorem dX11_wedding_60 : decode cX11_wedding 60 = .ok (.goto 44, 3) := by decide +kernel
theorem dX11_wedding_63 : decode cX11_wedding 63 = .ok (.aload_n 0, 1) := by decide +kernel
theorem dX11_wedding_64 : decode cX11_wedding 64 = .ok (.iload 7, 2) := by decide +kernel
theorem dX11_wedding_66 : decode cX11_wedding 66 = .ok (.iload 5, 2) := by decide +kernel
theorem dX11_wedding_68 : decode cX11_wedding 68 = .ok (.invokevirtual 307, 3) := by decide +kernel
theorem dX11_wedding_71 : decode cX11_wedding 71 = .ok (.ifCond .ne 19, 3) := by decide +kernel
theorem dX11_wedding_74 : decode cX11_wedding 74 = .ok (.aload_n 0, 1) := by decide +kernel
theorem dX11_wedding_75 : decode cX11_wedding 75 = .ok (.getfield 7, 3) := by decide +kernel
theorem dX11_wedding_78 : decode cX11_wedding 78 = .ok (.iconst 0, 1) := by decide +kernel
theorem dX11_wedding_79 : decode cX11_wedding 79 = .ok (.iload 7, 2) := by decide +kernel
theorem dX11_wedding_81 : decode cX11_wedding 81 = .ok (.invokestatic 177, 3) := by decide +kernel
theorem dX11_wedding_84 : decode cX11_wedding 84 = .ok (.iconst 5, 1) := by decide +kernel
theorem dX11_wedding_85 : decode cX11_wedding 85 = .ok (.iadd, 1) := by decide +kernel
theorem dX11_wedding_86 : decode cX11_wedding 86 = .ok (.iaload, 1) := by decide +kernel
theorem dX11_wedding_87 : decode cX11_wedding 87 = .ok (.goto 17, 3) := by decide +kernel
theorem dX11_wedding_90 : decode cX11_wedding 90 = .ok (.aload_n 0, 1) := by decide +kernel
theorem dX11_wedding_91 : decode cX11_wedding 91 = .ok (.getfield 7, 3) := by decide +kernel
theorem dX11_wedding_94 : decode cX11_wedding 94 = .ok (.iconst 0, 1) := by decide +kernel
theorem dX11_wedding_95 : decode cX11_wedding 95 = .ok (.iload 7, 2) := by decide +kernel
theorem dX11_wedding_97 : decode cX11_wedding 97 = .ok (.invokestatic 177, 3) := by decide +kernel
theorem dX11_wedding_100 : decode cX11_wedding 100 = .ok (.iconst 5, 1) := by decide +kernel
theorem dX11_wedding_101 : decode cX11_wedding 101 = .ok (.iadd, 1) := by decide +kernel
theorem dX11_wedding_102 : decode cX11_wedding 102 = .ok (.iaload, 1) := by decide +kernel
theorem dX11_wedding_103 : decode cX11_wedding 103 = .ok (.ineg, 1) := by decide +kernel
theorem dX11_wedding_104 : decode cX11_wedding 104 = .ok (.iadd, 1) := by decide +kernel
theorem dX11_wedding_105 : decode cX11_wedding 105 = .ok (.istore 6, 2) := by decide +kernel
theorem dX11_wedding_107 : decode cX11_wedding 107 = .ok (.iinc 7 1, 3) := by decide +kernel
theorem dX11_wedding_110 : decode cX11_wedding 110 = .ok (.goto (-76), 3) := by decide +kernel
theorem dX11_wedding_113 : decode cX11_wedding 113 = .ok (.iload_n 3, 1) := by decide +kernel
theorem dX11_wedding_114 : decode cX11_wedding 114 = .ok (.iconst (-1), 1) := by decide +kernel
theorem dX11_wedding_115 : decode cX11_wedding 115 = .ok (.if_icmp .eq 13, 3) := by decide +kernel
theorem dX11_wedding_118 : decode cX11_wedding 118 = .ok (.iload 6, 2) := by decide +kernel
theorem dX11_wedding_120 : decode cX11_wedding 120 = .ok (.iload 4, 2) := by decide +kernel
theorem dX11_wedding_122 : decode cX11_wedding 122 = .ok (.if_icmp .gt 6, 3) := by decide +kernel
theorem dX11_wedding_125 : decode cX11_wedding 125 = .ok (.goto 10, 3) := by decide +kernel
theorem dX11_wedding_128 : decode cX11_wedding 128 = .ok (.iload 5, 2) := by decide +kernel
theorem dX11_wedding_130 : decode cX11_wedding 130 = .ok (.istore_n 3, 1) := by decide +kernel
theorem dX11_wedding_131 : decode cX11_wedding 131 = .ok (.iload 6, 2) := by decide +kernel
theorem dX11_wedding_133 : decode cX11_wedding 133 = .ok (.istore 4, 2) := by decide +kernel
theorem dX11_wedding_135 : decode cX11_wedding 135 = .ok (.iinc 5 1, 3) := by decide +kernel
theorem dX11_wedding_138 : decode cX11_wedding 138 = .ok (.goto (-116), 3) := by decide +kernel
theorem dX11_wedding_141 : decode cX11_wedding 141 = .ok (.aload_n 0, 1) := by decide +kernel
theorem dX11_wedding_142 : decode cX11_wedding 142 = .ok (.iload_n 3, 1) := by decide +kernel
theorem dX11_wedding_143 : decode cX11_wedding 143 = .ok (.invokevirtual 79, 3) := by decide +kernel
theorem dX11_wedding_146 : decode cX11_wedding 146 = .ok (.ireturn, 1) := by decide +kernel
abbrev rmX11_wedding : Room := { frames := 3, cells := 0, slots := 0, locals := 66 }
set_option maxHeartbeats 4000000 in
set_option maxRecDepth 100000 in
theorem kX11_wedding (l : Launch) (D : va_G) (cy : Nat → ClassId) (h0 : Nat) (a0 : Nat → Nat) (s0 : Rc) (p1 : Int32) (p2 : Int32) (res : Int32 × Rc) (h : fX11_wedding p1 p2 s0 = some res) : CI l D cy yX11_wedding wsX11_wedding rmX11_wedding [.ref h0, .int p1, .int p2] (flat [WX11 cy h0 a0 s0]) (flat [WX11 cy h0 a0 res.2]) res.1 := by
  refine CI.of (cc := cX11_wedding) (maxL := 8) (by decide) rfl (Nat.le_of_ble_eq_true rfl) ?_
  intro p e s m args below meth c A QQ ls E hr
  obtain ⟨hx, hb, hml, hown, hts, hK, hN, hP, hD, hA, hl⟩ := E
  have hret : ∀ (pc : Nat) (H : Heap) (locs : List Loc) (ls : Array Slot) (u : Int32 × Rc), u = res → va_P D vwCl (flat [WX11 cy h0 a0 u.2]) H → va_D A (flat [WX11 cy h0 a0 u.2]) → va_S A s.heap H locs → decode cX11_wedding pc = .ok (.ireturn, 1) → W p l e rmX11_wedding s m args below meth c H locs 0 0 QQ (F0 m pc ls [.int u.1]) := by
    intro pc H locs ls u hu hP hD hS hd; subst hu; exact hr pc H locs ls _ rfl hP hD hS hd
  clear hr
  have hl : lv_has ls 8 [(0, .ref h0), (1, .int p1), (2, .int p2)] := hl
  have hinX11 : ∀ w ∈ wsX110, w ∈ wsX11_wedding := fun _ h => List.mem_cons_of_mem _ (List.mem_append_right _ h)
  unfold fX11_wedding at h
  suffices key : ∀ (H : Heap) (locs : List Loc), va_P D vwCl (flat [WX11 cy h0 a0 s0]) H → va_S A s.heap H locs → W p l e rmX11_wedding s m args below meth c H locs 0 0 QQ (F0 m 0 ls []) from key _ _ hP va_S.rf
  clear hP
  intro H locs hP hS
  refine lv_iload_n hx hb dX11_wedding_0 rfl (lv_at hl 1 rfl) ?_
  refine lv_iload_n hx hb dX11_wedding_1 rfl (lv_at hl 2 rfl) ?_
  refine ca_z (w' := [WX11 cy h0 a0 s0]) (rn_S (As := [.int p1, .int p2]) (rest := []) ⟨hx, hb, hml, hown, hts⟩ (kX11_isSpan l D cy p1 p2 _ rfl H.size) (va_cwS 2 hts gX11_wedding_X11_isSpan rfl rfl rfl (by decide +kernel) ⟨Nat.le_of_ble_eq_true rfl, Nat.le_of_ble_eq_true rfl⟩) hK hN hP hD [] rfl rfl rfl hl.1 rfl (Nat.le_of_ble_eq_true rfl) dX11_wedding_2 ⟨Nat.le_refl 0, Nat.le_refl 0⟩) hP hD hS hA [] ⟨rfl, rfl, rfl, rfl⟩ (fun b1 H locs hP hD hS => ?_)
  refine lv_if_ne (tgt := 14) hx hb dX11_wedding_5 (by decide) (fun c2 => ?_) (fun c2 => ?_)
  · replace h := (if_neg c2).symm.trans h
    refine lv_iconst (v := -1) hx hb dX11_wedding_14 (by decide) ?_
    refine lv_istore_n (lv' := [(3, .int (-1 : Int32)), (0, .ref h0), (1, .int p1), (2, .int p2)]) hx hb dX11_wedding_15 rfl hl (by decide) rfl (fun ls hl => ?_)
    refine lv_iconst (v := 0) hx hb dX11_wedding_16 (by decide) ?_
    refine lv_istore (lv' := [(4, .int (0 : Int32)), (3, .int (-1 : Int32)), (0, .ref h0), (1, .int p1), (2, .int p2)]) hx hb dX11_wedding_17 hl (by decide) rfl (fun ls hl => ?_)
    refine lv_iload_n hx hb dX11_wedding_19 rfl (lv_at hl 3 rfl) ?_
    refine lv_istore (lv' := [(5, .int p1), (4, .int (0 : Int32)), (3, .int (-1 : Int32)), (0, .ref h0), (1, .int p1), (2, .int p2)]) hx hb dX11_wedding_20 hl (by decide) rfl (fun ls hl => ?_)
    have L22 : ∀ (n : Nat) (q22 : Int32 × Int32 × Int32) (o : Int32), loopO (fX11_wedding_L22 p2 s0) n q22 = some o → ∀ (H : Heap) (locs : List Loc) (ls : Array Slot), lv_has ls 8 [(0, .ref h0), (2, .int p2), (3, .int q22.1), (4, .int q22.2.1), (5, .int q22.2.2)] → va_P D vwCl (flat [WX11 cy h0 a0 s0]) H → va_D A (flat [WX11 cy h0 a0 s0]) → va_S A s.heap H locs → ∀ (kk141 : ∀ (H : Heap) (locs : List Loc) (ls : Array Slot), lv_has ls 8 [(0, .ref h0), (3, .int o)] → va_P D vwCl (flat [WX11 cy h0 a0 s0]) H → va_D A (flat [WX11 cy h0 a0 s0]) → va_S A s.heap H locs → W p l e rmX11_wedding s m args below meth c H locs 0 0 QQ (F0 m 141 ls [])), W p l e rmX11_wedding s m args below meth c H locs 0 0 QQ (F0 m 22 ls []) := by
      intro n
      induction n with
      | zero => intro q22 o h; exact absurd h (by rw [loopO_zero]; intro z; cases z)
      | succ n ih =>
        intro q22 o h H locs ls hl hP hD hS kk141
        obtain ⟨w, h, hgo, hst⟩ := loopO_elim h
        unfold fX11_wedding_L22 at h
        refine lv_iload hx hb dX11_wedding_22 (lv_at hl 4 rfl) ?_
        refine lv_iload_n hx hb dX11_wedding_24 rfl (lv_at hl 1 rfl) ?_
        refine lv_icmp_gt (tgt := 141) hx hb dX11_wedding_25 (by decide) (fun c3 => ?_) (fun c3 => ?_)
        · replace h := (if_pos c3).symm.trans h
          have eo := hst _ (Option.some.inj h).symm
          subst eo
          exact kk141 H locs ls (lv_sub hl [0, 2] rfl) hP hD hS
        · replace h := (if_neg c3).symm.trans h
          refine lv_iconst (v := 0) hx hb dX11_wedding_28 (by decide) ?_
          refine lv_istore (lv' := [(6, .int (0 : Int32)), (0, .ref h0), (2, .int p2), (3, .int q22.1), (4, .int q22.2.1), (5, .int q22.2.2)]) hx hb dX11_wedding_29 hl (by decide) rfl (fun ls hl => ?_)
          refine lv_iconst (v := 0) hx hb dX11_wedding_31 (by decide) ?_
          refine lv_istore (lv' := [(7, .int (0 : Int32)), (6, .int (0 : Int32)), (0, .ref h0), (2, .int p2), (3, .int q22.1), (4, .int q22.2.1), (5, .int q22.2.2)]) hx hb dX11_wedding_32 hl (by decide) rfl (fun ls hl => ?_)
          have L34 : ∀ (n : Nat) (q34 : Int32 × Int32) (o : Int32), loopO (fX11_wedding_L34 s0 q22) n q34 = some o → ∀ (H : Heap) (locs : List Loc) (ls : Array Slot), lv_has ls 8 [(0, .ref h0), (2, .int p2), (3, .int q22.1), (4, .int q22.2.1), (5, .int q22.2.2), (6, .int q34.1), (7, .int q34.2)] → va_P D vwCl (flat [WX11 cy h0 a0 s0]) H → va_D A (flat [WX11 cy h0 a0 s0]) → va_S A s.heap H locs → ∀ (kk113 : ∀ (H : Heap) (locs : List Loc) (ls : Array Slot), lv_has ls 8 [(0, .ref h0), (2, .int p2), (3, .int q22.1), (4, .int q22.2.1), (5, .int q22.2.2), (6, .int o)] → va_P D vwCl (flat [WX11 cy h0 a0 s0]) H → va_D A (flat [WX11 cy h0 a0 s0]) → va_S A s.heap H locs → W p l e rmX11_wedding s m args below meth c H locs 0 0 QQ (F0 m 113 ls [])), W p l e rmX11_wedding s m args below meth c H locs 0 0 QQ (F0 m 34 ls []) := by
            intro n
            induction n with
            | zero => intro q34 o h; exact absurd h (by rw [loopO_zero]; intro z; cases z)
            | succ n ih =>
              intro q34 o h H locs ls hl hP hD hS kk113
              obtain ⟨w, h, hgo, hst⟩ := loopO_elim h
              unfold fX11_wedding_L34 at h
              refine lv_iload hx hb dX11_wedding_34 (lv_at hl 6 rfl) ?_
              refine lv_aload_n hx hb dX11_wedding_36 rfl (lv_at hl 0 rfl) ?_
              refine va_get (D := D) (ci := 11) (v := .ref (a0 0)) (C := RX11) (T := TX11) (N := 38) hx hb hts hinX11 hown hK hP 0 rfl rfl 0 (by decide) (hts (.fieldLink RX11 7 "KneeBenchModel" "at" "[I") (List.mem_of_getElem? (i := 1) rfl)) (fun _ h9 => h9) rfl dX11_wedding_37 ?_
              refine lv_iconst (v := 0) hx hb dX11_wedding_40 (by decide) ?_
              refine va_iald hx hb hK hP 1 1 rfl rfl (inb_in (by decide)) dX11_wedding_41 ?_
              refine lv_icmp_ge (tgt := 113) hx hb dX11_wedding_42 (by decide) (fun c4 => ?_) (fun c4 => ?_)
              · replace h := (if_pos c4).symm.trans h
                have eo := hst _ (Option.some.inj h).symm
                subst eo
                exact kk113 H locs ls (lv_sub hl [0, 1, 2, 3, 4, 5] rfl) hP hD hS
              · replace h := (if_neg c4).symm.trans h
                refine lv_iload hx hb dX11_wedding_45 (lv_at hl 5 rfl) ?_
                refine lv_aload_n hx hb dX11_wedding_47 rfl (lv_at hl 0 rfl) ?_
                refine lv_iload hx hb dX11_wedding_48 (lv_at hl 6 rfl) ?_
                refine lv_iload hx hb dX11_wedding_50 (lv_at hl 4 rfl) ?_
                obtain ⟨r5, hr5, h⟩ := bd_elim h
                refine ca_i (w' := [WX11 cy h0 a0 s0]) (rn_V (As := [.int q34.2, .int q22.2.2]) (rest := [.int q34.1]) ⟨hx, hb, hml, hown, hts⟩ (kX11_tellOf l D cy h0 a0 s0 q34.2 q22.2.2 r5 hr5 H.size) (cwV 2 hts gX11_wedding_X11_tellOf rfl rfl rfl (by decide +kernel) ⟨Nat.le_of_ble_eq_true rfl, Nat.le_of_ble_eq_true rfl⟩) hK hN hP hD [0] rfl rfl (ci := 11) (q0 := 0) rfl rfl rfl rfl hl.1 rfl (Nat.le_of_ble_eq_true rfl) dX11_wedding_52 ⟨Nat.le_refl 0, Nat.le_refl 0⟩) hP hD hS hA [0] ⟨rfl, rfl, rfl, rfl⟩ (fun H locs hP hD hS => ?_)
                refine lv_iconst (v := -1) hx hb dX11_wedding_55 (by decide) ?_
                refine lv_icmp_ne (tgt := 63) hx hb dX11_wedding_56 (by decide) (fun c6 => ?_) (fun c6 => ?_)
                · replace h := (if_neg c6).symm.trans h
                  refine lv_aload_n hx hb dX11_wedding_63 rfl (lv_at hl 0 rfl) ?_
                  refine lv_iload hx hb dX11_wedding_64 (lv_at hl 6 rfl) ?_
                  refine lv_iload hx hb dX11_wedding_66 (lv_at hl 4 rfl) ?_
                  obtain ⟨r7, hr7, h⟩ := bd_elim h
                  refine ca_i (w' := [WX11 cy h0 a0 s0]) (rn_V (As := [.int q34.2, .int q22.2.2]) (rest := [.int q34.1]) ⟨hx, hb, hml, hown, hts⟩ (kX11_tellOf l D cy h0 a0 s0 q34.2 q22.2.2 r7 hr7 H.size) (cwV 2 hts gX11_wedding_X11_tellOf rfl rfl rfl (by decide +kernel) ⟨Nat.le_of_ble_eq_true rfl, Nat.le_of_ble_eq_true rfl⟩) hK hN hP hD [0] rfl rfl (ci := 11) (q0 := 0) rfl rfl rfl rfl hl.1 rfl (Nat.le_of_ble_eq_true rfl) dX11_wedding_68 ⟨Nat.le_refl 0, Nat.le_refl 0⟩) hP hD hS hA [0] ⟨rfl, rfl, rfl, rfl⟩ (fun H locs hP hD hS => ?_)
                  refine lv_if_ne (tgt := 90) hx hb dX11_wedding_71 (by decide) (fun c8 => ?_) (fun c8 => ?_)
                  · replace h := (if_neg c8).symm.trans h
                    refine lv_aload_n hx hb dX11_wedding_90 rfl (lv_at hl 0 rfl) ?_
                    refine va_get (D := D) (ci := 11) (v := .ref (a0 0)) (C := RX11) (T := TX11) (N := 38) hx hb hts hinX11 hown hK hP 0 rfl rfl 0 (by decide) (hts (.fieldLink RX11 7 "KneeBenchModel" "at" "[I") (List.mem_of_getElem? (i := 1) rfl)) (fun _ h9 => h9) rfl dX11_wedding_91 ?_
                    refine lv_iconst (v := 0) hx hb dX11_wedding_94 (by decide) ?_
                    refine lv_iload hx hb dX11_wedding_95 (lv_at hl 6 rfl) ?_
                    refine ca_i (w' := [WX11 cy h0 a0 s0]) (rn_S (As := [.int (0 : Int32), .int q34.2]) (rest := [.ref (a0 0), .int q34.1]) ⟨hx, hb, hml, hown, hts⟩ (kX11_farmerRow l D cy (0 : Int32) q34.2 _ rfl H.size) (va_cwS 2 hts gX11_wedding_X11_farmerRow rfl rfl rfl (by decide +kernel) ⟨Nat.le_of_ble_eq_true rfl, Nat.le_of_ble_eq_true rfl⟩) hK hN hP hD [] rfl rfl rfl hl.1 rfl (Nat.le_of_ble_eq_true rfl) dX11_wedding_97 ⟨Nat.le_refl 0, Nat.le_refl 0⟩) hP hD hS hA [] ⟨rfl, rfl, rfl, rfl⟩ (fun H locs hP hD hS => ?_)
                    refine lv_iconst (v := 5) hx hb dX11_wedding_100 (by decide) ?_
                    refine lv_iadd hx hb dX11_wedding_101 ?_
                    obtain ⟨g9, h⟩ := gd_elim h
                    refine va_iald hx hb hK hP 1 1 rfl rfl (inb_in g9) dX11_wedding_102 ?_
                    refine lv_ineg hx hb dX11_wedding_103 ?_
                    refine lv_iadd hx hb dX11_wedding_104 ?_
                    refine lv_topi (fun x10 ex10 => ?_)
                    replace h := lt_use h x10 ex10
                    refine lv_istore (lv' := [(6, .int x10), (0, .ref h0), (2, .int p2), (3, .int q22.1), (4, .int q22.2.1), (5, .int q22.2.2), (7, .int q34.2)]) hx hb dX11_wedding_105 hl (by decide) rfl (fun ls hl => ?_)
                    refine lv_iinc (v := (q34.2 + (1 : Int32))) (lv' := [(7, .int (q34.2 + (1 : Int32))), (6, .int x10), (0, .ref h0), (2, .int p2), (3, .int q22.1), (4, .int q22.2.1), (5, .int q22.2.2)]) hx hb dX11_wedding_107 hl (k := 6) rfl rfl (by decide) rfl (fun ls hl => ?_)
                    refine lv_goto (tgt := 34) hx hb dX11_wedding_110 (by decide) ?_
                    exact ih _ o (hgo _ (Option.some.inj h).symm) H locs ls (lv_sub hl [2, 3, 4, 5, 6, 1, 0] rfl) hP hD hS kk113
                  · replace h := (if_pos c8).symm.trans h
                    refine lv_aload_n hx hb dX11_wedding_74 rfl (lv_at hl 0 rfl) ?_
                    refine va_get (D := D) (ci := 11) (v := .ref (a0 0)) (C := RX11) (T := TX11) (N := 38) hx hb hts hinX11 hown hK hP 0 rfl rfl 0 (by decide) (hts (.fieldLink RX11 7 "KneeBenchModel" "at" "[I") (List.mem_of_getElem? (i := 1) rfl)) (fun _ h9 => h9) rfl dX11_wedding_75 ?_
                    refine lv_iconst (v := 0) hx hb dX11_wedding_78 (by decide) ?_
                    refine lv_iload hx hb dX11_wedding_79 (lv_at hl 6 rfl) ?_
                    refine ca_i (w' := [WX11 cy h0 a0 s0]) (rn_S (As := [.int (0 : Int32), .int q34.2]) (rest := [.ref (a0 0), .int q34.1]) ⟨hx, hb, hml, hown, hts⟩ (kX11_farmerRow l D cy (0 : Int32) q34.2 _ rfl H.size) (va_cwS 2 hts gX11_wedding_X11_farmerRow rfl rfl rfl (by decide +kernel) ⟨Nat.le_of_ble_eq_true rfl, Nat.le_of_ble_eq_true rfl⟩) hK hN hP hD [] rfl rfl rfl hl.1 rfl (Nat.le_of_ble_eq_true rfl) dX11_wedding_81 ⟨Nat.le_refl 0, Nat.le_refl 0⟩) hP hD hS hA [] ⟨rfl, rfl, rfl, rfl⟩ (fun H locs hP hD hS => ?_)
                    refine lv_iconst (v := 5) hx hb dX11_wedding_84 (by decide) ?_
                    refine lv_iadd hx hb dX11_wedding_85 ?_
                    obtain ⟨g11, h⟩ := gd_elim h
                    refine va_iald hx hb hK hP 1 1 rfl rfl (inb_in g11) dX11_wedding_86 ?_
                    refine lv_goto (tgt := 104) hx hb dX11_wedding_87 (by decide) ?_
                    refine lv_iadd hx hb dX11_wedding_104 ?_
                    refine lv_topi (fun x12 ex12 => ?_)
                    replace h := lt_use h x12 ex12
                    refine lv_istore (lv' := [(6, .int x12), (0, .ref h0), (2, .int p2), (3, .int q22.1), (4, .int q22.2.1), (5, .int q22.2.2), (7, .int q34.2)]) hx hb dX11_wedding_105 hl (by decide) rfl (fun ls hl => ?_)
                    refine lv_iinc (v := (q34.2 + (1 : Int32))) (lv' := [(7, .int (q34.2 + (1 : Int32))), (6, .int x12), (0, .ref h0), (2, .int p2), (3, .int q22.1), (4, .int q22.2.1), (5, .int q22.2.2)]) hx hb dX11_wedding_107 hl (k := 6) rfl rfl (by decide) rfl (fun ls hl => ?_)
                    refine lv_goto (tgt := 34) hx hb dX11_wedding_110 (by decide) ?_
                    exact ih _ o (hgo _ (Option.some.inj h).symm) H locs ls (lv_sub hl [2, 3, 4, 5, 6, 1, 0] rfl) hP hD hS kk113
                · replace h := (if_pos c6).symm.trans h
                  refine lv_iconst (v := 0) hx hb dX11_wedding_59 (by decide) ?_
                  refine lv_goto (tgt := 104) hx hb dX11_wedding_60 (by decide) ?_
                  refine lv_iadd hx hb dX11_wedding_104 ?_
                  refine lv_topi (fun x13 ex13 => ?_)
                  replace h := lt_use h x13 ex13
                  refine lv_istore (lv' := [(6, .int x13), (0, .ref h0), (2, .int p2), (3, .int q22.1), (4, .int q22.2.1), (5, .int q22.2.2), (7, .int q34.2)]) hx hb dX11_wedding_105 hl (by decide) rfl (fun ls hl => ?_)
                  refine lv_iinc (v := (q34.2 + (1 : Int32))) (lv' := [(7, .int (q34.2 + (1 : Int32))), (6, .int x13), (0, .ref h0), (2, .int p2), (3, .int q22.1), (4, .int q22.2.1), (5, .int q22.2.2)]) hx hb dX11_wedding_107 hl (k := 6) rfl rfl (by decide) rfl (fun ls hl => ?_)
                  refine lv_goto (tgt := 34) hx hb dX11_wedding_110 (by decide) ?_
                  exact ih _ o (hgo _ (Option.some.inj h).symm) H locs ls (lv_sub hl [2, 3, 4, 5, 6, 1, 0] rfl) hP hD hS kk113
          obtain ⟨o34, ho34, h⟩ := bd_elim h
          obtain ⟨n34, hn34⟩ := loopF_some ho34
          refine L34 n34 _ o34 hn34 H locs ls (lv_sub hl [2, 3, 4, 5, 6, 1, 0] rfl) hP hD hS (fun H locs ls hl hP hD hS => ?_)
          refine lv_iload_n hx hb dX11_wedding_113 rfl (lv_at hl 2 rfl) ?_
          refine lv_iconst (v := -1) hx hb dX11_wedding_114 (by decide) ?_
          refine lv_icmp_eq (tgt := 128) hx hb dX11_wedding_115 (by decide) (fun c14 => ?_) (fun c14 => ?_)
          · replace h := (if_pos c14).symm.trans h
            refine lv_iload hx hb dX11_wedding_128 (lv_at hl 4 rfl) ?_
            refine lv_istore_n (lv' := [(3, .int q22.2.2), (0, .ref h0), (2, .int p2), (4, .int q22.2.1), (5, .int q22.2.2), (6, .int o34)]) hx hb dX11_wedding_130 rfl hl (by decide) rfl (fun ls hl => ?_)
            refine lv_iload hx hb dX11_wedding_131 (lv_at hl 5 rfl) ?_
            refine lv_istore (lv' := [(4, .int o34), (3, .int q22.2.2), (0, .ref h0), (2, .int p2), (5, .int q22.2.2), (6, .int o34)]) hx hb dX11_wedding_133 hl (by decide) rfl (fun ls hl => ?_)
            refine lv_iinc (v := (q22.2.2 + (1 : Int32))) (lv' := [(5, .int (q22.2.2 + (1 : Int32))), (4, .int o34), (3, .int q22.2.2), (0, .ref h0), (2, .int p2), (6, .int o34)]) hx hb dX11_wedding_135 hl (k := 4) rfl rfl (by decide) rfl (fun ls hl => ?_)
            refine lv_goto (tgt := 22) hx hb dX11_wedding_138 (by decide) ?_
            exact ih _ o (hgo _ (Option.some.inj h).symm) H locs ls (lv_sub hl [3, 4, 2, 1, 0] rfl) hP hD hS kk141
          · replace h := (if_neg c14).symm.trans h
            refine lv_iload hx hb dX11_wedding_118 (lv_at hl 5 rfl) ?_
            refine lv_iload hx hb dX11_wedding_120 (lv_at hl 3 rfl) ?_
            refine lv_icmp_gt (tgt := 128) hx hb dX11_wedding_122 (by decide) (fun c15 => ?_) (fun c15 => ?_)
            · replace h := (if_pos c15).symm.trans h
              refine lv_iload hx hb dX11_wedding_128 (lv_at hl 4 rfl) ?_
              refine lv_istore_n (lv' := [(3, .int q22.2.2), (0, .ref h0), (2, .int p2), (4, .int q22.2.1), (5, .int q22.2.2), (6, .int o34)]) hx hb dX11_wedding_130 rfl hl (by decide) rfl (fun ls hl => ?_)
              refine lv_iload hx hb dX11_wedding_131 (lv_at hl 5 rfl) ?_
              refine lv_istore (lv' := [(4, .int o34), (3, .int q22.2.2), (0, .ref h0), (2, .int p2), (5, .int q22.2.2), (6, .int o34)]) hx hb dX11_wedding_133 hl (by decide) rfl (fun ls hl => ?_)
              refine lv_iinc (v := (q22.2.2 + (1 : Int32))) (lv' := [(5, .int (q22.2.2 + (1 : Int32))), (4, .int o34), (3, .int q22.2.2), (0, .ref h0), (2, .int p2), (6, .int o34)]) hx hb dX11_wedding_135 hl (k := 4) rfl rfl (by decide) rfl (fun ls hl => ?_)
              refine lv_goto (tgt := 22) hx hb dX11_wedding_138 (by decide) ?_
              exact ih _ o (hgo _ (Option.some.inj h).symm) H locs ls (lv_sub hl [3, 4, 2, 1, 0] rfl) hP hD hS kk141
            · replace h := (if_neg c15).symm.trans h
              refine lv_goto (tgt := 135) hx hb dX11_wedding_125 (by decide) ?_
              refine lv_iinc (v := (q22.2.2 + (1 : Int32))) (lv' := [(5, .int (q22.2.2 + (1 : Int32))), (0, .ref h0), (2, .int p2), (3, .int q22.1), (4, .int q22.2.1), (6, .int o34)]) hx hb dX11_wedding_135 hl (k := 4) rfl rfl (by decide) rfl (fun ls hl => ?_)
              refine lv_goto (tgt := 22) hx hb dX11_wedding_138 (by decide) ?_
              exact ih _ o (hgo _ (Option.some.inj h).symm) H locs ls (lv_sub hl [1, 2, 3, 4, 0] rfl) hP hD hS kk141
    obtain ⟨o22, ho22, h⟩ := bd_elim h
    obtain ⟨n22, hn22⟩ := loopF_some ho22
    refine L22 n22 _ o22 hn22 H locs ls (lv_sub hl [3, 5, 2, 1, 0] rfl) hP hD hS (fun H locs ls hl hP hD hS => ?_)
    refine lv_aload_n hx hb dX11_wedding_141 rfl (lv_at hl 0 rfl) ?_
    refine lv_iload_n hx hb dX11_wedding_142 rfl (lv_at hl 1 rfl) ?_
    obtain ⟨r16, hr16, h⟩ := lt_elim h
    refine ca_i (w' := [WX11 cy h0 a0 r16.2]) (rn_V (As := [.int o22]) (rest := []) ⟨hx, hb, hml, hown, hts⟩ (kX11_gives l D cy h0 a0 s0 o22 r16 hr16.symm H.size) (cwV 1 hts gX11_wedding_X11_gives rfl rfl rfl (by decide +kernel) ⟨Nat.le_of_ble_eq_true rfl, Nat.le_of_ble_eq_true rfl⟩) hK hN hP hD [0] rfl rfl (ci := 11) (q0 := 0) rfl rfl rfl rfl hl.1 rfl (Nat.le_of_ble_eq_true rfl) dX11_wedding_143 ⟨Nat.le_refl 0, Nat.le_refl 0⟩) hP hD hS hA [0] ⟨rfl, rfl, rfl, rfl⟩ (fun H locs hP hD hS => ?_)
    exact hret 146 H locs ls (r16.1, r16.2) (Option.some.inj h) hP hD hS dX11_wedding_146
  · replace h := (if_pos c2).symm.trans h
    refine lv_aload_n hx hb dX11_wedding_8 rfl (lv_at hl 0 rfl) ?_
    refine lv_iconst (v := 1) hx hb dX11_wedding_9 (by decide) ?_
    obtain ⟨r17, hr17, h⟩ := lt_elim h
    refine ca_i (w' := [WX11 cy h0 a0 r17.2]) (rn_V (As := [.int (1 : Int32)]) (rest := []) ⟨hx, hb, hml, hown, hts⟩ (kX11_refuse l D cy h0 a0 s0 (1 : Int32) r17 hr17.symm H.size) (cwV 1 hts gX11_wedding_X11_refuse rfl rfl rfl (by decide +kernel) ⟨Nat.le_of_ble_eq_true rfl, Nat.le_of_ble_eq_true rfl⟩) hK hN hP hD [0] rfl rfl (ci := 11) (q0 := 0) rfl rfl rfl rfl hl.1 rfl (Nat.le_of_ble_eq_true rfl) dX11_wedding_10 ⟨Nat.le_refl 0, Nat.le_refl 0⟩) hP hD hS hA [0] ⟨rfl, rfl, rfl, rfl⟩ (fun H locs hP hD hS => ?_)
    exact hret 13 H locs ls (r17.1, r17.2) (Option.some.inj h) hP hD hS dX11_wedding_13
theorem gd_X11_weigh : wsX11_weigh.all goodWord = true := by decide +kernel
set_option maxRecDepth 20000 in
theorem ggX11_weigh_X11_isFarmer : GoodIn wsX11_weigh wsX11_isFarmer := goodIn_by gd_X11_weigh (List.forall_mem_cons.mpr ⟨List.mem_cons_of_mem _ (List.mem_append_left _ (List.mem_of_getElem? (i := 6) rfl)), List.forall_mem_append.mpr ⟨List.forall_mem_cons.mpr ⟨List.mem_cons_of_mem _ (List.mem_append_left _ (List.mem_of_getElem? (i := 1) rfl)), nowords_in⟩, (fun _ h => List.mem_cons_of_mem _ (List.mem_append_right _ (h)))⟩⟩)
set_option maxRecDepth 20000 in
theorem gX11_weigh_X11_isFarmer : GoodIn wsX11_weigh (wsV RX11 267 RX11 yX11_isFarmer wsX11_isFarmer) := goodIn_app (goodIn_by gd_X11_weigh (List.forall_mem_cons.mpr ⟨List.mem_cons_of_mem _ (List.mem_append_left _ (List.mem_of_getElem? (i := 2) rfl)), List.forall_mem_cons.mpr ⟨List.mem_cons_of_mem _ (List.mem_append_left _ (List.mem_of_getElem? (i := 3) rfl)), List.forall_mem_cons.mpr ⟨List.mem_cons_of_mem _ (List.mem_append_left _ (List.mem_of_getElem? (i := 4) rfl)), List.forall_mem_cons.mpr ⟨List.mem_cons_of_mem _ (List.mem_append_left _ (List.mem_of_getElem? (i := 5) rfl)), nowords_in⟩⟩⟩⟩)) ggX11_weigh_X11_isFarmer
set_option maxRecDepth 20000 in
theorem ggX11_weigh_X11_isFrom : GoodIn wsX11_weigh wsX11_isFrom := goodIn_by gd_X11_weigh (List.forall_mem_cons.mpr ⟨List.mem_cons_of_mem _ (List.mem_append_left _ (List.mem_of_getElem? (i := 9) rfl)), nowords_in⟩)
set_option maxRecDepth 20000 in
theorem gX11_weigh_X11_isFrom : GoodIn wsX11_weigh (va_wsS RX11 282 yX11_isFrom wsX11_isFrom) := goodIn_app (goodIn_by gd_X11_weigh (List.forall_mem_cons.mpr ⟨List.mem_cons_of_mem _ (List.mem_append_left _ (List.mem_of_getElem? (i := 7) rfl)), List.forall_mem_cons.mpr ⟨List.mem_cons_of_mem _ (List.mem_append_left _ (List.mem_of_getElem? (i := 8) rfl)), List.forall_mem_cons.mpr ⟨List.mem_cons_of_mem _ (List.mem_append_left _ (List.mem_of_getElem? (i := 5) rfl)), nowords_in⟩⟩⟩)) ggX11_weigh_X11_isFrom
set_option maxRecDepth 20000 in
theorem ggX11_weigh_X11_is : GoodIn wsX11_weigh wsX11_is := goodIn_by gd_X11_weigh (List.forall_mem_cons.mpr ⟨List.mem_cons_of_mem _ (List.mem_append_left _ (List.mem_of_getElem? (i := 13) rfl)), List.forall_mem_append.mpr ⟨List.forall_mem_cons.mpr ⟨List.mem_cons_of_mem _ (List.mem_append_left _ (List.mem_of_getElem? (i := 14) rfl)), nowords_in⟩, (fun _ h => List.mem_cons_of_mem _ (List.mem_append_right _ (h)))⟩⟩)
set_option maxRecDepth 20000 in
theorem gX11_weigh_X11_is : GoodIn wsX11_weigh (wsV RX11 82 RX11 yX11_is wsX11_is) := goodIn_app (goodIn_by gd_X11_weigh (List.forall_mem_cons.mpr ⟨List.mem_cons_of_mem _ (List.mem_append_left _ (List.mem_of_getElem? (i := 10) rfl)), List.forall_mem_cons.mpr ⟨List.mem_cons_of_mem _ (List.mem_append_left _ (List.mem_of_getElem? (i := 11) rfl)), List.forall_mem_cons.mpr ⟨List.mem_cons_of_mem _ (List.mem_append_left _ (List.mem_of_getElem? (i := 12) rfl)), List.forall_mem_cons.mpr ⟨List.mem_cons_of_mem _ (List.mem_append_left _ (List.mem_of_getElem? (i := 5) rfl)), nowords_in⟩⟩⟩⟩)) ggX11_weigh_X11_is
set_option maxRecDepth 20000 in
theorem ggX11_weigh_X11_farmerRow : GoodIn wsX11_weigh wsX11_farmerRow := goodIn_by gd_X11_weigh (List.forall_mem_cons.mpr ⟨List.mem_cons_of_mem _ (List.mem_append_left _ (List.mem_of_getElem? (i := 17) rfl)), nowords_in⟩)
set_option maxRecDepth 20000 in
theorem gX11_weigh_X11_farmerRow : GoodIn wsX11_weigh (va_wsS RX11 177 yX11_farmerRow wsX11_farmerRow) := goodIn_app (goodIn_by gd_X11_weigh (List.forall_mem_cons.mpr ⟨List.mem_cons_of_mem _ (List.mem_append_left _ (List.mem_of_getElem? (i := 15) rfl)), List.forall_mem_cons.mpr ⟨List.mem_cons_of_mem _ (List.mem_append_left _ (List.mem_of_getElem? (i := 16) rfl)), List.forall_mem_cons.mpr ⟨List.mem_cons_of_mem _ (List.mem_append_left _ (List.mem_of_getElem? (i := 5) rfl)), nowords_in⟩⟩⟩)) ggX11_weigh_X11_farmerRow
theorem dX11_weigh_0 : decode cX11_weigh 0 = .ok (.aload_n 0, 1) := by decide +kernel
theorem dX11_weigh_1 : decode cX11_weigh 1 = .ok (.iload_n 1, 1) := by decide +kernel
theorem dX11_weigh_2 : decode cX11_weigh 2 = .ok (.invokevirtual 267, 3) := by decide +kernel
theorem dX11_weigh_5 : decode cX11_weigh 5 = .ok (.ifCond .eq 15, 3) := by decide +kernel
theorem dX11_weigh_8 : decode cX11_weigh 8 = .ok (.iload_n 2, 1) := by decide +kernel
theorem dX11_weigh_9 : decode cX11_weigh 9 = .ok (.i2l, 1) := by decide +kernel
theorem dX11_weigh_10 : decode cX11_weigh 10 = .ok (.lconst 1, 1) := by decide +kernel
theorem dX11_weigh_11 : decode cX11_weigh 11 = .ok (.ldc2_w 347, 3) := by decide +kernel
theorem dX11_weigh_14 : decode cX11_weigh 14 = .ok (.invokestatic 282, 3) := by decide +kernel
theorem dX11_weigh_17 : decode cX11_weigh 17 = .ok (.ifCond .ne 9, 3) := by decide +kernel
theorem dX11_weigh_20 : decode cX11_weigh 20 = .ok (.aload_n 0, 1) := by decide +kernel
theorem dX11_weigh_21 : decode cX11_weigh 21 = .ok (.iconst 1, 1) := by decide +kernel
theorem dX11_weigh_22 : decode cX11_weigh 22 = .ok (.invokevirtual 82, 3) := by decide +kernel
theorem dX11_weigh_25 : decode cX11_weigh 25 = .ok (.ireturn, 1) := by decide +kernel
theorem dX11_weigh_26 : decode cX11_weigh 26 = .ok (.aload_n 0, 1) := by decide +kernel
theorem dX11_weigh_27 : decode cX11_weigh 27 = .ok (.getfield 7, 3) := by decide +kernel
theorem dX11_weigh_30 : decode cX11_weigh 30 = .ok (.iconst 0, 1) := by decide +kernel
theorem dX11_weigh_31 : decode cX11_weigh 31 = .ok (.iload_n 1, 1) := by decide +kernel
theorem dX11_weigh_32 : decode cX11_weigh 32 = .ok (.invokestatic 177, 3) := by decide +kernel
theorem dX11_weigh_35 : decode cX11_weigh 35 = .ok (.iconst 5, 1) := by decide +kernel
theorem dX11_weigh_36 : decode cX11_weigh 36 = .ok (.iadd, 1) := by decide +kernel
theorem dX11_weigh_37 : decode cX11_weigh 37 = .ok (.iload_n 2, 1) := by decide +kernel
theorem dX11_weigh_38 : decode cX11_weigh 38 = .ok (.iastore, 1) := by decide +kernel
theorem dX11_weigh_39 : decode cX11_weigh 39 = .ok (.aload_n 0, 1) := by decide +kernel
theorem dX11_weigh_40 : decode cX11_weigh 40 = .ok (.iconst 0, 1) := by decide +kernel
theorem dX11_weigh_41 : decode cX11_weigh 41 = .ok (.invokevirtual 82, 3) := by decide +kernel
theorem dX11_weigh_44 : decode cX11_weigh 44 = .ok (.ireturn, 1) := by decide +kernel
abbrev rmX11_weigh : Room := { frames := 1, cells := 0, slots := 0, locals := 25 }
set_option maxHeartbeats 4000000 in
set_option maxRecDepth 100000 in
theorem kX11_weigh (l : Launch) (D : va_G) (cy : Nat → ClassId) (h0 : Nat) (a0 : Nat → Nat) (s0 : Rc) (p1 : Int32) (p2 : Int32) (res : Int32 × Rc) (h : fX11_weigh p1 p2 s0 = some res) : CZ l D cy yX11_weigh wsX11_weigh rmX11_weigh [.ref h0, .int p1, .int p2] (flat [WX11 cy h0 a0 s0]) (flat [WX11 cy h0 a0 res.2]) res.1 := by
  refine CZ.of (cc := cX11_weigh) (maxL := 3) (by decide) rfl (Nat.le_of_ble_eq_true rfl) ?_
  intro p e s m args below meth c A QQ ls E hr
  obtain ⟨hx, hb, hml, hown, hts, hK, hN, hP, hD, hA, hl⟩ := E
  have hret : ∀ (pc : Nat) (H : Heap) (locs : List Loc) (ls : Array Slot) (u : Int32 × Rc), u = res → va_P D vwCl (flat [WX11 cy h0 a0 u.2]) H → va_D A (flat [WX11 cy h0 a0 u.2]) → va_S A s.heap H locs → isb u.1 = true → decode cX11_weigh pc = .ok (.ireturn, 1) → W p l e rmX11_weigh s m args below meth c H locs 0 0 QQ (F0 m pc ls [.int u.1]) := by
    intro pc H locs ls u hu hP hD hS hz hd; subst hu; exact hr pc H locs ls _ rfl hP hD hS hz hd
  clear hr
  have hl : lv_has ls 3 [(0, .ref h0), (1, .int p1), (2, .int p2)] := hl
  have hinX11 : ∀ w ∈ wsX110, w ∈ wsX11_weigh := fun _ h => List.mem_cons_of_mem _ (List.mem_append_right _ h)
  unfold fX11_weigh at h
  suffices key : ∀ (H : Heap) (locs : List Loc), va_P D vwCl (flat [WX11 cy h0 a0 s0]) H → va_S A s.heap H locs → W p l e rmX11_weigh s m args below meth c H locs 0 0 QQ (F0 m 0 ls []) from key _ _ hP va_S.rf
  clear hP
  intro H locs hP hS
  refine lv_aload_n hx hb dX11_weigh_0 rfl (lv_at hl 0 rfl) ?_
  refine lv_iload_n hx hb dX11_weigh_1 rfl (lv_at hl 1 rfl) ?_
  refine ca_z (w' := [WX11 cy h0 a0 s0]) (rn_V (As := [.int p1]) (rest := []) ⟨hx, hb, hml, hown, hts⟩ (kX11_isFarmer l D cy h0 a0 s0 p1 _ rfl H.size) (cwV 1 hts gX11_weigh_X11_isFarmer rfl rfl rfl (by decide +kernel) ⟨Nat.le_of_ble_eq_true rfl, Nat.le_of_ble_eq_true rfl⟩) hK hN hP hD [0] rfl rfl (ci := 11) (q0 := 0) rfl rfl rfl rfl hl.1 rfl (Nat.le_of_ble_eq_true rfl) dX11_weigh_2 ⟨Nat.le_refl 0, Nat.le_refl 0⟩) hP hD hS hA [0] ⟨rfl, rfl, rfl, rfl⟩ (fun b1 H locs hP hD hS => ?_)
  refine lv_if_eq (tgt := 20) hx hb dX11_weigh_5 (by decide) (fun c2 => ?_) (fun c2 => ?_)
  · replace h := (if_pos c2).symm.trans h
    refine lv_aload_n hx hb dX11_weigh_20 rfl (lv_at hl 0 rfl) ?_
    refine lv_iconst (v := 1) hx hb dX11_weigh_21 (by decide) ?_
    obtain ⟨r3, hr3, h⟩ := lt_elim h
    refine ca_z (w' := [WX11 cy h0 a0 r3.2]) (rn_V (As := [.int (1 : Int32)]) (rest := []) ⟨hx, hb, hml, hown, hts⟩ (kX11_is l D cy h0 a0 s0 (1 : Int32) r3 hr3.symm H.size) (cwV 1 hts gX11_weigh_X11_is rfl rfl rfl (by decide +kernel) ⟨Nat.le_of_ble_eq_true rfl, Nat.le_of_ble_eq_true rfl⟩) hK hN hP hD [0] rfl rfl (ci := 11) (q0 := 0) rfl rfl rfl rfl hl.1 rfl (Nat.le_of_ble_eq_true rfl) dX11_weigh_22 ⟨Nat.le_refl 0, Nat.le_refl 0⟩) hP hD hS hA [0] ⟨rfl, rfl, rfl, rfl⟩ (fun b4 H locs hP hD hS => ?_)
    exact hret 25 H locs ls (r3.1, r3.2) (Option.some.inj h) hP hD hS b4 dX11_weigh_25
  · replace h := (if_neg c2).symm.trans h
    refine lv_iload_n hx hb dX11_weigh_8 rfl (lv_at hl 2 rfl) ?_
    refine lv_i2l hx hb dX11_weigh_9 rfl ?_
    refine lv_lconst (v := 1) hx hb dX11_weigh_10 (by decide) ?_
    refine lv_ldc2 (v := 64) hx hb hown (hts (.constantLong RX11 347 (64)) (List.mem_of_getElem? (i := 1) rfl)) dX11_weigh_11 ?_
    refine ca_z (w' := [WX11 cy h0 a0 s0]) (rn_S (As := [.long p2.toInt64, .long (1 : Int64), .long (64 : Int64)]) (rest := []) ⟨hx, hb, hml, hown, hts⟩ (kX11_isFrom l D cy p2.toInt64 (1 : Int64) (64 : Int64) _ rfl H.size) (va_cwS 3 hts gX11_weigh_X11_isFrom rfl rfl rfl (by decide +kernel) ⟨Nat.le_of_ble_eq_true rfl, Nat.le_of_ble_eq_true rfl⟩) hK hN hP hD [] rfl rfl rfl hl.1 rfl (Nat.le_of_ble_eq_true rfl) dX11_weigh_14 ⟨Nat.le_refl 0, Nat.le_refl 0⟩) hP hD hS hA [] ⟨rfl, rfl, rfl, rfl⟩ (fun b5 H locs hP hD hS => ?_)
    refine lv_if_ne (tgt := 26) hx hb dX11_weigh_17 (by decide) (fun c6 => ?_) (fun c6 => ?_)
    · replace h := (if_neg c6).symm.trans h
      refine lv_aload_n hx hb dX11_weigh_26 rfl (lv_at hl 0 rfl) ?_
      refine va_get (D := D) (ci := 11) (v := .ref (a0 0)) (C := RX11) (T := TX11) (N := 38) hx hb hts hinX11 hown hK hP 0 rfl rfl 0 (by decide) (hts (.fieldLink RX11 7 "KneeBenchModel" "at" "[I") (List.mem_of_getElem? (i := 2) rfl)) (fun _ h9 => h9) rfl dX11_weigh_27 ?_
      refine lv_iconst (v := 0) hx hb dX11_weigh_30 (by decide) ?_
      refine lv_iload_n hx hb dX11_weigh_31 rfl (lv_at hl 1 rfl) ?_
      refine ca_i (w' := [WX11 cy h0 a0 s0]) (rn_S (As := [.int (0 : Int32), .int p1]) (rest := [.ref (a0 0)]) ⟨hx, hb, hml, hown, hts⟩ (kX11_farmerRow l D cy (0 : Int32) p1 _ rfl H.size) (va_cwS 2 hts gX11_weigh_X11_farmerRow rfl rfl rfl (by decide +kernel) ⟨Nat.le_of_ble_eq_true rfl, Nat.le_of_ble_eq_true rfl⟩) hK hN hP hD [] rfl rfl rfl hl.1 rfl (Nat.le_of_ble_eq_true rfl) dX11_weigh_32 ⟨Nat.le_refl 0, Nat.le_refl 0⟩) hP hD hS hA [] ⟨rfl, rfl, rfl, rfl⟩ (fun H locs hP hD hS => ?_)
      refine lv_iconst (v := 5) hx hb dX11_weigh_35 (by decide) ?_
      refine lv_iadd hx hb dX11_weigh_36 ?_
      refine lv_iload_n hx hb dX11_weigh_37 rfl (lv_at hl 2 rfl) ?_
      obtain ⟨g7, h⟩ := gd_elim h
      obtain ⟨s0_8, es, h⟩ := lt_elim h
      refine va_iast hx hb hK hP hD hS 1 1 rfl rfl (inb_in g7) dX11_weigh_38 (fun H locs hP hD hS => ?_)
      have hP : va_P D vwCl (flat [WX11 cy h0 a0 s0_8]) H := by rw [es]; exact hP
      have hD : va_D A (flat [WX11 cy h0 a0 s0_8]) := by rw [es]; exact hD
      clear es
      refine lv_aload_n hx hb dX11_weigh_39 rfl (lv_at hl 0 rfl) ?_
      refine lv_iconst (v := 0) hx hb dX11_weigh_40 (by decide) ?_
      obtain ⟨r9, hr9, h⟩ := lt_elim h
      refine ca_z (w' := [WX11 cy h0 a0 r9.2]) (rn_V (As := [.int (0 : Int32)]) (rest := []) ⟨hx, hb, hml, hown, hts⟩ (kX11_is l D cy h0 a0 s0_8 (0 : Int32) r9 hr9.symm H.size) (cwV 1 hts gX11_weigh_X11_is rfl rfl rfl (by decide +kernel) ⟨Nat.le_of_ble_eq_true rfl, Nat.le_of_ble_eq_true rfl⟩) hK hN hP hD [0] rfl rfl (ci := 11) (q0 := 0) rfl rfl rfl rfl hl.1 rfl (Nat.le_of_ble_eq_true rfl) dX11_weigh_41 ⟨Nat.le_refl 0, Nat.le_refl 0⟩) hP hD hS hA [0] ⟨rfl, rfl, rfl, rfl⟩ (fun b10 H locs hP hD hS => ?_)
      exact hret 44 H locs ls (r9.1, r9.2) (Option.some.inj h) hP hD hS b10 dX11_weigh_44
    · replace h := (if_pos c6).symm.trans h
      refine lv_aload_n hx hb dX11_weigh_20 rfl (lv_at hl 0 rfl) ?_
      refine lv_iconst (v := 1) hx hb dX11_weigh_21 (by decide) ?_
      obtain ⟨r11, hr11, h⟩ := lt_elim h
      refine ca_z (w' := [WX11 cy h0 a0 r11.2]) (rn_V (As := [.int (1 : Int32)]) (rest := []) ⟨hx, hb, hml, hown, hts⟩ (kX11_is l D cy h0 a0 s0 (1 : Int32) r11 hr11.symm H.size) (cwV 1 hts gX11_weigh_X11_is rfl rfl rfl (by decide +kernel) ⟨Nat.le_of_ble_eq_true rfl, Nat.le_of_ble_eq_true rfl⟩) hK hN hP hD [0] rfl rfl (ci := 11) (q0 := 0) rfl rfl rfl rfl hl.1 rfl (Nat.le_of_ble_eq_true rfl) dX11_weigh_22 ⟨Nat.le_refl 0, Nat.le_refl 0⟩) hP hD hS hA [0] ⟨rfl, rfl, rfl, rfl⟩ (fun b12 H locs hP hD hS => ?_)
      exact hret 25 H locs ls (r11.1, r11.2) (Option.some.inj h) hP hD hS b12 dX11_weigh_25
theorem gd_X11_write : wsX11_write.all goodWord = true := by decide +kernel
set_option maxRecDepth 20000 in
theorem ggX11_write_X11_wrongPlace : GoodIn wsX11_write wsX11_wrongPlace := goodIn_by gd_X11_write (List.forall_mem_cons.mpr ⟨List.mem_cons_of_mem _ (List.mem_append_left _ (List.mem_of_getElem? (i := 6) rfl)), List.forall_mem_append.mpr ⟨List.forall_mem_cons.mpr ⟨List.mem_cons_of_mem _ (List.mem_append_left _ (List.mem_of_getElem? (i := 7) rfl)), List.forall_mem_cons.mpr ⟨List.mem_cons_of_mem _ (List.mem_append_left _ (List.mem_of_getElem? (i := 8) rfl)), List.forall_mem_cons.mpr ⟨List.mem_cons_of_mem _ (List.mem_append_left _ (List.mem_of_getElem? (i := 9) rfl)), List.forall_mem_cons.mpr ⟨List.mem_cons_of_mem _ (List.mem_append_left _ (List.mem_of_getElem? (i := 5) rfl)), List.forall_mem_cons.mpr ⟨List.mem_cons_of_mem _ (List.mem_append_left _ (List.mem_of_getElem? (i := 10) rfl)), nowords_in⟩⟩⟩⟩⟩, (fun _ h => List.mem_cons_of_mem _ (List.mem_append_right _ (h)))⟩⟩)
set_option maxRecDepth 20000 in
theorem gX11_write_X11_wrongPlace : GoodIn wsX11_write (wsV RX11 89 RX11 yX11_wrongPlace wsX11_wrongPlace) := goodIn_app (goodIn_by gd_X11_write (List.forall_mem_cons.mpr ⟨List.mem_cons_of_mem _ (List.mem_append_left _ (List.mem_of_getElem? (i := 2) rfl)), List.forall_mem_cons.mpr ⟨List.mem_cons_of_mem _ (List.mem_append_left _ (List.mem_of_getElem? (i := 3) rfl)), List.forall_mem_cons.mpr ⟨List.mem_cons_of_mem _ (List.mem_append_left _ (List.mem_of_getElem? (i := 4) rfl)), List.forall_mem_cons.mpr ⟨List.mem_cons_of_mem _ (List.mem_append_left _ (List.mem_of_getElem? (i := 5) rfl)), nowords_in⟩⟩⟩⟩)) ggX11_write_X11_wrongPlace
set_option maxRecDepth 20000 in
theorem ggX11_write_X11_cut : GoodIn wsX11_write wsX11_cut := goodIn_by gd_X11_write (List.forall_mem_cons.mpr ⟨List.mem_cons_of_mem _ (List.mem_append_left _ (List.mem_of_getElem? (i := 13) rfl)), nowords_in⟩)
set_option maxRecDepth 20000 in
theorem gX11_write_X11_cut : GoodIn wsX11_write (va_wsS RX11 93 yX11_cut wsX11_cut) := goodIn_app (goodIn_by gd_X11_write (List.forall_mem_cons.mpr ⟨List.mem_cons_of_mem _ (List.mem_append_left _ (List.mem_of_getElem? (i := 11) rfl)), List.forall_mem_cons.mpr ⟨List.mem_cons_of_mem _ (List.mem_append_left _ (List.mem_of_getElem? (i := 12) rfl)), List.forall_mem_cons.mpr ⟨List.mem_cons_of_mem _ (List.mem_append_left _ (List.mem_of_getElem? (i := 5) rfl)), nowords_in⟩⟩⟩)) ggX11_write_X11_cut
set_option maxRecDepth 20000 in
theorem ggX11_write_X11_is : GoodIn wsX11_write wsX11_is := goodIn_by gd_X11_write (List.forall_mem_cons.mpr ⟨List.mem_cons_of_mem _ (List.mem_append_left _ (List.mem_of_getElem? (i := 17) rfl)), List.forall_mem_append.mpr ⟨List.forall_mem_cons.mpr ⟨List.mem_cons_of_mem _ (List.mem_append_left _ (List.mem_of_getElem? (i := 18) rfl)), nowords_in⟩, (fun _ h => List.mem_cons_of_mem _ (List.mem_append_right _ (h)))⟩⟩)
set_option maxRecDepth 20000 in
theorem gX11_write_X11_is : GoodIn wsX11_write (wsV RX11 82 RX11 yX11_is wsX11_is) := goodIn_app (goodIn_by gd_X11_write (List.forall_mem_cons.mpr ⟨List.mem_cons_of_mem _ (List.mem_append_left _ (List.mem_of_getElem? (i := 14) rfl)), List.forall_mem_cons.mpr ⟨List.mem_cons_of_mem _ (List.mem_append_left _ (List.mem_of_getElem? (i := 15) rfl)), List.forall_mem_cons.mpr ⟨List.mem_cons_of_mem _ (List.mem_append_left _ (List.mem_of_getElem? (i := 16) rfl)), List.forall_mem_cons.mpr ⟨List.mem_cons_of_mem _ (List.mem_append_left _ (List.mem_of_getElem? (i := 5) rfl)), nowords_in⟩⟩⟩⟩)) ggX11_write_X11_is
theorem dX11_write_0 : decode cX11_write 0 = .ok (.aload_n 0, 1) := by decide +kernel
theorem dX11_write_1 : decode cX11_write 1 = .ok (.iload_n 1, 1) := by decide +kernel
theorem dX11_write_2 : decode cX11_write 2 = .ok (.iload_n 2, 1) := by decide +kernel
theorem dX11_write_3 : decode cX11_write 3 = .ok (.invokevirtual 89, 3) := by decide +kernel
theorem dX11_write_6 : decode cX11_write 6 = .ok (.istore 5, 2) := by decide +kernel
theorem dX11_write_8 : decode cX11_write 8 = .ok (.iload 5, 2) := by decide +kernel
theorem dX11_write_10 : decode cX11_write 10 = .ok (.ifCond .ne 24, 3) := by decide +kernel
theorem dX11_write_13 : decode cX11_write 13 = .ok (.aload_n 0, 1) := by decide +kernel
theorem dX11_write_14 : decode cX11_write 14 = .ok (.getfield 27, 3) := by decide +kernel
theorem dX11_write_17 : decode cX11_write 17 = .ok (.bipush 60, 2) := by decide +kernel
theorem dX11_write_19 : decode cX11_write 19 = .ok (.iload_n 1, 1) := by decide +kernel
theorem dX11_write_20 : decode cX11_write 20 = .ok (.imul, 1) := by decide +kernel
theorem dX11_write_21 : decode cX11_write 21 = .ok (.iload_n 2, 1) := by decide +kernel
theorem dX11_write_22 : decode cX11_write 22 = .ok (.iadd, 1) := by decide +kernel
theorem dX11_write_23 : decode cX11_write 23 = .ok (.lload_n 3, 1) := by decide +kernel
theorem dX11_write_24 : decode cX11_write 24 = .ok (.aload_n 0, 1) := by decide +kernel
theorem dX11_write_25 : decode cX11_write 25 = .ok (.getfield 21, 3) := by decide +kernel
theorem dX11_write_28 : decode cX11_write 28 = .ok (.iload_n 1, 1) := by decide +kernel
theorem dX11_write_29 : decode cX11_write 29 = .ok (.iaload, 1) := by decide +kernel
theorem dX11_write_30 : decode cX11_write 30 = .ok (.invokestatic 93, 3) := by decide +kernel
theorem dX11_write_33 : decode cX11_write 33 = .ok (.lastore, 1) := by decide +kernel
theorem dX11_write_34 : decode cX11_write 34 = .ok (.aload_n 0, 1) := by decide +kernel
theorem dX11_write_35 : decode cX11_write 35 = .ok (.iload 5, 2) := by decide +kernel
theorem dX11_write_37 : decode cX11_write 37 = .ok (.invokevirtual 82, 3) := by decide +kernel
theorem dX11_write_40 : decode cX11_write 40 = .ok (.ireturn, 1) := by decide +kernel
abbrev rmX11_write : Room := { frames := 2, cells := 0, slots := 0, locals := 42 }
set_option maxHeartbeats 4000000 in
set_option maxRecDepth 100000 in
theorem kX11_write (l : Launch) (D : va_G) (cy : Nat → ClassId) (h0 : Nat) (a0 : Nat → Nat) (s0 : Rc) (p1 : Int32) (p2 : Int32) (p3 : Int64) (res : Int32 × Rc) (h : fX11_write p1 p2 p3 s0 = some res) : CZ l D cy yX11_write wsX11_write rmX11_write [.ref h0, .int p1, .int p2, .long p3] (flat [WX11 cy h0 a0 s0]) (flat [WX11 cy h0 a0 res.2]) res.1 := by
  refine CZ.of (cc := cX11_write) (maxL := 6) (by decide) rfl (Nat.le_of_ble_eq_true rfl) ?_
  intro p e s m args below meth c A QQ ls E hr
  obtain ⟨hx, hb, hml, hown, hts, hK, hN, hP, hD, hA, hl⟩ := E
  have hret : ∀ (pc : Nat) (H : Heap) (locs : List Loc) (ls : Array Slot) (u : Int32 × Rc), u = res → va_P D vwCl (flat [WX11 cy h0 a0 u.2]) H → va_D A (flat [WX11 cy h0 a0 u.2]) → va_S A s.heap H locs → isb u.1 = true → decode cX11_write pc = .ok (.ireturn, 1) → W p l e rmX11_write s m args below meth c H locs 0 0 QQ (F0 m pc ls [.int u.1]) := by
    intro pc H locs ls u hu hP hD hS hz hd; subst hu; exact hr pc H locs ls _ rfl hP hD hS hz hd
  clear hr
  have hl : lv_has ls 6 [(0, .ref h0), (1, .int p1), (2, .int p2), (3, .long p3)] := hl
  have hinX11 : ∀ w ∈ wsX110, w ∈ wsX11_write := fun _ h => List.mem_cons_of_mem _ (List.mem_append_right _ h)
  unfold fX11_write at h
  suffices key : ∀ (H : Heap) (locs : List Loc), va_P D vwCl (flat [WX11 cy h0 a0 s0]) H → va_S A s.heap H locs → W p l e rmX11_write s m args below meth c H locs 0 0 QQ (F0 m 0 ls []) from key _ _ hP va_S.rf
  clear hP
  intro H locs hP hS
  refine lv_aload_n hx hb dX11_write_0 rfl (lv_at hl 0 rfl) ?_
  refine lv_iload_n hx hb dX11_write_1 rfl (lv_at hl 1 rfl) ?_
  refine lv_iload_n hx hb dX11_write_2 rfl (lv_at hl 2 rfl) ?_
  obtain ⟨r1, hr1, h⟩ := bd_elim h
  refine ca_i (w' := [WX11 cy h0 a0 s0]) (rn_V (As := [.int p1, .int p2]) (rest := []) ⟨hx, hb, hml, hown, hts⟩ (kX11_wrongPlace l D cy h0 a0 s0 p1 p2 r1 hr1 H.size) (cwV 2 hts gX11_write_X11_wrongPlace rfl rfl rfl (by decide +kernel) ⟨Nat.le_of_ble_eq_true rfl, Nat.le_of_ble_eq_true rfl⟩) hK hN hP hD [0] rfl rfl (ci := 11) (q0 := 0) rfl rfl rfl rfl hl.1 rfl (Nat.le_of_ble_eq_true rfl) dX11_write_3 ⟨Nat.le_refl 0, Nat.le_refl 0⟩) hP hD hS hA [0] ⟨rfl, rfl, rfl, rfl⟩ (fun H locs hP hD hS => ?_)
  refine lv_istore (lv' := [(5, .int r1), (0, .ref h0), (1, .int p1), (2, .int p2), (3, .long p3)]) hx hb dX11_write_6 hl (by decide) rfl (fun ls hl => ?_)
  refine lv_iload hx hb dX11_write_8 (lv_at hl 0 rfl) ?_
  refine lv_if_ne (tgt := 34) hx hb dX11_write_10 (by decide) (fun c2 => ?_) (fun c2 => ?_)
  · replace h := (if_neg c2).symm.trans h
    refine lv_aload_n hx hb dX11_write_34 rfl (lv_at hl 1 rfl) ?_
    refine lv_iload hx hb dX11_write_35 (lv_at hl 0 rfl) ?_
    obtain ⟨r3, hr3, h⟩ := lt_elim h
    refine ca_z (w' := [WX11 cy h0 a0 r3.2]) (rn_V (As := [.int r1]) (rest := []) ⟨hx, hb, hml, hown, hts⟩ (kX11_is l D cy h0 a0 s0 r1 r3 hr3.symm H.size) (cwV 1 hts gX11_write_X11_is rfl rfl rfl (by decide +kernel) ⟨Nat.le_of_ble_eq_true rfl, Nat.le_of_ble_eq_true rfl⟩) hK hN hP hD [0] rfl rfl (ci := 11) (q0 := 0) rfl rfl rfl rfl hl.1 rfl (Nat.le_of_ble_eq_true rfl) dX11_write_37 ⟨Nat.le_refl 0, Nat.le_refl 0⟩) hP hD hS hA [0] ⟨rfl, rfl, rfl, rfl⟩ (fun b4 H locs hP hD hS => ?_)
    exact hret 40 H locs ls (r3.1, r3.2) (Option.some.inj h) hP hD hS b4 dX11_write_40
  · replace h := (if_pos c2).symm.trans h
    refine lv_aload_n hx hb dX11_write_13 rfl (lv_at hl 1 rfl) ?_
    refine va_get (D := D) (ci := 11) (v := .ref (a0 7)) (C := RX11) (T := TX11) (N := 38) hx hb hts hinX11 hown hK hP 0 rfl rfl 7 (by decide) (hts (.fieldLink RX11 27 "KneeBenchModel" "trays" "[J") (List.mem_of_getElem? (i := 1) rfl)) (fun _ h9 => h9) rfl dX11_write_14 ?_
    refine lv_bipush (v := 60) hx hb dX11_write_17 (by decide) ?_
    refine lv_iload_n hx hb dX11_write_19 rfl (lv_at hl 2 rfl) ?_
    refine lv_imul hx hb dX11_write_20 ?_
    refine lv_iload_n hx hb dX11_write_21 rfl (lv_at hl 3 rfl) ?_
    refine lv_iadd hx hb dX11_write_22 ?_
    refine lv_lload_n hx hb dX11_write_23 rfl (lv_at hl 4 rfl) ?_
    refine lv_aload_n hx hb dX11_write_24 rfl (lv_at hl 1 rfl) ?_
    refine va_get (D := D) (ci := 11) (v := .ref (a0 5)) (C := RX11) (T := TX11) (N := 38) hx hb hts hinX11 hown hK hP 0 rfl rfl 5 (by decide) (hts (.fieldLink RX11 21 "KneeBenchModel" "sort" "[I") (List.mem_of_getElem? (i := 2) rfl)) (fun _ h9 => h9) rfl dX11_write_25 ?_
    refine lv_iload_n hx hb dX11_write_28 rfl (lv_at hl 2 rfl) ?_
    obtain ⟨g5, h⟩ := gd_elim h
    refine va_iald hx hb hK hP 3 1 rfl rfl (inb_in g5) dX11_write_29 ?_
    refine ca_l (w' := [WX11 cy h0 a0 s0]) (rn_S (As := [.long p3, .int (ga s0 5 p1.toNatClampNeg)]) (rest := [.int (((60 : Int32) * p1) + p2), .ref (a0 7)]) ⟨hx, hb, hml, hown, hts⟩ (kX11_cut l D cy p3 (ga s0 5 p1.toNatClampNeg) _ rfl H.size) (va_cwS 2 hts gX11_write_X11_cut rfl rfl rfl (by decide +kernel) ⟨Nat.le_of_ble_eq_true rfl, Nat.le_of_ble_eq_true rfl⟩) hK hN hP hD [] rfl rfl rfl hl.1 rfl (Nat.le_of_ble_eq_true rfl) dX11_write_30 ⟨Nat.le_refl 0, Nat.le_refl 0⟩) hP hD hS hA [] ⟨rfl, rfl, rfl, rfl⟩ (fun H locs hP hD hS => ?_)
    obtain ⟨g6, h⟩ := gd_elim h
    obtain ⟨s0_7, es, h⟩ := lt_elim h
    refine va_last hx hb hK hP hD hS 5 2 rfl rfl (inb_in g6) dX11_write_33 (fun H locs hP hD hS => ?_)
    have hP : va_P D vwCl (flat [WX11 cy h0 a0 s0_7]) H := by rw [es]; exact hP
    have hD : va_D A (flat [WX11 cy h0 a0 s0_7]) := by rw [es]; exact hD
    clear es
    refine lv_aload_n hx hb dX11_write_34 rfl (lv_at hl 1 rfl) ?_
    refine lv_iload hx hb dX11_write_35 (lv_at hl 0 rfl) ?_
    obtain ⟨r8, hr8, h⟩ := lt_elim h
    refine ca_z (w' := [WX11 cy h0 a0 r8.2]) (rn_V (As := [.int r1]) (rest := []) ⟨hx, hb, hml, hown, hts⟩ (kX11_is l D cy h0 a0 s0_7 r1 r8 hr8.symm H.size) (cwV 1 hts gX11_write_X11_is rfl rfl rfl (by decide +kernel) ⟨Nat.le_of_ble_eq_true rfl, Nat.le_of_ble_eq_true rfl⟩) hK hN hP hD [0] rfl rfl (ci := 11) (q0 := 0) rfl rfl rfl rfl hl.1 rfl (Nat.le_of_ble_eq_true rfl) dX11_write_37 ⟨Nat.le_refl 0, Nat.le_refl 0⟩) hP hD hS hA [0] ⟨rfl, rfl, rfl, rfl⟩ (fun b9 H locs hP hD hS => ?_)
    exact hret 40 H locs ls (r8.1, r8.2) (Option.some.inj h) hP hD hS b9 dX11_write_40
theorem gd_X11_wrongs : wsX11_wrongs.all goodWord = true := by decide +kernel
set_option maxRecDepth 20000 in
theorem ggX11_wrongs_X11_isFarmer : GoodIn wsX11_wrongs wsX11_isFarmer := goodIn_by gd_X11_wrongs (List.forall_mem_cons.mpr ⟨List.mem_cons_of_mem _ (List.mem_append_left _ (List.mem_append_left _ (List.mem_of_getElem? (i := 5) rfl))), List.forall_mem_append.mpr ⟨List.forall_mem_cons.mpr ⟨List.mem_cons_of_mem _ (List.mem_append_left _ (List.mem_append_left _ (List.mem_of_getElem? (i := 0) rfl))), nowords_in⟩, (fun _ h => List.mem_cons_of_mem _ (List.mem_append_right _ (h)))⟩⟩)
set_option maxRecDepth 20000 in
theorem gX11_wrongs_X11_isFarmer : GoodIn wsX11_wrongs (wsV RX11 267 RX11 yX11_isFarmer wsX11_isFarmer) := goodIn_app (goodIn_by gd_X11_wrongs (List.forall_mem_cons.mpr ⟨List.mem_cons_of_mem _ (List.mem_append_left _ (List.mem_append_left _ (List.mem_of_getElem? (i := 1) rfl))), List.forall_mem_cons.mpr ⟨List.mem_cons_of_mem _ (List.mem_append_left _ (List.mem_append_left _ (List.mem_of_getElem? (i := 2) rfl))), List.forall_mem_cons.mpr ⟨List.mem_cons_of_mem _ (List.mem_append_left _ (List.mem_append_left _ (List.mem_of_getElem? (i := 3) rfl))), List.forall_mem_cons.mpr ⟨List.mem_cons_of_mem _ (List.mem_append_left _ (List.mem_append_left _ (List.mem_of_getElem? (i := 4) rfl))), nowords_in⟩⟩⟩⟩)) ggX11_wrongs_X11_isFarmer
set_option maxRecDepth 20000 in
theorem ggX11_wrongs_X11_refuse : GoodIn wsX11_wrongs wsX11_refuse := goodIn_by gd_X11_wrongs (List.forall_mem_cons.mpr ⟨List.mem_cons_of_mem _ (List.mem_append_left _ (List.mem_append_left _ (List.mem_of_getElem? (i := 9) rfl))), List.forall_mem_append.mpr ⟨List.forall_mem_cons.mpr ⟨List.mem_cons_of_mem _ (List.mem_append_left _ (List.mem_append_left _ (List.mem_of_getElem? (i := 10) rfl))), nowords_in⟩, (fun _ h => List.mem_cons_of_mem _ (List.mem_append_right _ (h)))⟩⟩)
set_option maxRecDepth 20000 in
theorem gX11_wrongs_X11_refuse : GoodIn wsX11_wrongs (wsV RX11 75 RX11 yX11_refuse wsX11_refuse) := goodIn_app (goodIn_by gd_X11_wrongs (List.forall_mem_cons.mpr ⟨List.mem_cons_of_mem _ (List.mem_append_left _ (List.mem_append_left _ (List.mem_of_getElem? (i := 6) rfl))), List.forall_mem_cons.mpr ⟨List.mem_cons_of_mem _ (List.mem_append_left _ (List.mem_append_left _ (List.mem_of_getElem? (i := 7) rfl))), List.forall_mem_cons.mpr ⟨List.mem_cons_of_mem _ (List.mem_append_left _ (List.mem_append_left _ (List.mem_of_getElem? (i := 8) rfl))), List.forall_mem_cons.mpr ⟨List.mem_cons_of_mem _ (List.mem_append_left _ (List.mem_append_left _ (List.mem_of_getElem? (i := 4) rfl))), nowords_in⟩⟩⟩⟩)) ggX11_wrongs_X11_refuse
set_option maxRecDepth 20000 in
theorem ggX11_wrongs_X11_felt : GoodIn wsX11_wrongs wsX11_felt := goodIn_by gd_X11_wrongs (List.forall_mem_cons.mpr ⟨List.mem_cons_of_mem _ (List.mem_append_left _ (List.mem_append_left _ (List.mem_of_getElem? (i := 14) rfl))), List.forall_mem_append.mpr ⟨List.forall_mem_cons.mpr ⟨List.mem_cons_of_mem _ (List.mem_append_left _ (List.mem_append_left _ (List.mem_of_getElem? (i := 0) rfl))), List.forall_mem_cons.mpr ⟨List.mem_cons_of_mem _ (List.mem_append_left _ (List.mem_append_left _ (List.mem_of_getElem? (i := 15) rfl))), List.forall_mem_cons.mpr ⟨List.mem_cons_of_mem _ (List.mem_append_left _ (List.mem_append_left _ (List.mem_of_getElem? (i := 16) rfl))), List.forall_mem_cons.mpr ⟨List.mem_cons_of_mem _ (List.mem_append_left _ (List.mem_append_left _ (List.mem_of_getElem? (i := 4) rfl))), List.forall_mem_cons.mpr ⟨List.mem_cons_of_mem _ (List.mem_append_left _ (List.mem_append_left _ (List.mem_of_getElem? (i := 17) rfl))), nowords_in⟩⟩⟩⟩⟩, (fun _ h => List.mem_cons_of_mem _ (List.mem_append_right _ (h)))⟩⟩)
set_option maxRecDepth 20000 in
theorem gX11_wrongs_X11_felt : GoodIn wsX11_wrongs (wsV RX11 313 RX11 yX11_felt wsX11_felt) := goodIn_app (goodIn_by gd_X11_wrongs (List.forall_mem_cons.mpr ⟨List.mem_cons_of_mem _ (List.mem_append_left _ (List.mem_append_left _ (List.mem_of_getElem? (i := 11) rfl))), List.forall_mem_cons.mpr ⟨List.mem_cons_of_mem _ (List.mem_append_left _ (List.mem_append_left _ (List.mem_of_getElem? (i := 12) rfl))), List.forall_mem_cons.mpr ⟨List.mem_cons_of_mem _ (List.mem_append_left _ (List.mem_append_left _ (List.mem_of_getElem? (i := 13) rfl))), List.forall_mem_cons.mpr ⟨List.mem_cons_of_mem _ (List.mem_append_left _ (List.mem_append_left _ (List.mem_of_getElem? (i := 4) rfl))), nowords_in⟩⟩⟩⟩)) ggX11_wrongs_X11_felt
set_option maxRecDepth 20000 in
theorem ggX11_wrongs_X11_shouldFeel : GoodIn wsX11_wrongs wsX11_shouldFeel := goodIn_by gd_X11_wrongs (List.forall_mem_cons.mpr ⟨List.mem_cons_of_mem _ (List.mem_append_left _ (List.mem_append_left _ (List.mem_of_getElem? (i := 21) rfl))), List.forall_mem_append.mpr ⟨List.forall_mem_cons.mpr ⟨List.mem_cons_of_mem _ (List.mem_append_left _ (List.mem_append_left _ (List.mem_of_getElem? (i := 22) rfl))), List.forall_mem_cons.mpr ⟨List.mem_cons_of_mem _ (List.mem_append_left _ (List.mem_append_left _ (List.mem_of_getElem? (i := 23) rfl))), List.forall_mem_cons.mpr ⟨List.mem_cons_of_mem _ (List.mem_append_left _ (List.mem_append_right _ (List.mem_of_getElem? (i := 0) rfl))), List.forall_mem_cons.mpr ⟨List.mem_cons_of_mem _ (List.mem_append_left _ (List.mem_append_left _ (List.mem_of_getElem? (i := 4) rfl))), List.forall_mem_cons.mpr ⟨List.mem_cons_of_mem _ (List.mem_append_left _ (List.mem_append_right _ (List.mem_of_getElem? (i := 1) rfl))), List.forall_mem_cons.mpr ⟨List.mem_cons_of_mem _ (List.mem_append_left _ (List.mem_append_left _ (List.mem_of_getElem? (i := 0) rfl))), List.forall_mem_cons.mpr ⟨List.mem_cons_of_mem _ (List.mem_append_left _ (List.mem_append_right _ (List.mem_of_getElem? (i := 2) rfl))), List.forall_mem_cons.mpr ⟨List.mem_cons_of_mem _ (List.mem_append_left _ (List.mem_append_right _ (List.mem_of_getElem? (i := 3) rfl))), List.forall_mem_cons.mpr ⟨List.mem_cons_of_mem _ (List.mem_append_left _ (List.mem_append_right _ (List.mem_of_getElem? (i := 4) rfl))), List.forall_mem_cons.mpr ⟨List.mem_cons_of_mem _ (List.mem_append_left _ (List.mem_append_right _ (List.mem_of_getElem? (i := 5) rfl))), List.forall_mem_cons.mpr ⟨List.mem_cons_of_mem _ (List.mem_append_left _ (List.mem_append_right _ (List.mem_of_getElem? (i := 6) rfl))), List.forall_mem_cons.mpr ⟨List.mem_cons_of_mem _ (List.mem_append_left _ (List.mem_append_right _ (List.mem_of_getElem? (i := 7) rfl))), List.forall_mem_cons.mpr ⟨List.mem_cons_of_mem _ (List.mem_append_left _ (List.mem_append_right _ (List.mem_of_getElem? (i := 8) rfl))), List.forall_mem_cons.mpr ⟨List.mem_cons_of_mem _ (List.mem_append_left _ (List.mem_append_right _ (List.mem_of_getElem? (i := 9) rfl))), List.forall_mem_cons.mpr ⟨List.mem_cons_of_mem _ (List.mem_append_left _ (List.mem_append_right _ (List.mem_of_getElem? (i := 10) rfl))), List.forall_mem_cons.mpr ⟨List.mem_cons_of_mem _ (List.mem_append_left _ (List.mem_append_right _ (List.mem_of_getElem? (i := 11) rfl))), List.forall_mem_cons.mpr ⟨List.mem_cons_of_mem _ (List.mem_append_left _ (List.mem_append_right _ (List.mem_of_getElem? (i := 12) rfl))), List.forall_mem_cons.mpr ⟨List.mem_cons_of_mem _ (List.mem_append_left _ (List.mem_append_right _ (List.mem_of_getElem? (i := 13) rfl))), List.forall_mem_cons.mpr ⟨List.mem_cons_of_mem _ (List.mem_append_left _ (List.mem_append_right _ (List.mem_of_getElem? (i := 14) rfl))), List.forall_mem_cons.mpr ⟨List.mem_cons_of_mem _ (List.mem_append_left _ (List.mem_append_right _ (List.mem_of_getElem? (i := 15) rfl))), List.forall_mem_cons.mpr ⟨List.mem_cons_of_mem _ (List.mem_append_left _ (List.mem_append_right _ (List.mem_of_getElem? (i := 16) rfl))), nowords_in⟩⟩⟩⟩⟩⟩⟩⟩⟩⟩⟩⟩⟩⟩⟩⟩⟩⟩⟩⟩⟩, (fun _ h => List.mem_cons_of_mem _ (List.mem_append_right _ (h)))⟩⟩)
set_option maxRecDepth 20000 in
theorem gX11_wrongs_X11_shouldFeel : GoodIn wsX11_wrongs (wsV RX11 228 RX11 yX11_shouldFeel wsX11_shouldFeel) := goodIn_app (goodIn_by gd_X11_wrongs (List.forall_mem_cons.mpr ⟨List.mem_cons_of_mem _ (List.mem_append_left _ (List.mem_append_left _ (List.mem_of_getElem? (i := 18) rfl))), List.forall_mem_cons.mpr ⟨List.mem_cons_of_mem _ (List.mem_append_left _ (List.mem_append_left _ (List.mem_of_getElem? (i := 19) rfl))), List.forall_mem_cons.mpr ⟨List.mem_cons_of_mem _ (List.mem_append_left _ (List.mem_append_left _ (List.mem_of_getElem? (i := 20) rfl))), List.forall_mem_cons.mpr ⟨List.mem_cons_of_mem _ (List.mem_append_left _ (List.mem_append_left _ (List.mem_of_getElem? (i := 4) rfl))), nowords_in⟩⟩⟩⟩)) ggX11_wrongs_X11_shouldFeel
set_option maxRecDepth 20000 in
theorem ggX11_wrongs_X11_gives : GoodIn wsX11_wrongs wsX11_gives := goodIn_by gd_X11_wrongs (List.forall_mem_cons.mpr ⟨List.mem_cons_of_mem _ (List.mem_append_left _ (List.mem_append_right _ (List.mem_of_getElem? (i := 20) rfl))), List.forall_mem_append.mpr ⟨List.forall_mem_cons.mpr ⟨List.mem_cons_of_mem _ (List.mem_append_left _ (List.mem_append_left _ (List.mem_of_getElem? (i := 10) rfl))), nowords_in⟩, (fun _ h => List.mem_cons_of_mem _ (List.mem_append_right _ (h)))⟩⟩)
set_option maxRecDepth 20000 in
theorem gX11_wrongs_X11_gives : GoodIn wsX11_wrongs (wsV RX11 79 RX11 yX11_gives wsX11_gives) := goodIn_app (goodIn_by gd_X11_wrongs (List.forall_mem_cons.mpr ⟨List.mem_cons_of_mem _ (List.mem_append_left _ (List.mem_append_right _ (List.mem_of_getElem? (i := 17) rfl))), List.forall_mem_cons.mpr ⟨List.mem_cons_of_mem _ (List.mem_append_left _ (List.mem_append_right _ (List.mem_of_getElem? (i := 18) rfl))), List.forall_mem_cons.mpr ⟨List.mem_cons_of_mem _ (List.mem_append_left _ (List.mem_append_right _ (List.mem_of_getElem? (i := 19) rfl))), List.forall_mem_cons.mpr ⟨List.mem_cons_of_mem _ (List.mem_append_left _ (List.mem_append_left _ (List.mem_of_getElem? (i := 4) rfl))), nowords_in⟩⟩⟩⟩)) ggX11_wrongs_X11_gives
theorem dX11_wrongs_0 : decode cX11_wrongs 0 = .ok (.aload_n 0, 1) := by decide +kernel
theorem dX11_wrongs_1 : decode cX11_wrongs 1 = .ok (.iload_n 1, 1) := by decide +kernel
theorem dX11_wrongs_2 : decode cX11_wrongs 2 = .ok (.invokevirtual 267, 3) := by decide +kernel
theorem dX11_wrongs_5 : decode cX11_wrongs 5 = .ok (.ifCond .eq 12, 3) := by decide +kernel
theorem dX11_wrongs_8 : decode cX11_wrongs 8 = .ok (.iload_n 2, 1) := by decide +kernel
theorem dX11_wrongs_9 : decode cX11_wrongs 9 = .ok (.ifCond .lt 8, 3) := by decide +kernel
theorem dX11_wrongs_12 : decode cX11_wrongs 12 = .ok (.iload_n 2, 1) := by decide +kernel
theorem dX11_wrongs_13 : decode cX11_wrongs 13 = .ok (.iconst 1, 1) := by decide +kernel
theorem dX11_wrongs_14 : decode cX11_wrongs 14 = .ok (.if_icmp .le 9, 3) := by decide +kernel
theorem dX11_wrongs_17 : decode cX11_wrongs 17 = .ok (.aload_n 0, 1) := by decide +kernel
theorem dX11_wrongs_18 : decode cX11_wrongs 18 = .ok (.iconst 1, 1) := by decide +kernel
theorem dX11_wrongs_19 : decode cX11_wrongs 19 = .ok (.invokevirtual 75, 3) := by decide +kernel
theorem dX11_wrongs_22 : decode cX11_wrongs 22 = .ok (.ireturn, 1) := by decide +kernel
theorem dX11_wrongs_23 : decode cX11_wrongs 23 = .ok (.iconst 0, 1) := by decide +kernel
theorem dX11_wrongs_24 : decode cX11_wrongs 24 = .ok (.istore_n 3, 1) := by decide +kernel
theorem dX11_wrongs_25 : decode cX11_wrongs 25 = .ok (.iconst 0, 1) := by decide +kernel
theorem dX11_wrongs_26 : decode cX11_wrongs 26 = .ok (.istore 4, 2) := by decide +kernel
theorem dX11_wrongs_28 : decode cX11_wrongs 28 = .ok (.iload 4, 2) := by decide +kernel
theorem dX11_wrongs_30 : decode cX11_wrongs 30 = .ok (.aload_n 0, 1) := by decide +kernel
theorem dX11_wrongs_31 : decode cX11_wrongs 31 = .ok (.getfield 7, 3) := by decide +kernel
theorem dX11_wrongs_34 : decode cX11_wrongs 34 = .ok (.iconst 1, 1) := by decide +kernel
theorem dX11_wrongs_35 : decode cX11_wrongs 35 = .ok (.iaload, 1) := by decide +kernel
theorem dX11_wrongs_36 : decode cX11_wrongs 36 = .ok (.if_icmp .ge 56, 3) := by decide +kernel
theorem dX11_wrongs_39 : decode cX11_wrongs 39 = .ok (.iload_n 3, 1) := by decide +kernel
theorem dX11_wrongs_40 : decode cX11_wrongs 40 = .ok (.aload_n 0, 1) := by decide +kernel
theorem dX11_wrongs_41 : decode cX11_wrongs 41 = .ok (.iload_n 1, 1) := by decide +kernel
theorem dX11_wrongs_42 : decode cX11_wrongs 42 = .ok (.iload 4, 2) := by decide +kernel
theorem dX11_wrongs_44 : decode cX11_wrongs 44 = .ok (.invokevirtual 313, 3) := by decide +kernel
theorem dX11_wrongs_47 : decode cX11_wrongs 47 = .ok (.iload_n 2, 1) := by decide +kernel
theorem dX11_wrongs_48 : decode cX11_wrongs 48 = .ok (.ifCond .ne 7, 3) := by decide +kernel
theorem dX11_wrongs_51 : decode cX11_wrongs 51 = .ok (.iconst 1, 1) := by decide +kernel
theorem dX11_wrongs_52 : decode cX11_wrongs 52 = .ok (.goto 4, 3) := by decide +kernel
theorem dX11_wrongs_55 : decode cX11_wrongs 55 = .ok (.iconst 0, 1) := by decide +kernel
theorem dX11_wrongs_56 : decode cX11_wrongs 56 = .ok (.if_icmp .ne 27, 3) := by decide +kernel
theorem dX11_wrongs_59 : decode cX11_wrongs 59 = .ok (.aload_n 0, 1) := by decide +kernel
theorem dX11_wrongs_60 : decode cX11_wrongs 60 = .ok (.iload_n 1, 1) := by decide +kernel
theorem dX11_wrongs_61 : decode cX11_wrongs 61 = .ok (.iload 4, 2) := by decide +kernel
theorem dX11_wrongs_63 : decode cX11_wrongs 63 = .ok (.invokevirtual 228, 3) := by decide +kernel
theorem dX11_wrongs_66 : decode cX11_wrongs 66 = .ok (.iload_n 2, 1) := by decide +kernel
theorem dX11_wrongs_67 : decode cX11_wrongs 67 = .ok (.iconst 1, 1) := by decide +kernel
theorem dX11_wrongs_68 : decode cX11_wrongs 68 = .ok (.if_icmp .ne 7, 3) := by decide +kernel
theorem dX11_wrongs_71 : decode cX11_wrongs 71 = .ok (.iconst 1, 1) := by decide +kernel
theorem dX11_wrongs_72 : decode cX11_wrongs 72 = .ok (.goto 4, 3) := by decide +kernel
theorem dX11_wrongs_75 : decode cX11_wrongs 75 = .ok (.iconst 0, 1) := by decide +kernel
theorem dX11_wrongs_76 : decode cX11_wrongs 76 = .ok (.if_icmp .ne 7, 3) := by decide +kernel
theorem dX11_wrongs_79 : decode cX11_wrongs 79 = .ok (.iconst 1, 1) := by decide +kernel
theorem dX11_wrongs_80 : decode cX11_wrongs 80 = .ok (.goto 4, 3) := by decide +kernel
theorem dX11_wrongs_83 : decode cX11_wrongs 83 = .ok (.iconst 0, 1) := by decide +kernel
theorem dX11_wrongs_84 : decode cX11_wrongs 84 = .ok (.iadd, 1) := by decide +kernel
theorem dX11_wrongs_85 : decode cX11_wrongs 85 = .ok (.istore_n 3, 1) := by decide +kernel
theorem dX11_wrongs_86 : decode cX11_wrongs 86 = .ok (.iinc 4 1, 3) := by decide +kernel
theorem dX11_wrongs_89 : decode cX11_wrongs 89 = .ok (.goto (-61), 3) := by decide +kernel
theorem dX11_wrongs_92 : decode cX11_wrongs 92 = .ok (.aload_n 0, 1) := by decide +kernel
theorem dX11_wrongs_93 : decode cX11_wrongs 93 = .ok (.iload_n 3, 1) := by decide +kernel
theorem dX11_wrongs_94 : decode cX11_wrongs 94 = .ok (.invokevirtual 79, 3) := by decide +kernel
theorem dX11_wrongs_97 : decode cX11_wrongs 97 = .ok (.ireturn, 1) := by decide +kernel
abbrev rmX11_wrongs : Room := { frames := 3, cells := 0, slots := 0, locals := 65 }
set_option maxHeartbeats 4000000 in
set_option maxRecDepth 100000 in
theorem kX11_wrongs (l : Launch) (D : va_G) (cy : Nat → ClassId) (h0 : Nat) (a0 : Nat → Nat) (s0 : Rc) (p1 : Int32) (p2 : Int32) (res : Int32 × Rc) (h : fX11_wrongs p1 p2 s0 = some res) : CI l D cy yX11_wrongs wsX11_wrongs rmX11_wrongs [.ref h0, .int p1, .int p2] (flat [WX11 cy h0 a0 s0]) (flat [WX11 cy h0 a0 res.2]) res.1 := by
  refine CI.of (cc := cX11_wrongs) (maxL := 5) (by decide) rfl (Nat.le_of_ble_eq_true rfl) ?_
  intro p e s m args below meth c A QQ ls E hr
  obtain ⟨hx, hb, hml, hown, hts, hK, hN, hP, hD, hA, hl⟩ := E
  have hret : ∀ (pc : Nat) (H : Heap) (locs : List Loc) (ls : Array Slot) (u : Int32 × Rc), u = res → va_P D vwCl (flat [WX11 cy h0 a0 u.2]) H → va_D A (flat [WX11 cy h0 a0 u.2]) → va_S A s.heap H locs → decode cX11_wrongs pc = .ok (.ireturn, 1) → W p l e rmX11_wrongs s m args below meth c H locs 0 0 QQ (F0 m pc ls [.int u.1]) := by
    intro pc H locs ls u hu hP hD hS hd; subst hu; exact hr pc H locs ls _ rfl hP hD hS hd
  clear hr
  have hl : lv_has ls 5 [(0, .ref h0), (1, .int p1), (2, .int p2)] := hl
  have hinX11 : ∀ w ∈ wsX110, w ∈ wsX11_wrongs := fun _ h => List.mem_cons_of_mem _ (List.mem_append_right _ h)
  unfold fX11_wrongs at h
  suffices key : ∀ (H : Heap) (locs : List Loc), va_P D vwCl (flat [WX11 cy h0 a0 s0]) H → va_S A s.heap H locs → W p l e rmX11_wrongs s m args below meth c H locs 0 0 QQ (F0 m 0 ls []) from key _ _ hP va_S.rf
  clear hP
  intro H locs hP hS
  refine lv_aload_n hx hb dX11_wrongs_0 rfl (lv_at hl 0 rfl) ?_
  refine lv_iload_n hx hb dX11_wrongs_1 rfl (lv_at hl 1 rfl) ?_
  refine ca_z (w' := [WX11 cy h0 a0 s0]) (rn_V (As := [.int p1]) (rest := []) ⟨hx, hb, hml, hown, hts⟩ (kX11_isFarmer l D cy h0 a0 s0 p1 _ rfl H.size) (cwV 1 hts gX11_wrongs_X11_isFarmer rfl rfl rfl (by decide +kernel) ⟨Nat.le_of_ble_eq_true rfl, Nat.le_of_ble_eq_true rfl⟩) hK hN hP hD [0] rfl rfl (ci := 11) (q0 := 0) rfl rfl rfl rfl hl.1 rfl (Nat.le_of_ble_eq_true rfl) dX11_wrongs_2 ⟨Nat.le_refl 0, Nat.le_refl 0⟩) hP hD hS hA [0] ⟨rfl, rfl, rfl, rfl⟩ (fun b1 H locs hP hD hS => ?_)
  refine lv_if_eq (tgt := 17) hx hb dX11_wrongs_5 (by decide) (fun c2 => ?_) (fun c2 => ?_)
  · replace h := (if_pos c2).symm.trans h
    refine lv_aload_n hx hb dX11_wrongs_17 rfl (lv_at hl 0 rfl) ?_
    refine lv_iconst (v := 1) hx hb dX11_wrongs_18 (by decide) ?_
    obtain ⟨r3, hr3, h⟩ := lt_elim h
    refine ca_i (w' := [WX11 cy h0 a0 r3.2]) (rn_V (As := [.int (1 : Int32)]) (rest := []) ⟨hx, hb, hml, hown, hts⟩ (kX11_refuse l D cy h0 a0 s0 (1 : Int32) r3 hr3.symm H.size) (cwV 1 hts gX11_wrongs_X11_refuse rfl rfl rfl (by decide +kernel) ⟨Nat.le_of_ble_eq_true rfl, Nat.le_of_ble_eq_true rfl⟩) hK hN hP hD [0] rfl rfl (ci := 11) (q0 := 0) rfl rfl rfl rfl hl.1 rfl (Nat.le_of_ble_eq_true rfl) dX11_wrongs_19 ⟨Nat.le_refl 0, Nat.le_refl 0⟩) hP hD hS hA [0] ⟨rfl, rfl, rfl, rfl⟩ (fun H locs hP hD hS => ?_)
    exact hret 22 H locs ls (r3.1, r3.2) (Option.some.inj h) hP hD hS dX11_wrongs_22
  · replace h := (if_neg c2).symm.trans h
    refine lv_iload_n hx hb dX11_wrongs_8 rfl (lv_at hl 2 rfl) ?_
    refine lv_if_lt (tgt := 17) hx hb dX11_wrongs_9 (by decide) (fun c4 => ?_) (fun c4 => ?_)
    · replace h := (if_pos c4).symm.trans h
      refine lv_aload_n hx hb dX11_wrongs_17 rfl (lv_at hl 0 rfl) ?_
      refine lv_iconst (v := 1) hx hb dX11_wrongs_18 (by decide) ?_
      obtain ⟨r5, hr5, h⟩ := lt_elim h
      refine ca_i (w' := [WX11 cy h0 a0 r5.2]) (rn_V (As := [.int (1 : Int32)]) (rest := []) ⟨hx, hb, hml, hown, hts⟩ (kX11_refuse l D cy h0 a0 s0 (1 : Int32) r5 hr5.symm H.size) (cwV 1 hts gX11_wrongs_X11_refuse rfl rfl rfl (by decide +kernel) ⟨Nat.le_of_ble_eq_true rfl, Nat.le_of_ble_eq_true rfl⟩) hK hN hP hD [0] rfl rfl (ci := 11) (q0 := 0) rfl rfl rfl rfl hl.1 rfl (Nat.le_of_ble_eq_true rfl) dX11_wrongs_19 ⟨Nat.le_refl 0, Nat.le_refl 0⟩) hP hD hS hA [0] ⟨rfl, rfl, rfl, rfl⟩ (fun H locs hP hD hS => ?_)
      exact hret 22 H locs ls (r5.1, r5.2) (Option.some.inj h) hP hD hS dX11_wrongs_22
    · replace h := (if_neg c4).symm.trans h
      refine lv_iload_n hx hb dX11_wrongs_12 rfl (lv_at hl 2 rfl) ?_
      refine lv_iconst (v := 1) hx hb dX11_wrongs_13 (by decide) ?_
      refine lv_icmp_le (tgt := 23) hx hb dX11_wrongs_14 (by decide) (fun c6 => ?_) (fun c6 => ?_)
      · replace h := (if_pos c6).symm.trans h
        refine lv_iconst (v := 0) hx hb dX11_wrongs_23 (by decide) ?_
        refine lv_istore_n (lv' := [(3, .int (0 : Int32)), (0, .ref h0), (1, .int p1), (2, .int p2)]) hx hb dX11_wrongs_24 rfl hl (by decide) rfl (fun ls hl => ?_)
        refine lv_iconst (v := 0) hx hb dX11_wrongs_25 (by decide) ?_
        refine lv_istore (lv' := [(4, .int (0 : Int32)), (3, .int (0 : Int32)), (0, .ref h0), (1, .int p1), (2, .int p2)]) hx hb dX11_wrongs_26 hl (by decide) rfl (fun ls hl => ?_)
        have L28 : ∀ (n : Nat) (q28 : Int32 × Int32) (o : Int32), loopO (fX11_wrongs_L28 p1 p2 s0) n q28 = some o → ∀ (H : Heap) (locs : List Loc) (ls : Array Slot), lv_has ls 5 [(0, .ref h0), (1, .int p1), (2, .int p2), (3, .int q28.1), (4, .int q28.2)] → va_P D vwCl (flat [WX11 cy h0 a0 s0]) H → va_D A (flat [WX11 cy h0 a0 s0]) → va_S A s.heap H locs → ∀ (kk92 : ∀ (H : Heap) (locs : List Loc) (ls : Array Slot), lv_has ls 5 [(0, .ref h0), (3, .int o)] → va_P D vwCl (flat [WX11 cy h0 a0 s0]) H → va_D A (flat [WX11 cy h0 a0 s0]) → va_S A s.heap H locs → W p l e rmX11_wrongs s m args below meth c H locs 0 0 QQ (F0 m 92 ls [])), W p l e rmX11_wrongs s m args below meth c H locs 0 0 QQ (F0 m 28 ls []) := by
          intro n
          induction n with
          | zero => intro q28 o h; exact absurd h (by rw [loopO_zero]; intro z; cases z)
          | succ n ih =>
            intro q28 o h H locs ls hl hP hD hS kk92
            obtain ⟨w, h, hgo, hst⟩ := loopO_elim h
            unfold fX11_wrongs_L28 at h
            have J76 : ∀ (z76_0 : Int32) (z76_1 : Int32) (z76_2 : Int32) (H : Heap) (locs : List Loc) (ls : Array Slot), lv_has ls 5 [(0, .ref h0), (1, .int p1), (2, .int p2), (4, .int q28.2)] → va_P D vwCl (flat [WX11 cy h0 a0 s0]) H → va_D A (flat [WX11 cy h0 a0 s0]) → va_S A s.heap H locs → fX11_wrongs_J76 q28 z76_0 z76_1 z76_2 = some w → W p l e rmX11_wrongs s m args below meth c H locs 0 0 QQ (F0 m 76 ls [.int z76_0, .int z76_1, .int z76_2]) := by
              intro z76_0 z76_1 z76_2 H locs ls hl hP hD hS h
              unfold fX11_wrongs_J76 at h
              refine lv_icmp_ne (tgt := 83) hx hb dX11_wrongs_76 (by decide) (fun c7 => ?_) (fun c7 => ?_)
              · replace h := (if_neg c7).symm.trans h
                refine lv_iconst (v := 0) hx hb dX11_wrongs_83 (by decide) ?_
                refine lv_iadd hx hb dX11_wrongs_84 ?_
                refine lv_topi (fun x8 ex8 => ?_)
                replace h := lt_use h x8 ex8
                refine lv_istore_n (lv' := [(3, .int x8), (0, .ref h0), (1, .int p1), (2, .int p2), (4, .int q28.2)]) hx hb dX11_wrongs_85 rfl hl (by decide) rfl (fun ls hl => ?_)
                refine lv_iinc (v := (q28.2 + (1 : Int32))) (lv' := [(4, .int (q28.2 + (1 : Int32))), (3, .int x8), (0, .ref h0), (1, .int p1), (2, .int p2)]) hx hb dX11_wrongs_86 hl (k := 4) rfl rfl (by decide) rfl (fun ls hl => ?_)
                refine lv_goto (tgt := 28) hx hb dX11_wrongs_89 (by decide) ?_
                exact ih _ o (hgo _ (Option.some.inj h).symm) H locs ls (lv_sub hl [2, 3, 4, 1, 0] rfl) hP hD hS kk92
              · replace h := (if_pos c7).symm.trans h
                refine lv_iconst (v := 1) hx hb dX11_wrongs_79 (by decide) ?_
                refine lv_goto (tgt := 84) hx hb dX11_wrongs_80 (by decide) ?_
                refine lv_iadd hx hb dX11_wrongs_84 ?_
                refine lv_topi (fun x9 ex9 => ?_)
                replace h := lt_use h x9 ex9
                refine lv_istore_n (lv' := [(3, .int x9), (0, .ref h0), (1, .int p1), (2, .int p2), (4, .int q28.2)]) hx hb dX11_wrongs_85 rfl hl (by decide) rfl (fun ls hl => ?_)
                refine lv_iinc (v := (q28.2 + (1 : Int32))) (lv' := [(4, .int (q28.2 + (1 : Int32))), (3, .int x9), (0, .ref h0), (1, .int p1), (2, .int p2)]) hx hb dX11_wrongs_86 hl (k := 4) rfl rfl (by decide) rfl (fun ls hl => ?_)
                refine lv_goto (tgt := 28) hx hb dX11_wrongs_89 (by decide) ?_
                exact ih _ o (hgo _ (Option.some.inj h).symm) H locs ls (lv_sub hl [2, 3, 4, 1, 0] rfl) hP hD hS kk92
            have J56 : ∀ (z56_0 : Int32) (z56_1 : Int32) (z56_2 : Int32) (H : Heap) (locs : List Loc) (ls : Array Slot), lv_has ls 5 [(0, .ref h0), (1, .int p1), (2, .int p2), (4, .int q28.2)] → va_P D vwCl (flat [WX11 cy h0 a0 s0]) H → va_D A (flat [WX11 cy h0 a0 s0]) → va_S A s.heap H locs → fX11_wrongs_J56 p1 p2 s0 q28 z56_0 z56_1 z56_2 = some w → W p l e rmX11_wrongs s m args below meth c H locs 0 0 QQ (F0 m 56 ls [.int z56_0, .int z56_1, .int z56_2]) := by
              intro z56_0 z56_1 z56_2 H locs ls hl hP hD hS h
              unfold fX11_wrongs_J56 at h
              refine lv_icmp_ne (tgt := 83) hx hb dX11_wrongs_56 (by decide) (fun c10 => ?_) (fun c10 => ?_)
              · replace h := (if_neg c10).symm.trans h
                refine lv_iconst (v := 0) hx hb dX11_wrongs_83 (by decide) ?_
                refine lv_iadd hx hb dX11_wrongs_84 ?_
                refine lv_topi (fun x11 ex11 => ?_)
                replace h := lt_use h x11 ex11
                refine lv_istore_n (lv' := [(3, .int x11), (0, .ref h0), (1, .int p1), (2, .int p2), (4, .int q28.2)]) hx hb dX11_wrongs_85 rfl hl (by decide) rfl (fun ls hl => ?_)
                refine lv_iinc (v := (q28.2 + (1 : Int32))) (lv' := [(4, .int (q28.2 + (1 : Int32))), (3, .int x11), (0, .ref h0), (1, .int p1), (2, .int p2)]) hx hb dX11_wrongs_86 hl (k := 4) rfl rfl (by decide) rfl (fun ls hl => ?_)
                refine lv_goto (tgt := 28) hx hb dX11_wrongs_89 (by decide) ?_
                exact ih _ o (hgo _ (Option.some.inj h).symm) H locs ls (lv_sub hl [2, 3, 4, 1, 0] rfl) hP hD hS kk92
              · replace h := (if_pos c10).symm.trans h
                refine lv_aload_n hx hb dX11_wrongs_59 rfl (lv_at hl 0 rfl) ?_
                refine lv_iload_n hx hb dX11_wrongs_60 rfl (lv_at hl 1 rfl) ?_
                refine lv_iload hx hb dX11_wrongs_61 (lv_at hl 3 rfl) ?_
                obtain ⟨r12, hr12, h⟩ := bd_elim h
                refine ca_z (w' := [WX11 cy h0 a0 s0]) (rn_V (As := [.int p1, .int q28.2]) (rest := [.int z56_2]) ⟨hx, hb, hml, hown, hts⟩ (kX11_shouldFeel l D cy h0 a0 s0 p1 q28.2 r12 hr12 H.size) (cwV 2 hts gX11_wrongs_X11_shouldFeel rfl rfl rfl (by decide +kernel) ⟨Nat.le_of_ble_eq_true rfl, Nat.le_of_ble_eq_true rfl⟩) hK hN hP hD [0] rfl rfl (ci := 11) (q0 := 0) rfl rfl rfl rfl hl.1 rfl (Nat.le_of_ble_eq_true rfl) dX11_wrongs_63 ⟨Nat.le_refl 0, Nat.le_refl 0⟩) hP hD hS hA [0] ⟨rfl, rfl, rfl, rfl⟩ (fun b13 H locs hP hD hS => ?_)
                refine lv_iload_n hx hb dX11_wrongs_66 rfl (lv_at hl 2 rfl) ?_
                refine lv_iconst (v := 1) hx hb dX11_wrongs_67 (by decide) ?_
                refine lv_icmp_ne (tgt := 75) hx hb dX11_wrongs_68 (by decide) (fun c14 => ?_) (fun c14 => ?_)
                · replace h := (if_neg c14).symm.trans h
                  refine lv_iconst (v := 0) hx hb dX11_wrongs_75 (by decide) ?_
                  exact J76 (0 : Int32) r12 z56_2 H locs ls (lv_sub hl [0, 1, 2, 3] rfl) hP hD hS h
                · replace h := (if_pos c14).symm.trans h
                  refine lv_iconst (v := 1) hx hb dX11_wrongs_71 (by decide) ?_
                  refine lv_goto (tgt := 76) hx hb dX11_wrongs_72 (by decide) ?_
                  exact J76 (1 : Int32) r12 z56_2 H locs ls (lv_sub hl [0, 1, 2, 3] rfl) hP hD hS h
            refine lv_iload hx hb dX11_wrongs_28 (lv_at hl 4 rfl) ?_
            refine lv_aload_n hx hb dX11_wrongs_30 rfl (lv_at hl 0 rfl) ?_
            refine va_get (D := D) (ci := 11) (v := .ref (a0 0)) (C := RX11) (T := TX11) (N := 38) hx hb hts hinX11 hown hK hP 0 rfl rfl 0 (by decide) (hts (.fieldLink RX11 7 "KneeBenchModel" "at" "[I") (List.mem_of_getElem? (i := 1) rfl)) (fun _ h9 => h9) rfl dX11_wrongs_31 ?_
            refine lv_iconst (v := 1) hx hb dX11_wrongs_34 (by decide) ?_
            refine va_iald hx hb hK hP 1 1 rfl rfl (inb_in (by decide)) dX11_wrongs_35 ?_
            refine lv_icmp_ge (tgt := 92) hx hb dX11_wrongs_36 (by decide) (fun c15 => ?_) (fun c15 => ?_)
            · replace h := (if_pos c15).symm.trans h
              have eo := hst _ (Option.some.inj h).symm
              subst eo
              exact kk92 H locs ls (lv_sub hl [0, 3] rfl) hP hD hS
            · replace h := (if_neg c15).symm.trans h
              refine lv_iload_n hx hb dX11_wrongs_39 rfl (lv_at hl 3 rfl) ?_
              refine lv_aload_n hx hb dX11_wrongs_40 rfl (lv_at hl 0 rfl) ?_
              refine lv_iload_n hx hb dX11_wrongs_41 rfl (lv_at hl 1 rfl) ?_
              refine lv_iload hx hb dX11_wrongs_42 (lv_at hl 4 rfl) ?_
              obtain ⟨r16, hr16, h⟩ := bd_elim h
              refine ca_z (w' := [WX11 cy h0 a0 s0]) (rn_V (As := [.int p1, .int q28.2]) (rest := [.int q28.1]) ⟨hx, hb, hml, hown, hts⟩ (kX11_felt l D cy h0 a0 s0 p1 q28.2 r16 hr16 H.size) (cwV 2 hts gX11_wrongs_X11_felt rfl rfl rfl (by decide +kernel) ⟨Nat.le_of_ble_eq_true rfl, Nat.le_of_ble_eq_true rfl⟩) hK hN hP hD [0] rfl rfl (ci := 11) (q0 := 0) rfl rfl rfl rfl hl.1 rfl (Nat.le_of_ble_eq_true rfl) dX11_wrongs_44 ⟨Nat.le_refl 0, Nat.le_refl 0⟩) hP hD hS hA [0] ⟨rfl, rfl, rfl, rfl⟩ (fun b17 H locs hP hD hS => ?_)
              refine lv_iload_n hx hb dX11_wrongs_47 rfl (lv_at hl 2 rfl) ?_
              refine lv_if_ne (tgt := 55) hx hb dX11_wrongs_48 (by decide) (fun c18 => ?_) (fun c18 => ?_)
              · replace h := (if_neg c18).symm.trans h
                refine lv_iconst (v := 0) hx hb dX11_wrongs_55 (by decide) ?_
                exact J56 (0 : Int32) r16 q28.1 H locs ls (lv_sub hl [0, 1, 2, 4] rfl) hP hD hS h
              · replace h := (if_pos c18).symm.trans h
                refine lv_iconst (v := 1) hx hb dX11_wrongs_51 (by decide) ?_
                refine lv_goto (tgt := 56) hx hb dX11_wrongs_52 (by decide) ?_
                exact J56 (1 : Int32) r16 q28.1 H locs ls (lv_sub hl [0, 1, 2, 4] rfl) hP hD hS h
        obtain ⟨o28, ho28, h⟩ := bd_elim h
        obtain ⟨n28, hn28⟩ := loopF_some ho28
        refine L28 n28 _ o28 hn28 H locs ls (lv_sub hl [2, 3, 4, 1, 0] rfl) hP hD hS (fun H locs ls hl hP hD hS => ?_)
        refine lv_aload_n hx hb dX11_wrongs_92 rfl (lv_at hl 0 rfl) ?_
        refine lv_iload_n hx hb dX11_wrongs_93 rfl (lv_at hl 1 rfl) ?_
        obtain ⟨r19, hr19, h⟩ := lt_elim h
        refine ca_i (w' := [WX11 cy h0 a0 r19.2]) (rn_V (As := [.int o28]) (rest := []) ⟨hx, hb, hml, hown, hts⟩ (kX11_gives l D cy h0 a0 s0 o28 r19 hr19.symm H.size) (cwV 1 hts gX11_wrongs_X11_gives rfl rfl rfl (by decide +kernel) ⟨Nat.le_of_ble_eq_true rfl, Nat.le_of_ble_eq_true rfl⟩) hK hN hP hD [0] rfl rfl (ci := 11) (q0 := 0) rfl rfl rfl rfl hl.1 rfl (Nat.le_of_ble_eq_true rfl) dX11_wrongs_94 ⟨Nat.le_refl 0, Nat.le_refl 0⟩) hP hD hS hA [0] ⟨rfl, rfl, rfl, rfl⟩ (fun H locs hP hD hS => ?_)
        exact hret 97 H locs ls (r19.1, r19.2) (Option.some.inj h) hP hD hS dX11_wrongs_97
      · replace h := (if_neg c6).symm.trans h
        refine lv_aload_n hx hb dX11_wrongs_17 rfl (lv_at hl 0 rfl) ?_
        refine lv_iconst (v := 1) hx hb dX11_wrongs_18 (by decide) ?_
        obtain ⟨r20, hr20, h⟩ := lt_elim h
        refine ca_i (w' := [WX11 cy h0 a0 r20.2]) (rn_V (As := [.int (1 : Int32)]) (rest := []) ⟨hx, hb, hml, hown, hts⟩ (kX11_refuse l D cy h0 a0 s0 (1 : Int32) r20 hr20.symm H.size) (cwV 1 hts gX11_wrongs_X11_refuse rfl rfl rfl (by decide +kernel) ⟨Nat.le_of_ble_eq_true rfl, Nat.le_of_ble_eq_true rfl⟩) hK hN hP hD [0] rfl rfl (ci := 11) (q0 := 0) rfl rfl rfl rfl hl.1 rfl (Nat.le_of_ble_eq_true rfl) dX11_wrongs_19 ⟨Nat.le_refl 0, Nat.le_refl 0⟩) hP hD hS hA [0] ⟨rfl, rfl, rfl, rfl⟩ (fun H locs hP hD hS => ?_)
        exact hret 22 H locs ls (r20.1, r20.2) (Option.some.inj h) hP hD hS dX11_wrongs_22
