theorem gd_X10_twinge : wsX10_twinge.all goodWord = true := by decide +kernel
set_option maxRecDepth 20000 in
theorem ggX10_twinge_X10_noFarmer : GoodIn wsX10_twinge wsX10_noFarmer := goodIn_by gd_X10_twinge (List.forall_mem_cons.mpr ⟨List.mem_cons_of_mem _ (List.mem_append_left _ (List.mem_append_left _ (List.mem_append_left _ (List.mem_of_getElem? (i := 5) rfl)))), List.forall_mem_append.mpr ⟨List.forall_mem_append.mpr ⟨List.forall_mem_cons.mpr ⟨List.mem_cons_of_mem _ (List.mem_append_left _ (List.mem_append_left _ (List.mem_append_left _ (List.mem_of_getElem? (i := 0) rfl)))), List.forall_mem_cons.mpr ⟨List.mem_cons_of_mem _ (List.mem_append_left _ (List.mem_append_left _ (List.mem_append_left _ (List.mem_of_getElem? (i := 6) rfl)))), List.forall_mem_cons.mpr ⟨List.mem_cons_of_mem _ (List.mem_append_left _ (List.mem_append_left _ (List.mem_append_left _ (List.mem_of_getElem? (i := 7) rfl)))), List.forall_mem_cons.mpr ⟨List.mem_cons_of_mem _ (List.mem_append_left _ (List.mem_append_left _ (List.mem_append_left _ (List.mem_of_getElem? (i := 8) rfl)))), List.forall_mem_cons.mpr ⟨List.mem_cons_of_mem _ (List.mem_append_left _ (List.mem_append_left _ (List.mem_append_left _ (List.mem_of_getElem? (i := 9) rfl)))), List.forall_mem_cons.mpr ⟨List.mem_cons_of_mem _ (List.mem_append_left _ (List.mem_append_left _ (List.mem_append_left _ (List.mem_of_getElem? (i := 10) rfl)))), List.forall_mem_cons.mpr ⟨List.mem_cons_of_mem _ (List.mem_append_left _ (List.mem_append_left _ (List.mem_append_left _ (List.mem_of_getElem? (i := 11) rfl)))), nowords_in⟩⟩⟩⟩⟩⟩⟩, (fun _ h => List.mem_cons_of_mem _ (List.mem_append_left _ (List.mem_append_right _ (h))))⟩, (fun _ h => List.mem_cons_of_mem _ (List.mem_append_right _ (h)))⟩⟩)
set_option maxRecDepth 20000 in
theorem gX10_twinge_X10_noFarmer : GoodIn wsX10_twinge (wsV RX10 215 RX10 yX10_noFarmer wsX10_noFarmer) := goodIn_app (goodIn_by gd_X10_twinge (List.forall_mem_cons.mpr ⟨List.mem_cons_of_mem _ (List.mem_append_left _ (List.mem_append_left _ (List.mem_append_left _ (List.mem_of_getElem? (i := 1) rfl)))), List.forall_mem_cons.mpr ⟨List.mem_cons_of_mem _ (List.mem_append_left _ (List.mem_append_left _ (List.mem_append_left _ (List.mem_of_getElem? (i := 2) rfl)))), List.forall_mem_cons.mpr ⟨List.mem_cons_of_mem _ (List.mem_append_left _ (List.mem_append_left _ (List.mem_append_left _ (List.mem_of_getElem? (i := 3) rfl)))), List.forall_mem_cons.mpr ⟨List.mem_cons_of_mem _ (List.mem_append_left _ (List.mem_append_left _ (List.mem_append_left _ (List.mem_of_getElem? (i := 4) rfl)))), nowords_in⟩⟩⟩⟩)) ggX10_twinge_X10_noFarmer
set_option maxRecDepth 20000 in
theorem ggX10_twinge_X10_noDay : GoodIn wsX10_twinge wsX10_noDay := goodIn_by gd_X10_twinge (List.forall_mem_cons.mpr ⟨List.mem_cons_of_mem _ (List.mem_append_left _ (List.mem_append_left _ (List.mem_append_left _ (List.mem_of_getElem? (i := 15) rfl)))), List.forall_mem_append.mpr ⟨List.forall_mem_append.mpr ⟨List.forall_mem_cons.mpr ⟨List.mem_cons_of_mem _ (List.mem_append_left _ (List.mem_append_left _ (List.mem_append_left _ (List.mem_of_getElem? (i := 0) rfl)))), nowords_in⟩, (fun _ h => List.mem_cons_of_mem _ (List.mem_append_left _ (List.mem_append_right _ (h))))⟩, (fun _ h => List.mem_cons_of_mem _ (List.mem_append_right _ (h)))⟩⟩)
set_option maxRecDepth 20000 in
theorem gX10_twinge_X10_noDay : GoodIn wsX10_twinge (wsV RX10 247 RX10 yX10_noDay wsX10_noDay) := goodIn_app (goodIn_by gd_X10_twinge (List.forall_mem_cons.mpr ⟨List.mem_cons_of_mem _ (List.mem_append_left _ (List.mem_append_left _ (List.mem_append_left _ (List.mem_of_getElem? (i := 12) rfl)))), List.forall_mem_cons.mpr ⟨List.mem_cons_of_mem _ (List.mem_append_left _ (List.mem_append_left _ (List.mem_append_left _ (List.mem_of_getElem? (i := 13) rfl)))), List.forall_mem_cons.mpr ⟨List.mem_cons_of_mem _ (List.mem_append_left _ (List.mem_append_left _ (List.mem_append_left _ (List.mem_of_getElem? (i := 14) rfl)))), List.forall_mem_cons.mpr ⟨List.mem_cons_of_mem _ (List.mem_append_left _ (List.mem_append_left _ (List.mem_append_left _ (List.mem_of_getElem? (i := 4) rfl)))), nowords_in⟩⟩⟩⟩)) ggX10_twinge_X10_noDay
set_option maxRecDepth 20000 in
theorem ggX10_twinge_X10_deny : GoodIn wsX10_twinge wsX10_deny := goodIn_by gd_X10_twinge (List.forall_mem_cons.mpr ⟨List.mem_cons_of_mem _ (List.mem_append_left _ (List.mem_append_left _ (List.mem_append_left _ (List.mem_of_getElem? (i := 19) rfl)))), List.forall_mem_append.mpr ⟨List.forall_mem_cons.mpr ⟨List.mem_cons_of_mem _ (List.mem_append_left _ (List.mem_append_left _ (List.mem_append_left _ (List.mem_of_getElem? (i := 20) rfl)))), nowords_in⟩, (fun _ h => List.mem_cons_of_mem _ (List.mem_append_left _ (List.mem_append_right _ (h))))⟩⟩)
set_option maxRecDepth 20000 in
theorem gX10_twinge_X10_deny : GoodIn wsX10_twinge (wsV RX10 120 RX10 yX10_deny wsX10_deny) := goodIn_app (goodIn_by gd_X10_twinge (List.forall_mem_cons.mpr ⟨List.mem_cons_of_mem _ (List.mem_append_left _ (List.mem_append_left _ (List.mem_append_left _ (List.mem_of_getElem? (i := 16) rfl)))), List.forall_mem_cons.mpr ⟨List.mem_cons_of_mem _ (List.mem_append_left _ (List.mem_append_left _ (List.mem_append_left _ (List.mem_of_getElem? (i := 17) rfl)))), List.forall_mem_cons.mpr ⟨List.mem_cons_of_mem _ (List.mem_append_left _ (List.mem_append_left _ (List.mem_append_left _ (List.mem_of_getElem? (i := 18) rfl)))), List.forall_mem_cons.mpr ⟨List.mem_cons_of_mem _ (List.mem_append_left _ (List.mem_append_left _ (List.mem_append_left _ (List.mem_of_getElem? (i := 4) rfl)))), nowords_in⟩⟩⟩⟩)) ggX10_twinge_X10_deny
set_option maxRecDepth 20000 in
theorem ggX10_twinge_X0_feltOn : GoodIn wsX10_twinge wsX0_feltOn := goodIn_by gd_X10_twinge (List.forall_mem_cons.mpr ⟨List.mem_cons_of_mem _ (List.mem_append_left _ (List.mem_append_left _ (List.mem_append_right _ (List.mem_of_getElem? (i := 0) rfl)))), List.forall_mem_append.mpr ⟨List.forall_mem_cons.mpr ⟨List.mem_cons_of_mem _ (List.mem_append_left _ (List.mem_append_left _ (List.mem_append_right _ (List.mem_of_getElem? (i := 1) rfl)))), nowords_in⟩, (fun _ h => List.mem_cons_of_mem _ (List.mem_append_right _ (h)))⟩⟩)
set_option maxRecDepth 20000 in
theorem gX10_twinge_X0_feltOn : GoodIn wsX10_twinge (wsV RX10 257 RX0 yX0_feltOn wsX0_feltOn) := goodIn_app (goodIn_by gd_X10_twinge (List.forall_mem_cons.mpr ⟨List.mem_cons_of_mem _ (List.mem_append_left _ (List.mem_append_left _ (List.mem_append_left _ (List.mem_of_getElem? (i := 21) rfl)))), List.forall_mem_cons.mpr ⟨List.mem_cons_of_mem _ (List.mem_append_left _ (List.mem_append_left _ (List.mem_append_left _ (List.mem_of_getElem? (i := 22) rfl)))), List.forall_mem_cons.mpr ⟨List.mem_cons_of_mem _ (List.mem_append_left _ (List.mem_append_left _ (List.mem_append_left _ (List.mem_of_getElem? (i := 23) rfl)))), List.forall_mem_cons.mpr ⟨List.mem_cons_of_mem _ (List.mem_append_left _ (List.mem_append_left _ (List.mem_append_left _ (List.mem_of_getElem? (i := 9) rfl)))), nowords_in⟩⟩⟩⟩)) ggX10_twinge_X0_feltOn
set_option maxRecDepth 20000 in
theorem ggX10_twinge_X10_bit : GoodIn wsX10_twinge wsX10_bit := goodIn_by gd_X10_twinge (List.forall_mem_cons.mpr ⟨List.mem_cons_of_mem _ (List.mem_append_left _ (List.mem_append_left _ (List.mem_append_right _ (List.mem_of_getElem? (i := 4) rfl)))), nowords_in⟩)
set_option maxRecDepth 20000 in
theorem gX10_twinge_X10_bit : GoodIn wsX10_twinge (va_wsS RX10 230 yX10_bit wsX10_bit) := goodIn_app (goodIn_by gd_X10_twinge (List.forall_mem_cons.mpr ⟨List.mem_cons_of_mem _ (List.mem_append_left _ (List.mem_append_left _ (List.mem_append_right _ (List.mem_of_getElem? (i := 2) rfl)))), List.forall_mem_cons.mpr ⟨List.mem_cons_of_mem _ (List.mem_append_left _ (List.mem_append_left _ (List.mem_append_right _ (List.mem_of_getElem? (i := 3) rfl)))), List.forall_mem_cons.mpr ⟨List.mem_cons_of_mem _ (List.mem_append_left _ (List.mem_append_left _ (List.mem_append_left _ (List.mem_of_getElem? (i := 4) rfl)))), nowords_in⟩⟩⟩)) ggX10_twinge_X10_bit
set_option maxRecDepth 20000 in
theorem ggX10_twinge_X0_turn : GoodIn wsX10_twinge wsX0_turn := goodIn_by gd_X10_twinge (List.forall_mem_cons.mpr ⟨List.mem_cons_of_mem _ (List.mem_append_left _ (List.mem_append_left _ (List.mem_append_right _ (List.mem_of_getElem? (i := 8) rfl)))), List.forall_mem_append.mpr ⟨List.forall_mem_cons.mpr ⟨List.mem_cons_of_mem _ (List.mem_append_left _ (List.mem_append_left _ (List.mem_append_right _ (List.mem_of_getElem? (i := 1) rfl)))), List.forall_mem_cons.mpr ⟨List.mem_cons_of_mem _ (List.mem_append_left _ (List.mem_append_left _ (List.mem_append_right _ (List.mem_of_getElem? (i := 9) rfl)))), List.forall_mem_cons.mpr ⟨List.mem_cons_of_mem _ (List.mem_append_left _ (List.mem_append_left _ (List.mem_append_left _ (List.mem_of_getElem? (i := 7) rfl)))), List.forall_mem_cons.mpr ⟨List.mem_cons_of_mem _ (List.mem_append_left _ (List.mem_append_left _ (List.mem_append_left _ (List.mem_of_getElem? (i := 8) rfl)))), List.forall_mem_cons.mpr ⟨List.mem_cons_of_mem _ (List.mem_append_left _ (List.mem_append_left _ (List.mem_append_left _ (List.mem_of_getElem? (i := 9) rfl)))), List.forall_mem_cons.mpr ⟨List.mem_cons_of_mem _ (List.mem_append_left _ (List.mem_append_left _ (List.mem_append_left _ (List.mem_of_getElem? (i := 10) rfl)))), List.forall_mem_cons.mpr ⟨List.mem_cons_of_mem _ (List.mem_append_left _ (List.mem_append_left _ (List.mem_append_left _ (List.mem_of_getElem? (i := 11) rfl)))), nowords_in⟩⟩⟩⟩⟩⟩⟩, (fun _ h => List.mem_cons_of_mem _ (List.mem_append_right _ (h)))⟩⟩)
set_option maxRecDepth 20000 in
theorem gX10_twinge_X0_turn : GoodIn wsX10_twinge (wsV RX10 260 RX0 yX0_turn wsX0_turn) := goodIn_app (goodIn_by gd_X10_twinge (List.forall_mem_cons.mpr ⟨List.mem_cons_of_mem _ (List.mem_append_left _ (List.mem_append_left _ (List.mem_append_right _ (List.mem_of_getElem? (i := 5) rfl)))), List.forall_mem_cons.mpr ⟨List.mem_cons_of_mem _ (List.mem_append_left _ (List.mem_append_left _ (List.mem_append_right _ (List.mem_of_getElem? (i := 6) rfl)))), List.forall_mem_cons.mpr ⟨List.mem_cons_of_mem _ (List.mem_append_left _ (List.mem_append_left _ (List.mem_append_right _ (List.mem_of_getElem? (i := 7) rfl)))), List.forall_mem_cons.mpr ⟨List.mem_cons_of_mem _ (List.mem_append_left _ (List.mem_append_left _ (List.mem_append_left _ (List.mem_of_getElem? (i := 9) rfl)))), nowords_in⟩⟩⟩⟩)) ggX10_twinge_X0_turn
set_option maxRecDepth 20000 in
theorem ggX10_twinge_X10_allow : GoodIn wsX10_twinge wsX10_allow := goodIn_by gd_X10_twinge (List.forall_mem_cons.mpr ⟨List.mem_cons_of_mem _ (List.mem_append_left _ (List.mem_append_left _ (List.mem_append_right _ (List.mem_of_getElem? (i := 13) rfl)))), List.forall_mem_append.mpr ⟨List.forall_mem_cons.mpr ⟨List.mem_cons_of_mem _ (List.mem_append_left _ (List.mem_append_left _ (List.mem_append_left _ (List.mem_of_getElem? (i := 20) rfl)))), nowords_in⟩, (fun _ h => List.mem_cons_of_mem _ (List.mem_append_left _ (List.mem_append_right _ (h))))⟩⟩)
set_option maxRecDepth 20000 in
theorem gX10_twinge_X10_allow : GoodIn wsX10_twinge (wsV RX10 127 RX10 yX10_allow wsX10_allow) := goodIn_app (goodIn_by gd_X10_twinge (List.forall_mem_cons.mpr ⟨List.mem_cons_of_mem _ (List.mem_append_left _ (List.mem_append_left _ (List.mem_append_right _ (List.mem_of_getElem? (i := 10) rfl)))), List.forall_mem_cons.mpr ⟨List.mem_cons_of_mem _ (List.mem_append_left _ (List.mem_append_left _ (List.mem_append_right _ (List.mem_of_getElem? (i := 11) rfl)))), List.forall_mem_cons.mpr ⟨List.mem_cons_of_mem _ (List.mem_append_left _ (List.mem_append_left _ (List.mem_append_right _ (List.mem_of_getElem? (i := 12) rfl)))), List.forall_mem_cons.mpr ⟨List.mem_cons_of_mem _ (List.mem_append_left _ (List.mem_append_left _ (List.mem_append_left _ (List.mem_of_getElem? (i := 4) rfl)))), nowords_in⟩⟩⟩⟩)) ggX10_twinge_X10_allow
theorem dX10_twinge_0 : decode cX10_twinge 0 = .ok (.aload_n 0, 1) := by decide +kernel
theorem dX10_twinge_1 : decode cX10_twinge 1 = .ok (.iload_n 1, 1) := by decide +kernel
theorem dX10_twinge_2 : decode cX10_twinge 2 = .ok (.invokevirtual 215, 3) := by decide +kernel
theorem dX10_twinge_5 : decode cX10_twinge 5 = .ok (.ifCond .ne 11, 3) := by decide +kernel
theorem dX10_twinge_8 : decode cX10_twinge 8 = .ok (.aload_n 0, 1) := by decide +kernel
theorem dX10_twinge_9 : decode cX10_twinge 9 = .ok (.iload_n 2, 1) := by decide +kernel
theorem dX10_twinge_10 : decode cX10_twinge 10 = .ok (.invokevirtual 247, 3) := by decide +kernel
theorem dX10_twinge_13 : decode cX10_twinge 13 = .ok (.ifCond .eq 9, 3) := by decide +kernel
theorem dX10_twinge_16 : decode cX10_twinge 16 = .ok (.aload_n 0, 1) := by decide +kernel
theorem dX10_twinge_17 : decode cX10_twinge 17 = .ok (.iconst 1, 1) := by decide +kernel
theorem dX10_twinge_18 : decode cX10_twinge 18 = .ok (.invokevirtual 120, 3) := by decide +kernel
theorem dX10_twinge_21 : decode cX10_twinge 21 = .ok (.ireturn, 1) := by decide +kernel
theorem dX10_twinge_22 : decode cX10_twinge 22 = .ok (.aload_n 0, 1) := by decide +kernel
theorem dX10_twinge_23 : decode cX10_twinge 23 = .ok (.getfield 10, 3) := by decide +kernel
theorem dX10_twinge_26 : decode cX10_twinge 26 = .ok (.iload_n 1, 1) := by decide +kernel
theorem dX10_twinge_27 : decode cX10_twinge 27 = .ok (.iload_n 2, 1) := by decide +kernel
theorem dX10_twinge_28 : decode cX10_twinge 28 = .ok (.invokevirtual 257, 3) := by decide +kernel
theorem dX10_twinge_31 : decode cX10_twinge 31 = .ok (.iload_n 3, 1) := by decide +kernel
theorem dX10_twinge_32 : decode cX10_twinge 32 = .ok (.invokestatic 230, 3) := by decide +kernel
theorem dX10_twinge_35 : decode cX10_twinge 35 = .ok (.if_icmp .eq 12, 3) := by decide +kernel
theorem dX10_twinge_38 : decode cX10_twinge 38 = .ok (.aload_n 0, 1) := by decide +kernel
theorem dX10_twinge_39 : decode cX10_twinge 39 = .ok (.getfield 10, 3) := by decide +kernel
theorem dX10_twinge_42 : decode cX10_twinge 42 = .ok (.iload_n 1, 1) := by decide +kernel
theorem dX10_twinge_43 : decode cX10_twinge 43 = .ok (.iload_n 2, 1) := by decide +kernel
theorem dX10_twinge_44 : decode cX10_twinge 44 = .ok (.invokevirtual 260, 3) := by decide +kernel
theorem dX10_twinge_47 : decode cX10_twinge 47 = .ok (.aload_n 0, 1) := by decide +kernel
theorem dX10_twinge_48 : decode cX10_twinge 48 = .ok (.invokevirtual 127, 3) := by decide +kernel
theorem dX10_twinge_51 : decode cX10_twinge 51 = .ok (.ireturn, 1) := by decide +kernel
abbrev rmX10_twinge : Room := { frames := 2, cells := 0, slots := 0, locals := 43 }
set_option maxHeartbeats 4000000 in
set_option maxRecDepth 100000 in
theorem kX10_twinge (l : Launch) (D : va_G) (cy : Nat → ClassId) (h0 : Nat) (a0 : Nat → Nat) (a1 : Nat → Nat) (s0 : Rc) (s1 : Rc) (p1 : Int32) (p2 : Int32) (p3 : Int32) (res : Int32 × Rc × Rc) (h : fX10_twinge p1 p2 p3 s0 s1 = some res) : CZ l D cy yX10_twinge wsX10_twinge rmX10_twinge [.ref h0, .int p1, .int p2, .int p3] (flat [WX10 cy h0 a0 s0, WX0 cy (a0 0) a1 s1]) (flat [WX10 cy h0 a0 res.2.1, WX0 cy (a0 0) a1 res.2.2]) res.1 := by
  refine CZ.of (cc := cX10_twinge) (maxL := 4) (by decide) rfl (Nat.le_of_ble_eq_true rfl) ?_
  intro p e s m args below meth c A QQ ls E hr
  obtain ⟨hx, hb, hml, hown, hts, hK, hN, hP, hD, hA, hl⟩ := E
  have hret : ∀ (pc : Nat) (H : Heap) (locs : List Loc) (ls : Array Slot) (u : Int32 × Rc × Rc), u = res → va_P D vwCl (flat [WX10 cy h0 a0 u.2.1, WX0 cy (a0 0) a1 u.2.2]) H → va_D A (flat [WX10 cy h0 a0 u.2.1, WX0 cy (a0 0) a1 u.2.2]) → va_S A s.heap H locs → isb u.1 = true → decode cX10_twinge pc = .ok (.ireturn, 1) → W p l e rmX10_twinge s m args below meth c H locs 0 0 QQ (F0 m pc ls [.int u.1]) := by
    intro pc H locs ls u hu hP hD hS hz hd; subst hu; exact hr pc H locs ls _ rfl hP hD hS hz hd
  clear hr
  have hl : lv_has ls 4 [(0, .ref h0), (1, .int p1), (2, .int p2), (3, .int p3)] := hl
  have hinX10 : ∀ w ∈ wsX100, w ∈ wsX10_twinge := fun _ h => List.mem_cons_of_mem _ (List.mem_append_left _ (List.mem_append_right _ h))
  unfold fX10_twinge at h
  suffices key : ∀ (H : Heap) (locs : List Loc), va_P D vwCl (flat [WX10 cy h0 a0 s0, WX0 cy (a0 0) a1 s1]) H → va_S A s.heap H locs → W p l e rmX10_twinge s m args below meth c H locs 0 0 QQ (F0 m 0 ls []) from key _ _ hP va_S.rf
  clear hP
  intro H locs hP hS
  refine lv_aload_n hx hb dX10_twinge_0 rfl (lv_at hl 0 rfl) ?_
  refine lv_iload_n hx hb dX10_twinge_1 rfl (lv_at hl 1 rfl) ?_
  refine ca_z (w' := [WX10 cy h0 a0 s0, WX0 cy (a0 0) a1 s1]) (rn_V (As := [.int p1]) (rest := []) ⟨hx, hb, hml, hown, hts⟩ (kX10_noFarmer l D cy h0 a0 a1 s0 s1 p1 _ rfl H.size) (cwV 1 hts gX10_twinge_X10_noFarmer rfl rfl rfl (by decide +kernel) ⟨Nat.le_of_ble_eq_true rfl, Nat.le_of_ble_eq_true rfl⟩) hK hN hP hD [0, 1] rfl rfl (ci := 10) (q0 := 0) rfl rfl rfl rfl hl.1 rfl (Nat.le_of_ble_eq_true rfl) dX10_twinge_2 ⟨Nat.le_refl 0, Nat.le_refl 0⟩) hP hD hS hA [0, 1] ⟨rfl, rfl, rfl, rfl⟩ (fun b1 H locs hP hD hS => ?_)
  refine lv_if_ne (tgt := 16) hx hb dX10_twinge_5 (by decide) (fun c2 => ?_) (fun c2 => ?_)
  · replace h := (if_neg c2).symm.trans h
    refine lv_aload_n hx hb dX10_twinge_16 rfl (lv_at hl 0 rfl) ?_
    refine lv_iconst (v := 1) hx hb dX10_twinge_17 (by decide) ?_
    obtain ⟨r3, hr3, h⟩ := lt_elim h
    refine ca_z (w' := [WX10 cy h0 a0 r3.2, WX0 cy (a0 0) a1 s1]) (rn_V (As := [.int (1 : Int32)]) (rest := []) ⟨hx, hb, hml, hown, hts⟩ (kX10_deny l D cy h0 a0 s0 (1 : Int32) r3 hr3.symm H.size) (cwV 1 hts gX10_twinge_X10_deny rfl rfl rfl (by decide +kernel) ⟨Nat.le_of_ble_eq_true rfl, Nat.le_of_ble_eq_true rfl⟩) hK hN hP hD [0] rfl rfl (ci := 10) (q0 := 0) rfl rfl rfl rfl hl.1 rfl (Nat.le_of_ble_eq_true rfl) dX10_twinge_18 ⟨Nat.le_refl 0, Nat.le_refl 0⟩) hP hD hS hA [0] ⟨rfl, rfl, rfl, rfl⟩ (fun b4 H locs hP hD hS => ?_)
    exact hret 21 H locs ls (r3.1, r3.2, s1) (Option.some.inj h) hP hD hS b4 dX10_twinge_21
  · replace h := (if_pos c2).symm.trans h
    refine lv_aload_n hx hb dX10_twinge_8 rfl (lv_at hl 0 rfl) ?_
    refine lv_iload_n hx hb dX10_twinge_9 rfl (lv_at hl 2 rfl) ?_
    refine ca_z (w' := [WX10 cy h0 a0 s0, WX0 cy (a0 0) a1 s1]) (rn_V (As := [.int p2]) (rest := []) ⟨hx, hb, hml, hown, hts⟩ (kX10_noDay l D cy h0 a0 a1 s0 s1 p2 _ rfl H.size) (cwV 1 hts gX10_twinge_X10_noDay rfl rfl rfl (by decide +kernel) ⟨Nat.le_of_ble_eq_true rfl, Nat.le_of_ble_eq_true rfl⟩) hK hN hP hD [0, 1] rfl rfl (ci := 10) (q0 := 0) rfl rfl rfl rfl hl.1 rfl (Nat.le_of_ble_eq_true rfl) dX10_twinge_10 ⟨Nat.le_refl 0, Nat.le_refl 0⟩) hP hD hS hA [0, 1] ⟨rfl, rfl, rfl, rfl⟩ (fun b5 H locs hP hD hS => ?_)
    refine lv_if_eq (tgt := 22) hx hb dX10_twinge_13 (by decide) (fun c6 => ?_) (fun c6 => ?_)
    · replace h := (if_pos c6).symm.trans h
      refine lv_aload_n hx hb dX10_twinge_22 rfl (lv_at hl 0 rfl) ?_
      refine va_get (D := D) (ci := 10) (v := .ref (a0 0)) (C := RX10) (T := TX10) (N := 19) hx hb hts hinX10 hown hK hP 0 rfl rfl 0 (by decide) (hts (.fieldLink RX10 10 "KneeBench" "bench" "LKneeBench$Bench;") (List.mem_of_getElem? (i := 1) rfl)) (fun _ h9 => h9) rfl dX10_twinge_23 ?_
      refine lv_iload_n hx hb dX10_twinge_26 rfl (lv_at hl 1 rfl) ?_
      refine lv_iload_n hx hb dX10_twinge_27 rfl (lv_at hl 2 rfl) ?_
      obtain ⟨r7, hr7, h⟩ := bd_elim h
      refine ca_i (w' := [WX10 cy h0 a0 s0, WX0 cy (a0 0) a1 s1]) (rn_V (As := [.int p1, .int p2]) (rest := []) ⟨hx, hb, hml, hown, hts⟩ (kX0_feltOn l D cy (a0 0) a1 s1 p1 p2 r7 hr7 H.size) (cwV 2 hts gX10_twinge_X0_feltOn rfl rfl rfl (by decide +kernel) ⟨Nat.le_of_ble_eq_true rfl, Nat.le_of_ble_eq_true rfl⟩) hK hN hP hD [1] rfl rfl (ci := 0) (q0 := 1) rfl rfl rfl rfl hl.1 rfl (Nat.le_of_ble_eq_true rfl) dX10_twinge_28 ⟨Nat.le_refl 0, Nat.le_refl 0⟩) hP hD hS hA [1] ⟨rfl, rfl, rfl, rfl⟩ (fun H locs hP hD hS => ?_)
      refine lv_iload_n hx hb dX10_twinge_31 rfl (lv_at hl 3 rfl) ?_
      refine ca_i (w' := [WX10 cy h0 a0 s0, WX0 cy (a0 0) a1 s1]) (rn_S (As := [.int p3]) (rest := [.int r7]) ⟨hx, hb, hml, hown, hts⟩ (kX10_bit l D cy p3 _ rfl H.size) (va_cwS 1 hts gX10_twinge_X10_bit rfl rfl rfl (by decide +kernel) ⟨Nat.le_of_ble_eq_true rfl, Nat.le_of_ble_eq_true rfl⟩) hK hN hP hD [] rfl rfl rfl hl.1 rfl (Nat.le_of_ble_eq_true rfl) dX10_twinge_32 ⟨Nat.le_refl 0, Nat.le_refl 0⟩) hP hD hS hA [] ⟨rfl, rfl, rfl, rfl⟩ (fun H locs hP hD hS => ?_)
      refine lv_icmp_eq (tgt := 47) hx hb dX10_twinge_35 (by decide) (fun c8 => ?_) (fun c8 => ?_)
      · replace h := (if_pos c8).symm.trans h
        refine lv_aload_n hx hb dX10_twinge_47 rfl (lv_at hl 0 rfl) ?_
        obtain ⟨r9, hr9, h⟩ := lt_elim h
        refine ca_z (w' := [WX10 cy h0 a0 r9.2, WX0 cy (a0 0) a1 s1]) (rn_V (As := []) (rest := []) ⟨hx, hb, hml, hown, hts⟩ (kX10_allow l D cy h0 a0 s0 r9 hr9.symm H.size) (cwV 0 hts gX10_twinge_X10_allow rfl rfl rfl (by decide +kernel) ⟨Nat.le_of_ble_eq_true rfl, Nat.le_of_ble_eq_true rfl⟩) hK hN hP hD [0] rfl rfl (ci := 10) (q0 := 0) rfl rfl rfl rfl hl.1 rfl (Nat.le_of_ble_eq_true rfl) dX10_twinge_48 ⟨Nat.le_refl 0, Nat.le_refl 0⟩) hP hD hS hA [0] ⟨rfl, rfl, rfl, rfl⟩ (fun b10 H locs hP hD hS => ?_)
        exact hret 51 H locs ls (r9.1, r9.2, s1) (Option.some.inj h) hP hD hS b10 dX10_twinge_51
      · replace h := (if_neg c8).symm.trans h
        refine lv_aload_n hx hb dX10_twinge_38 rfl (lv_at hl 0 rfl) ?_
        refine va_get (D := D) (ci := 10) (v := .ref (a0 0)) (C := RX10) (T := TX10) (N := 19) hx hb hts hinX10 hown hK hP 0 rfl rfl 0 (by decide) (hts (.fieldLink RX10 10 "KneeBench" "bench" "LKneeBench$Bench;") (List.mem_of_getElem? (i := 1) rfl)) (fun _ h9 => h9) rfl dX10_twinge_39 ?_
        refine lv_iload_n hx hb dX10_twinge_42 rfl (lv_at hl 1 rfl) ?_
        refine lv_iload_n hx hb dX10_twinge_43 rfl (lv_at hl 2 rfl) ?_
        obtain ⟨r11, hr11, h⟩ := bd_elim h
        refine ca_v (w' := [WX10 cy h0 a0 s0, WX0 cy (a0 0) a1 r11]) (rn_V (As := [.int p1, .int p2]) (rest := []) ⟨hx, hb, hml, hown, hts⟩ (kX0_turn l D cy (a0 0) a1 s1 p1 p2 r11 hr11 H.size) (cwV 2 hts gX10_twinge_X0_turn rfl rfl rfl (by decide +kernel) ⟨Nat.le_of_ble_eq_true rfl, Nat.le_of_ble_eq_true rfl⟩) hK hN hP hD [1] rfl rfl (ci := 0) (q0 := 1) rfl rfl rfl rfl hl.1 rfl (Nat.le_of_ble_eq_true rfl) dX10_twinge_44 ⟨Nat.le_refl 0, Nat.le_refl 0⟩) hP hD hS hA [1] ⟨rfl, rfl, rfl, rfl⟩ (fun H locs hP hD hS => ?_)
        refine lv_aload_n hx hb dX10_twinge_47 rfl (lv_at hl 0 rfl) ?_
        obtain ⟨r12, hr12, h⟩ := lt_elim h
        refine ca_z (w' := [WX10 cy h0 a0 r12.2, WX0 cy (a0 0) a1 r11]) (rn_V (As := []) (rest := []) ⟨hx, hb, hml, hown, hts⟩ (kX10_allow l D cy h0 a0 s0 r12 hr12.symm H.size) (cwV 0 hts gX10_twinge_X10_allow rfl rfl rfl (by decide +kernel) ⟨Nat.le_of_ble_eq_true rfl, Nat.le_of_ble_eq_true rfl⟩) hK hN hP hD [0] rfl rfl (ci := 10) (q0 := 0) rfl rfl rfl rfl hl.1 rfl (Nat.le_of_ble_eq_true rfl) dX10_twinge_48 ⟨Nat.le_refl 0, Nat.le_refl 0⟩) hP hD hS hA [0] ⟨rfl, rfl, rfl, rfl⟩ (fun b13 H locs hP hD hS => ?_)
        exact hret 51 H locs ls (r12.1, r12.2, r11) (Option.some.inj h) hP hD hS b13 dX10_twinge_51
    · replace h := (if_neg c6).symm.trans h
      refine lv_aload_n hx hb dX10_twinge_16 rfl (lv_at hl 0 rfl) ?_
      refine lv_iconst (v := 1) hx hb dX10_twinge_17 (by decide) ?_
      obtain ⟨r14, hr14, h⟩ := lt_elim h
      refine ca_z (w' := [WX10 cy h0 a0 r14.2, WX0 cy (a0 0) a1 s1]) (rn_V (As := [.int (1 : Int32)]) (rest := []) ⟨hx, hb, hml, hown, hts⟩ (kX10_deny l D cy h0 a0 s0 (1 : Int32) r14 hr14.symm H.size) (cwV 1 hts gX10_twinge_X10_deny rfl rfl rfl (by decide +kernel) ⟨Nat.le_of_ble_eq_true rfl, Nat.le_of_ble_eq_true rfl⟩) hK hN hP hD [0] rfl rfl (ci := 10) (q0 := 0) rfl rfl rfl rfl hl.1 rfl (Nat.le_of_ble_eq_true rfl) dX10_twinge_18 ⟨Nat.le_refl 0, Nat.le_refl 0⟩) hP hD hS hA [0] ⟨rfl, rfl, rfl, rfl⟩ (fun b15 H locs hP hD hS => ?_)
      exact hret 21 H locs ls (r14.1, r14.2, s1) (Option.some.inj h) hP hD hS b15 dX10_twinge_21
theorem gd_X10_twinges : wsX10_twinges.all goodWord = true := by decide +kernel
set_option maxRecDepth 20000 in
theorem ggX10_twinges_X10_noFarmer : GoodIn wsX10_twinges wsX10_noFarmer := goodIn_by gd_X10_twinges (List.forall_mem_cons.mpr ⟨List.mem_cons_of_mem _ (List.mem_append_left _ (List.mem_append_left _ (List.mem_append_left _ (List.mem_of_getElem? (i := 5) rfl)))), List.forall_mem_append.mpr ⟨List.forall_mem_append.mpr ⟨List.forall_mem_cons.mpr ⟨List.mem_cons_of_mem _ (List.mem_append_left _ (List.mem_append_left _ (List.mem_append_left _ (List.mem_of_getElem? (i := 0) rfl)))), List.forall_mem_cons.mpr ⟨List.mem_cons_of_mem _ (List.mem_append_left _ (List.mem_append_left _ (List.mem_append_left _ (List.mem_of_getElem? (i := 6) rfl)))), List.forall_mem_cons.mpr ⟨List.mem_cons_of_mem _ (List.mem_append_left _ (List.mem_append_left _ (List.mem_append_left _ (List.mem_of_getElem? (i := 7) rfl)))), List.forall_mem_cons.mpr ⟨List.mem_cons_of_mem _ (List.mem_append_left _ (List.mem_append_left _ (List.mem_append_left _ (List.mem_of_getElem? (i := 8) rfl)))), List.forall_mem_cons.mpr ⟨List.mem_cons_of_mem _ (List.mem_append_left _ (List.mem_append_left _ (List.mem_append_left _ (List.mem_of_getElem? (i := 9) rfl)))), List.forall_mem_cons.mpr ⟨List.mem_cons_of_mem _ (List.mem_append_left _ (List.mem_append_left _ (List.mem_append_left _ (List.mem_of_getElem? (i := 10) rfl)))), List.forall_mem_cons.mpr ⟨List.mem_cons_of_mem _ (List.mem_append_left _ (List.mem_append_left _ (List.mem_append_left _ (List.mem_of_getElem? (i := 11) rfl)))), nowords_in⟩⟩⟩⟩⟩⟩⟩, (fun _ h => List.mem_cons_of_mem _ (List.mem_append_left _ (List.mem_append_right _ (h))))⟩, (fun _ h => List.mem_cons_of_mem _ (List.mem_append_right _ (h)))⟩⟩)
set_option maxRecDepth 20000 in
theorem gX10_twinges_X10_noFarmer : GoodIn wsX10_twinges (wsV RX10 215 RX10 yX10_noFarmer wsX10_noFarmer) := goodIn_app (goodIn_by gd_X10_twinges (List.forall_mem_cons.mpr ⟨List.mem_cons_of_mem _ (List.mem_append_left _ (List.mem_append_left _ (List.mem_append_left _ (List.mem_of_getElem? (i := 1) rfl)))), List.forall_mem_cons.mpr ⟨List.mem_cons_of_mem _ (List.mem_append_left _ (List.mem_append_left _ (List.mem_append_left _ (List.mem_of_getElem? (i := 2) rfl)))), List.forall_mem_cons.mpr ⟨List.mem_cons_of_mem _ (List.mem_append_left _ (List.mem_append_left _ (List.mem_append_left _ (List.mem_of_getElem? (i := 3) rfl)))), List.forall_mem_cons.mpr ⟨List.mem_cons_of_mem _ (List.mem_append_left _ (List.mem_append_left _ (List.mem_append_left _ (List.mem_of_getElem? (i := 4) rfl)))), nowords_in⟩⟩⟩⟩)) ggX10_twinges_X10_noFarmer
set_option maxRecDepth 20000 in
theorem ggX10_twinges_X10_noDay : GoodIn wsX10_twinges wsX10_noDay := goodIn_by gd_X10_twinges (List.forall_mem_cons.mpr ⟨List.mem_cons_of_mem _ (List.mem_append_left _ (List.mem_append_left _ (List.mem_append_left _ (List.mem_of_getElem? (i := 15) rfl)))), List.forall_mem_append.mpr ⟨List.forall_mem_append.mpr ⟨List.forall_mem_cons.mpr ⟨List.mem_cons_of_mem _ (List.mem_append_left _ (List.mem_append_left _ (List.mem_append_left _ (List.mem_of_getElem? (i := 0) rfl)))), nowords_in⟩, (fun _ h => List.mem_cons_of_mem _ (List.mem_append_left _ (List.mem_append_right _ (h))))⟩, (fun _ h => List.mem_cons_of_mem _ (List.mem_append_right _ (h)))⟩⟩)
set_option maxRecDepth 20000 in
theorem gX10_twinges_X10_noDay : GoodIn wsX10_twinges (wsV RX10 247 RX10 yX10_noDay wsX10_noDay) := goodIn_app (goodIn_by gd_X10_twinges (List.forall_mem_cons.mpr ⟨List.mem_cons_of_mem _ (List.mem_append_left _ (List.mem_append_left _ (List.mem_append_left _ (List.mem_of_getElem? (i := 12) rfl)))), List.forall_mem_cons.mpr ⟨List.mem_cons_of_mem _ (List.mem_append_left _ (List.mem_append_left _ (List.mem_append_left _ (List.mem_of_getElem? (i := 13) rfl)))), List.forall_mem_cons.mpr ⟨List.mem_cons_of_mem _ (List.mem_append_left _ (List.mem_append_left _ (List.mem_append_left _ (List.mem_of_getElem? (i := 14) rfl)))), List.forall_mem_cons.mpr ⟨List.mem_cons_of_mem _ (List.mem_append_left _ (List.mem_append_left _ (List.mem_append_left _ (List.mem_of_getElem? (i := 4) rfl)))), nowords_in⟩⟩⟩⟩)) ggX10_twinges_X10_noDay
set_option maxRecDepth 20000 in
theorem ggX10_twinges_X10_refuse : GoodIn wsX10_twinges wsX10_refuse := goodIn_by gd_X10_twinges (List.forall_mem_cons.mpr ⟨List.mem_cons_of_mem _ (List.mem_append_left _ (List.mem_append_left _ (List.mem_append_left _ (List.mem_of_getElem? (i := 19) rfl)))), List.forall_mem_append.mpr ⟨List.forall_mem_cons.mpr ⟨List.mem_cons_of_mem _ (List.mem_append_left _ (List.mem_append_left _ (List.mem_append_left _ (List.mem_of_getElem? (i := 20) rfl)))), nowords_in⟩, (fun _ h => List.mem_cons_of_mem _ (List.mem_append_left _ (List.mem_append_right _ (h))))⟩⟩)
set_option maxRecDepth 20000 in
theorem gX10_twinges_X10_refuse : GoodIn wsX10_twinges (wsV RX10 139 RX10 yX10_refuse wsX10_refuse) := goodIn_app (goodIn_by gd_X10_twinges (List.forall_mem_cons.mpr ⟨List.mem_cons_of_mem _ (List.mem_append_left _ (List.mem_append_left _ (List.mem_append_left _ (List.mem_of_getElem? (i := 16) rfl)))), List.forall_mem_cons.mpr ⟨List.mem_cons_of_mem _ (List.mem_append_left _ (List.mem_append_left _ (List.mem_append_left _ (List.mem_of_getElem? (i := 17) rfl)))), List.forall_mem_cons.mpr ⟨List.mem_cons_of_mem _ (List.mem_append_left _ (List.mem_append_left _ (List.mem_append_left _ (List.mem_of_getElem? (i := 18) rfl)))), List.forall_mem_cons.mpr ⟨List.mem_cons_of_mem _ (List.mem_append_left _ (List.mem_append_left _ (List.mem_append_left _ (List.mem_of_getElem? (i := 4) rfl)))), nowords_in⟩⟩⟩⟩)) ggX10_twinges_X10_refuse
set_option maxRecDepth 20000 in
theorem ggX10_twinges_X0_feltOn : GoodIn wsX10_twinges wsX0_feltOn := goodIn_by gd_X10_twinges (List.forall_mem_cons.mpr ⟨List.mem_cons_of_mem _ (List.mem_append_left _ (List.mem_append_left _ (List.mem_append_right _ (List.mem_of_getElem? (i := 0) rfl)))), List.forall_mem_append.mpr ⟨List.forall_mem_cons.mpr ⟨List.mem_cons_of_mem _ (List.mem_append_left _ (List.mem_append_left _ (List.mem_append_right _ (List.mem_of_getElem? (i := 1) rfl)))), nowords_in⟩, (fun _ h => List.mem_cons_of_mem _ (List.mem_append_right _ (h)))⟩⟩)
set_option maxRecDepth 20000 in
theorem gX10_twinges_X0_feltOn : GoodIn wsX10_twinges (wsV RX10 257 RX0 yX0_feltOn wsX0_feltOn) := goodIn_app (goodIn_by gd_X10_twinges (List.forall_mem_cons.mpr ⟨List.mem_cons_of_mem _ (List.mem_append_left _ (List.mem_append_left _ (List.mem_append_left _ (List.mem_of_getElem? (i := 21) rfl)))), List.forall_mem_cons.mpr ⟨List.mem_cons_of_mem _ (List.mem_append_left _ (List.mem_append_left _ (List.mem_append_left _ (List.mem_of_getElem? (i := 22) rfl)))), List.forall_mem_cons.mpr ⟨List.mem_cons_of_mem _ (List.mem_append_left _ (List.mem_append_left _ (List.mem_append_left _ (List.mem_of_getElem? (i := 23) rfl)))), List.forall_mem_cons.mpr ⟨List.mem_cons_of_mem _ (List.mem_append_left _ (List.mem_append_left _ (List.mem_append_left _ (List.mem_of_getElem? (i := 9) rfl)))), nowords_in⟩⟩⟩⟩)) ggX10_twinges_X0_feltOn
set_option maxRecDepth 20000 in
theorem ggX10_twinges_X10_answer : GoodIn wsX10_twinges wsX10_answer := goodIn_by gd_X10_twinges (List.forall_mem_cons.mpr ⟨List.mem_cons_of_mem _ (List.mem_append_left _ (List.mem_append_left _ (List.mem_append_right _ (List.mem_of_getElem? (i := 5) rfl)))), List.forall_mem_append.mpr ⟨List.forall_mem_cons.mpr ⟨List.mem_cons_of_mem _ (List.mem_append_left _ (List.mem_append_left _ (List.mem_append_left _ (List.mem_of_getElem? (i := 20) rfl)))), nowords_in⟩, (fun _ h => List.mem_cons_of_mem _ (List.mem_append_left _ (List.mem_append_right _ (h))))⟩⟩)
set_option maxRecDepth 20000 in
theorem gX10_twinges_X10_answer : GoodIn wsX10_twinges (wsV RX10 181 RX10 yX10_answer wsX10_answer) := goodIn_app (goodIn_by gd_X10_twinges (List.forall_mem_cons.mpr ⟨List.mem_cons_of_mem _ (List.mem_append_left _ (List.mem_append_left _ (List.mem_append_right _ (List.mem_of_getElem? (i := 2) rfl)))), List.forall_mem_cons.mpr ⟨List.mem_cons_of_mem _ (List.mem_append_left _ (List.mem_append_left _ (List.mem_append_right _ (List.mem_of_getElem? (i := 3) rfl)))), List.forall_mem_cons.mpr ⟨List.mem_cons_of_mem _ (List.mem_append_left _ (List.mem_append_left _ (List.mem_append_right _ (List.mem_of_getElem? (i := 4) rfl)))), List.forall_mem_cons.mpr ⟨List.mem_cons_of_mem _ (List.mem_append_left _ (List.mem_append_left _ (List.mem_append_left _ (List.mem_of_getElem? (i := 4) rfl)))), nowords_in⟩⟩⟩⟩)) ggX10_twinges_X10_answer
theorem dX10_twinges_0 : decode cX10_twinges 0 = .ok (.aload_n 0, 1) := by decide +kernel
theorem dX10_twinges_1 : decode cX10_twinges 1 = .ok (.iload_n 1, 1) := by decide +kernel
theorem dX10_twinges_2 : decode cX10_twinges 2 = .ok (.invokevirtual 215, 3) := by decide +kernel
theorem dX10_twinges_5 : decode cX10_twinges 5 = .ok (.ifCond .ne 11, 3) := by decide +kernel
theorem dX10_twinges_8 : decode cX10_twinges 8 = .ok (.aload_n 0, 1) := by decide +kernel
theorem dX10_twinges_9 : decode cX10_twinges 9 = .ok (.iload_n 2, 1) := by decide +kernel
theorem dX10_twinges_10 : decode cX10_twinges 10 = .ok (.invokevirtual 247, 3) := by decide +kernel
theorem dX10_twinges_13 : decode cX10_twinges 13 = .ok (.ifCond .eq 9, 3) := by decide +kernel
theorem dX10_twinges_16 : decode cX10_twinges 16 = .ok (.aload_n 0, 1) := by decide +kernel
theorem dX10_twinges_17 : decode cX10_twinges 17 = .ok (.iconst 1, 1) := by decide +kernel
theorem dX10_twinges_18 : decode cX10_twinges 18 = .ok (.invokevirtual 139, 3) := by decide +kernel
theorem dX10_twinges_21 : decode cX10_twinges 21 = .ok (.ireturn, 1) := by decide +kernel
theorem dX10_twinges_22 : decode cX10_twinges 22 = .ok (.aload_n 0, 1) := by decide +kernel
theorem dX10_twinges_23 : decode cX10_twinges 23 = .ok (.aload_n 0, 1) := by decide +kernel
theorem dX10_twinges_24 : decode cX10_twinges 24 = .ok (.getfield 10, 3) := by decide +kernel
theorem dX10_twinges_27 : decode cX10_twinges 27 = .ok (.iload_n 1, 1) := by decide +kernel
theorem dX10_twinges_28 : decode cX10_twinges 28 = .ok (.iload_n 2, 1) := by decide +kernel
theorem dX10_twinges_29 : decode cX10_twinges 29 = .ok (.invokevirtual 257, 3) := by decide +kernel
theorem dX10_twinges_32 : decode cX10_twinges 32 = .ok (.invokevirtual 181, 3) := by decide +kernel
theorem dX10_twinges_35 : decode cX10_twinges 35 = .ok (.ireturn, 1) := by decide +kernel
abbrev rmX10_twinges : Room := { frames := 2, cells := 0, slots := 0, locals := 42 }
set_option maxHeartbeats 4000000 in
set_option maxRecDepth 100000 in
theorem kX10_twinges (l : Launch) (D : va_G) (cy : Nat → ClassId) (h0 : Nat) (a0 : Nat → Nat) (a1 : Nat → Nat) (s0 : Rc) (s1 : Rc) (p1 : Int32) (p2 : Int32) (res : Int32 × Rc) (h : fX10_twinges p1 p2 s0 s1 = some res) : CI l D cy yX10_twinges wsX10_twinges rmX10_twinges [.ref h0, .int p1, .int p2] (flat [WX10 cy h0 a0 s0, WX0 cy (a0 0) a1 s1]) (flat [WX10 cy h0 a0 res.2, WX0 cy (a0 0) a1 s1]) res.1 := by
  refine CI.of (cc := cX10_twinges) (maxL := 3) (by decide) rfl (Nat.le_of_ble_eq_true rfl) ?_
  intro p e s m args below meth c A QQ ls E hr
  obtain ⟨hx, hb, hml, hown, hts, hK, hN, hP, hD, hA, hl⟩ := E
  have hret : ∀ (pc : Nat) (H : Heap) (locs : List Loc) (ls : Array Slot) (u : Int32 × Rc), u = res → va_P D vwCl (flat [WX10 cy h0 a0 u.2, WX0 cy (a0 0) a1 s1]) H → va_D A (flat [WX10 cy h0 a0 u.2, WX0 cy (a0 0) a1 s1]) → va_S A s.heap H locs → decode cX10_twinges pc = .ok (.ireturn, 1) → W p l e rmX10_twinges s m args below meth c H locs 0 0 QQ (F0 m pc ls [.int u.1]) := by
    intro pc H locs ls u hu hP hD hS hd; subst hu; exact hr pc H locs ls _ rfl hP hD hS hd
  clear hr
  have hl : lv_has ls 3 [(0, .ref h0), (1, .int p1), (2, .int p2)] := hl
  have hinX10 : ∀ w ∈ wsX100, w ∈ wsX10_twinges := fun _ h => List.mem_cons_of_mem _ (List.mem_append_left _ (List.mem_append_right _ h))
  unfold fX10_twinges at h
  suffices key : ∀ (H : Heap) (locs : List Loc), va_P D vwCl (flat [WX10 cy h0 a0 s0, WX0 cy (a0 0) a1 s1]) H → va_S A s.heap H locs → W p l e rmX10_twinges s m args below meth c H locs 0 0 QQ (F0 m 0 ls []) from key _ _ hP va_S.rf
  clear hP
  intro H locs hP hS
  refine lv_aload_n hx hb dX10_twinges_0 rfl (lv_at hl 0 rfl) ?_
  refine lv_iload_n hx hb dX10_twinges_1 rfl (lv_at hl 1 rfl) ?_
  refine ca_z (w' := [WX10 cy h0 a0 s0, WX0 cy (a0 0) a1 s1]) (rn_V (As := [.int p1]) (rest := []) ⟨hx, hb, hml, hown, hts⟩ (kX10_noFarmer l D cy h0 a0 a1 s0 s1 p1 _ rfl H.size) (cwV 1 hts gX10_twinges_X10_noFarmer rfl rfl rfl (by decide +kernel) ⟨Nat.le_of_ble_eq_true rfl, Nat.le_of_ble_eq_true rfl⟩) hK hN hP hD [0, 1] rfl rfl (ci := 10) (q0 := 0) rfl rfl rfl rfl hl.1 rfl (Nat.le_of_ble_eq_true rfl) dX10_twinges_2 ⟨Nat.le_refl 0, Nat.le_refl 0⟩) hP hD hS hA [0, 1] ⟨rfl, rfl, rfl, rfl⟩ (fun b1 H locs hP hD hS => ?_)
  refine lv_if_ne (tgt := 16) hx hb dX10_twinges_5 (by decide) (fun c2 => ?_) (fun c2 => ?_)
  · replace h := (if_neg c2).symm.trans h
    refine lv_aload_n hx hb dX10_twinges_16 rfl (lv_at hl 0 rfl) ?_
    refine lv_iconst (v := 1) hx hb dX10_twinges_17 (by decide) ?_
    obtain ⟨r3, hr3, h⟩ := lt_elim h
    refine ca_i (w' := [WX10 cy h0 a0 r3.2, WX0 cy (a0 0) a1 s1]) (rn_V (As := [.int (1 : Int32)]) (rest := []) ⟨hx, hb, hml, hown, hts⟩ (kX10_refuse l D cy h0 a0 s0 (1 : Int32) r3 hr3.symm H.size) (cwV 1 hts gX10_twinges_X10_refuse rfl rfl rfl (by decide +kernel) ⟨Nat.le_of_ble_eq_true rfl, Nat.le_of_ble_eq_true rfl⟩) hK hN hP hD [0] rfl rfl (ci := 10) (q0 := 0) rfl rfl rfl rfl hl.1 rfl (Nat.le_of_ble_eq_true rfl) dX10_twinges_18 ⟨Nat.le_refl 0, Nat.le_refl 0⟩) hP hD hS hA [0] ⟨rfl, rfl, rfl, rfl⟩ (fun H locs hP hD hS => ?_)
    exact hret 21 H locs ls (r3.1, r3.2) (Option.some.inj h) hP hD hS dX10_twinges_21
  · replace h := (if_pos c2).symm.trans h
    refine lv_aload_n hx hb dX10_twinges_8 rfl (lv_at hl 0 rfl) ?_
    refine lv_iload_n hx hb dX10_twinges_9 rfl (lv_at hl 2 rfl) ?_
    refine ca_z (w' := [WX10 cy h0 a0 s0, WX0 cy (a0 0) a1 s1]) (rn_V (As := [.int p2]) (rest := []) ⟨hx, hb, hml, hown, hts⟩ (kX10_noDay l D cy h0 a0 a1 s0 s1 p2 _ rfl H.size) (cwV 1 hts gX10_twinges_X10_noDay rfl rfl rfl (by decide +kernel) ⟨Nat.le_of_ble_eq_true rfl, Nat.le_of_ble_eq_true rfl⟩) hK hN hP hD [0, 1] rfl rfl (ci := 10) (q0 := 0) rfl rfl rfl rfl hl.1 rfl (Nat.le_of_ble_eq_true rfl) dX10_twinges_10 ⟨Nat.le_refl 0, Nat.le_refl 0⟩) hP hD hS hA [0, 1] ⟨rfl, rfl, rfl, rfl⟩ (fun b4 H locs hP hD hS => ?_)
    refine lv_if_eq (tgt := 22) hx hb dX10_twinges_13 (by decide) (fun c5 => ?_) (fun c5 => ?_)
    · replace h := (if_pos c5).symm.trans h
      refine lv_aload_n hx hb dX10_twinges_22 rfl (lv_at hl 0 rfl) ?_
      refine lv_aload_n hx hb dX10_twinges_23 rfl (lv_at hl 0 rfl) ?_
      refine va_get (D := D) (ci := 10) (v := .ref (a0 0)) (C := RX10) (T := TX10) (N := 19) hx hb hts hinX10 hown hK hP 0 rfl rfl 0 (by decide) (hts (.fieldLink RX10 10 "KneeBench" "bench" "LKneeBench$Bench;") (List.mem_of_getElem? (i := 1) rfl)) (fun _ h9 => h9) rfl dX10_twinges_24 ?_
      refine lv_iload_n hx hb dX10_twinges_27 rfl (lv_at hl 1 rfl) ?_
      refine lv_iload_n hx hb dX10_twinges_28 rfl (lv_at hl 2 rfl) ?_
      obtain ⟨r6, hr6, h⟩ := bd_elim h
      refine ca_i (w' := [WX10 cy h0 a0 s0, WX0 cy (a0 0) a1 s1]) (rn_V (As := [.int p1, .int p2]) (rest := [.ref h0]) ⟨hx, hb, hml, hown, hts⟩ (kX0_feltOn l D cy (a0 0) a1 s1 p1 p2 r6 hr6 H.size) (cwV 2 hts gX10_twinges_X0_feltOn rfl rfl rfl (by decide +kernel) ⟨Nat.le_of_ble_eq_true rfl, Nat.le_of_ble_eq_true rfl⟩) hK hN hP hD [1] rfl rfl (ci := 0) (q0 := 1) rfl rfl rfl rfl hl.1 rfl (Nat.le_of_ble_eq_true rfl) dX10_twinges_29 ⟨Nat.le_refl 0, Nat.le_refl 0⟩) hP hD hS hA [1] ⟨rfl, rfl, rfl, rfl⟩ (fun H locs hP hD hS => ?_)
      obtain ⟨r7, hr7, h⟩ := lt_elim h
      refine ca_i (w' := [WX10 cy h0 a0 r7.2, WX0 cy (a0 0) a1 s1]) (rn_V (As := [.int r6]) (rest := []) ⟨hx, hb, hml, hown, hts⟩ (kX10_answer l D cy h0 a0 s0 r6 r7 hr7.symm H.size) (cwV 1 hts gX10_twinges_X10_answer rfl rfl rfl (by decide +kernel) ⟨Nat.le_of_ble_eq_true rfl, Nat.le_of_ble_eq_true rfl⟩) hK hN hP hD [0] rfl rfl (ci := 10) (q0 := 0) rfl rfl rfl rfl hl.1 rfl (Nat.le_of_ble_eq_true rfl) dX10_twinges_32 ⟨Nat.le_refl 0, Nat.le_refl 0⟩) hP hD hS hA [0] ⟨rfl, rfl, rfl, rfl⟩ (fun H locs hP hD hS => ?_)
      exact hret 35 H locs ls (r7.1, r7.2) (Option.some.inj h) hP hD hS dX10_twinges_35
    · replace h := (if_neg c5).symm.trans h
      refine lv_aload_n hx hb dX10_twinges_16 rfl (lv_at hl 0 rfl) ?_
      refine lv_iconst (v := 1) hx hb dX10_twinges_17 (by decide) ?_
      obtain ⟨r8, hr8, h⟩ := lt_elim h
      refine ca_i (w' := [WX10 cy h0 a0 r8.2, WX0 cy (a0 0) a1 s1]) (rn_V (As := [.int (1 : Int32)]) (rest := []) ⟨hx, hb, hml, hown, hts⟩ (kX10_refuse l D cy h0 a0 s0 (1 : Int32) r8 hr8.symm H.size) (cwV 1 hts gX10_twinges_X10_refuse rfl rfl rfl (by decide +kernel) ⟨Nat.le_of_ble_eq_true rfl, Nat.le_of_ble_eq_true rfl⟩) hK hN hP hD [0] rfl rfl (ci := 10) (q0 := 0) rfl rfl rfl rfl hl.1 rfl (Nat.le_of_ble_eq_true rfl) dX10_twinges_18 ⟨Nat.le_refl 0, Nat.le_refl 0⟩) hP hD hS hA [0] ⟨rfl, rfl, rfl, rfl⟩ (fun H locs hP hD hS => ?_)
      exact hret 21 H locs ls (r8.1, r8.2) (Option.some.inj h) hP hD hS dX10_twinges_21
theorem gd_X10_useful : wsX10_useful.all goodWord = true := by decide +kernel
set_option maxRecDepth 20000 in
theorem ggX10_useful_X10_noFarmer : GoodIn wsX10_useful wsX10_noFarmer := goodIn_by gd_X10_useful (List.forall_mem_cons.mpr ⟨List.mem_cons_of_mem _ (List.mem_append_left _ (List.mem_append_left _ (List.mem_append_left _ (List.mem_of_getElem? (i := 5) rfl)))), List.forall_mem_append.mpr ⟨List.forall_mem_append.mpr ⟨List.forall_mem_cons.mpr ⟨List.mem_cons_of_mem _ (List.mem_append_left _ (List.mem_append_left _ (List.mem_append_left _ (List.mem_of_getElem? (i := 0) rfl)))), List.forall_mem_cons.mpr ⟨List.mem_cons_of_mem _ (List.mem_append_left _ (List.mem_append_left _ (List.mem_append_left _ (List.mem_of_getElem? (i := 6) rfl)))), List.forall_mem_cons.mpr ⟨List.mem_cons_of_mem _ (List.mem_append_left _ (List.mem_append_left _ (List.mem_append_left _ (List.mem_of_getElem? (i := 7) rfl)))), List.forall_mem_cons.mpr ⟨List.mem_cons_of_mem _ (List.mem_append_left _ (List.mem_append_left _ (List.mem_append_left _ (List.mem_of_getElem? (i := 8) rfl)))), List.forall_mem_cons.mpr ⟨List.mem_cons_of_mem _ (List.mem_append_left _ (List.mem_append_left _ (List.mem_append_left _ (List.mem_of_getElem? (i := 9) rfl)))), List.forall_mem_cons.mpr ⟨List.mem_cons_of_mem _ (List.mem_append_left _ (List.mem_append_left _ (List.mem_append_left _ (List.mem_of_getElem? (i := 10) rfl)))), List.forall_mem_cons.mpr ⟨List.mem_cons_of_mem _ (List.mem_append_left _ (List.mem_append_left _ (List.mem_append_left _ (List.mem_of_getElem? (i := 11) rfl)))), nowords_in⟩⟩⟩⟩⟩⟩⟩, (fun _ h => List.mem_cons_of_mem _ (List.mem_append_left _ (List.mem_append_right _ (h))))⟩, (fun _ h => List.mem_cons_of_mem _ (List.mem_append_right _ (h)))⟩⟩)
set_option maxRecDepth 20000 in
theorem gX10_useful_X10_noFarmer : GoodIn wsX10_useful (wsV RX10 215 RX10 yX10_noFarmer wsX10_noFarmer) := goodIn_app (goodIn_by gd_X10_useful (List.forall_mem_cons.mpr ⟨List.mem_cons_of_mem _ (List.mem_append_left _ (List.mem_append_left _ (List.mem_append_left _ (List.mem_of_getElem? (i := 1) rfl)))), List.forall_mem_cons.mpr ⟨List.mem_cons_of_mem _ (List.mem_append_left _ (List.mem_append_left _ (List.mem_append_left _ (List.mem_of_getElem? (i := 2) rfl)))), List.forall_mem_cons.mpr ⟨List.mem_cons_of_mem _ (List.mem_append_left _ (List.mem_append_left _ (List.mem_append_left _ (List.mem_of_getElem? (i := 3) rfl)))), List.forall_mem_cons.mpr ⟨List.mem_cons_of_mem _ (List.mem_append_left _ (List.mem_append_left _ (List.mem_append_left _ (List.mem_of_getElem? (i := 4) rfl)))), nowords_in⟩⟩⟩⟩)) ggX10_useful_X10_noFarmer
set_option maxRecDepth 20000 in
theorem ggX10_useful_X10_refuse : GoodIn wsX10_useful wsX10_refuse := goodIn_by gd_X10_useful (List.forall_mem_cons.mpr ⟨List.mem_cons_of_mem _ (List.mem_append_left _ (List.mem_append_left _ (List.mem_append_left _ (List.mem_of_getElem? (i := 15) rfl)))), List.forall_mem_append.mpr ⟨List.forall_mem_cons.mpr ⟨List.mem_cons_of_mem _ (List.mem_append_left _ (List.mem_append_left _ (List.mem_append_left _ (List.mem_of_getElem? (i := 16) rfl)))), nowords_in⟩, (fun _ h => List.mem_cons_of_mem _ (List.mem_append_left _ (List.mem_append_right _ (h))))⟩⟩)
set_option maxRecDepth 20000 in
theorem gX10_useful_X10_refuse : GoodIn wsX10_useful (wsV RX10 139 RX10 yX10_refuse wsX10_refuse) := goodIn_app (goodIn_by gd_X10_useful (List.forall_mem_cons.mpr ⟨List.mem_cons_of_mem _ (List.mem_append_left _ (List.mem_append_left _ (List.mem_append_left _ (List.mem_of_getElem? (i := 12) rfl)))), List.forall_mem_cons.mpr ⟨List.mem_cons_of_mem _ (List.mem_append_left _ (List.mem_append_left _ (List.mem_append_left _ (List.mem_of_getElem? (i := 13) rfl)))), List.forall_mem_cons.mpr ⟨List.mem_cons_of_mem _ (List.mem_append_left _ (List.mem_append_left _ (List.mem_append_left _ (List.mem_of_getElem? (i := 14) rfl)))), List.forall_mem_cons.mpr ⟨List.mem_cons_of_mem _ (List.mem_append_left _ (List.mem_append_left _ (List.mem_append_left _ (List.mem_of_getElem? (i := 4) rfl)))), nowords_in⟩⟩⟩⟩)) ggX10_useful_X10_refuse
set_option maxRecDepth 20000 in
theorem ggX10_useful_X0_keptUnder : GoodIn wsX10_useful wsX0_keptUnder := goodIn_by gd_X10_useful (List.forall_mem_cons.mpr ⟨List.mem_cons_of_mem _ (List.mem_append_left _ (List.mem_append_left _ (List.mem_append_left _ (List.mem_of_getElem? (i := 20) rfl)))), List.forall_mem_append.mpr ⟨List.forall_mem_append.mpr ⟨List.forall_mem_cons.mpr ⟨List.mem_cons_of_mem _ (List.mem_append_left _ (List.mem_append_left _ (List.mem_append_left _ (List.mem_of_getElem? (i := 21) rfl)))), List.forall_mem_cons.mpr ⟨List.mem_cons_of_mem _ (List.mem_append_left _ (List.mem_append_left _ (List.mem_append_left _ (List.mem_of_getElem? (i := 22) rfl)))), List.forall_mem_cons.mpr ⟨List.mem_cons_of_mem _ (List.mem_append_left _ (List.mem_append_left _ (List.mem_append_left _ (List.mem_of_getElem? (i := 23) rfl)))), List.forall_mem_cons.mpr ⟨List.mem_cons_of_mem _ (List.mem_append_left _ (List.mem_append_left _ (List.mem_append_right _ (List.mem_append_left _ (List.mem_of_getElem? (i := 0) rfl))))), List.forall_mem_cons.mpr ⟨List.mem_cons_of_mem _ (List.mem_append_left _ (List.mem_append_left _ (List.mem_append_left _ (List.mem_of_getElem? (i := 9) rfl)))), List.forall_mem_cons.mpr ⟨List.mem_cons_of_mem _ (List.mem_append_left _ (List.mem_append_left _ (List.mem_append_right _ (List.mem_append_left _ (List.mem_of_getElem? (i := 1) rfl))))), List.forall_mem_cons.mpr ⟨List.mem_cons_of_mem _ (List.mem_append_left _ (List.mem_append_left _ (List.mem_append_left _ (List.mem_of_getElem? (i := 11) rfl)))), List.forall_mem_cons.mpr ⟨List.mem_cons_of_mem _ (List.mem_append_left _ (List.mem_append_left _ (List.mem_append_right _ (List.mem_append_left _ (List.mem_of_getElem? (i := 2) rfl))))), List.forall_mem_cons.mpr ⟨List.mem_cons_of_mem _ (List.mem_append_left _ (List.mem_append_left _ (List.mem_append_right _ (List.mem_append_left _ (List.mem_of_getElem? (i := 3) rfl))))), List.forall_mem_cons.mpr ⟨List.mem_cons_of_mem _ (List.mem_append_left _ (List.mem_append_left _ (List.mem_append_right _ (List.mem_append_left _ (List.mem_of_getElem? (i := 4) rfl))))), List.forall_mem_cons.mpr ⟨List.mem_cons_of_mem _ (List.mem_append_left _ (List.mem_append_left _ (List.mem_append_right _ (List.mem_append_left _ (List.mem_of_getElem? (i := 5) rfl))))), List.forall_mem_cons.mpr ⟨List.mem_cons_of_mem _ (List.mem_append_left _ (List.mem_append_left _ (List.mem_append_right _ (List.mem_append_left _ (List.mem_of_getElem? (i := 6) rfl))))), List.forall_mem_cons.mpr ⟨List.mem_cons_of_mem _ (List.mem_append_left _ (List.mem_append_left _ (List.mem_append_right _ (List.mem_append_left _ (List.mem_of_getElem? (i := 7) rfl))))), List.forall_mem_cons.mpr ⟨List.mem_cons_of_mem _ (List.mem_append_left _ (List.mem_append_left _ (List.mem_append_right _ (List.mem_append_left _ (List.mem_of_getElem? (i := 8) rfl))))), List.forall_mem_cons.mpr ⟨List.mem_cons_of_mem _ (List.mem_append_left _ (List.mem_append_left _ (List.mem_append_right _ (List.mem_append_left _ (List.mem_of_getElem? (i := 9) rfl))))), List.forall_mem_cons.mpr ⟨List.mem_cons_of_mem _ (List.mem_append_left _ (List.mem_append_left _ (List.mem_append_right _ (List.mem_append_left _ (List.mem_of_getElem? (i := 10) rfl))))), List.forall_mem_cons.mpr ⟨List.mem_cons_of_mem _ (List.mem_append_left _ (List.mem_append_left _ (List.mem_append_right _ (List.mem_append_left _ (List.mem_of_getElem? (i := 11) rfl))))), List.forall_mem_cons.mpr ⟨List.mem_cons_of_mem _ (List.mem_append_left _ (List.mem_append_left _ (List.mem_append_right _ (List.mem_append_left _ (List.mem_of_getElem? (i := 12) rfl))))), List.forall_mem_cons.mpr ⟨List.mem_cons_of_mem _ (List.mem_append_left _ (List.mem_append_left _ (List.mem_append_right _ (List.mem_append_left _ (List.mem_of_getElem? (i := 13) rfl))))), List.forall_mem_cons.mpr ⟨List.mem_cons_of_mem _ (List.mem_append_left _ (List.mem_append_left _ (List.mem_append_right _ (List.mem_append_left _ (List.mem_of_getElem? (i := 14) rfl))))), List.forall_mem_cons.mpr ⟨List.mem_cons_of_mem _ (List.mem_append_left _ (List.mem_append_left _ (List.mem_append_right _ (List.mem_append_left _ (List.mem_of_getElem? (i := 15) rfl))))), List.forall_mem_cons.mpr ⟨List.mem_cons_of_mem _ (List.mem_append_left _ (List.mem_append_left _ (List.mem_append_right _ (List.mem_append_left _ (List.mem_of_getElem? (i := 16) rfl))))), List.forall_mem_cons.mpr ⟨List.mem_cons_of_mem _ (List.mem_append_left _ (List.mem_append_left _ (List.mem_append_right _ (List.mem_append_left _ (List.mem_of_getElem? (i := 17) rfl))))), List.forall_mem_cons.mpr ⟨List.mem_cons_of_mem _ (List.mem_append_left _ (List.mem_append_left _ (List.mem_append_right _ (List.mem_append_left _ (List.mem_of_getElem? (i := 18) rfl))))), nowords_in⟩⟩⟩⟩⟩⟩⟩⟩⟩⟩⟩⟩⟩⟩⟩⟩⟩⟩⟩⟩⟩⟩⟩⟩, List.forall_mem_append.mpr ⟨List.forall_mem_cons.mpr ⟨List.mem_cons_of_mem _ (List.mem_append_left _ (List.mem_append_left _ (List.mem_append_right _ (List.mem_append_left _ (List.mem_of_getElem? (i := 19) rfl))))), List.forall_mem_cons.mpr ⟨List.mem_cons_of_mem _ (List.mem_append_left _ (List.mem_append_left _ (List.mem_append_right _ (List.mem_append_left _ (List.mem_of_getElem? (i := 20) rfl))))), List.forall_mem_cons.mpr ⟨List.mem_cons_of_mem _ (List.mem_append_left _ (List.mem_append_left _ (List.mem_append_right _ (List.mem_append_left _ (List.mem_of_getElem? (i := 21) rfl))))), List.forall_mem_cons.mpr ⟨List.mem_cons_of_mem _ (List.mem_append_left _ (List.mem_append_left _ (List.mem_append_right _ (List.mem_append_left _ (List.mem_of_getElem? (i := 22) rfl))))), List.forall_mem_cons.mpr ⟨List.mem_cons_of_mem _ (List.mem_append_left _ (List.mem_append_left _ (List.mem_append_right _ (List.mem_append_left _ (List.mem_of_getElem? (i := 23) rfl))))), List.forall_mem_cons.mpr ⟨List.mem_cons_of_mem _ (List.mem_append_left _ (List.mem_append_left _ (List.mem_append_right _ (List.mem_append_right _ (List.mem_of_getElem? (i := 0) rfl))))), List.forall_mem_cons.mpr ⟨List.mem_cons_of_mem _ (List.mem_append_left _ (List.mem_append_left _ (List.mem_append_right _ (List.mem_append_right _ (List.mem_of_getElem? (i := 1) rfl))))), List.forall_mem_cons.mpr ⟨List.mem_cons_of_mem _ (List.mem_append_left _ (List.mem_append_left _ (List.mem_append_right _ (List.mem_append_right _ (List.mem_of_getElem? (i := 2) rfl))))), List.forall_mem_cons.mpr ⟨List.mem_cons_of_mem _ (List.mem_append_left _ (List.mem_append_left _ (List.mem_append_right _ (List.mem_append_right _ (List.mem_of_getElem? (i := 3) rfl))))), List.forall_mem_cons.mpr ⟨List.mem_cons_of_mem _ (List.mem_append_left _ (List.mem_append_left _ (List.mem_append_right _ (List.mem_append_right _ (List.mem_of_getElem? (i := 4) rfl))))), List.forall_mem_cons.mpr ⟨List.mem_cons_of_mem _ (List.mem_append_left _ (List.mem_append_left _ (List.mem_append_right _ (List.mem_append_right _ (List.mem_of_getElem? (i := 5) rfl))))), List.forall_mem_cons.mpr ⟨List.mem_cons_of_mem _ (List.mem_append_left _ (List.mem_append_left _ (List.mem_append_right _ (List.mem_append_right _ (List.mem_of_getElem? (i := 6) rfl))))), List.forall_mem_cons.mpr ⟨List.mem_cons_of_mem _ (List.mem_append_left _ (List.mem_append_left _ (List.mem_append_right _ (List.mem_append_right _ (List.mem_of_getElem? (i := 7) rfl))))), List.forall_mem_cons.mpr ⟨List.mem_cons_of_mem _ (List.mem_append_left _ (List.mem_append_left _ (List.mem_append_right _ (List.mem_append_right _ (List.mem_of_getElem? (i := 8) rfl))))), List.forall_mem_cons.mpr ⟨List.mem_cons_of_mem _ (List.mem_append_left _ (List.mem_append_left _ (List.mem_append_left _ (List.mem_of_getElem? (i := 4) rfl)))), List.forall_mem_cons.mpr ⟨List.mem_cons_of_mem _ (List.mem_append_left _ (List.mem_append_left _ (List.mem_append_right _ (List.mem_append_right _ (List.mem_of_getElem? (i := 9) rfl))))), List.forall_mem_cons.mpr ⟨List.mem_cons_of_mem _ (List.mem_append_left _ (List.mem_append_left _ (List.mem_append_right _ (List.mem_append_right _ (List.mem_of_getElem? (i := 10) rfl))))), List.forall_mem_cons.mpr ⟨List.mem_cons_of_mem _ (List.mem_append_left _ (List.mem_append_left _ (List.mem_append_right _ (List.mem_append_right _ (List.mem_of_getElem? (i := 11) rfl))))), List.forall_mem_cons.mpr ⟨List.mem_cons_of_mem _ (List.mem_append_left _ (List.mem_append_left _ (List.mem_append_right _ (List.mem_append_right _ (List.mem_of_getElem? (i := 12) rfl))))), List.forall_mem_cons.mpr ⟨List.mem_cons_of_mem _ (List.mem_append_left _ (List.mem_append_left _ (List.mem_append_right _ (List.mem_append_right _ (List.mem_of_getElem? (i := 13) rfl))))), List.forall_mem_cons.mpr ⟨List.mem_cons_of_mem _ (List.mem_append_left _ (List.mem_append_left _ (List.mem_append_right _ (List.mem_append_right _ (List.mem_of_getElem? (i := 14) rfl))))), List.forall_mem_cons.mpr ⟨List.mem_cons_of_mem _ (List.mem_append_left _ (List.mem_append_left _ (List.mem_append_right _ (List.mem_append_right _ (List.mem_of_getElem? (i := 15) rfl))))), List.forall_mem_cons.mpr ⟨List.mem_cons_of_mem _ (List.mem_append_left _ (List.mem_append_left _ (List.mem_append_right _ (List.mem_append_right _ (List.mem_of_getElem? (i := 16) rfl))))), List.forall_mem_cons.mpr ⟨List.mem_cons_of_mem _ (List.mem_append_left _ (List.mem_append_left _ (List.mem_append_right _ (List.mem_append_right _ (List.mem_of_getElem? (i := 17) rfl))))), nowords_in⟩⟩⟩⟩⟩⟩⟩⟩⟩⟩⟩⟩⟩⟩⟩⟩⟩⟩⟩⟩⟩⟩⟩⟩, List.forall_mem_cons.mpr ⟨List.mem_cons_of_mem _ (List.mem_append_left _ (List.mem_append_left _ (List.mem_append_right _ (List.mem_append_right _ (List.mem_of_getElem? (i := 18) rfl))))), List.forall_mem_cons.mpr ⟨List.mem_cons_of_mem _ (List.mem_append_left _ (List.mem_append_left _ (List.mem_append_right _ (List.mem_append_right _ (List.mem_of_getElem? (i := 19) rfl))))), nowords_in⟩⟩⟩⟩, (fun _ h => List.mem_cons_of_mem _ (List.mem_append_right _ (h)))⟩⟩)
set_option maxRecDepth 20000 in
theorem gX10_useful_X0_keptUnder : GoodIn wsX10_useful (wsV RX10 321 RX0 yX0_keptUnder wsX0_keptUnder) := goodIn_app (goodIn_by gd_X10_useful (List.forall_mem_cons.mpr ⟨List.mem_cons_of_mem _ (List.mem_append_left _ (List.mem_append_left _ (List.mem_append_left _ (List.mem_of_getElem? (i := 17) rfl)))), List.forall_mem_cons.mpr ⟨List.mem_cons_of_mem _ (List.mem_append_left _ (List.mem_append_left _ (List.mem_append_left _ (List.mem_of_getElem? (i := 18) rfl)))), List.forall_mem_cons.mpr ⟨List.mem_cons_of_mem _ (List.mem_append_left _ (List.mem_append_left _ (List.mem_append_left _ (List.mem_of_getElem? (i := 19) rfl)))), List.forall_mem_cons.mpr ⟨List.mem_cons_of_mem _ (List.mem_append_left _ (List.mem_append_left _ (List.mem_append_left _ (List.mem_of_getElem? (i := 9) rfl)))), nowords_in⟩⟩⟩⟩)) ggX10_useful_X0_keptUnder
set_option maxRecDepth 20000 in
theorem ggX10_useful_X10_answer : GoodIn wsX10_useful wsX10_answer := goodIn_by gd_X10_useful (List.forall_mem_cons.mpr ⟨List.mem_cons_of_mem _ (List.mem_append_left _ (List.mem_append_left _ (List.mem_append_right _ (List.mem_append_right _ (List.mem_of_getElem? (i := 23) rfl))))), List.forall_mem_append.mpr ⟨List.forall_mem_cons.mpr ⟨List.mem_cons_of_mem _ (List.mem_append_left _ (List.mem_append_left _ (List.mem_append_left _ (List.mem_of_getElem? (i := 16) rfl)))), nowords_in⟩, (fun _ h => List.mem_cons_of_mem _ (List.mem_append_left _ (List.mem_append_right _ (h))))⟩⟩)
set_option maxRecDepth 20000 in
theorem gX10_useful_X10_answer : GoodIn wsX10_useful (wsV RX10 181 RX10 yX10_answer wsX10_answer) := goodIn_app (goodIn_by gd_X10_useful (List.forall_mem_cons.mpr ⟨List.mem_cons_of_mem _ (List.mem_append_left _ (List.mem_append_left _ (List.mem_append_right _ (List.mem_append_right _ (List.mem_of_getElem? (i := 20) rfl))))), List.forall_mem_cons.mpr ⟨List.mem_cons_of_mem _ (List.mem_append_left _ (List.mem_append_left _ (List.mem_append_right _ (List.mem_append_right _ (List.mem_of_getElem? (i := 21) rfl))))), List.forall_mem_cons.mpr ⟨List.mem_cons_of_mem _ (List.mem_append_left _ (List.mem_append_left _ (List.mem_append_right _ (List.mem_append_right _ (List.mem_of_getElem? (i := 22) rfl))))), List.forall_mem_cons.mpr ⟨List.mem_cons_of_mem _ (List.mem_append_left _ (List.mem_append_left _ (List.mem_append_left _ (List.mem_of_getElem? (i := 4) rfl)))), nowords_in⟩⟩⟩⟩)) ggX10_useful_X10_answer
theorem dX10_useful_0 : decode cX10_useful 0 = .ok (.aload_n 0, 1) := by decide +kernel
theorem dX10_useful_1 : decode cX10_useful 1 = .ok (.iload_n 1, 1) := by decide +kernel
theorem dX10_useful_2 : decode cX10_useful 2 = .ok (.invokevirtual 215, 3) := by decide +kernel
theorem dX10_useful_5 : decode cX10_useful 5 = .ok (.ifCond .eq 9, 3) := by decide +kernel
theorem dX10_useful_8 : decode cX10_useful 8 = .ok (.aload_n 0, 1) := by decide +kernel
theorem dX10_useful_9 : decode cX10_useful 9 = .ok (.iconst 1, 1) := by decide +kernel
theorem dX10_useful_10 : decode cX10_useful 10 = .ok (.invokevirtual 139, 3) := by decide +kernel
theorem dX10_useful_13 : decode cX10_useful 13 = .ok (.ireturn, 1) := by decide +kernel
theorem dX10_useful_14 : decode cX10_useful 14 = .ok (.aload_n 0, 1) := by decide +kernel
theorem dX10_useful_15 : decode cX10_useful 15 = .ok (.aload_n 0, 1) := by decide +kernel
theorem dX10_useful_16 : decode cX10_useful 16 = .ok (.getfield 10, 3) := by decide +kernel
theorem dX10_useful_19 : decode cX10_useful 19 = .ok (.aload_n 0, 1) := by decide +kernel
theorem dX10_useful_20 : decode cX10_useful 20 = .ok (.getfield 10, 3) := by decide +kernel
theorem dX10_useful_23 : decode cX10_useful 23 = .ok (.getfield 212, 3) := by decide +kernel
theorem dX10_useful_26 : decode cX10_useful 26 = .ok (.iconst 0, 1) := by decide +kernel
theorem dX10_useful_27 : decode cX10_useful 27 = .ok (.invokevirtual 321, 3) := by decide +kernel
theorem dX10_useful_30 : decode cX10_useful 30 = .ok (.aload_n 0, 1) := by decide +kernel
theorem dX10_useful_31 : decode cX10_useful 31 = .ok (.getfield 10, 3) := by decide +kernel
theorem dX10_useful_34 : decode cX10_useful 34 = .ok (.aload_n 0, 1) := by decide +kernel
theorem dX10_useful_35 : decode cX10_useful 35 = .ok (.getfield 10, 3) := by decide +kernel
theorem dX10_useful_38 : decode cX10_useful 38 = .ok (.getfield 212, 3) := by decide +kernel
theorem dX10_useful_41 : decode cX10_useful 41 = .ok (.iconst 1, 1) := by decide +kernel
theorem dX10_useful_42 : decode cX10_useful 42 = .ok (.iload_n 1, 1) := by decide +kernel
theorem dX10_useful_43 : decode cX10_useful 43 = .ok (.ishl, 1) := by decide +kernel
theorem dX10_useful_44 : decode cX10_useful 44 = .ok (.invokevirtual 321, 3) := by decide +kernel
theorem dX10_useful_47 : decode cX10_useful 47 = .ok (.isub, 1) := by decide +kernel
theorem dX10_useful_48 : decode cX10_useful 48 = .ok (.invokevirtual 181, 3) := by decide +kernel
theorem dX10_useful_51 : decode cX10_useful 51 = .ok (.ireturn, 1) := by decide +kernel
abbrev rmX10_useful : Room := { frames := 4, cells := 0, slots := 0, locals := 92 }
set_option maxHeartbeats 4000000 in
set_option maxRecDepth 100000 in
theorem kX10_useful (l : Launch) (D : va_G) (cy : Nat → ClassId) (h0 : Nat) (a0 : Nat → Nat) (a1 : Nat → Nat) (s0 : Rc) (s1 : Rc) (p1 : Int32) (res : Int32 × Rc) (h : fX10_useful p1 s0 s1 = some res) : CI l D cy yX10_useful wsX10_useful rmX10_useful [.ref h0, .int p1] (flat [WX10 cy h0 a0 s0, WX0 cy (a0 0) a1 s1]) (flat [WX10 cy h0 a0 res.2, WX0 cy (a0 0) a1 s1]) res.1 := by
  refine CI.of (cc := cX10_useful) (maxL := 2) (by decide) rfl (Nat.le_of_ble_eq_true rfl) ?_
  intro p e s m args below meth c A QQ ls E hr
  obtain ⟨hx, hb, hml, hown, hts, hK, hN, hP, hD, hA, hl⟩ := E
  have hret : ∀ (pc : Nat) (H : Heap) (locs : List Loc) (ls : Array Slot) (u : Int32 × Rc), u = res → va_P D vwCl (flat [WX10 cy h0 a0 u.2, WX0 cy (a0 0) a1 s1]) H → va_D A (flat [WX10 cy h0 a0 u.2, WX0 cy (a0 0) a1 s1]) → va_S A s.heap H locs → decode cX10_useful pc = .ok (.ireturn, 1) → W p l e rmX10_useful s m args below meth c H locs 0 0 QQ (F0 m pc ls [.int u.1]) := by
    intro pc H locs ls u hu hP hD hS hd; subst hu; exact hr pc H locs ls _ rfl hP hD hS hd
  clear hr
  have hl : lv_has ls 2 [(0, .ref h0), (1, .int p1)] := hl
  have hinX0 : ∀ w ∈ wsX00, w ∈ wsX10_useful := fun _ h => List.mem_cons_of_mem _ (List.mem_append_right _ h)
  have hinX10 : ∀ w ∈ wsX100, w ∈ wsX10_useful := fun _ h => List.mem_cons_of_mem _ (List.mem_append_left _ (List.mem_append_right _ h))
  unfold fX10_useful at h
  suffices key : ∀ (H : Heap) (locs : List Loc), va_P D vwCl (flat [WX10 cy h0 a0 s0, WX0 cy (a0 0) a1 s1]) H → va_S A s.heap H locs → W p l e rmX10_useful s m args below meth c H locs 0 0 QQ (F0 m 0 ls []) from key _ _ hP va_S.rf
  clear hP
  intro H locs hP hS
  refine lv_aload_n hx hb dX10_useful_0 rfl (lv_at hl 0 rfl) ?_
  refine lv_iload_n hx hb dX10_useful_1 rfl (lv_at hl 1 rfl) ?_
  refine ca_z (w' := [WX10 cy h0 a0 s0, WX0 cy (a0 0) a1 s1]) (rn_V (As := [.int p1]) (rest := []) ⟨hx, hb, hml, hown, hts⟩ (kX10_noFarmer l D cy h0 a0 a1 s0 s1 p1 _ rfl H.size) (cwV 1 hts gX10_useful_X10_noFarmer rfl rfl rfl (by decide +kernel) ⟨Nat.le_of_ble_eq_true rfl, Nat.le_of_ble_eq_true rfl⟩) hK hN hP hD [0, 1] rfl rfl (ci := 10) (q0 := 0) rfl rfl rfl rfl hl.1 rfl (Nat.le_of_ble_eq_true rfl) dX10_useful_2 ⟨Nat.le_refl 0, Nat.le_refl 0⟩) hP hD hS hA [0, 1] ⟨rfl, rfl, rfl, rfl⟩ (fun b1 H locs hP hD hS => ?_)
  refine lv_if_eq (tgt := 14) hx hb dX10_useful_5 (by decide) (fun c2 => ?_) (fun c2 => ?_)
  · replace h := (if_pos c2).symm.trans h
    refine lv_aload_n hx hb dX10_useful_14 rfl (lv_at hl 0 rfl) ?_
    refine lv_aload_n hx hb dX10_useful_15 rfl (lv_at hl 0 rfl) ?_
    refine va_get (D := D) (ci := 10) (v := .ref (a0 0)) (C := RX10) (T := TX10) (N := 19) hx hb hts hinX10 hown hK hP 0 rfl rfl 0 (by decide) (hts (.fieldLink RX10 10 "KneeBench" "bench" "LKneeBench$Bench;") (List.mem_of_getElem? (i := 1) rfl)) (fun _ h9 => h9) rfl dX10_useful_16 ?_
    refine lv_aload_n hx hb dX10_useful_19 rfl (lv_at hl 0 rfl) ?_
    refine va_get (D := D) (ci := 10) (v := .ref (a0 0)) (C := RX10) (T := TX10) (N := 19) hx hb hts hinX10 hown hK hP 0 rfl rfl 0 (by decide) (hts (.fieldLink RX10 10 "KneeBench" "bench" "LKneeBench$Bench;") (List.mem_of_getElem? (i := 1) rfl)) (fun _ h9 => h9) rfl dX10_useful_20 ?_
    refine va_getN (D := D) (ci := 0) (v := .int (gi s1 12)) (C := RX0) (T := TX0) (N := 14) hx hb hts hinX0 hown hK hP 1 rfl rfl 12 (by decide) (NW.fld hN 21 rfl _) (fun _ h9 => h9) rfl dX10_useful_23 ?_
    refine lv_iconst (v := 0) hx hb dX10_useful_26 (by decide) ?_
    obtain ⟨r3, hr3, h⟩ := bd_elim h
    refine ca_i (w' := [WX10 cy h0 a0 s0, WX0 cy (a0 0) a1 s1]) (rn_V (As := [.int (gi s1 12), .int (0 : Int32)]) (rest := [.ref h0]) ⟨hx, hb, hml, hown, hts⟩ (kX0_keptUnder l D cy (a0 0) a1 s1 (gi s1 12) (0 : Int32) r3 hr3 H.size) (cwV 2 hts gX10_useful_X0_keptUnder rfl rfl rfl (by decide +kernel) ⟨Nat.le_of_ble_eq_true rfl, Nat.le_of_ble_eq_true rfl⟩) hK hN hP hD [1] rfl rfl (ci := 0) (q0 := 1) rfl rfl rfl rfl hl.1 rfl (Nat.le_of_ble_eq_true rfl) dX10_useful_27 ⟨Nat.le_refl 0, Nat.le_refl 0⟩) hP hD hS hA [1] ⟨rfl, rfl, rfl, rfl⟩ (fun H locs hP hD hS => ?_)
    refine lv_aload_n hx hb dX10_useful_30 rfl (lv_at hl 0 rfl) ?_
    refine va_get (D := D) (ci := 10) (v := .ref (a0 0)) (C := RX10) (T := TX10) (N := 19) hx hb hts hinX10 hown hK hP 0 rfl rfl 0 (by decide) (hts (.fieldLink RX10 10 "KneeBench" "bench" "LKneeBench$Bench;") (List.mem_of_getElem? (i := 1) rfl)) (fun _ h9 => h9) rfl dX10_useful_31 ?_
    refine lv_aload_n hx hb dX10_useful_34 rfl (lv_at hl 0 rfl) ?_
    refine va_get (D := D) (ci := 10) (v := .ref (a0 0)) (C := RX10) (T := TX10) (N := 19) hx hb hts hinX10 hown hK hP 0 rfl rfl 0 (by decide) (hts (.fieldLink RX10 10 "KneeBench" "bench" "LKneeBench$Bench;") (List.mem_of_getElem? (i := 1) rfl)) (fun _ h9 => h9) rfl dX10_useful_35 ?_
    refine va_getN (D := D) (ci := 0) (v := .int (gi s1 12)) (C := RX0) (T := TX0) (N := 14) hx hb hts hinX0 hown hK hP 1 rfl rfl 12 (by decide) (NW.fld hN 21 rfl _) (fun _ h9 => h9) rfl dX10_useful_38 ?_
    refine lv_iconst (v := 1) hx hb dX10_useful_41 (by decide) ?_
    refine lv_iload_n hx hb dX10_useful_42 rfl (lv_at hl 1 rfl) ?_
    refine lv_ishl hx hb dX10_useful_43 ?_
    obtain ⟨r4, hr4, h⟩ := bd_elim h
    refine ca_i (w' := [WX10 cy h0 a0 s0, WX0 cy (a0 0) a1 s1]) (rn_V (As := [.int (gi s1 12), .int ((1 : Int32) <<< (p1 &&& 31))]) (rest := [.int r3, .ref h0]) ⟨hx, hb, hml, hown, hts⟩ (kX0_keptUnder l D cy (a0 0) a1 s1 (gi s1 12) ((1 : Int32) <<< (p1 &&& 31)) r4 hr4 H.size) (cwV 2 hts gX10_useful_X0_keptUnder rfl rfl rfl (by decide +kernel) ⟨Nat.le_of_ble_eq_true rfl, Nat.le_of_ble_eq_true rfl⟩) hK hN hP hD [1] rfl rfl (ci := 0) (q0 := 1) rfl rfl rfl rfl hl.1 rfl (Nat.le_of_ble_eq_true rfl) dX10_useful_44 ⟨Nat.le_refl 0, Nat.le_refl 0⟩) hP hD hS hA [1] ⟨rfl, rfl, rfl, rfl⟩ (fun H locs hP hD hS => ?_)
    refine lv_isub hx hb dX10_useful_47 ?_
    obtain ⟨r5, hr5, h⟩ := lt_elim h
    refine ca_i (w' := [WX10 cy h0 a0 r5.2, WX0 cy (a0 0) a1 s1]) (rn_V (As := [.int (r3 - r4)]) (rest := []) ⟨hx, hb, hml, hown, hts⟩ (kX10_answer l D cy h0 a0 s0 (r3 - r4) r5 hr5.symm H.size) (cwV 1 hts gX10_useful_X10_answer rfl rfl rfl (by decide +kernel) ⟨Nat.le_of_ble_eq_true rfl, Nat.le_of_ble_eq_true rfl⟩) hK hN hP hD [0] rfl rfl (ci := 10) (q0 := 0) rfl rfl rfl rfl hl.1 rfl (Nat.le_of_ble_eq_true rfl) dX10_useful_48 ⟨Nat.le_refl 0, Nat.le_refl 0⟩) hP hD hS hA [0] ⟨rfl, rfl, rfl, rfl⟩ (fun H locs hP hD hS => ?_)
    exact hret 51 H locs ls (r5.1, r5.2) (Option.some.inj h) hP hD hS dX10_useful_51
  · replace h := (if_neg c2).symm.trans h
    refine lv_aload_n hx hb dX10_useful_8 rfl (lv_at hl 0 rfl) ?_
    refine lv_iconst (v := 1) hx hb dX10_useful_9 (by decide) ?_
    obtain ⟨r6, hr6, h⟩ := lt_elim h
    refine ca_i (w' := [WX10 cy h0 a0 r6.2, WX0 cy (a0 0) a1 s1]) (rn_V (As := [.int (1 : Int32)]) (rest := []) ⟨hx, hb, hml, hown, hts⟩ (kX10_refuse l D cy h0 a0 s0 (1 : Int32) r6 hr6.symm H.size) (cwV 1 hts gX10_useful_X10_refuse rfl rfl rfl (by decide +kernel) ⟨Nat.le_of_ble_eq_true rfl, Nat.le_of_ble_eq_true rfl⟩) hK hN hP hD [0] rfl rfl (ci := 10) (q0 := 0) rfl rfl rfl rfl hl.1 rfl (Nat.le_of_ble_eq_true rfl) dX10_useful_10 ⟨Nat.le_refl 0, Nat.le_refl 0⟩) hP hD hS hA [0] ⟨rfl, rfl, rfl, rfl⟩ (fun H locs hP hD hS => ?_)
    exact hret 13 H locs ls (r6.1, r6.2) (Option.some.inj h) hP hD hS dX10_useful_13
theorem gd_X10_warned : wsX10_warned.all goodWord = true := by decide +kernel
set_option maxRecDepth 20000 in
theorem ggX10_warned_X10_outside : GoodIn wsX10_warned wsX10_outside := goodIn_by gd_X10_warned (List.forall_mem_cons.mpr ⟨List.mem_cons_of_mem _ (List.mem_append_left _ (List.mem_append_left _ (List.mem_append_left _ (List.mem_of_getElem? (i := 5) rfl)))), nowords_in⟩)
set_option maxRecDepth 20000 in
theorem gX10_warned_X10_outside : GoodIn wsX10_warned (va_wsS RX10 116 yX10_outside wsX10_outside) := goodIn_app (goodIn_by gd_X10_warned (List.forall_mem_cons.mpr ⟨List.mem_cons_of_mem _ (List.mem_append_left _ (List.mem_append_left _ (List.mem_append_left _ (List.mem_of_getElem? (i := 2) rfl)))), List.forall_mem_cons.mpr ⟨List.mem_cons_of_mem _ (List.mem_append_left _ (List.mem_append_left _ (List.mem_append_left _ (List.mem_of_getElem? (i := 3) rfl)))), List.forall_mem_cons.mpr ⟨List.mem_cons_of_mem _ (List.mem_append_left _ (List.mem_append_left _ (List.mem_append_left _ (List.mem_of_getElem? (i := 4) rfl)))), nowords_in⟩⟩⟩)) ggX10_warned_X10_outside
set_option maxRecDepth 20000 in
theorem ggX10_warned_X10_refuse : GoodIn wsX10_warned wsX10_refuse := goodIn_by gd_X10_warned (List.forall_mem_cons.mpr ⟨List.mem_cons_of_mem _ (List.mem_append_left _ (List.mem_append_left _ (List.mem_append_left _ (List.mem_of_getElem? (i := 9) rfl)))), List.forall_mem_append.mpr ⟨List.forall_mem_cons.mpr ⟨List.mem_cons_of_mem _ (List.mem_append_left _ (List.mem_append_left _ (List.mem_append_left _ (List.mem_of_getElem? (i := 10) rfl)))), nowords_in⟩, (fun _ h => List.mem_cons_of_mem _ (List.mem_append_left _ (List.mem_append_right _ (h))))⟩⟩)
set_option maxRecDepth 20000 in
theorem gX10_warned_X10_refuse : GoodIn wsX10_warned (wsV RX10 139 RX10 yX10_refuse wsX10_refuse) := goodIn_app (goodIn_by gd_X10_warned (List.forall_mem_cons.mpr ⟨List.mem_cons_of_mem _ (List.mem_append_left _ (List.mem_append_left _ (List.mem_append_left _ (List.mem_of_getElem? (i := 6) rfl)))), List.forall_mem_cons.mpr ⟨List.mem_cons_of_mem _ (List.mem_append_left _ (List.mem_append_left _ (List.mem_append_left _ (List.mem_of_getElem? (i := 7) rfl)))), List.forall_mem_cons.mpr ⟨List.mem_cons_of_mem _ (List.mem_append_left _ (List.mem_append_left _ (List.mem_append_left _ (List.mem_of_getElem? (i := 8) rfl)))), List.forall_mem_cons.mpr ⟨List.mem_cons_of_mem _ (List.mem_append_left _ (List.mem_append_left _ (List.mem_append_left _ (List.mem_of_getElem? (i := 4) rfl)))), nowords_in⟩⟩⟩⟩)) ggX10_warned_X10_refuse
set_option maxRecDepth 20000 in
theorem ggX10_warned_X0_rainDaysOfSet : GoodIn wsX10_warned wsX0_rainDaysOfSet := goodIn_by gd_X10_warned (List.forall_mem_cons.mpr ⟨List.mem_cons_of_mem _ (List.mem_append_left _ (List.mem_append_left _ (List.mem_append_left _ (List.mem_of_getElem? (i := 15) rfl)))), List.forall_mem_append.mpr ⟨List.forall_mem_append.mpr ⟨List.forall_mem_cons.mpr ⟨List.mem_cons_of_mem _ (List.mem_append_left _ (List.mem_append_left _ (List.mem_append_left _ (List.mem_of_getElem? (i := 16) rfl)))), List.forall_mem_cons.mpr ⟨List.mem_cons_of_mem _ (List.mem_append_left _ (List.mem_append_left _ (List.mem_append_left _ (List.mem_of_getElem? (i := 17) rfl)))), List.forall_mem_cons.mpr ⟨List.mem_cons_of_mem _ (List.mem_append_left _ (List.mem_append_left _ (List.mem_append_left _ (List.mem_of_getElem? (i := 18) rfl)))), List.forall_mem_cons.mpr ⟨List.mem_cons_of_mem _ (List.mem_append_left _ (List.mem_append_left _ (List.mem_append_left _ (List.mem_of_getElem? (i := 19) rfl)))), List.forall_mem_cons.mpr ⟨List.mem_cons_of_mem _ (List.mem_append_left _ (List.mem_append_left _ (List.mem_append_left _ (List.mem_of_getElem? (i := 14) rfl)))), List.forall_mem_cons.mpr ⟨List.mem_cons_of_mem _ (List.mem_append_left _ (List.mem_append_left _ (List.mem_append_left _ (List.mem_of_getElem? (i := 20) rfl)))), List.forall_mem_cons.mpr ⟨List.mem_cons_of_mem _ (List.mem_append_left _ (List.mem_append_left _ (List.mem_append_left _ (List.mem_of_getElem? (i := 21) rfl)))), List.forall_mem_cons.mpr ⟨List.mem_cons_of_mem _ (List.mem_append_left _ (List.mem_append_left _ (List.mem_append_left _ (List.mem_of_getElem? (i := 22) rfl)))), List.forall_mem_cons.mpr ⟨List.mem_cons_of_mem _ (List.mem_append_left _ (List.mem_append_left _ (List.mem_append_left _ (List.mem_of_getElem? (i := 23) rfl)))), List.forall_mem_cons.mpr ⟨List.mem_cons_of_mem _ (List.mem_append_left _ (List.mem_append_left _ (List.mem_append_right _ (List.mem_append_left _ (List.mem_of_getElem? (i := 0) rfl))))), List.forall_mem_cons.mpr ⟨List.mem_cons_of_mem _ (List.mem_append_left _ (List.mem_append_left _ (List.mem_append_right _ (List.mem_append_left _ (List.mem_of_getElem? (i := 1) rfl))))), List.forall_mem_cons.mpr ⟨List.mem_cons_of_mem _ (List.mem_append_left _ (List.mem_append_left _ (List.mem_append_right _ (List.mem_append_left _ (List.mem_of_getElem? (i := 2) rfl))))), List.forall_mem_cons.mpr ⟨List.mem_cons_of_mem _ (List.mem_append_left _ (List.mem_append_left _ (List.mem_append_right _ (List.mem_append_left _ (List.mem_of_getElem? (i := 3) rfl))))), List.forall_mem_cons.mpr ⟨List.mem_cons_of_mem _ (List.mem_append_left _ (List.mem_append_left _ (List.mem_append_right _ (List.mem_append_left _ (List.mem_of_getElem? (i := 4) rfl))))), List.forall_mem_cons.mpr ⟨List.mem_cons_of_mem _ (List.mem_append_left _ (List.mem_append_left _ (List.mem_append_right _ (List.mem_append_left _ (List.mem_of_getElem? (i := 5) rfl))))), List.forall_mem_cons.mpr ⟨List.mem_cons_of_mem _ (List.mem_append_left _ (List.mem_append_left _ (List.mem_append_right _ (List.mem_append_left _ (List.mem_of_getElem? (i := 6) rfl))))), List.forall_mem_cons.mpr ⟨List.mem_cons_of_mem _ (List.mem_append_left _ (List.mem_append_left _ (List.mem_append_right _ (List.mem_append_left _ (List.mem_of_getElem? (i := 7) rfl))))), List.forall_mem_cons.mpr ⟨List.mem_cons_of_mem _ (List.mem_append_left _ (List.mem_append_left _ (List.mem_append_right _ (List.mem_append_left _ (List.mem_of_getElem? (i := 8) rfl))))), List.forall_mem_cons.mpr ⟨List.mem_cons_of_mem _ (List.mem_append_left _ (List.mem_append_left _ (List.mem_append_right _ (List.mem_append_left _ (List.mem_of_getElem? (i := 9) rfl))))), List.forall_mem_cons.mpr ⟨List.mem_cons_of_mem _ (List.mem_append_left _ (List.mem_append_left _ (List.mem_append_left _ (List.mem_of_getElem? (i := 4) rfl)))), List.forall_mem_cons.mpr ⟨List.mem_cons_of_mem _ (List.mem_append_left _ (List.mem_append_left _ (List.mem_append_right _ (List.mem_append_left _ (List.mem_of_getElem? (i := 10) rfl))))), List.forall_mem_cons.mpr ⟨List.mem_cons_of_mem _ (List.mem_append_left _ (List.mem_append_left _ (List.mem_append_right _ (List.mem_append_left _ (List.mem_of_getElem? (i := 11) rfl))))), List.forall_mem_cons.mpr ⟨List.mem_cons_of_mem _ (List.mem_append_left _ (List.mem_append_left _ (List.mem_append_right _ (List.mem_append_left _ (List.mem_of_getElem? (i := 12) rfl))))), List.forall_mem_cons.mpr ⟨List.mem_cons_of_mem _ (List.mem_append_left _ (List.mem_append_left _ (List.mem_append_right _ (List.mem_append_left _ (List.mem_of_getElem? (i := 13) rfl))))), nowords_in⟩⟩⟩⟩⟩⟩⟩⟩⟩⟩⟩⟩⟩⟩⟩⟩⟩⟩⟩⟩⟩⟩⟩⟩, List.forall_mem_cons.mpr ⟨List.mem_cons_of_mem _ (List.mem_append_left _ (List.mem_append_left _ (List.mem_append_right _ (List.mem_append_left _ (List.mem_of_getElem? (i := 14) rfl))))), List.forall_mem_cons.mpr ⟨List.mem_cons_of_mem _ (List.mem_append_left _ (List.mem_append_left _ (List.mem_append_right _ (List.mem_append_left _ (List.mem_of_getElem? (i := 15) rfl))))), List.forall_mem_cons.mpr ⟨List.mem_cons_of_mem _ (List.mem_append_left _ (List.mem_append_left _ (List.mem_append_right _ (List.mem_append_left _ (List.mem_of_getElem? (i := 16) rfl))))), nowords_in⟩⟩⟩⟩, (fun _ h => List.mem_cons_of_mem _ (List.mem_append_right _ (h)))⟩⟩)
set_option maxRecDepth 20000 in
theorem gX10_warned_X0_rainDaysOfSet : GoodIn wsX10_warned (wsV RX10 394 RX0 yX0_rainDaysOfSet wsX0_rainDaysOfSet) := goodIn_app (goodIn_by gd_X10_warned (List.forall_mem_cons.mpr ⟨List.mem_cons_of_mem _ (List.mem_append_left _ (List.mem_append_left _ (List.mem_append_left _ (List.mem_of_getElem? (i := 11) rfl)))), List.forall_mem_cons.mpr ⟨List.mem_cons_of_mem _ (List.mem_append_left _ (List.mem_append_left _ (List.mem_append_left _ (List.mem_of_getElem? (i := 12) rfl)))), List.forall_mem_cons.mpr ⟨List.mem_cons_of_mem _ (List.mem_append_left _ (List.mem_append_left _ (List.mem_append_left _ (List.mem_of_getElem? (i := 13) rfl)))), List.forall_mem_cons.mpr ⟨List.mem_cons_of_mem _ (List.mem_append_left _ (List.mem_append_left _ (List.mem_append_left _ (List.mem_of_getElem? (i := 14) rfl)))), nowords_in⟩⟩⟩⟩)) ggX10_warned_X0_rainDaysOfSet
set_option maxRecDepth 20000 in
theorem ggX10_warned_J13_bitCount_95d88 : GoodIn wsX10_warned wsJ13_bitCount_95d88 := goodIn_by gd_X10_warned (List.forall_mem_cons.mpr ⟨List.mem_cons_of_mem _ (List.mem_append_left _ (List.mem_append_left _ (List.mem_append_right _ (List.mem_append_left _ (List.mem_of_getElem? (i := 20) rfl))))), List.forall_mem_cons.mpr ⟨List.mem_cons_of_mem _ (List.mem_append_left _ (List.mem_append_left _ (List.mem_append_right _ (List.mem_append_left _ (List.mem_of_getElem? (i := 21) rfl))))), List.forall_mem_cons.mpr ⟨List.mem_cons_of_mem _ (List.mem_append_left _ (List.mem_append_left _ (List.mem_append_right _ (List.mem_append_left _ (List.mem_of_getElem? (i := 22) rfl))))), List.forall_mem_cons.mpr ⟨List.mem_cons_of_mem _ (List.mem_append_left _ (List.mem_append_left _ (List.mem_append_right _ (List.mem_append_left _ (List.mem_of_getElem? (i := 23) rfl))))), nowords_in⟩⟩⟩⟩)
set_option maxRecDepth 20000 in
theorem gX10_warned_J13_bitCount_95d88 : GoodIn wsX10_warned (va_wsS RX10 203 yJ13_bitCount_95d88 wsJ13_bitCount_95d88) := goodIn_app (goodIn_by gd_X10_warned (List.forall_mem_cons.mpr ⟨List.mem_cons_of_mem _ (List.mem_append_left _ (List.mem_append_left _ (List.mem_append_right _ (List.mem_append_left _ (List.mem_of_getElem? (i := 17) rfl))))), List.forall_mem_cons.mpr ⟨List.mem_cons_of_mem _ (List.mem_append_left _ (List.mem_append_left _ (List.mem_append_right _ (List.mem_append_left _ (List.mem_of_getElem? (i := 18) rfl))))), List.forall_mem_cons.mpr ⟨List.mem_cons_of_mem _ (List.mem_append_left _ (List.mem_append_left _ (List.mem_append_right _ (List.mem_append_left _ (List.mem_of_getElem? (i := 19) rfl))))), nowords_in⟩⟩⟩)) ggX10_warned_J13_bitCount_95d88
set_option maxRecDepth 20000 in
theorem ggX10_warned_X10_answer : GoodIn wsX10_warned wsX10_answer := goodIn_by gd_X10_warned (List.forall_mem_cons.mpr ⟨List.mem_cons_of_mem _ (List.mem_append_left _ (List.mem_append_left _ (List.mem_append_right _ (List.mem_append_right _ (List.mem_of_getElem? (i := 3) rfl))))), List.forall_mem_append.mpr ⟨List.forall_mem_cons.mpr ⟨List.mem_cons_of_mem _ (List.mem_append_left _ (List.mem_append_left _ (List.mem_append_left _ (List.mem_of_getElem? (i := 10) rfl)))), nowords_in⟩, (fun _ h => List.mem_cons_of_mem _ (List.mem_append_left _ (List.mem_append_right _ (h))))⟩⟩)
set_option maxRecDepth 20000 in
theorem gX10_warned_X10_answer : GoodIn wsX10_warned (wsV RX10 181 RX10 yX10_answer wsX10_answer) := goodIn_app (goodIn_by gd_X10_warned (List.forall_mem_cons.mpr ⟨List.mem_cons_of_mem _ (List.mem_append_left _ (List.mem_append_left _ (List.mem_append_right _ (List.mem_append_right _ (List.mem_of_getElem? (i := 0) rfl))))), List.forall_mem_cons.mpr ⟨List.mem_cons_of_mem _ (List.mem_append_left _ (List.mem_append_left _ (List.mem_append_right _ (List.mem_append_right _ (List.mem_of_getElem? (i := 1) rfl))))), List.forall_mem_cons.mpr ⟨List.mem_cons_of_mem _ (List.mem_append_left _ (List.mem_append_left _ (List.mem_append_right _ (List.mem_append_right _ (List.mem_of_getElem? (i := 2) rfl))))), List.forall_mem_cons.mpr ⟨List.mem_cons_of_mem _ (List.mem_append_left _ (List.mem_append_left _ (List.mem_append_left _ (List.mem_of_getElem? (i := 4) rfl)))), nowords_in⟩⟩⟩⟩)) ggX10_warned_X10_answer
theorem dX10_warned_0 : decode cX10_warned 0 = .ok (.iload_n 1, 1) := by decide +kernel
theorem dX10_warned_1 : decode cX10_warned 1 = .ok (.iconst 0, 1) := by decide +kernel
theorem dX10_warned_2 : decode cX10_warned 2 = .ok (.iconst 1, 1) := by decide +kernel
theorem dX10_warned_3 : decode cX10_warned 3 = .ok (.invokestatic 116, 3) := by decide +kernel
theorem dX10_warned_6 : decode cX10_warned 6 = .ok (.ifCond .eq 9, 3) := by decide +kernel
theorem dX10_warned_9 : decode cX10_warned 9 = .ok (.aload_n 0, 1) := by decide +kernel
theorem dX10_warned_10 : decode cX10_warned 10 = .ok (.iconst 1, 1) := by decide +kernel
theorem dX10_warned_11 : decode cX10_warned 11 = .ok (.invokevirtual 139, 3) := by decide +kernel
theorem dX10_warned_14 : decode cX10_warned 14 = .ok (.ireturn, 1) := by decide +kernel
theorem dX10_warned_15 : decode cX10_warned 15 = .ok (.aload_n 0, 1) := by decide +kernel
theorem dX10_warned_16 : decode cX10_warned 16 = .ok (.getfield 10, 3) := by decide +kernel
theorem dX10_warned_19 : decode cX10_warned 19 = .ok (.iconst 1, 1) := by decide +kernel
theorem dX10_warned_20 : decode cX10_warned 20 = .ok (.aload_n 0, 1) := by decide +kernel
theorem dX10_warned_21 : decode cX10_warned 21 = .ok (.getfield 10, 3) := by decide +kernel
theorem dX10_warned_24 : decode cX10_warned 24 = .ok (.getfield 178, 3) := by decide +kernel
theorem dX10_warned_27 : decode cX10_warned 27 = .ok (.ishl, 1) := by decide +kernel
theorem dX10_warned_28 : decode cX10_warned 28 = .ok (.iconst 1, 1) := by decide +kernel
theorem dX10_warned_29 : decode cX10_warned 29 = .ok (.isub, 1) := by decide +kernel
theorem dX10_warned_30 : decode cX10_warned 30 = .ok (.invokevirtual 394, 3) := by decide +kernel
theorem dX10_warned_33 : decode cX10_warned 33 = .ok (.lstore_n 2, 1) := by decide +kernel
theorem dX10_warned_34 : decode cX10_warned 34 = .ok (.aload_n 0, 1) := by decide +kernel
theorem dX10_warned_35 : decode cX10_warned 35 = .ok (.iload_n 1, 1) := by decide +kernel
theorem dX10_warned_36 : decode cX10_warned 36 = .ok (.ifCond .ne 15, 3) := by decide +kernel
theorem dX10_warned_39 : decode cX10_warned 39 = .ok (.aload_n 0, 1) := by decide +kernel
theorem dX10_warned_40 : decode cX10_warned 40 = .ok (.getfield 10, 3) := by decide +kernel
theorem dX10_warned_43 : decode cX10_warned 43 = .ok (.getfield 200, 3) := by decide +kernel
theorem dX10_warned_46 : decode cX10_warned 46 = .ok (.lload_n 2, 1) := by decide +kernel
theorem dX10_warned_47 : decode cX10_warned 47 = .ok (.land, 1) := by decide +kernel
theorem dX10_warned_48 : decode cX10_warned 48 = .ok (.goto 16, 3) := by decide +kernel
theorem dX10_warned_51 : decode cX10_warned 51 = .ok (.aload_n 0, 1) := by decide +kernel
theorem dX10_warned_52 : decode cX10_warned 52 = .ok (.getfield 10, 3) := by decide +kernel
theorem dX10_warned_55 : decode cX10_warned 55 = .ok (.getfield 200, 3) := by decide +kernel
theorem dX10_warned_58 : decode cX10_warned 58 = .ok (.lload_n 2, 1) := by decide +kernel
theorem dX10_warned_59 : decode cX10_warned 59 = .ok (.ldc2_w 297, 3) := by decide +kernel
theorem dX10_warned_62 : decode cX10_warned 62 = .ok (.lxor, 1) := by decide +kernel
theorem dX10_warned_63 : decode cX10_warned 63 = .ok (.land, 1) := by decide +kernel
theorem dX10_warned_64 : decode cX10_warned 64 = .ok (.invokestatic 203, 3) := by decide +kernel
theorem dX10_warned_67 : decode cX10_warned 67 = .ok (.invokevirtual 181, 3) := by decide +kernel
theorem dX10_warned_70 : decode cX10_warned 70 = .ok (.ireturn, 1) := by decide +kernel
abbrev rmX10_warned : Room := { frames := 4, cells := 0, slots := 0, locals := 86 }
set_option maxHeartbeats 4000000 in
set_option maxRecDepth 100000 in
theorem kX10_warned (l : Launch) (D : va_G) (cy : Nat → ClassId) (h0 : Nat) (a0 : Nat → Nat) (a1 : Nat → Nat) (s0 : Rc) (s1 : Rc) (p1 : Int32) (res : Int32 × Rc) (h : fX10_warned p1 s0 s1 = some res) : CI l D cy yX10_warned wsX10_warned rmX10_warned [.ref h0, .int p1] (flat [WX10 cy h0 a0 s0, WX0 cy (a0 0) a1 s1]) (flat [WX10 cy h0 a0 res.2, WX0 cy (a0 0) a1 s1]) res.1 := by
  refine CI.of (cc := cX10_warned) (maxL := 4) (by decide) rfl (Nat.le_of_ble_eq_true rfl) ?_
  intro p e s m args below meth c A QQ ls E hr
  obtain ⟨hx, hb, hml, hown, hts, hK, hN, hP, hD, hA, hl⟩ := E
  have hret : ∀ (pc : Nat) (H : Heap) (locs : List Loc) (ls : Array Slot) (u : Int32 × Rc), u = res → va_P D vwCl (flat [WX10 cy h0 a0 u.2, WX0 cy (a0 0) a1 s1]) H → va_D A (flat [WX10 cy h0 a0 u.2, WX0 cy (a0 0) a1 s1]) → va_S A s.heap H locs → decode cX10_warned pc = .ok (.ireturn, 1) → W p l e rmX10_warned s m args below meth c H locs 0 0 QQ (F0 m pc ls [.int u.1]) := by
    intro pc H locs ls u hu hP hD hS hd; subst hu; exact hr pc H locs ls _ rfl hP hD hS hd
  clear hr
  have hl : lv_has ls 4 [(0, .ref h0), (1, .int p1)] := hl
  have hinX0 : ∀ w ∈ wsX00, w ∈ wsX10_warned := fun _ h => List.mem_cons_of_mem _ (List.mem_append_right _ h)
  have hinX10 : ∀ w ∈ wsX100, w ∈ wsX10_warned := fun _ h => List.mem_cons_of_mem _ (List.mem_append_left _ (List.mem_append_right _ h))
  unfold fX10_warned at h
  suffices key : ∀ (H : Heap) (locs : List Loc), va_P D vwCl (flat [WX10 cy h0 a0 s0, WX0 cy (a0 0) a1 s1]) H → va_S A s.heap H locs → W p l e rmX10_warned s m args below meth c H locs 0 0 QQ (F0 m 0 ls []) from key _ _ hP va_S.rf
  clear hP
  intro H locs hP hS
  have J64 : ∀ (z64_0 : Int64) (H : Heap) (locs : List Loc) (ls : Array Slot), lv_has ls 4 [] → va_P D vwCl (flat [WX10 cy h0 a0 s0, WX0 cy (a0 0) a1 s1]) H → va_D A (flat [WX10 cy h0 a0 s0, WX0 cy (a0 0) a1 s1]) → va_S A s.heap H locs → fX10_warned_J64 s0 z64_0 = some res → W p l e rmX10_warned s m args below meth c H locs 0 0 QQ (F0 m 64 ls [.long z64_0, .ref h0]) := by
    intro z64_0 H locs ls hl hP hD hS h
    unfold fX10_warned_J64 at h
    refine ca_i (w' := [WX10 cy h0 a0 s0, WX0 cy (a0 0) a1 s1]) (rn_S (As := [.long z64_0]) (rest := [.ref h0]) ⟨hx, hb, hml, hown, hts⟩ (kJ13_bitCount_95d88 l D cy z64_0 _ rfl H.size) (va_cwS 1 hts gX10_warned_J13_bitCount_95d88 rfl rfl rfl (by decide +kernel) ⟨Nat.le_of_ble_eq_true rfl, Nat.le_of_ble_eq_true rfl⟩) hK hN hP hD [] rfl rfl rfl hl.1 rfl (Nat.le_of_ble_eq_true rfl) dX10_warned_64 ⟨Nat.le_refl 0, Nat.le_refl 0⟩) hP hD hS hA [] ⟨rfl, rfl, rfl, rfl⟩ (fun H locs hP hD hS => ?_)
    obtain ⟨r1, hr1, h⟩ := lt_elim h
    refine ca_i (w' := [WX10 cy h0 a0 r1.2, WX0 cy (a0 0) a1 s1]) (rn_V (As := [.int (fJ13_bitCount_95d88 z64_0)]) (rest := []) ⟨hx, hb, hml, hown, hts⟩ (kX10_answer l D cy h0 a0 s0 (fJ13_bitCount_95d88 z64_0) r1 hr1.symm H.size) (cwV 1 hts gX10_warned_X10_answer rfl rfl rfl (by decide +kernel) ⟨Nat.le_of_ble_eq_true rfl, Nat.le_of_ble_eq_true rfl⟩) hK hN hP hD [0] rfl rfl (ci := 10) (q0 := 0) rfl rfl rfl rfl hl.1 rfl (Nat.le_of_ble_eq_true rfl) dX10_warned_67 ⟨Nat.le_refl 0, Nat.le_refl 0⟩) hP hD hS hA [0] ⟨rfl, rfl, rfl, rfl⟩ (fun H locs hP hD hS => ?_)
    exact hret 70 H locs ls (r1.1, r1.2) (Option.some.inj h) hP hD hS dX10_warned_70
  refine lv_iload_n hx hb dX10_warned_0 rfl (lv_at hl 1 rfl) ?_
  refine lv_iconst (v := 0) hx hb dX10_warned_1 (by decide) ?_
  refine lv_iconst (v := 1) hx hb dX10_warned_2 (by decide) ?_
  refine ca_z (w' := [WX10 cy h0 a0 s0, WX0 cy (a0 0) a1 s1]) (rn_S (As := [.int p1, .int (0 : Int32), .int (1 : Int32)]) (rest := []) ⟨hx, hb, hml, hown, hts⟩ (kX10_outside l D cy p1 (0 : Int32) (1 : Int32) _ rfl H.size) (va_cwS 3 hts gX10_warned_X10_outside rfl rfl rfl (by decide +kernel) ⟨Nat.le_of_ble_eq_true rfl, Nat.le_of_ble_eq_true rfl⟩) hK hN hP hD [] rfl rfl rfl hl.1 rfl (Nat.le_of_ble_eq_true rfl) dX10_warned_3 ⟨Nat.le_refl 0, Nat.le_refl 0⟩) hP hD hS hA [] ⟨rfl, rfl, rfl, rfl⟩ (fun b2 H locs hP hD hS => ?_)
  refine lv_if_eq (tgt := 15) hx hb dX10_warned_6 (by decide) (fun c3 => ?_) (fun c3 => ?_)
  · replace h := (if_pos c3).symm.trans h
    refine lv_aload_n hx hb dX10_warned_15 rfl (lv_at hl 0 rfl) ?_
    refine va_get (D := D) (ci := 10) (v := .ref (a0 0)) (C := RX10) (T := TX10) (N := 19) hx hb hts hinX10 hown hK hP 0 rfl rfl 0 (by decide) (hts (.fieldLink RX10 10 "KneeBench" "bench" "LKneeBench$Bench;") (List.mem_of_getElem? (i := 1) rfl)) (fun _ h9 => h9) rfl dX10_warned_16 ?_
    refine lv_iconst (v := 1) hx hb dX10_warned_19 (by decide) ?_
    refine lv_aload_n hx hb dX10_warned_20 rfl (lv_at hl 0 rfl) ?_
    refine va_get (D := D) (ci := 10) (v := .ref (a0 0)) (C := RX10) (T := TX10) (N := 19) hx hb hts hinX10 hown hK hP 0 rfl rfl 0 (by decide) (hts (.fieldLink RX10 10 "KneeBench" "bench" "LKneeBench$Bench;") (List.mem_of_getElem? (i := 1) rfl)) (fun _ h9 => h9) rfl dX10_warned_21 ?_
    refine va_getN (D := D) (ci := 0) (v := .int (gi s1 8)) (C := RX0) (T := TX0) (N := 14) hx hb hts hinX0 hown hK hP 1 rfl rfl 8 (by decide) (NW.fld hN 14 rfl _) (fun _ h9 => h9) rfl dX10_warned_24 ?_
    refine lv_ishl hx hb dX10_warned_27 ?_
    refine lv_iconst (v := 1) hx hb dX10_warned_28 (by decide) ?_
    refine lv_isub hx hb dX10_warned_29 ?_
    obtain ⟨r4, hr4, h⟩ := bd_elim h
    refine ca_l (w' := [WX10 cy h0 a0 s0, WX0 cy (a0 0) a1 s1]) (rn_V (As := [.int (((1 : Int32) <<< ((gi s1 8) &&& 31)) - (1 : Int32))]) (rest := []) ⟨hx, hb, hml, hown, hts⟩ (kX0_rainDaysOfSet l D cy (a0 0) a1 s1 (((1 : Int32) <<< ((gi s1 8) &&& 31)) - (1 : Int32)) r4 hr4 H.size) (cwV 1 hts gX10_warned_X0_rainDaysOfSet rfl rfl rfl (by decide +kernel) ⟨Nat.le_of_ble_eq_true rfl, Nat.le_of_ble_eq_true rfl⟩) hK hN hP hD [1] rfl rfl (ci := 0) (q0 := 1) rfl rfl rfl rfl hl.1 rfl (Nat.le_of_ble_eq_true rfl) dX10_warned_30 ⟨Nat.le_refl 0, Nat.le_refl 0⟩) hP hD hS hA [1] ⟨rfl, rfl, rfl, rfl⟩ (fun H locs hP hD hS => ?_)
    refine lv_lstore_n (lv' := [(2, .long r4), (0, .ref h0), (1, .int p1)]) hx hb dX10_warned_33 rfl hl (by decide) rfl (fun ls hl => ?_)
    refine lv_aload_n hx hb dX10_warned_34 rfl (lv_at hl 1 rfl) ?_
    refine lv_iload_n hx hb dX10_warned_35 rfl (lv_at hl 2 rfl) ?_
    refine lv_if_ne (tgt := 51) hx hb dX10_warned_36 (by decide) (fun c5 => ?_) (fun c5 => ?_)
    · replace h := (if_neg c5).symm.trans h
      refine lv_aload_n hx hb dX10_warned_51 rfl (lv_at hl 1 rfl) ?_
      refine va_get (D := D) (ci := 10) (v := .ref (a0 0)) (C := RX10) (T := TX10) (N := 19) hx hb hts hinX10 hown hK hP 0 rfl rfl 0 (by decide) (hts (.fieldLink RX10 10 "KneeBench" "bench" "LKneeBench$Bench;") (List.mem_of_getElem? (i := 1) rfl)) (fun _ h9 => h9) rfl dX10_warned_52 ?_
      refine va_getN (D := D) (ci := 0) (v := .long (gl s1 10)) (C := RX0) (T := TX0) (N := 14) hx hb hts hinX0 hown hK hP 1 rfl rfl 10 (by decide) (NW.fld hN 18 rfl _) (fun _ h9 => h9) rfl dX10_warned_55 ?_
      refine lv_lload_n hx hb dX10_warned_58 rfl (lv_at hl 0 rfl) ?_
      refine lv_ldc2 (v := -1) hx hb hown (hts (.constantLong RX10 297 (-1)) (List.mem_of_getElem? (i := 2) rfl)) dX10_warned_59 ?_
      refine lv_lxor hx hb dX10_warned_62 ?_
      refine lv_land hx hb dX10_warned_63 ?_
      exact J64 ((gl s1 10) &&& (r4 ^^^ (-1 : Int64))) H locs ls (lv_sub hl [] rfl) hP hD hS h
    · replace h := (if_pos c5).symm.trans h
      refine lv_aload_n hx hb dX10_warned_39 rfl (lv_at hl 1 rfl) ?_
      refine va_get (D := D) (ci := 10) (v := .ref (a0 0)) (C := RX10) (T := TX10) (N := 19) hx hb hts hinX10 hown hK hP 0 rfl rfl 0 (by decide) (hts (.fieldLink RX10 10 "KneeBench" "bench" "LKneeBench$Bench;") (List.mem_of_getElem? (i := 1) rfl)) (fun _ h9 => h9) rfl dX10_warned_40 ?_
      refine va_getN (D := D) (ci := 0) (v := .long (gl s1 10)) (C := RX0) (T := TX0) (N := 14) hx hb hts hinX0 hown hK hP 1 rfl rfl 10 (by decide) (NW.fld hN 18 rfl _) (fun _ h9 => h9) rfl dX10_warned_43 ?_
      refine lv_lload_n hx hb dX10_warned_46 rfl (lv_at hl 0 rfl) ?_
      refine lv_land hx hb dX10_warned_47 ?_
      refine lv_goto (tgt := 64) hx hb dX10_warned_48 (by decide) ?_
      exact J64 ((gl s1 10) &&& r4) H locs ls (lv_sub hl [] rfl) hP hD hS h
  · replace h := (if_neg c3).symm.trans h
    refine lv_aload_n hx hb dX10_warned_9 rfl (lv_at hl 0 rfl) ?_
    refine lv_iconst (v := 1) hx hb dX10_warned_10 (by decide) ?_
    obtain ⟨r6, hr6, h⟩ := lt_elim h
    refine ca_i (w' := [WX10 cy h0 a0 r6.2, WX0 cy (a0 0) a1 s1]) (rn_V (As := [.int (1 : Int32)]) (rest := []) ⟨hx, hb, hml, hown, hts⟩ (kX10_refuse l D cy h0 a0 s0 (1 : Int32) r6 hr6.symm H.size) (cwV 1 hts gX10_warned_X10_refuse rfl rfl rfl (by decide +kernel) ⟨Nat.le_of_ble_eq_true rfl, Nat.le_of_ble_eq_true rfl⟩) hK hN hP hD [0] rfl rfl (ci := 10) (q0 := 0) rfl rfl rfl rfl hl.1 rfl (Nat.le_of_ble_eq_true rfl) dX10_warned_11 ⟨Nat.le_refl 0, Nat.le_refl 0⟩) hP hD hS hA [0] ⟨rfl, rfl, rfl, rfl⟩ (fun H locs hP hD hS => ?_)
    exact hret 14 H locs ls (r6.1, r6.2) (Option.some.inj h) hP hD hS dX10_warned_14
theorem gd_X10_weather : wsX10_weather.all goodWord = true := by decide +kernel
set_option maxRecDepth 20000 in
theorem ggX10_weather_X10_noDay : GoodIn wsX10_weather wsX10_noDay := goodIn_by gd_X10_weather (List.forall_mem_cons.mpr ⟨List.mem_cons_of_mem _ (List.mem_append_left _ (List.mem_append_left _ (List.mem_of_getElem? (i := 5) rfl))), List.forall_mem_append.mpr ⟨List.forall_mem_append.mpr ⟨List.forall_mem_cons.mpr ⟨List.mem_cons_of_mem _ (List.mem_append_left _ (List.mem_append_left _ (List.mem_of_getElem? (i := 0) rfl))), nowords_in⟩, (fun _ h => List.mem_cons_of_mem _ (List.mem_append_left _ (List.mem_append_right _ (h))))⟩, (fun _ h => List.mem_cons_of_mem _ (List.mem_append_right _ (h)))⟩⟩)
set_option maxRecDepth 20000 in
theorem gX10_weather_X10_noDay : GoodIn wsX10_weather (wsV RX10 247 RX10 yX10_noDay wsX10_noDay) := goodIn_app (goodIn_by gd_X10_weather (List.forall_mem_cons.mpr ⟨List.mem_cons_of_mem _ (List.mem_append_left _ (List.mem_append_left _ (List.mem_of_getElem? (i := 1) rfl))), List.forall_mem_cons.mpr ⟨List.mem_cons_of_mem _ (List.mem_append_left _ (List.mem_append_left _ (List.mem_of_getElem? (i := 2) rfl))), List.forall_mem_cons.mpr ⟨List.mem_cons_of_mem _ (List.mem_append_left _ (List.mem_append_left _ (List.mem_of_getElem? (i := 3) rfl))), List.forall_mem_cons.mpr ⟨List.mem_cons_of_mem _ (List.mem_append_left _ (List.mem_append_left _ (List.mem_of_getElem? (i := 4) rfl))), nowords_in⟩⟩⟩⟩)) ggX10_weather_X10_noDay
set_option maxRecDepth 20000 in
theorem ggX10_weather_X10_refuse : GoodIn wsX10_weather wsX10_refuse := goodIn_by gd_X10_weather (List.forall_mem_cons.mpr ⟨List.mem_cons_of_mem _ (List.mem_append_left _ (List.mem_append_left _ (List.mem_of_getElem? (i := 9) rfl))), List.forall_mem_append.mpr ⟨List.forall_mem_cons.mpr ⟨List.mem_cons_of_mem _ (List.mem_append_left _ (List.mem_append_left _ (List.mem_of_getElem? (i := 10) rfl))), nowords_in⟩, (fun _ h => List.mem_cons_of_mem _ (List.mem_append_left _ (List.mem_append_right _ (h))))⟩⟩)
set_option maxRecDepth 20000 in
theorem gX10_weather_X10_refuse : GoodIn wsX10_weather (wsV RX10 139 RX10 yX10_refuse wsX10_refuse) := goodIn_app (goodIn_by gd_X10_weather (List.forall_mem_cons.mpr ⟨List.mem_cons_of_mem _ (List.mem_append_left _ (List.mem_append_left _ (List.mem_of_getElem? (i := 6) rfl))), List.forall_mem_cons.mpr ⟨List.mem_cons_of_mem _ (List.mem_append_left _ (List.mem_append_left _ (List.mem_of_getElem? (i := 7) rfl))), List.forall_mem_cons.mpr ⟨List.mem_cons_of_mem _ (List.mem_append_left _ (List.mem_append_left _ (List.mem_of_getElem? (i := 8) rfl))), List.forall_mem_cons.mpr ⟨List.mem_cons_of_mem _ (List.mem_append_left _ (List.mem_append_left _ (List.mem_of_getElem? (i := 4) rfl))), nowords_in⟩⟩⟩⟩)) ggX10_weather_X10_refuse
set_option maxRecDepth 20000 in
theorem ggX10_weather_X0_wetOn : GoodIn wsX10_weather wsX0_wetOn := goodIn_by gd_X10_weather (List.forall_mem_cons.mpr ⟨List.mem_cons_of_mem _ (List.mem_append_left _ (List.mem_append_left _ (List.mem_of_getElem? (i := 15) rfl))), List.forall_mem_append.mpr ⟨List.forall_mem_cons.mpr ⟨List.mem_cons_of_mem _ (List.mem_append_left _ (List.mem_append_left _ (List.mem_of_getElem? (i := 16) rfl))), nowords_in⟩, (fun _ h => List.mem_cons_of_mem _ (List.mem_append_right _ (h)))⟩⟩)
set_option maxRecDepth 20000 in
theorem gX10_weather_X0_wetOn : GoodIn wsX10_weather (wsV RX10 250 RX0 yX0_wetOn wsX0_wetOn) := goodIn_app (goodIn_by gd_X10_weather (List.forall_mem_cons.mpr ⟨List.mem_cons_of_mem _ (List.mem_append_left _ (List.mem_append_left _ (List.mem_of_getElem? (i := 11) rfl))), List.forall_mem_cons.mpr ⟨List.mem_cons_of_mem _ (List.mem_append_left _ (List.mem_append_left _ (List.mem_of_getElem? (i := 12) rfl))), List.forall_mem_cons.mpr ⟨List.mem_cons_of_mem _ (List.mem_append_left _ (List.mem_append_left _ (List.mem_of_getElem? (i := 13) rfl))), List.forall_mem_cons.mpr ⟨List.mem_cons_of_mem _ (List.mem_append_left _ (List.mem_append_left _ (List.mem_of_getElem? (i := 14) rfl))), nowords_in⟩⟩⟩⟩)) ggX10_weather_X0_wetOn
set_option maxRecDepth 20000 in
theorem ggX10_weather_X10_answer : GoodIn wsX10_weather wsX10_answer := goodIn_by gd_X10_weather (List.forall_mem_cons.mpr ⟨List.mem_cons_of_mem _ (List.mem_append_left _ (List.mem_append_left _ (List.mem_of_getElem? (i := 20) rfl))), List.forall_mem_append.mpr ⟨List.forall_mem_cons.mpr ⟨List.mem_cons_of_mem _ (List.mem_append_left _ (List.mem_append_left _ (List.mem_of_getElem? (i := 10) rfl))), nowords_in⟩, (fun _ h => List.mem_cons_of_mem _ (List.mem_append_left _ (List.mem_append_right _ (h))))⟩⟩)
set_option maxRecDepth 20000 in
theorem gX10_weather_X10_answer : GoodIn wsX10_weather (wsV RX10 181 RX10 yX10_answer wsX10_answer) := goodIn_app (goodIn_by gd_X10_weather (List.forall_mem_cons.mpr ⟨List.mem_cons_of_mem _ (List.mem_append_left _ (List.mem_append_left _ (List.mem_of_getElem? (i := 17) rfl))), List.forall_mem_cons.mpr ⟨List.mem_cons_of_mem _ (List.mem_append_left _ (List.mem_append_left _ (List.mem_of_getElem? (i := 18) rfl))), List.forall_mem_cons.mpr ⟨List.mem_cons_of_mem _ (List.mem_append_left _ (List.mem_append_left _ (List.mem_of_getElem? (i := 19) rfl))), List.forall_mem_cons.mpr ⟨List.mem_cons_of_mem _ (List.mem_append_left _ (List.mem_append_left _ (List.mem_of_getElem? (i := 4) rfl))), nowords_in⟩⟩⟩⟩)) ggX10_weather_X10_answer
theorem dX10_weather_0 : decode cX10_weather 0 = .ok (.aload_n 0, 1) := by decide +kernel
theorem dX10_weather_1 : decode cX10_weather 1 = .ok (.iload_n 1, 1) := by decide +kernel
theorem dX10_weather_2 : decode cX10_weather 2 = .ok (.invokevirtual 247, 3) := by decide +kernel
theorem dX10_weather_5 : decode cX10_weather 5 = .ok (.ifCond .eq 9, 3) := by decide +kernel
theorem dX10_weather_8 : decode cX10_weather 8 = .ok (.aload_n 0, 1) := by decide +kernel
theorem dX10_weather_9 : decode cX10_weather 9 = .ok (.iconst 1, 1) := by decide +kernel
theorem dX10_weather_10 : decode cX10_weather 10 = .ok (.invokevirtual 139, 3) := by decide +kernel
theorem dX10_weather_13 : decode cX10_weather 13 = .ok (.ireturn, 1) := by decide +kernel
theorem dX10_weather_14 : decode cX10_weather 14 = .ok (.aload_n 0, 1) := by decide +kernel
theorem dX10_weather_15 : decode cX10_weather 15 = .ok (.aload_n 0, 1) := by decide +kernel
theorem dX10_weather_16 : decode cX10_weather 16 = .ok (.getfield 10, 3) := by decide +kernel
theorem dX10_weather_19 : decode cX10_weather 19 = .ok (.iload_n 1, 1) := by decide +kernel
theorem dX10_weather_20 : decode cX10_weather 20 = .ok (.invokevirtual 250, 3) := by decide +kernel
theorem dX10_weather_23 : decode cX10_weather 23 = .ok (.aload_n 0, 1) := by decide +kernel
theorem dX10_weather_24 : decode cX10_weather 24 = .ok (.getfield 10, 3) := by decide +kernel
theorem dX10_weather_27 : decode cX10_weather 27 = .ok (.getfield 209, 3) := by decide +kernel
theorem dX10_weather_30 : decode cX10_weather 30 = .ok (.iload_n 1, 1) := by decide +kernel
theorem dX10_weather_31 : decode cX10_weather 31 = .ok (.lushr, 1) := by decide +kernel
theorem dX10_weather_32 : decode cX10_weather 32 = .ok (.lconst 1, 1) := by decide +kernel
theorem dX10_weather_33 : decode cX10_weather 33 = .ok (.land, 1) := by decide +kernel
theorem dX10_weather_34 : decode cX10_weather 34 = .ok (.l2i, 1) := by decide +kernel
theorem dX10_weather_35 : decode cX10_weather 35 = .ok (.iadd, 1) := by decide +kernel
theorem dX10_weather_36 : decode cX10_weather 36 = .ok (.invokevirtual 181, 3) := by decide +kernel
theorem dX10_weather_39 : decode cX10_weather 39 = .ok (.ireturn, 1) := by decide +kernel
abbrev rmX10_weather : Room := { frames := 1, cells := 0, slots := 0, locals := 21 }
set_option maxHeartbeats 4000000 in
set_option maxRecDepth 100000 in
theorem kX10_weather (l : Launch) (D : va_G) (cy : Nat → ClassId) (h0 : Nat) (a0 : Nat → Nat) (a1 : Nat → Nat) (s0 : Rc) (s1 : Rc) (p1 : Int32) (res : Int32 × Rc) (h : fX10_weather p1 s0 s1 = res) : CI l D cy yX10_weather wsX10_weather rmX10_weather [.ref h0, .int p1] (flat [WX10 cy h0 a0 s0, WX0 cy (a0 0) a1 s1]) (flat [WX10 cy h0 a0 res.2, WX0 cy (a0 0) a1 s1]) res.1 := by
  refine CI.of (cc := cX10_weather) (maxL := 2) (by decide) rfl (Nat.le_of_ble_eq_true rfl) ?_
  intro p e s m args below meth c A QQ ls E hr
  obtain ⟨hx, hb, hml, hown, hts, hK, hN, hP, hD, hA, hl⟩ := E
  have hret : ∀ (pc : Nat) (H : Heap) (locs : List Loc) (ls : Array Slot) (u : Int32 × Rc), u = res → va_P D vwCl (flat [WX10 cy h0 a0 u.2, WX0 cy (a0 0) a1 s1]) H → va_D A (flat [WX10 cy h0 a0 u.2, WX0 cy (a0 0) a1 s1]) → va_S A s.heap H locs → decode cX10_weather pc = .ok (.ireturn, 1) → W p l e rmX10_weather s m args below meth c H locs 0 0 QQ (F0 m pc ls [.int u.1]) := by
    intro pc H locs ls u hu hP hD hS hd; subst hu; exact hr pc H locs ls _ rfl hP hD hS hd
  clear hr
  have hl : lv_has ls 2 [(0, .ref h0), (1, .int p1)] := hl
  have hinX0 : ∀ w ∈ wsX00, w ∈ wsX10_weather := fun _ h => List.mem_cons_of_mem _ (List.mem_append_right _ h)
  have hinX10 : ∀ w ∈ wsX100, w ∈ wsX10_weather := fun _ h => List.mem_cons_of_mem _ (List.mem_append_left _ (List.mem_append_right _ h))
  unfold fX10_weather at h
  suffices key : ∀ (H : Heap) (locs : List Loc), va_P D vwCl (flat [WX10 cy h0 a0 s0, WX0 cy (a0 0) a1 s1]) H → va_S A s.heap H locs → W p l e rmX10_weather s m args below meth c H locs 0 0 QQ (F0 m 0 ls []) from key _ _ hP va_S.rf
  clear hP
  intro H locs hP hS
  refine lv_aload_n hx hb dX10_weather_0 rfl (lv_at hl 0 rfl) ?_
  refine lv_iload_n hx hb dX10_weather_1 rfl (lv_at hl 1 rfl) ?_
  refine ca_z (w' := [WX10 cy h0 a0 s0, WX0 cy (a0 0) a1 s1]) (rn_V (As := [.int p1]) (rest := []) ⟨hx, hb, hml, hown, hts⟩ (kX10_noDay l D cy h0 a0 a1 s0 s1 p1 _ rfl H.size) (cwV 1 hts gX10_weather_X10_noDay rfl rfl rfl (by decide +kernel) ⟨Nat.le_of_ble_eq_true rfl, Nat.le_of_ble_eq_true rfl⟩) hK hN hP hD [0, 1] rfl rfl (ci := 10) (q0 := 0) rfl rfl rfl rfl hl.1 rfl (Nat.le_of_ble_eq_true rfl) dX10_weather_2 ⟨Nat.le_refl 0, Nat.le_refl 0⟩) hP hD hS hA [0, 1] ⟨rfl, rfl, rfl, rfl⟩ (fun b1 H locs hP hD hS => ?_)
  refine lv_if_eq (tgt := 14) hx hb dX10_weather_5 (by decide) (fun c2 => ?_) (fun c2 => ?_)
  · replace h := (if_pos c2).symm.trans h
    refine lv_aload_n hx hb dX10_weather_14 rfl (lv_at hl 0 rfl) ?_
    refine lv_aload_n hx hb dX10_weather_15 rfl (lv_at hl 0 rfl) ?_
    refine va_get (D := D) (ci := 10) (v := .ref (a0 0)) (C := RX10) (T := TX10) (N := 19) hx hb hts hinX10 hown hK hP 0 rfl rfl 0 (by decide) (hts (.fieldLink RX10 10 "KneeBench" "bench" "LKneeBench$Bench;") (List.mem_of_getElem? (i := 1) rfl)) (fun _ h9 => h9) rfl dX10_weather_16 ?_
    refine lv_iload_n hx hb dX10_weather_19 rfl (lv_at hl 1 rfl) ?_
    refine ca_i (w' := [WX10 cy h0 a0 s0, WX0 cy (a0 0) a1 s1]) (rn_V (As := [.int p1]) (rest := [.ref h0]) ⟨hx, hb, hml, hown, hts⟩ (kX0_wetOn l D cy (a0 0) a1 s1 p1 _ rfl H.size) (cwV 1 hts gX10_weather_X0_wetOn rfl rfl rfl (by decide +kernel) ⟨Nat.le_of_ble_eq_true rfl, Nat.le_of_ble_eq_true rfl⟩) hK hN hP hD [1] rfl rfl (ci := 0) (q0 := 1) rfl rfl rfl rfl hl.1 rfl (Nat.le_of_ble_eq_true rfl) dX10_weather_20 ⟨Nat.le_refl 0, Nat.le_refl 0⟩) hP hD hS hA [1] ⟨rfl, rfl, rfl, rfl⟩ (fun H locs hP hD hS => ?_)
    refine lv_aload_n hx hb dX10_weather_23 rfl (lv_at hl 0 rfl) ?_
    refine va_get (D := D) (ci := 10) (v := .ref (a0 0)) (C := RX10) (T := TX10) (N := 19) hx hb hts hinX10 hown hK hP 0 rfl rfl 0 (by decide) (hts (.fieldLink RX10 10 "KneeBench" "bench" "LKneeBench$Bench;") (List.mem_of_getElem? (i := 1) rfl)) (fun _ h9 => h9) rfl dX10_weather_24 ?_
    refine va_getN (D := D) (ci := 0) (v := .long (gl s1 11)) (C := RX0) (T := TX0) (N := 14) hx hb hts hinX0 hown hK hP 1 rfl rfl 11 (by decide) (NW.fld hN 19 rfl _) (fun _ h9 => h9) rfl dX10_weather_27 ?_
    refine lv_iload_n hx hb dX10_weather_30 rfl (lv_at hl 1 rfl) ?_
    refine lv_lushr hx hb dX10_weather_31 rfl ?_
    refine lv_lconst (v := 1) hx hb dX10_weather_32 (by decide) ?_
    refine lv_land hx hb dX10_weather_33 ?_
    refine lv_l2i hx hb dX10_weather_34 rfl ?_
    refine lv_iadd hx hb dX10_weather_35 ?_
    obtain ⟨r3, hr3, h⟩ := lt_elim h
    refine ca_i (w' := [WX10 cy h0 a0 r3.2, WX0 cy (a0 0) a1 s1]) (rn_V (As := [.int ((fX0_wetOn p1 s1) + (((((gl s1 11).toUInt64 >>> (p1.toInt64.toUInt64 &&& Int64.toUInt64 63)).toInt64) &&& (1 : Int64)).toInt32))]) (rest := []) ⟨hx, hb, hml, hown, hts⟩ (kX10_answer l D cy h0 a0 s0 ((fX0_wetOn p1 s1) + (((((gl s1 11).toUInt64 >>> (p1.toInt64.toUInt64 &&& Int64.toUInt64 63)).toInt64) &&& (1 : Int64)).toInt32)) r3 hr3.symm H.size) (cwV 1 hts gX10_weather_X10_answer rfl rfl rfl (by decide +kernel) ⟨Nat.le_of_ble_eq_true rfl, Nat.le_of_ble_eq_true rfl⟩) hK hN hP hD [0] rfl rfl (ci := 10) (q0 := 0) rfl rfl rfl rfl hl.1 rfl (Nat.le_of_ble_eq_true rfl) dX10_weather_36 ⟨Nat.le_refl 0, Nat.le_refl 0⟩) hP hD hS hA [0] ⟨rfl, rfl, rfl, rfl⟩ (fun H locs hP hD hS => ?_)
    exact hret 39 H locs ls (r3.1, r3.2) h hP hD hS dX10_weather_39
  · replace h := (if_neg c2).symm.trans h
    refine lv_aload_n hx hb dX10_weather_8 rfl (lv_at hl 0 rfl) ?_
    refine lv_iconst (v := 1) hx hb dX10_weather_9 (by decide) ?_
    obtain ⟨r4, hr4, h⟩ := lt_elim h
    refine ca_i (w' := [WX10 cy h0 a0 r4.2, WX0 cy (a0 0) a1 s1]) (rn_V (As := [.int (1 : Int32)]) (rest := []) ⟨hx, hb, hml, hown, hts⟩ (kX10_refuse l D cy h0 a0 s0 (1 : Int32) r4 hr4.symm H.size) (cwV 1 hts gX10_weather_X10_refuse rfl rfl rfl (by decide +kernel) ⟨Nat.le_of_ble_eq_true rfl, Nat.le_of_ble_eq_true rfl⟩) hK hN hP hD [0] rfl rfl (ci := 10) (q0 := 0) rfl rfl rfl rfl hl.1 rfl (Nat.le_of_ble_eq_true rfl) dX10_weather_10 ⟨Nat.le_refl 0, Nat.le_refl 0⟩) hP hD hS hA [0] ⟨rfl, rfl, rfl, rfl⟩ (fun H locs hP hD hS => ?_)
    exact hret 13 H locs ls (r4.1, r4.2) h hP hD hS dX10_weather_13
theorem gd_X10_wedding : wsX10_wedding.all goodWord = true := by decide +kernel
set_option maxRecDepth 20000 in
theorem ggX10_wedding_X10_noSpan : GoodIn wsX10_wedding wsX10_noSpan := goodIn_by gd_X10_wedding (List.forall_mem_cons.mpr ⟨List.mem_cons_of_mem _ (List.mem_append_left _ (List.mem_append_left _ (List.mem_append_left _ (List.mem_of_getElem? (i := 4) rfl)))), List.forall_mem_cons.mpr ⟨List.mem_cons_of_mem _ (List.mem_append_left _ (List.mem_append_left _ (List.mem_append_left _ (List.mem_of_getElem? (i := 5) rfl)))), List.forall_mem_cons.mpr ⟨List.mem_cons_of_mem _ (List.mem_append_left _ (List.mem_append_left _ (List.mem_append_left _ (List.mem_of_getElem? (i := 6) rfl)))), List.forall_mem_cons.mpr ⟨List.mem_cons_of_mem _ (List.mem_append_left _ (List.mem_append_left _ (List.mem_append_left _ (List.mem_of_getElem? (i := 3) rfl)))), List.forall_mem_cons.mpr ⟨List.mem_cons_of_mem _ (List.mem_append_left _ (List.mem_append_left _ (List.mem_append_left _ (List.mem_of_getElem? (i := 7) rfl)))), List.forall_mem_cons.mpr ⟨List.mem_cons_of_mem _ (List.mem_append_left _ (List.mem_append_left _ (List.mem_append_left _ (List.mem_of_getElem? (i := 8) rfl)))), List.forall_mem_cons.mpr ⟨List.mem_cons_of_mem _ (List.mem_append_left _ (List.mem_append_left _ (List.mem_append_left _ (List.mem_of_getElem? (i := 9) rfl)))), List.forall_mem_cons.mpr ⟨List.mem_cons_of_mem _ (List.mem_append_left _ (List.mem_append_left _ (List.mem_append_left _ (List.mem_of_getElem? (i := 10) rfl)))), nowords_in⟩⟩⟩⟩⟩⟩⟩⟩)
set_option maxRecDepth 20000 in
theorem gX10_wedding_X10_noSpan : GoodIn wsX10_wedding (va_wsS RX10 341 yX10_noSpan wsX10_noSpan) := goodIn_app (goodIn_by gd_X10_wedding (List.forall_mem_cons.mpr ⟨List.mem_cons_of_mem _ (List.mem_append_left _ (List.mem_append_left _ (List.mem_append_left _ (List.mem_of_getElem? (i := 1) rfl)))), List.forall_mem_cons.mpr ⟨List.mem_cons_of_mem _ (List.mem_append_left _ (List.mem_append_left _ (List.mem_append_left _ (List.mem_of_getElem? (i := 2) rfl)))), List.forall_mem_cons.mpr ⟨List.mem_cons_of_mem _ (List.mem_append_left _ (List.mem_append_left _ (List.mem_append_left _ (List.mem_of_getElem? (i := 3) rfl)))), nowords_in⟩⟩⟩)) ggX10_wedding_X10_noSpan
set_option maxRecDepth 20000 in
theorem ggX10_wedding_X10_refuse : GoodIn wsX10_wedding wsX10_refuse := goodIn_by gd_X10_wedding (List.forall_mem_cons.mpr ⟨List.mem_cons_of_mem _ (List.mem_append_left _ (List.mem_append_left _ (List.mem_append_left _ (List.mem_of_getElem? (i := 14) rfl)))), List.forall_mem_append.mpr ⟨List.forall_mem_cons.mpr ⟨List.mem_cons_of_mem _ (List.mem_append_left _ (List.mem_append_left _ (List.mem_append_left _ (List.mem_of_getElem? (i := 15) rfl)))), nowords_in⟩, (fun _ h => List.mem_cons_of_mem _ (List.mem_append_left _ (List.mem_append_right _ (h))))⟩⟩)
set_option maxRecDepth 20000 in
theorem gX10_wedding_X10_refuse : GoodIn wsX10_wedding (wsV RX10 139 RX10 yX10_refuse wsX10_refuse) := goodIn_app (goodIn_by gd_X10_wedding (List.forall_mem_cons.mpr ⟨List.mem_cons_of_mem _ (List.mem_append_left _ (List.mem_append_left _ (List.mem_append_left _ (List.mem_of_getElem? (i := 11) rfl)))), List.forall_mem_cons.mpr ⟨List.mem_cons_of_mem _ (List.mem_append_left _ (List.mem_append_left _ (List.mem_append_left _ (List.mem_of_getElem? (i := 12) rfl)))), List.forall_mem_cons.mpr ⟨List.mem_cons_of_mem _ (List.mem_append_left _ (List.mem_append_left _ (List.mem_append_left _ (List.mem_of_getElem? (i := 13) rfl)))), List.forall_mem_cons.mpr ⟨List.mem_cons_of_mem _ (List.mem_append_left _ (List.mem_append_left _ (List.mem_append_left _ (List.mem_of_getElem? (i := 3) rfl)))), nowords_in⟩⟩⟩⟩)) ggX10_wedding_X10_refuse
set_option maxRecDepth 20000 in
theorem ggX10_wedding_X0_leaning : GoodIn wsX10_wedding wsX0_leaning := goodIn_by gd_X10_wedding (List.forall_mem_cons.mpr ⟨List.mem_cons_of_mem _ (List.mem_append_left _ (List.mem_append_left _ (List.mem_append_left _ (List.mem_of_getElem? (i := 20) rfl)))), List.forall_mem_append.mpr ⟨List.forall_mem_append.mpr ⟨List.forall_mem_cons.mpr ⟨List.mem_cons_of_mem _ (List.mem_append_left _ (List.mem_append_left _ (List.mem_append_left _ (List.mem_of_getElem? (i := 21) rfl)))), List.forall_mem_cons.mpr ⟨List.mem_cons_of_mem _ (List.mem_append_left _ (List.mem_append_left _ (List.mem_append_left _ (List.mem_of_getElem? (i := 22) rfl)))), List.forall_mem_cons.mpr ⟨List.mem_cons_of_mem _ (List.mem_append_left _ (List.mem_append_left _ (List.mem_append_left _ (List.mem_of_getElem? (i := 23) rfl)))), List.forall_mem_cons.mpr ⟨List.mem_cons_of_mem _ (List.mem_append_left _ (List.mem_append_left _ (List.mem_append_left _ (List.mem_of_getElem? (i := 19) rfl)))), List.forall_mem_cons.mpr ⟨List.mem_cons_of_mem _ (List.mem_append_left _ (List.mem_append_left _ (List.mem_append_right _ (List.mem_append_left _ (List.mem_of_getElem? (i := 0) rfl))))), List.forall_mem_cons.mpr ⟨List.mem_cons_of_mem _ (List.mem_append_left _ (List.mem_append_left _ (List.mem_append_right _ (List.mem_append_left _ (List.mem_of_getElem? (i := 1) rfl))))), List.forall_mem_cons.mpr ⟨List.mem_cons_of_mem _ (List.mem_append_left _ (List.mem_append_left _ (List.mem_append_right _ (List.mem_append_left _ (List.mem_of_getElem? (i := 2) rfl))))), List.forall_mem_cons.mpr ⟨List.mem_cons_of_mem _ (List.mem_append_left _ (List.mem_append_left _ (List.mem_append_right _ (List.mem_append_left _ (List.mem_of_getElem? (i := 3) rfl))))), List.forall_mem_cons.mpr ⟨List.mem_cons_of_mem _ (List.mem_append_left _ (List.mem_append_left _ (List.mem_append_right _ (List.mem_append_left _ (List.mem_of_getElem? (i := 4) rfl))))), List.forall_mem_cons.mpr ⟨List.mem_cons_of_mem _ (List.mem_append_left _ (List.mem_append_left _ (List.mem_append_right _ (List.mem_append_left _ (List.mem_of_getElem? (i := 5) rfl))))), List.forall_mem_cons.mpr ⟨List.mem_cons_of_mem _ (List.mem_append_left _ (List.mem_append_left _ (List.mem_append_right _ (List.mem_append_left _ (List.mem_of_getElem? (i := 6) rfl))))), List.forall_mem_cons.mpr ⟨List.mem_cons_of_mem _ (List.mem_append_left _ (List.mem_append_left _ (List.mem_append_right _ (List.mem_append_left _ (List.mem_of_getElem? (i := 7) rfl))))), List.forall_mem_cons.mpr ⟨List.mem_cons_of_mem _ (List.mem_append_left _ (List.mem_append_left _ (List.mem_append_right _ (List.mem_append_left _ (List.mem_of_getElem? (i := 8) rfl))))), List.forall_mem_cons.mpr ⟨List.mem_cons_of_mem _ (List.mem_append_left _ (List.mem_append_left _ (List.mem_append_right _ (List.mem_append_left _ (List.mem_of_getElem? (i := 9) rfl))))), List.forall_mem_cons.mpr ⟨List.mem_cons_of_mem _ (List.mem_append_left _ (List.mem_append_left _ (List.mem_append_right _ (List.mem_append_left _ (List.mem_of_getElem? (i := 10) rfl))))), List.forall_mem_cons.mpr ⟨List.mem_cons_of_mem _ (List.mem_append_left _ (List.mem_append_left _ (List.mem_append_right _ (List.mem_append_left _ (List.mem_of_getElem? (i := 11) rfl))))), List.forall_mem_cons.mpr ⟨List.mem_cons_of_mem _ (List.mem_append_left _ (List.mem_append_left _ (List.mem_append_right _ (List.mem_append_left _ (List.mem_of_getElem? (i := 12) rfl))))), List.forall_mem_cons.mpr ⟨List.mem_cons_of_mem _ (List.mem_append_left _ (List.mem_append_left _ (List.mem_append_right _ (List.mem_append_left _ (List.mem_of_getElem? (i := 13) rfl))))), List.forall_mem_cons.mpr ⟨List.mem_cons_of_mem _ (List.mem_append_left _ (List.mem_append_left _ (List.mem_append_right _ (List.mem_append_left _ (List.mem_of_getElem? (i := 14) rfl))))), List.forall_mem_cons.mpr ⟨List.mem_cons_of_mem _ (List.mem_append_left _ (List.mem_append_left _ (List.mem_append_right _ (List.mem_append_left _ (List.mem_of_getElem? (i := 15) rfl))))), List.forall_mem_cons.mpr ⟨List.mem_cons_of_mem _ (List.mem_append_left _ (List.mem_append_left _ (List.mem_append_right _ (List.mem_append_left _ (List.mem_of_getElem? (i := 16) rfl))))), List.forall_mem_cons.mpr ⟨List.mem_cons_of_mem _ (List.mem_append_left _ (List.mem_append_left _ (List.mem_append_right _ (List.mem_append_left _ (List.mem_of_getElem? (i := 17) rfl))))), List.forall_mem_cons.mpr ⟨List.mem_cons_of_mem _ (List.mem_append_left _ (List.mem_append_left _ (List.mem_append_right _ (List.mem_append_left _ (List.mem_of_getElem? (i := 18) rfl))))), List.forall_mem_cons.mpr ⟨List.mem_cons_of_mem _ (List.mem_append_left _ (List.mem_append_left _ (List.mem_append_right _ (List.mem_append_left _ (List.mem_of_getElem? (i := 19) rfl))))), nowords_in⟩⟩⟩⟩⟩⟩⟩⟩⟩⟩⟩⟩⟩⟩⟩⟩⟩⟩⟩⟩⟩⟩⟩⟩, List.forall_mem_cons.mpr ⟨List.mem_cons_of_mem _ (List.mem_append_left _ (List.mem_append_left _ (List.mem_append_right _ (List.mem_append_left _ (List.mem_of_getElem? (i := 20) rfl))))), List.forall_mem_cons.mpr ⟨List.mem_cons_of_mem _ (List.mem_append_left _ (List.mem_append_left _ (List.mem_append_right _ (List.mem_append_left _ (List.mem_of_getElem? (i := 21) rfl))))), List.forall_mem_cons.mpr ⟨List.mem_cons_of_mem _ (List.mem_append_left _ (List.mem_append_left _ (List.mem_append_right _ (List.mem_append_left _ (List.mem_of_getElem? (i := 22) rfl))))), List.forall_mem_cons.mpr ⟨List.mem_cons_of_mem _ (List.mem_append_left _ (List.mem_append_left _ (List.mem_append_right _ (List.mem_append_left _ (List.mem_of_getElem? (i := 23) rfl))))), List.forall_mem_cons.mpr ⟨List.mem_cons_of_mem _ (List.mem_append_left _ (List.mem_append_left _ (List.mem_append_right _ (List.mem_append_right _ (List.mem_of_getElem? (i := 0) rfl))))), List.forall_mem_cons.mpr ⟨List.mem_cons_of_mem _ (List.mem_append_left _ (List.mem_append_left _ (List.mem_append_right _ (List.mem_append_right _ (List.mem_of_getElem? (i := 1) rfl))))), List.forall_mem_cons.mpr ⟨List.mem_cons_of_mem _ (List.mem_append_left _ (List.mem_append_left _ (List.mem_append_right _ (List.mem_append_right _ (List.mem_of_getElem? (i := 2) rfl))))), nowords_in⟩⟩⟩⟩⟩⟩⟩⟩, (fun _ h => List.mem_cons_of_mem _ (List.mem_append_right _ (h)))⟩⟩)
set_option maxRecDepth 20000 in
theorem gX10_wedding_X0_leaning : GoodIn wsX10_wedding (wsV RX10 344 RX0 yX0_leaning wsX0_leaning) := goodIn_app (goodIn_by gd_X10_wedding (List.forall_mem_cons.mpr ⟨List.mem_cons_of_mem _ (List.mem_append_left _ (List.mem_append_left _ (List.mem_append_left _ (List.mem_of_getElem? (i := 16) rfl)))), List.forall_mem_cons.mpr ⟨List.mem_cons_of_mem _ (List.mem_append_left _ (List.mem_append_left _ (List.mem_append_left _ (List.mem_of_getElem? (i := 17) rfl)))), List.forall_mem_cons.mpr ⟨List.mem_cons_of_mem _ (List.mem_append_left _ (List.mem_append_left _ (List.mem_append_left _ (List.mem_of_getElem? (i := 18) rfl)))), List.forall_mem_cons.mpr ⟨List.mem_cons_of_mem _ (List.mem_append_left _ (List.mem_append_left _ (List.mem_append_left _ (List.mem_of_getElem? (i := 19) rfl)))), nowords_in⟩⟩⟩⟩)) ggX10_wedding_X0_leaning
set_option maxRecDepth 20000 in
theorem ggX10_wedding_X10_answer : GoodIn wsX10_wedding wsX10_answer := goodIn_by gd_X10_wedding (List.forall_mem_cons.mpr ⟨List.mem_cons_of_mem _ (List.mem_append_left _ (List.mem_append_left _ (List.mem_append_right _ (List.mem_append_right _ (List.mem_of_getElem? (i := 6) rfl))))), List.forall_mem_append.mpr ⟨List.forall_mem_cons.mpr ⟨List.mem_cons_of_mem _ (List.mem_append_left _ (List.mem_append_left _ (List.mem_append_left _ (List.mem_of_getElem? (i := 15) rfl)))), nowords_in⟩, (fun _ h => List.mem_cons_of_mem _ (List.mem_append_left _ (List.mem_append_right _ (h))))⟩⟩)
set_option maxRecDepth 20000 in
theorem gX10_wedding_X10_answer : GoodIn wsX10_wedding (wsV RX10 181 RX10 yX10_answer wsX10_answer) := goodIn_app (goodIn_by gd_X10_wedding (List.forall_mem_cons.mpr ⟨List.mem_cons_of_mem _ (List.mem_append_left _ (List.mem_append_left _ (List.mem_append_right _ (List.mem_append_right _ (List.mem_of_getElem? (i := 3) rfl))))), List.forall_mem_cons.mpr ⟨List.mem_cons_of_mem _ (List.mem_append_left _ (List.mem_append_left _ (List.mem_append_right _ (List.mem_append_right _ (List.mem_of_getElem? (i := 4) rfl))))), List.forall_mem_cons.mpr ⟨List.mem_cons_of_mem _ (List.mem_append_left _ (List.mem_append_left _ (List.mem_append_right _ (List.mem_append_right _ (List.mem_of_getElem? (i := 5) rfl))))), List.forall_mem_cons.mpr ⟨List.mem_cons_of_mem _ (List.mem_append_left _ (List.mem_append_left _ (List.mem_append_left _ (List.mem_of_getElem? (i := 3) rfl)))), nowords_in⟩⟩⟩⟩)) ggX10_wedding_X10_answer
theorem dX10_wedding_0 : decode cX10_wedding 0 = .ok (.iload_n 1, 1) := by decide +kernel
theorem dX10_wedding_1 : decode cX10_wedding 1 = .ok (.iload_n 2, 1) := by decide +kernel
theorem dX10_wedding_2 : decode cX10_wedding 2 = .ok (.invokestatic 341, 3) := by decide +kernel
theorem dX10_wedding_5 : decode cX10_wedding 5 = .ok (.ifCond .eq 9, 3) := by decide +kernel
theorem dX10_wedding_8 : decode cX10_wedding 8 = .ok (.aload_n 0, 1) := by decide +kernel
theorem dX10_wedding_9 : decode cX10_wedding 9 = .ok (.iconst 1, 1) := by decide +kernel
theorem dX10_wedding_10 : decode cX10_wedding 10 = .ok (.invokevirtual 139, 3) := by decide +kernel
theorem dX10_wedding_13 : decode cX10_wedding 13 = .ok (.ireturn, 1) := by decide +kernel
theorem dX10_wedding_14 : decode cX10_wedding 14 = .ok (.iload_n 1, 1) := by decide +kernel
theorem dX10_wedding_15 : decode cX10_wedding 15 = .ok (.istore_n 3, 1) := by decide +kernel
theorem dX10_wedding_16 : decode cX10_wedding 16 = .ok (.iload_n 1, 1) := by decide +kernel
theorem dX10_wedding_17 : decode cX10_wedding 17 = .ok (.iconst 1, 1) := by decide +kernel
theorem dX10_wedding_18 : decode cX10_wedding 18 = .ok (.iadd, 1) := by decide +kernel
theorem dX10_wedding_19 : decode cX10_wedding 19 = .ok (.istore 4, 2) := by decide +kernel
theorem dX10_wedding_21 : decode cX10_wedding 21 = .ok (.iload 4, 2) := by decide +kernel
theorem dX10_wedding_23 : decode cX10_wedding 23 = .ok (.iload_n 2, 1) := by decide +kernel
theorem dX10_wedding_24 : decode cX10_wedding 24 = .ok (.if_icmp .gt 32, 3) := by decide +kernel
theorem dX10_wedding_27 : decode cX10_wedding 27 = .ok (.aload_n 0, 1) := by decide +kernel
theorem dX10_wedding_28 : decode cX10_wedding 28 = .ok (.getfield 10, 3) := by decide +kernel
theorem dX10_wedding_31 : decode cX10_wedding 31 = .ok (.iload 4, 2) := by decide +kernel
theorem dX10_wedding_33 : decode cX10_wedding 33 = .ok (.invokevirtual 344, 3) := by decide +kernel
theorem dX10_wedding_36 : decode cX10_wedding 36 = .ok (.aload_n 0, 1) := by decide +kernel
theorem dX10_wedding_37 : decode cX10_wedding 37 = .ok (.getfield 10, 3) := by decide +kernel
theorem dX10_wedding_40 : decode cX10_wedding 40 = .ok (.iload_n 3, 1) := by decide +kernel
theorem dX10_wedding_41 : decode cX10_wedding 41 = .ok (.invokevirtual 344, 3) := by decide +kernel
theorem dX10_wedding_44 : decode cX10_wedding 44 = .ok (.if_icmp .ge 6, 3) := by decide +kernel
theorem dX10_wedding_47 : decode cX10_wedding 47 = .ok (.iload 4, 2) := by decide +kernel
theorem dX10_wedding_49 : decode cX10_wedding 49 = .ok (.istore_n 3, 1) := by decide +kernel
theorem dX10_wedding_50 : decode cX10_wedding 50 = .ok (.iinc 4 1, 3) := by decide +kernel
theorem dX10_wedding_53 : decode cX10_wedding 53 = .ok (.goto (-32), 3) := by decide +kernel
theorem dX10_wedding_56 : decode cX10_wedding 56 = .ok (.aload_n 0, 1) := by decide +kernel
theorem dX10_wedding_57 : decode cX10_wedding 57 = .ok (.iload_n 3, 1) := by decide +kernel
theorem dX10_wedding_58 : decode cX10_wedding 58 = .ok (.invokevirtual 181, 3) := by decide +kernel
theorem dX10_wedding_61 : decode cX10_wedding 61 = .ok (.ireturn, 1) := by decide +kernel
abbrev rmX10_wedding : Room := { frames := 4, cells := 0, slots := 0, locals := 90 }
set_option maxHeartbeats 4000000 in
set_option maxRecDepth 100000 in
theorem kX10_wedding (l : Launch) (D : va_G) (cy : Nat → ClassId) (h0 : Nat) (a0 : Nat → Nat) (a1 : Nat → Nat) (s0 : Rc) (s1 : Rc) (p1 : Int32) (p2 : Int32) (res : Int32 × Rc) (h : fX10_wedding p1 p2 s0 s1 = some res) : CI l D cy yX10_wedding wsX10_wedding rmX10_wedding [.ref h0, .int p1, .int p2] (flat [WX10 cy h0 a0 s0, WX0 cy (a0 0) a1 s1]) (flat [WX10 cy h0 a0 res.2, WX0 cy (a0 0) a1 s1]) res.1 := by
  refine CI.of (cc := cX10_wedding) (maxL := 5) (by decide) rfl (Nat.le_of_ble_eq_true rfl) ?_
  intro p e s m args below meth c A QQ ls E hr
  obtain ⟨hx, hb, hml, hown, hts, hK, hN, hP, hD, hA, hl⟩ := E
  have hret : ∀ (pc : Nat) (H : Heap) (locs : List Loc) (ls : Array Slot) (u : Int32 × Rc), u = res → va_P D vwCl (flat [WX10 cy h0 a0 u.2, WX0 cy (a0 0) a1 s1]) H → va_D A (flat [WX10 cy h0 a0 u.2, WX0 cy (a0 0) a1 s1]) → va_S A s.heap H locs → decode cX10_wedding pc = .ok (.ireturn, 1) → W p l e rmX10_wedding s m args below meth c H locs 0 0 QQ (F0 m pc ls [.int u.1]) := by
    intro pc H locs ls u hu hP hD hS hd; subst hu; exact hr pc H locs ls _ rfl hP hD hS hd
  clear hr
  have hl : lv_has ls 5 [(0, .ref h0), (1, .int p1), (2, .int p2)] := hl
  have hinX10 : ∀ w ∈ wsX100, w ∈ wsX10_wedding := fun _ h => List.mem_cons_of_mem _ (List.mem_append_left _ (List.mem_append_right _ h))
  unfold fX10_wedding at h
  suffices key : ∀ (H : Heap) (locs : List Loc), va_P D vwCl (flat [WX10 cy h0 a0 s0, WX0 cy (a0 0) a1 s1]) H → va_S A s.heap H locs → W p l e rmX10_wedding s m args below meth c H locs 0 0 QQ (F0 m 0 ls []) from key _ _ hP va_S.rf
  clear hP
  intro H locs hP hS
  refine lv_iload_n hx hb dX10_wedding_0 rfl (lv_at hl 1 rfl) ?_
  refine lv_iload_n hx hb dX10_wedding_1 rfl (lv_at hl 2 rfl) ?_
  refine ca_z (w' := [WX10 cy h0 a0 s0, WX0 cy (a0 0) a1 s1]) (rn_S (As := [.int p1, .int p2]) (rest := []) ⟨hx, hb, hml, hown, hts⟩ (kX10_noSpan l D cy p1 p2 _ rfl H.size) (va_cwS 2 hts gX10_wedding_X10_noSpan rfl rfl rfl (by decide +kernel) ⟨Nat.le_of_ble_eq_true rfl, Nat.le_of_ble_eq_true rfl⟩) hK hN hP hD [] rfl rfl rfl hl.1 rfl (Nat.le_of_ble_eq_true rfl) dX10_wedding_2 ⟨Nat.le_refl 0, Nat.le_refl 0⟩) hP hD hS hA [] ⟨rfl, rfl, rfl, rfl⟩ (fun b1 H locs hP hD hS => ?_)
  refine lv_if_eq (tgt := 14) hx hb dX10_wedding_5 (by decide) (fun c2 => ?_) (fun c2 => ?_)
  · replace h := (if_pos c2).symm.trans h
    refine lv_iload_n hx hb dX10_wedding_14 rfl (lv_at hl 1 rfl) ?_
    refine lv_istore_n (lv' := [(3, .int p1), (0, .ref h0), (1, .int p1), (2, .int p2)]) hx hb dX10_wedding_15 rfl hl (by decide) rfl (fun ls hl => ?_)
    refine lv_iload_n hx hb dX10_wedding_16 rfl (lv_at hl 2 rfl) ?_
    refine lv_iconst (v := 1) hx hb dX10_wedding_17 (by decide) ?_
    refine lv_iadd hx hb dX10_wedding_18 ?_
    refine lv_topi (fun x3 ex3 => ?_)
    replace h := lt_use h x3 ex3
    refine lv_istore (lv' := [(4, .int x3), (3, .int p1), (0, .ref h0), (1, .int p1), (2, .int p2)]) hx hb dX10_wedding_19 hl (by decide) rfl (fun ls hl => ?_)
    have L21 : ∀ (n : Nat) (q21 : Int32 × Int32) (o : Int32), loopO (fX10_wedding_L21 p2 s1) n q21 = some o → ∀ (H : Heap) (locs : List Loc) (ls : Array Slot), lv_has ls 5 [(0, .ref h0), (2, .int p2), (3, .int q21.1), (4, .int q21.2)] → va_P D vwCl (flat [WX10 cy h0 a0 s0, WX0 cy (a0 0) a1 s1]) H → va_D A (flat [WX10 cy h0 a0 s0, WX0 cy (a0 0) a1 s1]) → va_S A s.heap H locs → ∀ (kk56 : ∀ (H : Heap) (locs : List Loc) (ls : Array Slot), lv_has ls 5 [(0, .ref h0), (3, .int o)] → va_P D vwCl (flat [WX10 cy h0 a0 s0, WX0 cy (a0 0) a1 s1]) H → va_D A (flat [WX10 cy h0 a0 s0, WX0 cy (a0 0) a1 s1]) → va_S A s.heap H locs → W p l e rmX10_wedding s m args below meth c H locs 0 0 QQ (F0 m 56 ls [])), W p l e rmX10_wedding s m args below meth c H locs 0 0 QQ (F0 m 21 ls []) := by
      intro n
      induction n with
      | zero => intro q21 o h; exact absurd h (by rw [loopO_zero]; intro z; cases z)
      | succ n ih =>
        intro q21 o h H locs ls hl hP hD hS kk56
        obtain ⟨w, h, hgo, hst⟩ := loopO_elim h
        unfold fX10_wedding_L21 at h
        refine lv_iload hx hb dX10_wedding_21 (lv_at hl 3 rfl) ?_
        refine lv_iload_n hx hb dX10_wedding_23 rfl (lv_at hl 1 rfl) ?_
        refine lv_icmp_gt (tgt := 56) hx hb dX10_wedding_24 (by decide) (fun c4 => ?_) (fun c4 => ?_)
        · replace h := (if_pos c4).symm.trans h
          have eo := hst _ (Option.some.inj h).symm
          subst eo
          exact kk56 H locs ls (lv_sub hl [0, 2] rfl) hP hD hS
        · replace h := (if_neg c4).symm.trans h
          refine lv_aload_n hx hb dX10_wedding_27 rfl (lv_at hl 0 rfl) ?_
          refine va_get (D := D) (ci := 10) (v := .ref (a0 0)) (C := RX10) (T := TX10) (N := 19) hx hb hts hinX10 hown hK hP 0 rfl rfl 0 (by decide) (hts (.fieldLink RX10 10 "KneeBench" "bench" "LKneeBench$Bench;") (List.mem_of_getElem? (i := 1) rfl)) (fun _ h9 => h9) rfl dX10_wedding_28 ?_
          refine lv_iload hx hb dX10_wedding_31 (lv_at hl 3 rfl) ?_
          obtain ⟨r5, hr5, h⟩ := bd_elim h
          refine ca_i (w' := [WX10 cy h0 a0 s0, WX0 cy (a0 0) a1 s1]) (rn_V (As := [.int q21.2]) (rest := []) ⟨hx, hb, hml, hown, hts⟩ (kX0_leaning l D cy (a0 0) a1 s1 q21.2 r5 hr5 H.size) (cwV 1 hts gX10_wedding_X0_leaning rfl rfl rfl (by decide +kernel) ⟨Nat.le_of_ble_eq_true rfl, Nat.le_of_ble_eq_true rfl⟩) hK hN hP hD [1] rfl rfl (ci := 0) (q0 := 1) rfl rfl rfl rfl hl.1 rfl (Nat.le_of_ble_eq_true rfl) dX10_wedding_33 ⟨Nat.le_refl 0, Nat.le_refl 0⟩) hP hD hS hA [1] ⟨rfl, rfl, rfl, rfl⟩ (fun H locs hP hD hS => ?_)
          refine lv_aload_n hx hb dX10_wedding_36 rfl (lv_at hl 0 rfl) ?_
          refine va_get (D := D) (ci := 10) (v := .ref (a0 0)) (C := RX10) (T := TX10) (N := 19) hx hb hts hinX10 hown hK hP 0 rfl rfl 0 (by decide) (hts (.fieldLink RX10 10 "KneeBench" "bench" "LKneeBench$Bench;") (List.mem_of_getElem? (i := 1) rfl)) (fun _ h9 => h9) rfl dX10_wedding_37 ?_
          refine lv_iload_n hx hb dX10_wedding_40 rfl (lv_at hl 2 rfl) ?_
          obtain ⟨r6, hr6, h⟩ := bd_elim h
          refine ca_i (w' := [WX10 cy h0 a0 s0, WX0 cy (a0 0) a1 s1]) (rn_V (As := [.int q21.1]) (rest := [.int r5]) ⟨hx, hb, hml, hown, hts⟩ (kX0_leaning l D cy (a0 0) a1 s1 q21.1 r6 hr6 H.size) (cwV 1 hts gX10_wedding_X0_leaning rfl rfl rfl (by decide +kernel) ⟨Nat.le_of_ble_eq_true rfl, Nat.le_of_ble_eq_true rfl⟩) hK hN hP hD [1] rfl rfl (ci := 0) (q0 := 1) rfl rfl rfl rfl hl.1 rfl (Nat.le_of_ble_eq_true rfl) dX10_wedding_41 ⟨Nat.le_refl 0, Nat.le_refl 0⟩) hP hD hS hA [1] ⟨rfl, rfl, rfl, rfl⟩ (fun H locs hP hD hS => ?_)
          refine lv_icmp_ge (tgt := 50) hx hb dX10_wedding_44 (by decide) (fun c7 => ?_) (fun c7 => ?_)
          · replace h := (if_pos c7).symm.trans h
            refine lv_iinc (v := (q21.2 + (1 : Int32))) (lv' := [(4, .int (q21.2 + (1 : Int32))), (0, .ref h0), (2, .int p2), (3, .int q21.1)]) hx hb dX10_wedding_50 hl (k := 3) rfl rfl (by decide) rfl (fun ls hl => ?_)
            refine lv_goto (tgt := 21) hx hb dX10_wedding_53 (by decide) ?_
            exact ih _ o (hgo _ (Option.some.inj h).symm) H locs ls (lv_sub hl [1, 2, 3, 0] rfl) hP hD hS kk56
          · replace h := (if_neg c7).symm.trans h
            refine lv_iload hx hb dX10_wedding_47 (lv_at hl 3 rfl) ?_
            refine lv_istore_n (lv' := [(3, .int q21.2), (0, .ref h0), (2, .int p2), (4, .int q21.2)]) hx hb dX10_wedding_49 rfl hl (by decide) rfl (fun ls hl => ?_)
            refine lv_iinc (v := (q21.2 + (1 : Int32))) (lv' := [(4, .int (q21.2 + (1 : Int32))), (3, .int q21.2), (0, .ref h0), (2, .int p2)]) hx hb dX10_wedding_50 hl (k := 3) rfl rfl (by decide) rfl (fun ls hl => ?_)
            refine lv_goto (tgt := 21) hx hb dX10_wedding_53 (by decide) ?_
            exact ih _ o (hgo _ (Option.some.inj h).symm) H locs ls (lv_sub hl [2, 3, 1, 0] rfl) hP hD hS kk56
    obtain ⟨o21, ho21, h⟩ := bd_elim h
    obtain ⟨n21, hn21⟩ := loopF_some ho21
    refine L21 n21 _ o21 hn21 H locs ls (lv_sub hl [2, 4, 1, 0] rfl) hP hD hS (fun H locs ls hl hP hD hS => ?_)
    refine lv_aload_n hx hb dX10_wedding_56 rfl (lv_at hl 0 rfl) ?_
    refine lv_iload_n hx hb dX10_wedding_57 rfl (lv_at hl 1 rfl) ?_
    obtain ⟨r8, hr8, h⟩ := lt_elim h
    refine ca_i (w' := [WX10 cy h0 a0 r8.2, WX0 cy (a0 0) a1 s1]) (rn_V (As := [.int o21]) (rest := []) ⟨hx, hb, hml, hown, hts⟩ (kX10_answer l D cy h0 a0 s0 o21 r8 hr8.symm H.size) (cwV 1 hts gX10_wedding_X10_answer rfl rfl rfl (by decide +kernel) ⟨Nat.le_of_ble_eq_true rfl, Nat.le_of_ble_eq_true rfl⟩) hK hN hP hD [0] rfl rfl (ci := 10) (q0 := 0) rfl rfl rfl rfl hl.1 rfl (Nat.le_of_ble_eq_true rfl) dX10_wedding_58 ⟨Nat.le_refl 0, Nat.le_refl 0⟩) hP hD hS hA [0] ⟨rfl, rfl, rfl, rfl⟩ (fun H locs hP hD hS => ?_)
    exact hret 61 H locs ls (r8.1, r8.2) (Option.some.inj h) hP hD hS dX10_wedding_61
  · replace h := (if_neg c2).symm.trans h
    refine lv_aload_n hx hb dX10_wedding_8 rfl (lv_at hl 0 rfl) ?_
    refine lv_iconst (v := 1) hx hb dX10_wedding_9 (by decide) ?_
    obtain ⟨r9, hr9, h⟩ := lt_elim h
    refine ca_i (w' := [WX10 cy h0 a0 r9.2, WX0 cy (a0 0) a1 s1]) (rn_V (As := [.int (1 : Int32)]) (rest := []) ⟨hx, hb, hml, hown, hts⟩ (kX10_refuse l D cy h0 a0 s0 (1 : Int32) r9 hr9.symm H.size) (cwV 1 hts gX10_wedding_X10_refuse rfl rfl rfl (by decide +kernel) ⟨Nat.le_of_ble_eq_true rfl, Nat.le_of_ble_eq_true rfl⟩) hK hN hP hD [0] rfl rfl (ci := 10) (q0 := 0) rfl rfl rfl rfl hl.1 rfl (Nat.le_of_ble_eq_true rfl) dX10_wedding_10 ⟨Nat.le_refl 0, Nat.le_refl 0⟩) hP hD hS hA [0] ⟨rfl, rfl, rfl, rfl⟩ (fun H locs hP hD hS => ?_)
    exact hret 13 H locs ls (r9.1, r9.2) (Option.some.inj h) hP hD hS dX10_wedding_13
theorem gd_X10_weigh : wsX10_weigh.all goodWord = true := by decide +kernel
set_option maxRecDepth 20000 in
theorem ggX10_weigh_X10_noFarmer : GoodIn wsX10_weigh wsX10_noFarmer := goodIn_by gd_X10_weigh (List.forall_mem_cons.mpr ⟨List.mem_cons_of_mem _ (List.mem_append_left _ (List.mem_append_left _ (List.mem_of_getElem? (i := 5) rfl))), List.forall_mem_append.mpr ⟨List.forall_mem_append.mpr ⟨List.forall_mem_cons.mpr ⟨List.mem_cons_of_mem _ (List.mem_append_left _ (List.mem_append_left _ (List.mem_of_getElem? (i := 0) rfl))), List.forall_mem_cons.mpr ⟨List.mem_cons_of_mem _ (List.mem_append_left _ (List.mem_append_left _ (List.mem_of_getElem? (i := 6) rfl))), List.forall_mem_cons.mpr ⟨List.mem_cons_of_mem _ (List.mem_append_left _ (List.mem_append_left _ (List.mem_of_getElem? (i := 7) rfl))), List.forall_mem_cons.mpr ⟨List.mem_cons_of_mem _ (List.mem_append_left _ (List.mem_append_left _ (List.mem_of_getElem? (i := 8) rfl))), List.forall_mem_cons.mpr ⟨List.mem_cons_of_mem _ (List.mem_append_left _ (List.mem_append_left _ (List.mem_of_getElem? (i := 9) rfl))), List.forall_mem_cons.mpr ⟨List.mem_cons_of_mem _ (List.mem_append_left _ (List.mem_append_left _ (List.mem_of_getElem? (i := 10) rfl))), List.forall_mem_cons.mpr ⟨List.mem_cons_of_mem _ (List.mem_append_left _ (List.mem_append_left _ (List.mem_of_getElem? (i := 11) rfl))), nowords_in⟩⟩⟩⟩⟩⟩⟩, (fun _ h => List.mem_cons_of_mem _ (List.mem_append_left _ (List.mem_append_right _ (h))))⟩, (fun _ h => List.mem_cons_of_mem _ (List.mem_append_right _ (h)))⟩⟩)
set_option maxRecDepth 20000 in
theorem gX10_weigh_X10_noFarmer : GoodIn wsX10_weigh (wsV RX10 215 RX10 yX10_noFarmer wsX10_noFarmer) := goodIn_app (goodIn_by gd_X10_weigh (List.forall_mem_cons.mpr ⟨List.mem_cons_of_mem _ (List.mem_append_left _ (List.mem_append_left _ (List.mem_of_getElem? (i := 1) rfl))), List.forall_mem_cons.mpr ⟨List.mem_cons_of_mem _ (List.mem_append_left _ (List.mem_append_left _ (List.mem_of_getElem? (i := 2) rfl))), List.forall_mem_cons.mpr ⟨List.mem_cons_of_mem _ (List.mem_append_left _ (List.mem_append_left _ (List.mem_of_getElem? (i := 3) rfl))), List.forall_mem_cons.mpr ⟨List.mem_cons_of_mem _ (List.mem_append_left _ (List.mem_append_left _ (List.mem_of_getElem? (i := 4) rfl))), nowords_in⟩⟩⟩⟩)) ggX10_weigh_X10_noFarmer
set_option maxRecDepth 20000 in
theorem ggX10_weigh_X10_outside : GoodIn wsX10_weigh wsX10_outside := goodIn_by gd_X10_weigh (List.forall_mem_cons.mpr ⟨List.mem_cons_of_mem _ (List.mem_append_left _ (List.mem_append_left _ (List.mem_of_getElem? (i := 14) rfl))), nowords_in⟩)
set_option maxRecDepth 20000 in
theorem gX10_weigh_X10_outside : GoodIn wsX10_weigh (va_wsS RX10 116 yX10_outside wsX10_outside) := goodIn_app (goodIn_by gd_X10_weigh (List.forall_mem_cons.mpr ⟨List.mem_cons_of_mem _ (List.mem_append_left _ (List.mem_append_left _ (List.mem_of_getElem? (i := 12) rfl))), List.forall_mem_cons.mpr ⟨List.mem_cons_of_mem _ (List.mem_append_left _ (List.mem_append_left _ (List.mem_of_getElem? (i := 13) rfl))), List.forall_mem_cons.mpr ⟨List.mem_cons_of_mem _ (List.mem_append_left _ (List.mem_append_left _ (List.mem_of_getElem? (i := 4) rfl))), nowords_in⟩⟩⟩)) ggX10_weigh_X10_outside
set_option maxRecDepth 20000 in
theorem ggX10_weigh_X10_deny : GoodIn wsX10_weigh wsX10_deny := goodIn_by gd_X10_weigh (List.forall_mem_cons.mpr ⟨List.mem_cons_of_mem _ (List.mem_append_left _ (List.mem_append_left _ (List.mem_of_getElem? (i := 18) rfl))), List.forall_mem_append.mpr ⟨List.forall_mem_cons.mpr ⟨List.mem_cons_of_mem _ (List.mem_append_left _ (List.mem_append_left _ (List.mem_of_getElem? (i := 19) rfl))), nowords_in⟩, (fun _ h => List.mem_cons_of_mem _ (List.mem_append_left _ (List.mem_append_right _ (h))))⟩⟩)
set_option maxRecDepth 20000 in
theorem gX10_weigh_X10_deny : GoodIn wsX10_weigh (wsV RX10 120 RX10 yX10_deny wsX10_deny) := goodIn_app (goodIn_by gd_X10_weigh (List.forall_mem_cons.mpr ⟨List.mem_cons_of_mem _ (List.mem_append_left _ (List.mem_append_left _ (List.mem_of_getElem? (i := 15) rfl))), List.forall_mem_cons.mpr ⟨List.mem_cons_of_mem _ (List.mem_append_left _ (List.mem_append_left _ (List.mem_of_getElem? (i := 16) rfl))), List.forall_mem_cons.mpr ⟨List.mem_cons_of_mem _ (List.mem_append_left _ (List.mem_append_left _ (List.mem_of_getElem? (i := 17) rfl))), List.forall_mem_cons.mpr ⟨List.mem_cons_of_mem _ (List.mem_append_left _ (List.mem_append_left _ (List.mem_of_getElem? (i := 4) rfl))), nowords_in⟩⟩⟩⟩)) ggX10_weigh_X10_deny
set_option maxRecDepth 20000 in
theorem ggX10_weigh_X10_allow : GoodIn wsX10_weigh wsX10_allow := goodIn_by gd_X10_weigh (List.forall_mem_cons.mpr ⟨List.mem_cons_of_mem _ (List.mem_append_left _ (List.mem_append_left _ (List.mem_of_getElem? (i := 23) rfl))), List.forall_mem_append.mpr ⟨List.forall_mem_cons.mpr ⟨List.mem_cons_of_mem _ (List.mem_append_left _ (List.mem_append_left _ (List.mem_of_getElem? (i := 19) rfl))), nowords_in⟩, (fun _ h => List.mem_cons_of_mem _ (List.mem_append_left _ (List.mem_append_right _ (h))))⟩⟩)
set_option maxRecDepth 20000 in
theorem gX10_weigh_X10_allow : GoodIn wsX10_weigh (wsV RX10 127 RX10 yX10_allow wsX10_allow) := goodIn_app (goodIn_by gd_X10_weigh (List.forall_mem_cons.mpr ⟨List.mem_cons_of_mem _ (List.mem_append_left _ (List.mem_append_left _ (List.mem_of_getElem? (i := 20) rfl))), List.forall_mem_cons.mpr ⟨List.mem_cons_of_mem _ (List.mem_append_left _ (List.mem_append_left _ (List.mem_of_getElem? (i := 21) rfl))), List.forall_mem_cons.mpr ⟨List.mem_cons_of_mem _ (List.mem_append_left _ (List.mem_append_left _ (List.mem_of_getElem? (i := 22) rfl))), List.forall_mem_cons.mpr ⟨List.mem_cons_of_mem _ (List.mem_append_left _ (List.mem_append_left _ (List.mem_of_getElem? (i := 4) rfl))), nowords_in⟩⟩⟩⟩)) ggX10_weigh_X10_allow
theorem dX10_weigh_0 : decode cX10_weigh 0 = .ok (.aload_n 0, 1) := by decide +kernel
theorem dX10_weigh_1 : decode cX10_weigh 1 = .ok (.iload_n 1, 1) := by decide +kernel
theorem dX10_weigh_2 : decode cX10_weigh 2 = .ok (.invokevirtual 215, 3) := by decide +kernel
theorem dX10_weigh_5 : decode cX10_weigh 5 = .ok (.ifCond .ne 13, 3) := by decide +kernel
theorem dX10_weigh_8 : decode cX10_weigh 8 = .ok (.iload_n 2, 1) := by decide +kernel
theorem dX10_weigh_9 : decode cX10_weigh 9 = .ok (.iconst 1, 1) := by decide +kernel
theorem dX10_weigh_10 : decode cX10_weigh 10 = .ok (.bipush 64, 2) := by decide +kernel
theorem dX10_weigh_12 : decode cX10_weigh 12 = .ok (.invokestatic 116, 3) := by decide +kernel
theorem dX10_weigh_15 : decode cX10_weigh 15 = .ok (.ifCond .eq 9, 3) := by decide +kernel
theorem dX10_weigh_18 : decode cX10_weigh 18 = .ok (.aload_n 0, 1) := by decide +kernel
theorem dX10_weigh_19 : decode cX10_weigh 19 = .ok (.iconst 1, 1) := by decide +kernel
theorem dX10_weigh_20 : decode cX10_weigh 20 = .ok (.invokevirtual 120, 3) := by decide +kernel
theorem dX10_weigh_23 : decode cX10_weigh 23 = .ok (.ireturn, 1) := by decide +kernel
theorem dX10_weigh_24 : decode cX10_weigh 24 = .ok (.aload_n 0, 1) := by decide +kernel
theorem dX10_weigh_25 : decode cX10_weigh 25 = .ok (.getfield 10, 3) := by decide +kernel
theorem dX10_weigh_28 : decode cX10_weigh 28 = .ok (.getfield 237, 3) := by decide +kernel
theorem dX10_weigh_31 : decode cX10_weigh 31 = .ok (.iload_n 1, 1) := by decide +kernel
theorem dX10_weigh_32 : decode cX10_weigh 32 = .ok (.iload_n 2, 1) := by decide +kernel
theorem dX10_weigh_33 : decode cX10_weigh 33 = .ok (.iastore, 1) := by decide +kernel
theorem dX10_weigh_34 : decode cX10_weigh 34 = .ok (.aload_n 0, 1) := by decide +kernel
theorem dX10_weigh_35 : decode cX10_weigh 35 = .ok (.invokevirtual 127, 3) := by decide +kernel
theorem dX10_weigh_38 : decode cX10_weigh 38 = .ok (.ireturn, 1) := by decide +kernel
abbrev rmX10_weigh : Room := { frames := 2, cells := 0, slots := 0, locals := 42 }
set_option maxHeartbeats 4000000 in
set_option maxRecDepth 100000 in
theorem kX10_weigh (l : Launch) (D : va_G) (cy : Nat → ClassId) (h0 : Nat) (a0 : Nat → Nat) (a1 : Nat → Nat) (s0 : Rc) (s1 : Rc) (p1 : Int32) (p2 : Int32) (res : Int32 × Rc × Rc) (h : fX10_weigh p1 p2 s0 s1 = some res) : CZ l D cy yX10_weigh wsX10_weigh rmX10_weigh [.ref h0, .int p1, .int p2] (flat [WX10 cy h0 a0 s0, WX0 cy (a0 0) a1 s1]) (flat [WX10 cy h0 a0 res.2.1, WX0 cy (a0 0) a1 res.2.2]) res.1 := by
  refine CZ.of (cc := cX10_weigh) (maxL := 3) (by decide) rfl (Nat.le_of_ble_eq_true rfl) ?_
  intro p e s m args below meth c A QQ ls E hr
  obtain ⟨hx, hb, hml, hown, hts, hK, hN, hP, hD, hA, hl⟩ := E
  have hret : ∀ (pc : Nat) (H : Heap) (locs : List Loc) (ls : Array Slot) (u : Int32 × Rc × Rc), u = res → va_P D vwCl (flat [WX10 cy h0 a0 u.2.1, WX0 cy (a0 0) a1 u.2.2]) H → va_D A (flat [WX10 cy h0 a0 u.2.1, WX0 cy (a0 0) a1 u.2.2]) → va_S A s.heap H locs → isb u.1 = true → decode cX10_weigh pc = .ok (.ireturn, 1) → W p l e rmX10_weigh s m args below meth c H locs 0 0 QQ (F0 m pc ls [.int u.1]) := by
    intro pc H locs ls u hu hP hD hS hz hd; subst hu; exact hr pc H locs ls _ rfl hP hD hS hz hd
  clear hr
  have hl : lv_has ls 3 [(0, .ref h0), (1, .int p1), (2, .int p2)] := hl
  have hinX0 : ∀ w ∈ wsX00, w ∈ wsX10_weigh := fun _ h => List.mem_cons_of_mem _ (List.mem_append_right _ h)
  have hinX10 : ∀ w ∈ wsX100, w ∈ wsX10_weigh := fun _ h => List.mem_cons_of_mem _ (List.mem_append_left _ (List.mem_append_right _ h))
  unfold fX10_weigh at h
  suffices key : ∀ (H : Heap) (locs : List Loc), va_P D vwCl (flat [WX10 cy h0 a0 s0, WX0 cy (a0 0) a1 s1]) H → va_S A s.heap H locs → W p l e rmX10_weigh s m args below meth c H locs 0 0 QQ (F0 m 0 ls []) from key _ _ hP va_S.rf
  clear hP
  intro H locs hP hS
  refine lv_aload_n hx hb dX10_weigh_0 rfl (lv_at hl 0 rfl) ?_
  refine lv_iload_n hx hb dX10_weigh_1 rfl (lv_at hl 1 rfl) ?_
  refine ca_z (w' := [WX10 cy h0 a0 s0, WX0 cy (a0 0) a1 s1]) (rn_V (As := [.int p1]) (rest := []) ⟨hx, hb, hml, hown, hts⟩ (kX10_noFarmer l D cy h0 a0 a1 s0 s1 p1 _ rfl H.size) (cwV 1 hts gX10_weigh_X10_noFarmer rfl rfl rfl (by decide +kernel) ⟨Nat.le_of_ble_eq_true rfl, Nat.le_of_ble_eq_true rfl⟩) hK hN hP hD [0, 1] rfl rfl (ci := 10) (q0 := 0) rfl rfl rfl rfl hl.1 rfl (Nat.le_of_ble_eq_true rfl) dX10_weigh_2 ⟨Nat.le_refl 0, Nat.le_refl 0⟩) hP hD hS hA [0, 1] ⟨rfl, rfl, rfl, rfl⟩ (fun b1 H locs hP hD hS => ?_)
  refine lv_if_ne (tgt := 18) hx hb dX10_weigh_5 (by decide) (fun c2 => ?_) (fun c2 => ?_)
  · replace h := (if_neg c2).symm.trans h
    refine lv_aload_n hx hb dX10_weigh_18 rfl (lv_at hl 0 rfl) ?_
    refine lv_iconst (v := 1) hx hb dX10_weigh_19 (by decide) ?_
    obtain ⟨r3, hr3, h⟩ := lt_elim h
    refine ca_z (w' := [WX10 cy h0 a0 r3.2, WX0 cy (a0 0) a1 s1]) (rn_V (As := [.int (1 : Int32)]) (rest := []) ⟨hx, hb, hml, hown, hts⟩ (kX10_deny l D cy h0 a0 s0 (1 : Int32) r3 hr3.symm H.size) (cwV 1 hts gX10_weigh_X10_deny rfl rfl rfl (by decide +kernel) ⟨Nat.le_of_ble_eq_true rfl, Nat.le_of_ble_eq_true rfl⟩) hK hN hP hD [0] rfl rfl (ci := 10) (q0 := 0) rfl rfl rfl rfl hl.1 rfl (Nat.le_of_ble_eq_true rfl) dX10_weigh_20 ⟨Nat.le_refl 0, Nat.le_refl 0⟩) hP hD hS hA [0] ⟨rfl, rfl, rfl, rfl⟩ (fun b4 H locs hP hD hS => ?_)
    exact hret 23 H locs ls (r3.1, r3.2, s1) (Option.some.inj h) hP hD hS b4 dX10_weigh_23
  · replace h := (if_pos c2).symm.trans h
    refine lv_iload_n hx hb dX10_weigh_8 rfl (lv_at hl 2 rfl) ?_
    refine lv_iconst (v := 1) hx hb dX10_weigh_9 (by decide) ?_
    refine lv_bipush (v := 64) hx hb dX10_weigh_10 (by decide) ?_
    refine ca_z (w' := [WX10 cy h0 a0 s0, WX0 cy (a0 0) a1 s1]) (rn_S (As := [.int p2, .int (1 : Int32), .int (64 : Int32)]) (rest := []) ⟨hx, hb, hml, hown, hts⟩ (kX10_outside l D cy p2 (1 : Int32) (64 : Int32) _ rfl H.size) (va_cwS 3 hts gX10_weigh_X10_outside rfl rfl rfl (by decide +kernel) ⟨Nat.le_of_ble_eq_true rfl, Nat.le_of_ble_eq_true rfl⟩) hK hN hP hD [] rfl rfl rfl hl.1 rfl (Nat.le_of_ble_eq_true rfl) dX10_weigh_12 ⟨Nat.le_refl 0, Nat.le_refl 0⟩) hP hD hS hA [] ⟨rfl, rfl, rfl, rfl⟩ (fun b5 H locs hP hD hS => ?_)
    refine lv_if_eq (tgt := 24) hx hb dX10_weigh_15 (by decide) (fun c6 => ?_) (fun c6 => ?_)
    · replace h := (if_pos c6).symm.trans h
      refine lv_aload_n hx hb dX10_weigh_24 rfl (lv_at hl 0 rfl) ?_
      refine va_get (D := D) (ci := 10) (v := .ref (a0 0)) (C := RX10) (T := TX10) (N := 19) hx hb hts hinX10 hown hK hP 0 rfl rfl 0 (by decide) (hts (.fieldLink RX10 10 "KneeBench" "bench" "LKneeBench$Bench;") (List.mem_of_getElem? (i := 1) rfl)) (fun _ h9 => h9) rfl dX10_weigh_25 ?_
      refine va_getN (D := D) (ci := 0) (v := .ref (a1 5)) (C := RX0) (T := TX0) (N := 14) hx hb hts hinX0 hown hK hP 1 rfl rfl 5 (by decide) (NW.fld hN 10 rfl _) (fun _ h9 => h9) rfl dX10_weigh_28 ?_
      refine lv_iload_n hx hb dX10_weigh_31 rfl (lv_at hl 1 rfl) ?_
      refine lv_iload_n hx hb dX10_weigh_32 rfl (lv_at hl 2 rfl) ?_
      obtain ⟨g7, h⟩ := gd_elim h
      obtain ⟨s1_8, es, h⟩ := lt_elim h
      refine va_iast hx hb hK hP hD hS 7 1 rfl rfl (inb_in g7) dX10_weigh_33 (fun H locs hP hD hS => ?_)
      have hP : va_P D vwCl (flat [WX10 cy h0 a0 s0, WX0 cy (a0 0) a1 s1_8]) H := by rw [es]; exact hP
      have hD : va_D A (flat [WX10 cy h0 a0 s0, WX0 cy (a0 0) a1 s1_8]) := by rw [es]; exact hD
      clear es
      refine lv_aload_n hx hb dX10_weigh_34 rfl (lv_at hl 0 rfl) ?_
      obtain ⟨r9, hr9, h⟩ := lt_elim h
      refine ca_z (w' := [WX10 cy h0 a0 r9.2, WX0 cy (a0 0) a1 s1_8]) (rn_V (As := []) (rest := []) ⟨hx, hb, hml, hown, hts⟩ (kX10_allow l D cy h0 a0 s0 r9 hr9.symm H.size) (cwV 0 hts gX10_weigh_X10_allow rfl rfl rfl (by decide +kernel) ⟨Nat.le_of_ble_eq_true rfl, Nat.le_of_ble_eq_true rfl⟩) hK hN hP hD [0] rfl rfl (ci := 10) (q0 := 0) rfl rfl rfl rfl hl.1 rfl (Nat.le_of_ble_eq_true rfl) dX10_weigh_35 ⟨Nat.le_refl 0, Nat.le_refl 0⟩) hP hD hS hA [0] ⟨rfl, rfl, rfl, rfl⟩ (fun b10 H locs hP hD hS => ?_)
      exact hret 38 H locs ls (r9.1, r9.2, s1_8) (Option.some.inj h) hP hD hS b10 dX10_weigh_38
    · replace h := (if_neg c6).symm.trans h
      refine lv_aload_n hx hb dX10_weigh_18 rfl (lv_at hl 0 rfl) ?_
      refine lv_iconst (v := 1) hx hb dX10_weigh_19 (by decide) ?_
      obtain ⟨r11, hr11, h⟩ := lt_elim h
      refine ca_z (w' := [WX10 cy h0 a0 r11.2, WX0 cy (a0 0) a1 s1]) (rn_V (As := [.int (1 : Int32)]) (rest := []) ⟨hx, hb, hml, hown, hts⟩ (kX10_deny l D cy h0 a0 s0 (1 : Int32) r11 hr11.symm H.size) (cwV 1 hts gX10_weigh_X10_deny rfl rfl rfl (by decide +kernel) ⟨Nat.le_of_ble_eq_true rfl, Nat.le_of_ble_eq_true rfl⟩) hK hN hP hD [0] rfl rfl (ci := 10) (q0 := 0) rfl rfl rfl rfl hl.1 rfl (Nat.le_of_ble_eq_true rfl) dX10_weigh_20 ⟨Nat.le_refl 0, Nat.le_refl 0⟩) hP hD hS hA [0] ⟨rfl, rfl, rfl, rfl⟩ (fun b12 H locs hP hD hS => ?_)
      exact hret 23 H locs ls (r11.1, r11.2, s1) (Option.some.inj h) hP hD hS b12 dX10_weigh_23
theorem gd_X10_write : wsX10_write.all goodWord = true := by decide +kernel
set_option maxRecDepth 20000 in
theorem ggX10_write_X10_placeProblem : GoodIn wsX10_write wsX10_placeProblem := goodIn_by gd_X10_write (List.forall_mem_cons.mpr ⟨List.mem_cons_of_mem _ (List.mem_append_left _ (List.mem_append_left _ (List.mem_append_left _ (List.mem_of_getElem? (i := 5) rfl)))), List.forall_mem_append.mpr ⟨List.forall_mem_append.mpr ⟨List.forall_mem_cons.mpr ⟨List.mem_cons_of_mem _ (List.mem_append_left _ (List.mem_append_left _ (List.mem_append_left _ (List.mem_of_getElem? (i := 0) rfl)))), List.forall_mem_cons.mpr ⟨List.mem_cons_of_mem _ (List.mem_append_left _ (List.mem_append_left _ (List.mem_append_left _ (List.mem_of_getElem? (i := 6) rfl)))), List.forall_mem_cons.mpr ⟨List.mem_cons_of_mem _ (List.mem_append_left _ (List.mem_append_left _ (List.mem_append_left _ (List.mem_of_getElem? (i := 7) rfl)))), List.forall_mem_cons.mpr ⟨List.mem_cons_of_mem _ (List.mem_append_left _ (List.mem_append_left _ (List.mem_append_left _ (List.mem_of_getElem? (i := 4) rfl)))), List.forall_mem_cons.mpr ⟨List.mem_cons_of_mem _ (List.mem_append_left _ (List.mem_append_left _ (List.mem_append_left _ (List.mem_of_getElem? (i := 8) rfl)))), List.forall_mem_cons.mpr ⟨List.mem_cons_of_mem _ (List.mem_append_left _ (List.mem_append_left _ (List.mem_append_left _ (List.mem_of_getElem? (i := 9) rfl)))), List.forall_mem_cons.mpr ⟨List.mem_cons_of_mem _ (List.mem_append_left _ (List.mem_append_left _ (List.mem_append_left _ (List.mem_of_getElem? (i := 10) rfl)))), List.forall_mem_cons.mpr ⟨List.mem_cons_of_mem _ (List.mem_append_left _ (List.mem_append_left _ (List.mem_append_left _ (List.mem_of_getElem? (i := 11) rfl)))), List.forall_mem_cons.mpr ⟨List.mem_cons_of_mem _ (List.mem_append_left _ (List.mem_append_left _ (List.mem_append_left _ (List.mem_of_getElem? (i := 12) rfl)))), List.forall_mem_cons.mpr ⟨List.mem_cons_of_mem _ (List.mem_append_left _ (List.mem_append_left _ (List.mem_append_left _ (List.mem_of_getElem? (i := 13) rfl)))), List.forall_mem_cons.mpr ⟨List.mem_cons_of_mem _ (List.mem_append_left _ (List.mem_append_left _ (List.mem_append_left _ (List.mem_of_getElem? (i := 14) rfl)))), List.forall_mem_cons.mpr ⟨List.mem_cons_of_mem _ (List.mem_append_left _ (List.mem_append_left _ (List.mem_append_left _ (List.mem_of_getElem? (i := 15) rfl)))), List.forall_mem_cons.mpr ⟨List.mem_cons_of_mem _ (List.mem_append_left _ (List.mem_append_left _ (List.mem_append_left _ (List.mem_of_getElem? (i := 16) rfl)))), List.forall_mem_cons.mpr ⟨List.mem_cons_of_mem _ (List.mem_append_left _ (List.mem_append_left _ (List.mem_append_left _ (List.mem_of_getElem? (i := 17) rfl)))), List.forall_mem_cons.mpr ⟨List.mem_cons_of_mem _ (List.mem_append_left _ (List.mem_append_left _ (List.mem_append_left _ (List.mem_of_getElem? (i := 18) rfl)))), List.forall_mem_cons.mpr ⟨List.mem_cons_of_mem _ (List.mem_append_left _ (List.mem_append_left _ (List.mem_append_left _ (List.mem_of_getElem? (i := 19) rfl)))), List.forall_mem_cons.mpr ⟨List.mem_cons_of_mem _ (List.mem_append_left _ (List.mem_append_left _ (List.mem_append_left _ (List.mem_of_getElem? (i := 20) rfl)))), List.forall_mem_cons.mpr ⟨List.mem_cons_of_mem _ (List.mem_append_left _ (List.mem_append_left _ (List.mem_append_left _ (List.mem_of_getElem? (i := 21) rfl)))), nowords_in⟩⟩⟩⟩⟩⟩⟩⟩⟩⟩⟩⟩⟩⟩⟩⟩⟩⟩, (fun _ h => List.mem_cons_of_mem _ (List.mem_append_left _ (List.mem_append_right _ (h))))⟩, (fun _ h => List.mem_cons_of_mem _ (List.mem_append_right _ (h)))⟩⟩)
set_option maxRecDepth 20000 in
theorem gX10_write_X10_placeProblem : GoodIn wsX10_write (wsV RX10 131 RX10 yX10_placeProblem wsX10_placeProblem) := goodIn_app (goodIn_by gd_X10_write (List.forall_mem_cons.mpr ⟨List.mem_cons_of_mem _ (List.mem_append_left _ (List.mem_append_left _ (List.mem_append_left _ (List.mem_of_getElem? (i := 1) rfl)))), List.forall_mem_cons.mpr ⟨List.mem_cons_of_mem _ (List.mem_append_left _ (List.mem_append_left _ (List.mem_append_left _ (List.mem_of_getElem? (i := 2) rfl)))), List.forall_mem_cons.mpr ⟨List.mem_cons_of_mem _ (List.mem_append_left _ (List.mem_append_left _ (List.mem_append_left _ (List.mem_of_getElem? (i := 3) rfl)))), List.forall_mem_cons.mpr ⟨List.mem_cons_of_mem _ (List.mem_append_left _ (List.mem_append_left _ (List.mem_append_left _ (List.mem_of_getElem? (i := 4) rfl)))), nowords_in⟩⟩⟩⟩)) ggX10_write_X10_placeProblem
set_option maxRecDepth 20000 in
theorem ggX10_write_X10_deny : GoodIn wsX10_write wsX10_deny := goodIn_by gd_X10_write (List.forall_mem_cons.mpr ⟨List.mem_cons_of_mem _ (List.mem_append_left _ (List.mem_append_left _ (List.mem_append_right _ (List.mem_of_getElem? (i := 1) rfl)))), List.forall_mem_append.mpr ⟨List.forall_mem_cons.mpr ⟨List.mem_cons_of_mem _ (List.mem_append_left _ (List.mem_append_left _ (List.mem_append_right _ (List.mem_of_getElem? (i := 2) rfl)))), nowords_in⟩, (fun _ h => List.mem_cons_of_mem _ (List.mem_append_left _ (List.mem_append_right _ (h))))⟩⟩)
set_option maxRecDepth 20000 in
theorem gX10_write_X10_deny : GoodIn wsX10_write (wsV RX10 120 RX10 yX10_deny wsX10_deny) := goodIn_app (goodIn_by gd_X10_write (List.forall_mem_cons.mpr ⟨List.mem_cons_of_mem _ (List.mem_append_left _ (List.mem_append_left _ (List.mem_append_left _ (List.mem_of_getElem? (i := 22) rfl)))), List.forall_mem_cons.mpr ⟨List.mem_cons_of_mem _ (List.mem_append_left _ (List.mem_append_left _ (List.mem_append_left _ (List.mem_of_getElem? (i := 23) rfl)))), List.forall_mem_cons.mpr ⟨List.mem_cons_of_mem _ (List.mem_append_left _ (List.mem_append_left _ (List.mem_append_right _ (List.mem_of_getElem? (i := 0) rfl)))), List.forall_mem_cons.mpr ⟨List.mem_cons_of_mem _ (List.mem_append_left _ (List.mem_append_left _ (List.mem_append_left _ (List.mem_of_getElem? (i := 4) rfl)))), nowords_in⟩⟩⟩⟩)) ggX10_write_X10_deny
set_option maxRecDepth 20000 in
theorem ggX10_write_X9_put : GoodIn wsX10_write wsX9_put := goodIn_by gd_X10_write (List.forall_mem_cons.mpr ⟨List.mem_cons_of_mem _ (List.mem_append_left _ (List.mem_append_left _ (List.mem_append_right _ (List.mem_of_getElem? (i := 6) rfl)))), List.forall_mem_append.mpr ⟨List.forall_mem_cons.mpr ⟨List.mem_cons_of_mem _ (List.mem_append_left _ (List.mem_append_left _ (List.mem_append_right _ (List.mem_of_getElem? (i := 7) rfl)))), List.forall_mem_cons.mpr ⟨List.mem_cons_of_mem _ (List.mem_append_left _ (List.mem_append_left _ (List.mem_append_right _ (List.mem_of_getElem? (i := 8) rfl)))), List.forall_mem_cons.mpr ⟨List.mem_cons_of_mem _ (List.mem_append_left _ (List.mem_append_left _ (List.mem_append_right _ (List.mem_of_getElem? (i := 9) rfl)))), List.forall_mem_cons.mpr ⟨List.mem_cons_of_mem _ (List.mem_append_left _ (List.mem_append_left _ (List.mem_append_right _ (List.mem_of_getElem? (i := 10) rfl)))), List.forall_mem_cons.mpr ⟨List.mem_cons_of_mem _ (List.mem_append_left _ (List.mem_append_left _ (List.mem_append_left _ (List.mem_of_getElem? (i := 15) rfl)))), List.forall_mem_cons.mpr ⟨List.mem_cons_of_mem _ (List.mem_append_left _ (List.mem_append_left _ (List.mem_append_right _ (List.mem_of_getElem? (i := 11) rfl)))), nowords_in⟩⟩⟩⟩⟩⟩, (fun _ h => List.mem_cons_of_mem _ (List.mem_append_right _ (h)))⟩⟩)
set_option maxRecDepth 20000 in
theorem gX10_write_X9_put : GoodIn wsX10_write (wsV RX10 135 RX9 yX9_put wsX9_put) := goodIn_app (goodIn_by gd_X10_write (List.forall_mem_cons.mpr ⟨List.mem_cons_of_mem _ (List.mem_append_left _ (List.mem_append_left _ (List.mem_append_right _ (List.mem_of_getElem? (i := 3) rfl)))), List.forall_mem_cons.mpr ⟨List.mem_cons_of_mem _ (List.mem_append_left _ (List.mem_append_left _ (List.mem_append_right _ (List.mem_of_getElem? (i := 4) rfl)))), List.forall_mem_cons.mpr ⟨List.mem_cons_of_mem _ (List.mem_append_left _ (List.mem_append_left _ (List.mem_append_right _ (List.mem_of_getElem? (i := 5) rfl)))), List.forall_mem_cons.mpr ⟨List.mem_cons_of_mem _ (List.mem_append_left _ (List.mem_append_left _ (List.mem_append_left _ (List.mem_of_getElem? (i := 15) rfl)))), nowords_in⟩⟩⟩⟩)) ggX10_write_X9_put
set_option maxRecDepth 20000 in
theorem ggX10_write_X10_allow : GoodIn wsX10_write wsX10_allow := goodIn_by gd_X10_write (List.forall_mem_cons.mpr ⟨List.mem_cons_of_mem _ (List.mem_append_left _ (List.mem_append_left _ (List.mem_append_right _ (List.mem_of_getElem? (i := 15) rfl)))), List.forall_mem_append.mpr ⟨List.forall_mem_cons.mpr ⟨List.mem_cons_of_mem _ (List.mem_append_left _ (List.mem_append_left _ (List.mem_append_right _ (List.mem_of_getElem? (i := 2) rfl)))), nowords_in⟩, (fun _ h => List.mem_cons_of_mem _ (List.mem_append_left _ (List.mem_append_right _ (h))))⟩⟩)
set_option maxRecDepth 20000 in
theorem gX10_write_X10_allow : GoodIn wsX10_write (wsV RX10 127 RX10 yX10_allow wsX10_allow) := goodIn_app (goodIn_by gd_X10_write (List.forall_mem_cons.mpr ⟨List.mem_cons_of_mem _ (List.mem_append_left _ (List.mem_append_left _ (List.mem_append_right _ (List.mem_of_getElem? (i := 12) rfl)))), List.forall_mem_cons.mpr ⟨List.mem_cons_of_mem _ (List.mem_append_left _ (List.mem_append_left _ (List.mem_append_right _ (List.mem_of_getElem? (i := 13) rfl)))), List.forall_mem_cons.mpr ⟨List.mem_cons_of_mem _ (List.mem_append_left _ (List.mem_append_left _ (List.mem_append_right _ (List.mem_of_getElem? (i := 14) rfl)))), List.forall_mem_cons.mpr ⟨List.mem_cons_of_mem _ (List.mem_append_left _ (List.mem_append_left _ (List.mem_append_left _ (List.mem_of_getElem? (i := 4) rfl)))), nowords_in⟩⟩⟩⟩)) ggX10_write_X10_allow
theorem dX10_write_0 : decode cX10_write 0 = .ok (.aload_n 0, 1) := by decide +kernel
theorem dX10_write_1 : decode cX10_write 1 = .ok (.iload_n 1, 1) := by decide +kernel
theorem dX10_write_2 : decode cX10_write 2 = .ok (.iload_n 2, 1) := by decide +kernel
theorem dX10_write_3 : decode cX10_write 3 = .ok (.invokevirtual 131, 3) := by decide +kernel
theorem dX10_write_6 : decode cX10_write 6 = .ok (.istore 5, 2) := by decide +kernel
theorem dX10_write_8 : decode cX10_write 8 = .ok (.iload 5, 2) := by decide +kernel
theorem dX10_write_10 : decode cX10_write 10 = .ok (.ifCond .eq 10, 3) := by decide +kernel
theorem dX10_write_13 : decode cX10_write 13 = .ok (.aload_n 0, 1) := by decide +kernel
theorem dX10_write_14 : decode cX10_write 14 = .ok (.iload 5, 2) := by decide +kernel
theorem dX10_write_16 : decode cX10_write 16 = .ok (.invokevirtual 120, 3) := by decide +kernel
theorem dX10_write_19 : decode cX10_write 19 = .ok (.ireturn, 1) := by decide +kernel
theorem dX10_write_20 : decode cX10_write 20 = .ok (.aload_n 0, 1) := by decide +kernel
theorem dX10_write_21 : decode cX10_write 21 = .ok (.getfield 45, 3) := by decide +kernel
theorem dX10_write_24 : decode cX10_write 24 = .ok (.iload_n 1, 1) := by decide +kernel
theorem dX10_write_25 : decode cX10_write 25 = .ok (.iload_n 2, 1) := by decide +kernel
theorem dX10_write_26 : decode cX10_write 26 = .ok (.lload_n 3, 1) := by decide +kernel
theorem dX10_write_27 : decode cX10_write 27 = .ok (.invokevirtual 135, 3) := by decide +kernel
theorem dX10_write_30 : decode cX10_write 30 = .ok (.aload_n 0, 1) := by decide +kernel
theorem dX10_write_31 : decode cX10_write 31 = .ok (.invokevirtual 127, 3) := by decide +kernel
theorem dX10_write_34 : decode cX10_write 34 = .ok (.ireturn, 1) := by decide +kernel
abbrev rmX10_write : Room := { frames := 3, cells := 0, slots := 0, locals := 64 }
set_option maxHeartbeats 4000000 in
set_option maxRecDepth 100000 in
theorem kX10_write (l : Launch) (D : va_G) (cy : Nat → ClassId) (h0 : Nat) (a0 : Nat → Nat) (a1 : Nat → Nat) (s0 : Rc) (s1 : Rc) (p1 : Int32) (p2 : Int32) (p3 : Int64) (res : Int32 × Rc × Rc) (h : fX10_write p1 p2 p3 s0 s1 = some res) : CZ l D cy yX10_write wsX10_write rmX10_write [.ref h0, .int p1, .int p2, .long p3] (flat [WX10 cy h0 a0 s0, WX9 cy (a0 7) a1 s1]) (flat [WX10 cy h0 a0 res.2.1, WX9 cy (a0 7) a1 res.2.2]) res.1 := by
  refine CZ.of (cc := cX10_write) (maxL := 6) (by decide) rfl (Nat.le_of_ble_eq_true rfl) ?_
  intro p e s m args below meth c A QQ ls E hr
  obtain ⟨hx, hb, hml, hown, hts, hK, hN, hP, hD, hA, hl⟩ := E
  have hret : ∀ (pc : Nat) (H : Heap) (locs : List Loc) (ls : Array Slot) (u : Int32 × Rc × Rc), u = res → va_P D vwCl (flat [WX10 cy h0 a0 u.2.1, WX9 cy (a0 7) a1 u.2.2]) H → va_D A (flat [WX10 cy h0 a0 u.2.1, WX9 cy (a0 7) a1 u.2.2]) → va_S A s.heap H locs → isb u.1 = true → decode cX10_write pc = .ok (.ireturn, 1) → W p l e rmX10_write s m args below meth c H locs 0 0 QQ (F0 m pc ls [.int u.1]) := by
    intro pc H locs ls u hu hP hD hS hz hd; subst hu; exact hr pc H locs ls _ rfl hP hD hS hz hd
  clear hr
  have hl : lv_has ls 6 [(0, .ref h0), (1, .int p1), (2, .int p2), (3, .long p3)] := hl
  have hinX10 : ∀ w ∈ wsX100, w ∈ wsX10_write := fun _ h => List.mem_cons_of_mem _ (List.mem_append_left _ (List.mem_append_right _ h))
  unfold fX10_write at h
  suffices key : ∀ (H : Heap) (locs : List Loc), va_P D vwCl (flat [WX10 cy h0 a0 s0, WX9 cy (a0 7) a1 s1]) H → va_S A s.heap H locs → W p l e rmX10_write s m args below meth c H locs 0 0 QQ (F0 m 0 ls []) from key _ _ hP va_S.rf
  clear hP
  intro H locs hP hS
  refine lv_aload_n hx hb dX10_write_0 rfl (lv_at hl 0 rfl) ?_
  refine lv_iload_n hx hb dX10_write_1 rfl (lv_at hl 1 rfl) ?_
  refine lv_iload_n hx hb dX10_write_2 rfl (lv_at hl 2 rfl) ?_
  obtain ⟨r1, hr1, h⟩ := bd_elim h
  refine ca_i (w' := [WX10 cy h0 a0 s0, WX9 cy (a0 7) a1 s1]) (rn_V (As := [.int p1, .int p2]) (rest := []) ⟨hx, hb, hml, hown, hts⟩ (kX10_placeProblem l D cy h0 a0 a1 s0 s1 p1 p2 r1 hr1 H.size) (cwV 2 hts gX10_write_X10_placeProblem rfl rfl rfl (by decide +kernel) ⟨Nat.le_of_ble_eq_true rfl, Nat.le_of_ble_eq_true rfl⟩) hK hN hP hD [0, 1] rfl rfl (ci := 10) (q0 := 0) rfl rfl rfl rfl hl.1 rfl (Nat.le_of_ble_eq_true rfl) dX10_write_3 ⟨Nat.le_refl 0, Nat.le_refl 0⟩) hP hD hS hA [0, 1] ⟨rfl, rfl, rfl, rfl⟩ (fun H locs hP hD hS => ?_)
  refine lv_istore (lv' := [(5, .int r1), (0, .ref h0), (1, .int p1), (2, .int p2), (3, .long p3)]) hx hb dX10_write_6 hl (by decide) rfl (fun ls hl => ?_)
  refine lv_iload hx hb dX10_write_8 (lv_at hl 0 rfl) ?_
  refine lv_if_eq (tgt := 20) hx hb dX10_write_10 (by decide) (fun c2 => ?_) (fun c2 => ?_)
  · replace h := (if_pos c2).symm.trans h
    refine lv_aload_n hx hb dX10_write_20 rfl (lv_at hl 1 rfl) ?_
    refine va_get (D := D) (ci := 10) (v := .ref (a0 7)) (C := RX10) (T := TX10) (N := 19) hx hb hts hinX10 hown hK hP 0 rfl rfl 7 (by decide) (hts (.fieldLink RX10 45 "KneeBench" "trays" "LKneeBench$Trays;") (List.mem_of_getElem? (i := 1) rfl)) (fun _ h9 => h9) rfl dX10_write_21 ?_
    refine lv_iload_n hx hb dX10_write_24 rfl (lv_at hl 2 rfl) ?_
    refine lv_iload_n hx hb dX10_write_25 rfl (lv_at hl 3 rfl) ?_
    refine lv_lload_n hx hb dX10_write_26 rfl (lv_at hl 4 rfl) ?_
    obtain ⟨r3, hr3, h⟩ := bd_elim h
    refine ca_v (w' := [WX10 cy h0 a0 s0, WX9 cy (a0 7) a1 r3]) (rn_V (As := [.int p1, .int p2, .long p3]) (rest := []) ⟨hx, hb, hml, hown, hts⟩ (kX9_put l D cy (a0 7) a1 s1 p1 p2 p3 r3 hr3 H.size) (cwV 3 hts gX10_write_X9_put rfl rfl rfl (by decide +kernel) ⟨Nat.le_of_ble_eq_true rfl, Nat.le_of_ble_eq_true rfl⟩) hK hN hP hD [1] rfl rfl (ci := 9) (q0 := 1) rfl rfl rfl rfl hl.1 rfl (Nat.le_of_ble_eq_true rfl) dX10_write_27 ⟨Nat.le_refl 0, Nat.le_refl 0⟩) hP hD hS hA [1] ⟨rfl, rfl, rfl, rfl⟩ (fun H locs hP hD hS => ?_)
    refine lv_aload_n hx hb dX10_write_30 rfl (lv_at hl 1 rfl) ?_
    obtain ⟨r4, hr4, h⟩ := lt_elim h
    refine ca_z (w' := [WX10 cy h0 a0 r4.2, WX9 cy (a0 7) a1 r3]) (rn_V (As := []) (rest := []) ⟨hx, hb, hml, hown, hts⟩ (kX10_allow l D cy h0 a0 s0 r4 hr4.symm H.size) (cwV 0 hts gX10_write_X10_allow rfl rfl rfl (by decide +kernel) ⟨Nat.le_of_ble_eq_true rfl, Nat.le_of_ble_eq_true rfl⟩) hK hN hP hD [0] rfl rfl (ci := 10) (q0 := 0) rfl rfl rfl rfl hl.1 rfl (Nat.le_of_ble_eq_true rfl) dX10_write_31 ⟨Nat.le_refl 0, Nat.le_refl 0⟩) hP hD hS hA [0] ⟨rfl, rfl, rfl, rfl⟩ (fun b5 H locs hP hD hS => ?_)
    exact hret 34 H locs ls (r4.1, r4.2, r3) (Option.some.inj h) hP hD hS b5 dX10_write_34
  · replace h := (if_neg c2).symm.trans h
    refine lv_aload_n hx hb dX10_write_13 rfl (lv_at hl 1 rfl) ?_
    refine lv_iload hx hb dX10_write_14 (lv_at hl 0 rfl) ?_
    obtain ⟨r6, hr6, h⟩ := lt_elim h
    refine ca_z (w' := [WX10 cy h0 a0 r6.2, WX9 cy (a0 7) a1 s1]) (rn_V (As := [.int r1]) (rest := []) ⟨hx, hb, hml, hown, hts⟩ (kX10_deny l D cy h0 a0 s0 r1 r6 hr6.symm H.size) (cwV 1 hts gX10_write_X10_deny rfl rfl rfl (by decide +kernel) ⟨Nat.le_of_ble_eq_true rfl, Nat.le_of_ble_eq_true rfl⟩) hK hN hP hD [0] rfl rfl (ci := 10) (q0 := 0) rfl rfl rfl rfl hl.1 rfl (Nat.le_of_ble_eq_true rfl) dX10_write_16 ⟨Nat.le_refl 0, Nat.le_refl 0⟩) hP hD hS hA [0] ⟨rfl, rfl, rfl, rfl⟩ (fun b7 H locs hP hD hS => ?_)
    exact hret 19 H locs ls (r6.1, r6.2, s1) (Option.some.inj h) hP hD hS b7 dX10_write_19
theorem gd_X10_wrongs : wsX10_wrongs.all goodWord = true := by decide +kernel
set_option maxRecDepth 20000 in
theorem ggX10_wrongs_X10_noFarmer : GoodIn wsX10_wrongs wsX10_noFarmer := goodIn_by gd_X10_wrongs (List.forall_mem_cons.mpr ⟨List.mem_cons_of_mem _ (List.mem_append_left _ (List.mem_append_left _ (List.mem_append_left _ (List.mem_of_getElem? (i := 6) rfl)))), List.forall_mem_append.mpr ⟨List.forall_mem_append.mpr ⟨List.forall_mem_cons.mpr ⟨List.mem_cons_of_mem _ (List.mem_append_left _ (List.mem_append_left _ (List.mem_append_left _ (List.mem_of_getElem? (i := 0) rfl)))), List.forall_mem_cons.mpr ⟨List.mem_cons_of_mem _ (List.mem_append_left _ (List.mem_append_left _ (List.mem_append_left _ (List.mem_of_getElem? (i := 7) rfl)))), List.forall_mem_cons.mpr ⟨List.mem_cons_of_mem _ (List.mem_append_left _ (List.mem_append_left _ (List.mem_append_left _ (List.mem_of_getElem? (i := 8) rfl)))), List.forall_mem_cons.mpr ⟨List.mem_cons_of_mem _ (List.mem_append_left _ (List.mem_append_left _ (List.mem_append_left _ (List.mem_of_getElem? (i := 9) rfl)))), List.forall_mem_cons.mpr ⟨List.mem_cons_of_mem _ (List.mem_append_left _ (List.mem_append_left _ (List.mem_append_left _ (List.mem_of_getElem? (i := 10) rfl)))), List.forall_mem_cons.mpr ⟨List.mem_cons_of_mem _ (List.mem_append_left _ (List.mem_append_left _ (List.mem_append_left _ (List.mem_of_getElem? (i := 11) rfl)))), List.forall_mem_cons.mpr ⟨List.mem_cons_of_mem _ (List.mem_append_left _ (List.mem_append_left _ (List.mem_append_left _ (List.mem_of_getElem? (i := 12) rfl)))), nowords_in⟩⟩⟩⟩⟩⟩⟩, (fun _ h => List.mem_cons_of_mem _ (List.mem_append_left _ (List.mem_append_right _ (h))))⟩, (fun _ h => List.mem_cons_of_mem _ (List.mem_append_right _ (h)))⟩⟩)
set_option maxRecDepth 20000 in
theorem gX10_wrongs_X10_noFarmer : GoodIn wsX10_wrongs (wsV RX10 215 RX10 yX10_noFarmer wsX10_noFarmer) := goodIn_app (goodIn_by gd_X10_wrongs (List.forall_mem_cons.mpr ⟨List.mem_cons_of_mem _ (List.mem_append_left _ (List.mem_append_left _ (List.mem_append_left _ (List.mem_of_getElem? (i := 2) rfl)))), List.forall_mem_cons.mpr ⟨List.mem_cons_of_mem _ (List.mem_append_left _ (List.mem_append_left _ (List.mem_append_left _ (List.mem_of_getElem? (i := 3) rfl)))), List.forall_mem_cons.mpr ⟨List.mem_cons_of_mem _ (List.mem_append_left _ (List.mem_append_left _ (List.mem_append_left _ (List.mem_of_getElem? (i := 4) rfl)))), List.forall_mem_cons.mpr ⟨List.mem_cons_of_mem _ (List.mem_append_left _ (List.mem_append_left _ (List.mem_append_left _ (List.mem_of_getElem? (i := 5) rfl)))), nowords_in⟩⟩⟩⟩)) ggX10_wrongs_X10_noFarmer
set_option maxRecDepth 20000 in
theorem ggX10_wrongs_X10_outside : GoodIn wsX10_wrongs wsX10_outside := goodIn_by gd_X10_wrongs (List.forall_mem_cons.mpr ⟨List.mem_cons_of_mem _ (List.mem_append_left _ (List.mem_append_left _ (List.mem_append_left _ (List.mem_of_getElem? (i := 15) rfl)))), nowords_in⟩)
set_option maxRecDepth 20000 in
theorem gX10_wrongs_X10_outside : GoodIn wsX10_wrongs (va_wsS RX10 116 yX10_outside wsX10_outside) := goodIn_app (goodIn_by gd_X10_wrongs (List.forall_mem_cons.mpr ⟨List.mem_cons_of_mem _ (List.mem_append_left _ (List.mem_append_left _ (List.mem_append_left _ (List.mem_of_getElem? (i := 13) rfl)))), List.forall_mem_cons.mpr ⟨List.mem_cons_of_mem _ (List.mem_append_left _ (List.mem_append_left _ (List.mem_append_left _ (List.mem_of_getElem? (i := 14) rfl)))), List.forall_mem_cons.mpr ⟨List.mem_cons_of_mem _ (List.mem_append_left _ (List.mem_append_left _ (List.mem_append_left _ (List.mem_of_getElem? (i := 5) rfl)))), nowords_in⟩⟩⟩)) ggX10_wrongs_X10_outside
set_option maxRecDepth 20000 in
theorem ggX10_wrongs_X10_refuse : GoodIn wsX10_wrongs wsX10_refuse := goodIn_by gd_X10_wrongs (List.forall_mem_cons.mpr ⟨List.mem_cons_of_mem _ (List.mem_append_left _ (List.mem_append_left _ (List.mem_append_left _ (List.mem_of_getElem? (i := 19) rfl)))), List.forall_mem_append.mpr ⟨List.forall_mem_cons.mpr ⟨List.mem_cons_of_mem _ (List.mem_append_left _ (List.mem_append_left _ (List.mem_append_left _ (List.mem_of_getElem? (i := 20) rfl)))), nowords_in⟩, (fun _ h => List.mem_cons_of_mem _ (List.mem_append_left _ (List.mem_append_right _ (h))))⟩⟩)
set_option maxRecDepth 20000 in
theorem gX10_wrongs_X10_refuse : GoodIn wsX10_wrongs (wsV RX10 139 RX10 yX10_refuse wsX10_refuse) := goodIn_app (goodIn_by gd_X10_wrongs (List.forall_mem_cons.mpr ⟨List.mem_cons_of_mem _ (List.mem_append_left _ (List.mem_append_left _ (List.mem_append_left _ (List.mem_of_getElem? (i := 16) rfl)))), List.forall_mem_cons.mpr ⟨List.mem_cons_of_mem _ (List.mem_append_left _ (List.mem_append_left _ (List.mem_append_left _ (List.mem_of_getElem? (i := 17) rfl)))), List.forall_mem_cons.mpr ⟨List.mem_cons_of_mem _ (List.mem_append_left _ (List.mem_append_left _ (List.mem_append_left _ (List.mem_of_getElem? (i := 18) rfl)))), List.forall_mem_cons.mpr ⟨List.mem_cons_of_mem _ (List.mem_append_left _ (List.mem_append_left _ (List.mem_append_left _ (List.mem_of_getElem? (i := 5) rfl)))), nowords_in⟩⟩⟩⟩)) ggX10_wrongs_X10_refuse
set_option maxRecDepth 20000 in
theorem ggX10_wrongs_X0_dueDays : GoodIn wsX10_wrongs wsX0_dueDays := goodIn_by gd_X10_wrongs (List.forall_mem_cons.mpr ⟨List.mem_cons_of_mem _ (List.mem_append_left _ (List.mem_append_left _ (List.mem_append_right _ (List.mem_append_left _ (List.mem_of_getElem? (i := 0) rfl))))), List.forall_mem_append.mpr ⟨List.forall_mem_append.mpr ⟨List.forall_mem_cons.mpr ⟨List.mem_cons_of_mem _ (List.mem_append_left _ (List.mem_append_left _ (List.mem_append_right _ (List.mem_append_left _ (List.mem_of_getElem? (i := 1) rfl))))), List.forall_mem_cons.mpr ⟨List.mem_cons_of_mem _ (List.mem_append_left _ (List.mem_append_left _ (List.mem_append_right _ (List.mem_append_left _ (List.mem_of_getElem? (i := 2) rfl))))), List.forall_mem_cons.mpr ⟨List.mem_cons_of_mem _ (List.mem_append_left _ (List.mem_append_left _ (List.mem_append_right _ (List.mem_append_left _ (List.mem_of_getElem? (i := 3) rfl))))), List.forall_mem_cons.mpr ⟨List.mem_cons_of_mem _ (List.mem_append_left _ (List.mem_append_left _ (List.mem_append_right _ (List.mem_append_left _ (List.mem_of_getElem? (i := 4) rfl))))), List.forall_mem_cons.mpr ⟨List.mem_cons_of_mem _ (List.mem_append_left _ (List.mem_append_left _ (List.mem_append_left _ (List.mem_of_getElem? (i := 10) rfl)))), List.forall_mem_cons.mpr ⟨List.mem_cons_of_mem _ (List.mem_append_left _ (List.mem_append_left _ (List.mem_append_right _ (List.mem_append_left _ (List.mem_of_getElem? (i := 5) rfl))))), List.forall_mem_cons.mpr ⟨List.mem_cons_of_mem _ (List.mem_append_left _ (List.mem_append_left _ (List.mem_append_right _ (List.mem_append_left _ (List.mem_of_getElem? (i := 6) rfl))))), List.forall_mem_cons.mpr ⟨List.mem_cons_of_mem _ (List.mem_append_left _ (List.mem_append_left _ (List.mem_append_right _ (List.mem_append_left _ (List.mem_of_getElem? (i := 7) rfl))))), List.forall_mem_cons.mpr ⟨List.mem_cons_of_mem _ (List.mem_append_left _ (List.mem_append_left _ (List.mem_append_right _ (List.mem_append_left _ (List.mem_of_getElem? (i := 8) rfl))))), List.forall_mem_cons.mpr ⟨List.mem_cons_of_mem _ (List.mem_append_left _ (List.mem_append_left _ (List.mem_append_right _ (List.mem_append_left _ (List.mem_of_getElem? (i := 9) rfl))))), List.forall_mem_cons.mpr ⟨List.mem_cons_of_mem _ (List.mem_append_left _ (List.mem_append_left _ (List.mem_append_right _ (List.mem_append_left _ (List.mem_of_getElem? (i := 10) rfl))))), List.forall_mem_cons.mpr ⟨List.mem_cons_of_mem _ (List.mem_append_left _ (List.mem_append_left _ (List.mem_append_right _ (List.mem_append_left _ (List.mem_of_getElem? (i := 11) rfl))))), List.forall_mem_cons.mpr ⟨List.mem_cons_of_mem _ (List.mem_append_left _ (List.mem_append_left _ (List.mem_append_right _ (List.mem_append_left _ (List.mem_of_getElem? (i := 12) rfl))))), List.forall_mem_cons.mpr ⟨List.mem_cons_of_mem _ (List.mem_append_left _ (List.mem_append_left _ (List.mem_append_right _ (List.mem_append_left _ (List.mem_of_getElem? (i := 13) rfl))))), List.forall_mem_cons.mpr ⟨List.mem_cons_of_mem _ (List.mem_append_left _ (List.mem_append_left _ (List.mem_append_left _ (List.mem_of_getElem? (i := 5) rfl)))), List.forall_mem_cons.mpr ⟨List.mem_cons_of_mem _ (List.mem_append_left _ (List.mem_append_left _ (List.mem_append_right _ (List.mem_append_left _ (List.mem_of_getElem? (i := 14) rfl))))), List.forall_mem_cons.mpr ⟨List.mem_cons_of_mem _ (List.mem_append_left _ (List.mem_append_left _ (List.mem_append_right _ (List.mem_append_left _ (List.mem_of_getElem? (i := 15) rfl))))), List.forall_mem_cons.mpr ⟨List.mem_cons_of_mem _ (List.mem_append_left _ (List.mem_append_left _ (List.mem_append_right _ (List.mem_append_left _ (List.mem_of_getElem? (i := 16) rfl))))), List.forall_mem_cons.mpr ⟨List.mem_cons_of_mem _ (List.mem_append_left _ (List.mem_append_left _ (List.mem_append_right _ (List.mem_append_left _ (List.mem_of_getElem? (i := 17) rfl))))), List.forall_mem_cons.mpr ⟨List.mem_cons_of_mem _ (List.mem_append_left _ (List.mem_append_left _ (List.mem_append_right _ (List.mem_append_left _ (List.mem_of_getElem? (i := 18) rfl))))), List.forall_mem_cons.mpr ⟨List.mem_cons_of_mem _ (List.mem_append_left _ (List.mem_append_left _ (List.mem_append_right _ (List.mem_append_left _ (List.mem_of_getElem? (i := 19) rfl))))), List.forall_mem_cons.mpr ⟨List.mem_cons_of_mem _ (List.mem_append_left _ (List.mem_append_left _ (List.mem_append_right _ (List.mem_append_left _ (List.mem_of_getElem? (i := 20) rfl))))), List.forall_mem_cons.mpr ⟨List.mem_cons_of_mem _ (List.mem_append_left _ (List.mem_append_left _ (List.mem_append_right _ (List.mem_append_left _ (List.mem_of_getElem? (i := 21) rfl))))), List.forall_mem_cons.mpr ⟨List.mem_cons_of_mem _ (List.mem_append_left _ (List.mem_append_left _ (List.mem_append_right _ (List.mem_append_left _ (List.mem_of_getElem? (i := 22) rfl))))), nowords_in⟩⟩⟩⟩⟩⟩⟩⟩⟩⟩⟩⟩⟩⟩⟩⟩⟩⟩⟩⟩⟩⟩⟩⟩, List.forall_mem_cons.mpr ⟨List.mem_cons_of_mem _ (List.mem_append_left _ (List.mem_append_left _ (List.mem_append_right _ (List.mem_append_left _ (List.mem_of_getElem? (i := 23) rfl))))), List.forall_mem_cons.mpr ⟨List.mem_cons_of_mem _ (List.mem_append_left _ (List.mem_append_left _ (List.mem_append_right _ (List.mem_append_right _ (List.mem_of_getElem? (i := 0) rfl))))), List.forall_mem_cons.mpr ⟨List.mem_cons_of_mem _ (List.mem_append_left _ (List.mem_append_left _ (List.mem_append_right _ (List.mem_append_right _ (List.mem_of_getElem? (i := 1) rfl))))), List.forall_mem_cons.mpr ⟨List.mem_cons_of_mem _ (List.mem_append_left _ (List.mem_append_left _ (List.mem_append_right _ (List.mem_append_right _ (List.mem_of_getElem? (i := 2) rfl))))), nowords_in⟩⟩⟩⟩⟩, (fun _ h => List.mem_cons_of_mem _ (List.mem_append_right _ (h)))⟩⟩)
set_option maxRecDepth 20000 in
theorem gX10_wrongs_X0_dueDays : GoodIn wsX10_wrongs (wsV RX10 253 RX0 yX0_dueDays wsX0_dueDays) := goodIn_app (goodIn_by gd_X10_wrongs (List.forall_mem_cons.mpr ⟨List.mem_cons_of_mem _ (List.mem_append_left _ (List.mem_append_left _ (List.mem_append_left _ (List.mem_of_getElem? (i := 21) rfl)))), List.forall_mem_cons.mpr ⟨List.mem_cons_of_mem _ (List.mem_append_left _ (List.mem_append_left _ (List.mem_append_left _ (List.mem_of_getElem? (i := 22) rfl)))), List.forall_mem_cons.mpr ⟨List.mem_cons_of_mem _ (List.mem_append_left _ (List.mem_append_left _ (List.mem_append_left _ (List.mem_of_getElem? (i := 23) rfl)))), List.forall_mem_cons.mpr ⟨List.mem_cons_of_mem _ (List.mem_append_left _ (List.mem_append_left _ (List.mem_append_left _ (List.mem_of_getElem? (i := 10) rfl)))), nowords_in⟩⟩⟩⟩)) ggX10_wrongs_X0_dueDays
set_option maxRecDepth 20000 in
theorem ggX10_wrongs_J13_bitCount_95d88 : GoodIn wsX10_wrongs wsJ13_bitCount_95d88 := goodIn_by gd_X10_wrongs (List.forall_mem_cons.mpr ⟨List.mem_cons_of_mem _ (List.mem_append_left _ (List.mem_append_left _ (List.mem_append_right _ (List.mem_append_right _ (List.mem_of_getElem? (i := 6) rfl))))), List.forall_mem_cons.mpr ⟨List.mem_cons_of_mem _ (List.mem_append_left _ (List.mem_append_left _ (List.mem_append_right _ (List.mem_append_right _ (List.mem_of_getElem? (i := 7) rfl))))), List.forall_mem_cons.mpr ⟨List.mem_cons_of_mem _ (List.mem_append_left _ (List.mem_append_left _ (List.mem_append_right _ (List.mem_append_right _ (List.mem_of_getElem? (i := 8) rfl))))), List.forall_mem_cons.mpr ⟨List.mem_cons_of_mem _ (List.mem_append_left _ (List.mem_append_left _ (List.mem_append_right _ (List.mem_append_right _ (List.mem_of_getElem? (i := 9) rfl))))), nowords_in⟩⟩⟩⟩)
set_option maxRecDepth 20000 in
theorem gX10_wrongs_J13_bitCount_95d88 : GoodIn wsX10_wrongs (va_wsS RX10 203 yJ13_bitCount_95d88 wsJ13_bitCount_95d88) := goodIn_app (goodIn_by gd_X10_wrongs (List.forall_mem_cons.mpr ⟨List.mem_cons_of_mem _ (List.mem_append_left _ (List.mem_append_left _ (List.mem_append_right _ (List.mem_append_right _ (List.mem_of_getElem? (i := 3) rfl))))), List.forall_mem_cons.mpr ⟨List.mem_cons_of_mem _ (List.mem_append_left _ (List.mem_append_left _ (List.mem_append_right _ (List.mem_append_right _ (List.mem_of_getElem? (i := 4) rfl))))), List.forall_mem_cons.mpr ⟨List.mem_cons_of_mem _ (List.mem_append_left _ (List.mem_append_left _ (List.mem_append_right _ (List.mem_append_right _ (List.mem_of_getElem? (i := 5) rfl))))), nowords_in⟩⟩⟩)) ggX10_wrongs_J13_bitCount_95d88
set_option maxRecDepth 20000 in
theorem ggX10_wrongs_X10_answer : GoodIn wsX10_wrongs wsX10_answer := goodIn_by gd_X10_wrongs (List.forall_mem_cons.mpr ⟨List.mem_cons_of_mem _ (List.mem_append_left _ (List.mem_append_left _ (List.mem_append_right _ (List.mem_append_right _ (List.mem_of_getElem? (i := 13) rfl))))), List.forall_mem_append.mpr ⟨List.forall_mem_cons.mpr ⟨List.mem_cons_of_mem _ (List.mem_append_left _ (List.mem_append_left _ (List.mem_append_left _ (List.mem_of_getElem? (i := 20) rfl)))), nowords_in⟩, (fun _ h => List.mem_cons_of_mem _ (List.mem_append_left _ (List.mem_append_right _ (h))))⟩⟩)
set_option maxRecDepth 20000 in
theorem gX10_wrongs_X10_answer : GoodIn wsX10_wrongs (wsV RX10 181 RX10 yX10_answer wsX10_answer) := goodIn_app (goodIn_by gd_X10_wrongs (List.forall_mem_cons.mpr ⟨List.mem_cons_of_mem _ (List.mem_append_left _ (List.mem_append_left _ (List.mem_append_right _ (List.mem_append_right _ (List.mem_of_getElem? (i := 10) rfl))))), List.forall_mem_cons.mpr ⟨List.mem_cons_of_mem _ (List.mem_append_left _ (List.mem_append_left _ (List.mem_append_right _ (List.mem_append_right _ (List.mem_of_getElem? (i := 11) rfl))))), List.forall_mem_cons.mpr ⟨List.mem_cons_of_mem _ (List.mem_append_left _ (List.mem_append_left _ (List.mem_append_right _ (List.mem_append_right _ (List.mem_of_getElem? (i := 12) rfl))))), List.forall_mem_cons.mpr ⟨List.mem_cons_of_mem _ (List.mem_append_left _ (List.mem_append_left _ (List.mem_append_left _ (List.mem_of_getElem? (i := 5) rfl)))), nowords_in⟩⟩⟩⟩)) ggX10_wrongs_X10_answer
theorem dX10_wrongs_0 : decode cX10_wrongs 0 = .ok (.aload_n 0, 1) := by decide +kernel
theorem dX10_wrongs_1 : decode cX10_wrongs 1 = .ok (.iload_n 1, 1) := by decide +kernel
theorem dX10_wrongs_2 : decode cX10_wrongs 2 = .ok (.invokevirtual 215, 3) := by decide +kernel
theorem dX10_wrongs_5 : decode cX10_wrongs 5 = .ok (.ifCond .ne 12, 3) := by decide +kernel
theorem dX10_wrongs_8 : decode cX10_wrongs 8 = .ok (.iload_n 2, 1) := by decide +kernel
theorem dX10_wrongs_9 : decode cX10_wrongs 9 = .ok (.iconst 0, 1) := by decide +kernel
theorem dX10_wrongs_10 : decode cX10_wrongs 10 = .ok (.iconst 1, 1) := by decide +kernel
theorem dX10_wrongs_11 : decode cX10_wrongs 11 = .ok (.invokestatic 116, 3) := by decide +kernel
theorem dX10_wrongs_14 : decode cX10_wrongs 14 = .ok (.ifCond .eq 9, 3) := by decide +kernel
theorem dX10_wrongs_17 : decode cX10_wrongs 17 = .ok (.aload_n 0, 1) := by decide +kernel
theorem dX10_wrongs_18 : decode cX10_wrongs 18 = .ok (.iconst 1, 1) := by decide +kernel
theorem dX10_wrongs_19 : decode cX10_wrongs 19 = .ok (.invokevirtual 139, 3) := by decide +kernel
theorem dX10_wrongs_22 : decode cX10_wrongs 22 = .ok (.ireturn, 1) := by decide +kernel
theorem dX10_wrongs_23 : decode cX10_wrongs 23 = .ok (.aload_n 0, 1) := by decide +kernel
theorem dX10_wrongs_24 : decode cX10_wrongs 24 = .ok (.getfield 10, 3) := by decide +kernel
theorem dX10_wrongs_27 : decode cX10_wrongs 27 = .ok (.iload_n 1, 1) := by decide +kernel
theorem dX10_wrongs_28 : decode cX10_wrongs 28 = .ok (.invokevirtual 253, 3) := by decide +kernel
theorem dX10_wrongs_31 : decode cX10_wrongs 31 = .ok (.lstore_n 3, 1) := by decide +kernel
theorem dX10_wrongs_32 : decode cX10_wrongs 32 = .ok (.aload_n 0, 1) := by decide +kernel
theorem dX10_wrongs_33 : decode cX10_wrongs 33 = .ok (.getfield 10, 3) := by decide +kernel
theorem dX10_wrongs_36 : decode cX10_wrongs 36 = .ok (.getfield 240, 3) := by decide +kernel
theorem dX10_wrongs_39 : decode cX10_wrongs 39 = .ok (.iload_n 1, 1) := by decide +kernel
theorem dX10_wrongs_40 : decode cX10_wrongs 40 = .ok (.laload, 1) := by decide +kernel
theorem dX10_wrongs_41 : decode cX10_wrongs 41 = .ok (.lstore 5, 2) := by decide +kernel
theorem dX10_wrongs_43 : decode cX10_wrongs 43 = .ok (.aload_n 0, 1) := by decide +kernel
theorem dX10_wrongs_44 : decode cX10_wrongs 44 = .ok (.iload_n 2, 1) := by decide +kernel
theorem dX10_wrongs_45 : decode cX10_wrongs 45 = .ok (.ifCond .ne 14, 3) := by decide +kernel
theorem dX10_wrongs_48 : decode cX10_wrongs 48 = .ok (.lload 5, 2) := by decide +kernel
theorem dX10_wrongs_50 : decode cX10_wrongs 50 = .ok (.lload_n 3, 1) := by decide +kernel
theorem dX10_wrongs_51 : decode cX10_wrongs 51 = .ok (.ldc2_w 297, 3) := by decide +kernel
theorem dX10_wrongs_54 : decode cX10_wrongs 54 = .ok (.lxor, 1) := by decide +kernel
theorem dX10_wrongs_55 : decode cX10_wrongs 55 = .ok (.land, 1) := by decide +kernel
theorem dX10_wrongs_56 : decode cX10_wrongs 56 = .ok (.goto 11, 3) := by decide +kernel
theorem dX10_wrongs_59 : decode cX10_wrongs 59 = .ok (.lload_n 3, 1) := by decide +kernel
theorem dX10_wrongs_60 : decode cX10_wrongs 60 = .ok (.lload 5, 2) := by decide +kernel
theorem dX10_wrongs_62 : decode cX10_wrongs 62 = .ok (.ldc2_w 297, 3) := by decide +kernel
theorem dX10_wrongs_65 : decode cX10_wrongs 65 = .ok (.lxor, 1) := by decide +kernel
theorem dX10_wrongs_66 : decode cX10_wrongs 66 = .ok (.land, 1) := by decide +kernel
theorem dX10_wrongs_67 : decode cX10_wrongs 67 = .ok (.invokestatic 203, 3) := by decide +kernel
theorem dX10_wrongs_70 : decode cX10_wrongs 70 = .ok (.invokevirtual 181, 3) := by decide +kernel
theorem dX10_wrongs_73 : decode cX10_wrongs 73 = .ok (.ireturn, 1) := by decide +kernel
abbrev rmX10_wrongs : Room := { frames := 3, cells := 0, slots := 0, locals := 63 }
set_option maxHeartbeats 4000000 in
set_option maxRecDepth 100000 in
theorem kX10_wrongs (l : Launch) (D : va_G) (cy : Nat → ClassId) (h0 : Nat) (a0 : Nat → Nat) (a1 : Nat → Nat) (s0 : Rc) (s1 : Rc) (p1 : Int32) (p2 : Int32) (res : Int32 × Rc) (h : fX10_wrongs p1 p2 s0 s1 = some res) : CI l D cy yX10_wrongs wsX10_wrongs rmX10_wrongs [.ref h0, .int p1, .int p2] (flat [WX10 cy h0 a0 s0, WX0 cy (a0 0) a1 s1]) (flat [WX10 cy h0 a0 res.2, WX0 cy (a0 0) a1 s1]) res.1 := by
  refine CI.of (cc := cX10_wrongs) (maxL := 7) (by decide) rfl (Nat.le_of_ble_eq_true rfl) ?_
  intro p e s m args below meth c A QQ ls E hr
  obtain ⟨hx, hb, hml, hown, hts, hK, hN, hP, hD, hA, hl⟩ := E
  have hret : ∀ (pc : Nat) (H : Heap) (locs : List Loc) (ls : Array Slot) (u : Int32 × Rc), u = res → va_P D vwCl (flat [WX10 cy h0 a0 u.2, WX0 cy (a0 0) a1 s1]) H → va_D A (flat [WX10 cy h0 a0 u.2, WX0 cy (a0 0) a1 s1]) → va_S A s.heap H locs → decode cX10_wrongs pc = .ok (.ireturn, 1) → W p l e rmX10_wrongs s m args below meth c H locs 0 0 QQ (F0 m pc ls [.int u.1]) := by
    intro pc H locs ls u hu hP hD hS hd; subst hu; exact hr pc H locs ls _ rfl hP hD hS hd
  clear hr
  have hl : lv_has ls 7 [(0, .ref h0), (1, .int p1), (2, .int p2)] := hl
  have hinX0 : ∀ w ∈ wsX00, w ∈ wsX10_wrongs := fun _ h => List.mem_cons_of_mem _ (List.mem_append_right _ h)
  have hinX10 : ∀ w ∈ wsX100, w ∈ wsX10_wrongs := fun _ h => List.mem_cons_of_mem _ (List.mem_append_left _ (List.mem_append_right _ h))
  unfold fX10_wrongs at h
  suffices key : ∀ (H : Heap) (locs : List Loc), va_P D vwCl (flat [WX10 cy h0 a0 s0, WX0 cy (a0 0) a1 s1]) H → va_S A s.heap H locs → W p l e rmX10_wrongs s m args below meth c H locs 0 0 QQ (F0 m 0 ls []) from key _ _ hP va_S.rf
  clear hP
  intro H locs hP hS
  have J67 : ∀ (z67_0 : Int64) (H : Heap) (locs : List Loc) (ls : Array Slot), lv_has ls 7 [] → va_P D vwCl (flat [WX10 cy h0 a0 s0, WX0 cy (a0 0) a1 s1]) H → va_D A (flat [WX10 cy h0 a0 s0, WX0 cy (a0 0) a1 s1]) → va_S A s.heap H locs → fX10_wrongs_J67 s0 z67_0 = some res → W p l e rmX10_wrongs s m args below meth c H locs 0 0 QQ (F0 m 67 ls [.long z67_0, .ref h0]) := by
    intro z67_0 H locs ls hl hP hD hS h
    unfold fX10_wrongs_J67 at h
    refine ca_i (w' := [WX10 cy h0 a0 s0, WX0 cy (a0 0) a1 s1]) (rn_S (As := [.long z67_0]) (rest := [.ref h0]) ⟨hx, hb, hml, hown, hts⟩ (kJ13_bitCount_95d88 l D cy z67_0 _ rfl H.size) (va_cwS 1 hts gX10_wrongs_J13_bitCount_95d88 rfl rfl rfl (by decide +kernel) ⟨Nat.le_of_ble_eq_true rfl, Nat.le_of_ble_eq_true rfl⟩) hK hN hP hD [] rfl rfl rfl hl.1 rfl (Nat.le_of_ble_eq_true rfl) dX10_wrongs_67 ⟨Nat.le_refl 0, Nat.le_refl 0⟩) hP hD hS hA [] ⟨rfl, rfl, rfl, rfl⟩ (fun H locs hP hD hS => ?_)
    obtain ⟨r1, hr1, h⟩ := lt_elim h
    refine ca_i (w' := [WX10 cy h0 a0 r1.2, WX0 cy (a0 0) a1 s1]) (rn_V (As := [.int (fJ13_bitCount_95d88 z67_0)]) (rest := []) ⟨hx, hb, hml, hown, hts⟩ (kX10_answer l D cy h0 a0 s0 (fJ13_bitCount_95d88 z67_0) r1 hr1.symm H.size) (cwV 1 hts gX10_wrongs_X10_answer rfl rfl rfl (by decide +kernel) ⟨Nat.le_of_ble_eq_true rfl, Nat.le_of_ble_eq_true rfl⟩) hK hN hP hD [0] rfl rfl (ci := 10) (q0 := 0) rfl rfl rfl rfl hl.1 rfl (Nat.le_of_ble_eq_true rfl) dX10_wrongs_70 ⟨Nat.le_refl 0, Nat.le_refl 0⟩) hP hD hS hA [0] ⟨rfl, rfl, rfl, rfl⟩ (fun H locs hP hD hS => ?_)
    exact hret 73 H locs ls (r1.1, r1.2) (Option.some.inj h) hP hD hS dX10_wrongs_73
  refine lv_aload_n hx hb dX10_wrongs_0 rfl (lv_at hl 0 rfl) ?_
  refine lv_iload_n hx hb dX10_wrongs_1 rfl (lv_at hl 1 rfl) ?_
  refine ca_z (w' := [WX10 cy h0 a0 s0, WX0 cy (a0 0) a1 s1]) (rn_V (As := [.int p1]) (rest := []) ⟨hx, hb, hml, hown, hts⟩ (kX10_noFarmer l D cy h0 a0 a1 s0 s1 p1 _ rfl H.size) (cwV 1 hts gX10_wrongs_X10_noFarmer rfl rfl rfl (by decide +kernel) ⟨Nat.le_of_ble_eq_true rfl, Nat.le_of_ble_eq_true rfl⟩) hK hN hP hD [0, 1] rfl rfl (ci := 10) (q0 := 0) rfl rfl rfl rfl hl.1 rfl (Nat.le_of_ble_eq_true rfl) dX10_wrongs_2 ⟨Nat.le_refl 0, Nat.le_refl 0⟩) hP hD hS hA [0, 1] ⟨rfl, rfl, rfl, rfl⟩ (fun b2 H locs hP hD hS => ?_)
  refine lv_if_ne (tgt := 17) hx hb dX10_wrongs_5 (by decide) (fun c3 => ?_) (fun c3 => ?_)
  · replace h := (if_neg c3).symm.trans h
    refine lv_aload_n hx hb dX10_wrongs_17 rfl (lv_at hl 0 rfl) ?_
    refine lv_iconst (v := 1) hx hb dX10_wrongs_18 (by decide) ?_
    obtain ⟨r4, hr4, h⟩ := lt_elim h
    refine ca_i (w' := [WX10 cy h0 a0 r4.2, WX0 cy (a0 0) a1 s1]) (rn_V (As := [.int (1 : Int32)]) (rest := []) ⟨hx, hb, hml, hown, hts⟩ (kX10_refuse l D cy h0 a0 s0 (1 : Int32) r4 hr4.symm H.size) (cwV 1 hts gX10_wrongs_X10_refuse rfl rfl rfl (by decide +kernel) ⟨Nat.le_of_ble_eq_true rfl, Nat.le_of_ble_eq_true rfl⟩) hK hN hP hD [0] rfl rfl (ci := 10) (q0 := 0) rfl rfl rfl rfl hl.1 rfl (Nat.le_of_ble_eq_true rfl) dX10_wrongs_19 ⟨Nat.le_refl 0, Nat.le_refl 0⟩) hP hD hS hA [0] ⟨rfl, rfl, rfl, rfl⟩ (fun H locs hP hD hS => ?_)
    exact hret 22 H locs ls (r4.1, r4.2) (Option.some.inj h) hP hD hS dX10_wrongs_22
  · replace h := (if_pos c3).symm.trans h
    refine lv_iload_n hx hb dX10_wrongs_8 rfl (lv_at hl 2 rfl) ?_
    refine lv_iconst (v := 0) hx hb dX10_wrongs_9 (by decide) ?_
    refine lv_iconst (v := 1) hx hb dX10_wrongs_10 (by decide) ?_
    refine ca_z (w' := [WX10 cy h0 a0 s0, WX0 cy (a0 0) a1 s1]) (rn_S (As := [.int p2, .int (0 : Int32), .int (1 : Int32)]) (rest := []) ⟨hx, hb, hml, hown, hts⟩ (kX10_outside l D cy p2 (0 : Int32) (1 : Int32) _ rfl H.size) (va_cwS 3 hts gX10_wrongs_X10_outside rfl rfl rfl (by decide +kernel) ⟨Nat.le_of_ble_eq_true rfl, Nat.le_of_ble_eq_true rfl⟩) hK hN hP hD [] rfl rfl rfl hl.1 rfl (Nat.le_of_ble_eq_true rfl) dX10_wrongs_11 ⟨Nat.le_refl 0, Nat.le_refl 0⟩) hP hD hS hA [] ⟨rfl, rfl, rfl, rfl⟩ (fun b5 H locs hP hD hS => ?_)
    refine lv_if_eq (tgt := 23) hx hb dX10_wrongs_14 (by decide) (fun c6 => ?_) (fun c6 => ?_)
    · replace h := (if_pos c6).symm.trans h
      refine lv_aload_n hx hb dX10_wrongs_23 rfl (lv_at hl 0 rfl) ?_
      refine va_get (D := D) (ci := 10) (v := .ref (a0 0)) (C := RX10) (T := TX10) (N := 19) hx hb hts hinX10 hown hK hP 0 rfl rfl 0 (by decide) (hts (.fieldLink RX10 10 "KneeBench" "bench" "LKneeBench$Bench;") (List.mem_of_getElem? (i := 1) rfl)) (fun _ h9 => h9) rfl dX10_wrongs_24 ?_
      refine lv_iload_n hx hb dX10_wrongs_27 rfl (lv_at hl 1 rfl) ?_
      obtain ⟨r7, hr7, h⟩ := bd_elim h
      refine ca_l (w' := [WX10 cy h0 a0 s0, WX0 cy (a0 0) a1 s1]) (rn_V (As := [.int p1]) (rest := []) ⟨hx, hb, hml, hown, hts⟩ (kX0_dueDays l D cy (a0 0) a1 s1 p1 r7 hr7 H.size) (cwV 1 hts gX10_wrongs_X0_dueDays rfl rfl rfl (by decide +kernel) ⟨Nat.le_of_ble_eq_true rfl, Nat.le_of_ble_eq_true rfl⟩) hK hN hP hD [1] rfl rfl (ci := 0) (q0 := 1) rfl rfl rfl rfl hl.1 rfl (Nat.le_of_ble_eq_true rfl) dX10_wrongs_28 ⟨Nat.le_refl 0, Nat.le_refl 0⟩) hP hD hS hA [1] ⟨rfl, rfl, rfl, rfl⟩ (fun H locs hP hD hS => ?_)
      refine lv_lstore_n (lv' := [(3, .long r7), (0, .ref h0), (1, .int p1), (2, .int p2)]) hx hb dX10_wrongs_31 rfl hl (by decide) rfl (fun ls hl => ?_)
      refine lv_aload_n hx hb dX10_wrongs_32 rfl (lv_at hl 1 rfl) ?_
      refine va_get (D := D) (ci := 10) (v := .ref (a0 0)) (C := RX10) (T := TX10) (N := 19) hx hb hts hinX10 hown hK hP 0 rfl rfl 0 (by decide) (hts (.fieldLink RX10 10 "KneeBench" "bench" "LKneeBench$Bench;") (List.mem_of_getElem? (i := 1) rfl)) (fun _ h9 => h9) rfl dX10_wrongs_33 ?_
      refine va_getN (D := D) (ci := 0) (v := .ref (a1 6)) (C := RX0) (T := TX0) (N := 14) hx hb hts hinX0 hown hK hP 1 rfl rfl 6 (by decide) (NW.fld hN 11 rfl _) (fun _ h9 => h9) rfl dX10_wrongs_36 ?_
      refine lv_iload_n hx hb dX10_wrongs_39 rfl (lv_at hl 2 rfl) ?_
      obtain ⟨g8, h⟩ := gd_elim h
      refine va_lald hx hb hK hP 8 2 rfl rfl (inb_in g8) dX10_wrongs_40 ?_
      refine lv_topl (fun x9 ex9 => ?_)
      replace h := lt_use h x9 ex9
      refine lv_lstore (lv' := [(5, .long x9), (3, .long r7), (0, .ref h0), (1, .int p1), (2, .int p2)]) hx hb dX10_wrongs_41 hl (by decide) rfl (fun ls hl => ?_)
      refine lv_aload_n hx hb dX10_wrongs_43 rfl (lv_at hl 2 rfl) ?_
      refine lv_iload_n hx hb dX10_wrongs_44 rfl (lv_at hl 4 rfl) ?_
      refine lv_if_ne (tgt := 59) hx hb dX10_wrongs_45 (by decide) (fun c10 => ?_) (fun c10 => ?_)
      · replace h := (if_neg c10).symm.trans h
        refine lv_lload_n hx hb dX10_wrongs_59 rfl (lv_at hl 1 rfl) ?_
        refine lv_lload hx hb dX10_wrongs_60 (lv_at hl 0 rfl) ?_
        refine lv_ldc2 (v := -1) hx hb hown (hts (.constantLong RX10 297 (-1)) (List.mem_of_getElem? (i := 2) rfl)) dX10_wrongs_62 ?_
        refine lv_lxor hx hb dX10_wrongs_65 ?_
        refine lv_land hx hb dX10_wrongs_66 ?_
        exact J67 (r7 &&& (x9 ^^^ (-1 : Int64))) H locs ls (lv_sub hl [] rfl) hP hD hS h
      · replace h := (if_pos c10).symm.trans h
        refine lv_lload hx hb dX10_wrongs_48 (lv_at hl 0 rfl) ?_
        refine lv_lload_n hx hb dX10_wrongs_50 rfl (lv_at hl 1 rfl) ?_
        refine lv_ldc2 (v := -1) hx hb hown (hts (.constantLong RX10 297 (-1)) (List.mem_of_getElem? (i := 2) rfl)) dX10_wrongs_51 ?_
        refine lv_lxor hx hb dX10_wrongs_54 ?_
        refine lv_land hx hb dX10_wrongs_55 ?_
        refine lv_goto (tgt := 67) hx hb dX10_wrongs_56 (by decide) ?_
        exact J67 (x9 &&& (r7 ^^^ (-1 : Int64))) H locs ls (lv_sub hl [] rfl) hP hD hS h
    · replace h := (if_neg c6).symm.trans h
      refine lv_aload_n hx hb dX10_wrongs_17 rfl (lv_at hl 0 rfl) ?_
      refine lv_iconst (v := 1) hx hb dX10_wrongs_18 (by decide) ?_
      obtain ⟨r11, hr11, h⟩ := lt_elim h
      refine ca_i (w' := [WX10 cy h0 a0 r11.2, WX0 cy (a0 0) a1 s1]) (rn_V (As := [.int (1 : Int32)]) (rest := []) ⟨hx, hb, hml, hown, hts⟩ (kX10_refuse l D cy h0 a0 s0 (1 : Int32) r11 hr11.symm H.size) (cwV 1 hts gX10_wrongs_X10_refuse rfl rfl rfl (by decide +kernel) ⟨Nat.le_of_ble_eq_true rfl, Nat.le_of_ble_eq_true rfl⟩) hK hN hP hD [0] rfl rfl (ci := 10) (q0 := 0) rfl rfl rfl rfl hl.1 rfl (Nat.le_of_ble_eq_true rfl) dX10_wrongs_19 ⟨Nat.le_refl 0, Nat.le_refl 0⟩) hP hD hS hA [0] ⟨rfl, rfl, rfl, rfl⟩ (fun H locs hP hD hS => ?_)
      exact hret 22 H locs ls (r11.1, r11.2) (Option.some.inj h) hP hD hS dX10_wrongs_22
theorem dX11_byteAt_0 : decode cX11_byteAt 0 = .ok (.iload_n 1, 1) := by decide +kernel
theorem dX11_byteAt_1 : decode cX11_byteAt 1 = .ok (.aload_n 0, 1) := by decide +kernel
theorem dX11_byteAt_2 : decode cX11_byteAt 2 = .ok (.getfield 105, 3) := by decide +kernel
theorem dX11_byteAt_5 : decode cX11_byteAt 5 = .ok (.if_icmp .ge 16, 3) := by decide +kernel
theorem dX11_byteAt_8 : decode cX11_byteAt 8 = .ok (.aload_n 0, 1) := by decide +kernel
theorem dX11_byteAt_9 : decode cX11_byteAt 9 = .ok (.getfield 34, 3) := by decide +kernel
theorem dX11_byteAt_12 : decode cX11_byteAt 12 = .ok (.iload_n 1, 1) := by decide +kernel
theorem dX11_byteAt_13 : decode cX11_byteAt 13 = .ok (.baload, 1) := by decide +kernel
theorem dX11_byteAt_14 : decode cX11_byteAt 14 = .ok (.sipush 255, 3) := by decide +kernel
theorem dX11_byteAt_17 : decode cX11_byteAt 17 = .ok (.iand, 1) := by decide +kernel
theorem dX11_byteAt_18 : decode cX11_byteAt 18 = .ok (.goto 4, 3) := by decide +kernel
theorem dX11_byteAt_21 : decode cX11_byteAt 21 = .ok (.iconst (-1), 1) := by decide +kernel
theorem dX11_byteAt_22 : decode cX11_byteAt 22 = .ok (.ireturn, 1) := by decide +kernel
abbrev rmX11_byteAt : Room := { frames := 0, cells := 0, slots := 0, locals := 0 }
set_option maxHeartbeats 4000000 in
set_option maxRecDepth 100000 in
theorem kX11_byteAt (l : Launch) (D : va_G) (cy : Nat → ClassId) (h0 : Nat) (a0 : Nat → Nat) (s0 : Rc) (p1 : Int32) (res : Int32) (h : fX11_byteAt p1 s0 = some res) : CI l D cy yX11_byteAt wsX11_byteAt rmX11_byteAt [.ref h0, .int p1] (flat [WX11 cy h0 a0 s0]) (flat [WX11 cy h0 a0 s0]) res := by
  refine CI.of (cc := cX11_byteAt) (maxL := 2) (by decide) rfl (Nat.le_of_ble_eq_true rfl) ?_
  intro p e s m args below meth c A QQ ls E hr
  obtain ⟨hx, hb, hml, hown, hts, hK, hN, hP, hD, hA, hl⟩ := E
  have hret : ∀ (pc : Nat) (H : Heap) (locs : List Loc) (ls : Array Slot) (u : Int32), u = res → va_P D vwCl (flat [WX11 cy h0 a0 s0]) H → va_D A (flat [WX11 cy h0 a0 s0]) → va_S A s.heap H locs → decode cX11_byteAt pc = .ok (.ireturn, 1) → W p l e rmX11_byteAt s m args below meth c H locs 0 0 QQ (F0 m pc ls [.int u]) := by
    intro pc H locs ls u hu hP hD hS hd; subst hu; exact hr pc H locs ls _ rfl hP hD hS hd
  clear hr
  have hl : lv_has ls 2 [(0, .ref h0), (1, .int p1)] := hl
  have hinX11 : ∀ w ∈ wsX110, w ∈ wsX11_byteAt := fun _ h => List.mem_cons_of_mem _ (List.mem_append_right _ h)
  unfold fX11_byteAt at h
  suffices key : ∀ (H : Heap) (locs : List Loc), va_P D vwCl (flat [WX11 cy h0 a0 s0]) H → va_S A s.heap H locs → W p l e rmX11_byteAt s m args below meth c H locs 0 0 QQ (F0 m 0 ls []) from key _ _ hP va_S.rf
  clear hP
  intro H locs hP hS
  refine lv_iload_n hx hb dX11_byteAt_0 rfl (lv_at hl 1 rfl) ?_
  refine lv_aload_n hx hb dX11_byteAt_1 rfl (lv_at hl 0 rfl) ?_
  refine va_get (D := D) (ci := 11) (v := .int (gi s0 11)) (C := RX11) (T := TX11) (N := 38) hx hb hts hinX11 hown hK hP 0 rfl rfl 11 (by decide) (hts (.fieldLink RX11 105 "KneeBenchModel" "size" "I") (List.mem_of_getElem? (i := 1) rfl)) (fun _ h9 => h9) rfl dX11_byteAt_2 ?_
  refine lv_icmp_ge (tgt := 21) hx hb dX11_byteAt_5 (by decide) (fun c1 => ?_) (fun c1 => ?_)
  · replace h := (if_pos c1).symm.trans h
    refine lv_iconst (v := -1) hx hb dX11_byteAt_21 (by decide) ?_
    exact hret 22 H locs ls (-1 : Int32) (Option.some.inj h) hP hD hS dX11_byteAt_22
  · replace h := (if_neg c1).symm.trans h
    refine lv_aload_n hx hb dX11_byteAt_8 rfl (lv_at hl 0 rfl) ?_
    refine va_get (D := D) (ci := 11) (v := .ref (a0 9)) (C := RX11) (T := TX11) (N := 38) hx hb hts hinX11 hown hK hP 0 rfl rfl 9 (by decide) (hts (.fieldLink RX11 34 "KneeBenchModel" "text" "[B") (List.mem_of_getElem? (i := 2) rfl)) (fun _ h9 => h9) rfl dX11_byteAt_9 ?_
    refine lv_iload_n hx hb dX11_byteAt_12 rfl (lv_at hl 1 rfl) ?_
    obtain ⟨g2, h⟩ := gd_elim h
    refine va_bald hx hb hK hP 7 0 rfl rfl (inb_in g2) dX11_byteAt_13 ?_
    refine lv_sipush (v := 255) hx hb dX11_byteAt_14 (by decide) ?_
    refine lv_iand hx hb dX11_byteAt_17 ?_
    refine lv_goto (tgt := 22) hx hb dX11_byteAt_18 (by decide) ?_
    exact hret 22 H locs ls ((ga s0 9 p1.toNatClampNeg) &&& (255 : Int32)) (Option.some.inj h) hP hD hS dX11_byteAt_22
theorem dX11_isSmall_0 : decode cX11_isSmall 0 = .ok (.iload_n 0, 1) := by decide +kernel
theorem dX11_isSmall_1 : decode cX11_isSmall 1 = .ok (.bipush 97, 2) := by decide +kernel
theorem dX11_isSmall_3 : decode cX11_isSmall 3 = .ok (.if_icmp .lt 13, 3) := by decide +kernel
theorem dX11_isSmall_6 : decode cX11_isSmall 6 = .ok (.iload_n 0, 1) := by decide +kernel
theorem dX11_isSmall_7 : decode cX11_isSmall 7 = .ok (.bipush 122, 2) := by decide +kernel
theorem dX11_isSmall_9 : decode cX11_isSmall 9 = .ok (.if_icmp .gt 7, 3) := by decide +kernel
theorem dX11_isSmall_12 : decode cX11_isSmall 12 = .ok (.iconst 1, 1) := by decide +kernel
theorem dX11_isSmall_13 : decode cX11_isSmall 13 = .ok (.goto 4, 3) := by decide +kernel
theorem dX11_isSmall_16 : decode cX11_isSmall 16 = .ok (.iconst 0, 1) := by decide +kernel
theorem dX11_isSmall_17 : decode cX11_isSmall 17 = .ok (.ireturn, 1) := by decide +kernel
abbrev rmX11_isSmall : Room := { frames := 0, cells := 0, slots := 0, locals := 0 }
set_option maxHeartbeats 4000000 in
set_option maxRecDepth 100000 in
theorem kX11_isSmall (l : Launch) (D : va_G) (cy : Nat → ClassId) (p1 : Int32) (res : Int32) (h : fX11_isSmall p1 = res) : CZ l D cy yX11_isSmall wsX11_isSmall rmX11_isSmall [.int p1] (flat []) (flat []) res := by
  refine CZ.of (cc := cX11_isSmall) (maxL := 1) (by decide) rfl (Nat.le_of_ble_eq_true rfl) ?_
  intro p e s m args below meth c A QQ ls E hr
  obtain ⟨hx, hb, hml, hown, hts, hK, hN, hP, hD, hA, hl⟩ := E
  have hret : ∀ (pc : Nat) (H : Heap) (locs : List Loc) (ls : Array Slot) (u : Int32), u = res → va_P D vwCl (flat []) H → va_D A (flat []) → va_S A s.heap H locs → isb u = true → decode cX11_isSmall pc = .ok (.ireturn, 1) → W p l e rmX11_isSmall s m args below meth c H locs 0 0 QQ (F0 m pc ls [.int u]) := by
    intro pc H locs ls u hu hP hD hS hz hd; subst hu; exact hr pc H locs ls _ rfl hP hD hS hz hd
  clear hr
  have hl : lv_has ls 1 [(0, .int p1)] := hl
  unfold fX11_isSmall at h
  suffices key : ∀ (H : Heap) (locs : List Loc), va_P D vwCl (flat []) H → va_S A s.heap H locs → W p l e rmX11_isSmall s m args below meth c H locs 0 0 QQ (F0 m 0 ls []) from key _ _ hP va_S.rf
  clear hP
  intro H locs hP hS
  refine lv_iload_n hx hb dX11_isSmall_0 rfl (lv_at hl 0 rfl) ?_
  refine lv_bipush (v := 97) hx hb dX11_isSmall_1 (by decide) ?_
  refine lv_icmp_lt (tgt := 16) hx hb dX11_isSmall_3 (by decide) (fun c1 => ?_) (fun c1 => ?_)
  · replace h := (if_pos c1).symm.trans h
    refine lv_iconst (v := 0) hx hb dX11_isSmall_16 (by decide) ?_
    exact hret 17 H locs ls (0 : Int32) h hP hD hS (show isb (0 : Int32) = true by decide) dX11_isSmall_17
  · replace h := (if_neg c1).symm.trans h
    refine lv_iload_n hx hb dX11_isSmall_6 rfl (lv_at hl 0 rfl) ?_
    refine lv_bipush (v := 122) hx hb dX11_isSmall_7 (by decide) ?_
    refine lv_icmp_gt (tgt := 16) hx hb dX11_isSmall_9 (by decide) (fun c2 => ?_) (fun c2 => ?_)
    · replace h := (if_pos c2).symm.trans h
      refine lv_iconst (v := 0) hx hb dX11_isSmall_16 (by decide) ?_
      exact hret 17 H locs ls (0 : Int32) h hP hD hS (show isb (0 : Int32) = true by decide) dX11_isSmall_17
    · replace h := (if_neg c2).symm.trans h
      refine lv_iconst (v := 1) hx hb dX11_isSmall_12 (by decide) ?_
      refine lv_goto (tgt := 17) hx hb dX11_isSmall_13 (by decide) ?_
      exact hret 17 H locs ls (1 : Int32) h hP hD hS (show isb (1 : Int32) = true by decide) dX11_isSmall_17
theorem dX11_isDigit_0 : decode cX11_isDigit 0 = .ok (.iload_n 0, 1) := by decide +kernel
theorem dX11_isDigit_1 : decode cX11_isDigit 1 = .ok (.bipush 48, 2) := by decide +kernel
theorem dX11_isDigit_3 : decode cX11_isDigit 3 = .ok (.if_icmp .lt 13, 3) := by decide +kernel
theorem dX11_isDigit_6 : decode cX11_isDigit 6 = .ok (.iload_n 0, 1) := by decide +kernel
theorem dX11_isDigit_7 : decode cX11_isDigit 7 = .ok (.bipush 57, 2) := by decide +kernel
theorem dX11_isDigit_9 : decode cX11_isDigit 9 = .ok (.if_icmp .gt 7, 3) := by decide +kernel
theorem dX11_isDigit_12 : decode cX11_isDigit 12 = .ok (.iconst 1, 1) := by decide +kernel
theorem dX11_isDigit_13 : decode cX11_isDigit 13 = .ok (.goto 4, 3) := by decide +kernel
theorem dX11_isDigit_16 : decode cX11_isDigit 16 = .ok (.iconst 0, 1) := by decide +kernel
theorem dX11_isDigit_17 : decode cX11_isDigit 17 = .ok (.ireturn, 1) := by decide +kernel
abbrev rmX11_isDigit : Room := { frames := 0, cells := 0, slots := 0, locals := 0 }
set_option maxHeartbeats 4000000 in
set_option maxRecDepth 100000 in
theorem kX11_isDigit (l : Launch) (D : va_G) (cy : Nat → ClassId) (p1 : Int32) (res : Int32) (h : fX11_isDigit p1 = res) : CZ l D cy yX11_isDigit wsX11_isDigit rmX11_isDigit [.int p1] (flat []) (flat []) res := by
  refine CZ.of (cc := cX11_isDigit) (maxL := 1) (by decide) rfl (Nat.le_of_ble_eq_true rfl) ?_
  intro p e s m args below meth c A QQ ls E hr
  obtain ⟨hx, hb, hml, hown, hts, hK, hN, hP, hD, hA, hl⟩ := E
  have hret : ∀ (pc : Nat) (H : Heap) (locs : List Loc) (ls : Array Slot) (u : Int32), u = res → va_P D vwCl (flat []) H → va_D A (flat []) → va_S A s.heap H locs → isb u = true → decode cX11_isDigit pc = .ok (.ireturn, 1) → W p l e rmX11_isDigit s m args below meth c H locs 0 0 QQ (F0 m pc ls [.int u]) := by
    intro pc H locs ls u hu hP hD hS hz hd; subst hu; exact hr pc H locs ls _ rfl hP hD hS hz hd
  clear hr
  have hl : lv_has ls 1 [(0, .int p1)] := hl
  unfold fX11_isDigit at h
  suffices key : ∀ (H : Heap) (locs : List Loc), va_P D vwCl (flat []) H → va_S A s.heap H locs → W p l e rmX11_isDigit s m args below meth c H locs 0 0 QQ (F0 m 0 ls []) from key _ _ hP va_S.rf
  clear hP
  intro H locs hP hS
  refine lv_iload_n hx hb dX11_isDigit_0 rfl (lv_at hl 0 rfl) ?_
  refine lv_bipush (v := 48) hx hb dX11_isDigit_1 (by decide) ?_
  refine lv_icmp_lt (tgt := 16) hx hb dX11_isDigit_3 (by decide) (fun c1 => ?_) (fun c1 => ?_)
  · replace h := (if_pos c1).symm.trans h
    refine lv_iconst (v := 0) hx hb dX11_isDigit_16 (by decide) ?_
    exact hret 17 H locs ls (0 : Int32) h hP hD hS (show isb (0 : Int32) = true by decide) dX11_isDigit_17
  · replace h := (if_neg c1).symm.trans h
    refine lv_iload_n hx hb dX11_isDigit_6 rfl (lv_at hl 0 rfl) ?_
    refine lv_bipush (v := 57) hx hb dX11_isDigit_7 (by decide) ?_
    refine lv_icmp_gt (tgt := 16) hx hb dX11_isDigit_9 (by decide) (fun c2 => ?_) (fun c2 => ?_)
    · replace h := (if_pos c2).symm.trans h
      refine lv_iconst (v := 0) hx hb dX11_isDigit_16 (by decide) ?_
      exact hret 17 H locs ls (0 : Int32) h hP hD hS (show isb (0 : Int32) = true by decide) dX11_isDigit_17
    · replace h := (if_neg c2).symm.trans h
      refine lv_iconst (v := 1) hx hb dX11_isDigit_12 (by decide) ?_
      refine lv_goto (tgt := 17) hx hb dX11_isDigit_13 (by decide) ?_
      exact hret 17 H locs ls (1 : Int32) h hP hD hS (show isb (1 : Int32) = true by decide) dX11_isDigit_17
