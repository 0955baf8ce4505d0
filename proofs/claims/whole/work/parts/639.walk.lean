theorem gd_X11_clashes : wsX11_clashes.all goodWord = true := by decide +kernel
set_option maxRecDepth 20000 in
theorem ggX11_clashes_X11_isFarmer : GoodIn wsX11_clashes wsX11_isFarmer := goodIn_by gd_X11_clashes (List.forall_mem_cons.mpr ⟨List.mem_cons_of_mem _ (List.mem_append_left _ (List.mem_append_left _ (List.mem_of_getElem? (i := 5) rfl))), List.forall_mem_append.mpr ⟨List.forall_mem_cons.mpr ⟨List.mem_cons_of_mem _ (List.mem_append_left _ (List.mem_append_left _ (List.mem_of_getElem? (i := 0) rfl))), nowords_in⟩, (fun _ h => List.mem_cons_of_mem _ (List.mem_append_right _ (h)))⟩⟩)
set_option maxRecDepth 20000 in
theorem gX11_clashes_X11_isFarmer : GoodIn wsX11_clashes (wsV RX11 267 RX11 yX11_isFarmer wsX11_isFarmer) := goodIn_app (goodIn_by gd_X11_clashes (List.forall_mem_cons.mpr ⟨List.mem_cons_of_mem _ (List.mem_append_left _ (List.mem_append_left _ (List.mem_of_getElem? (i := 1) rfl))), List.forall_mem_cons.mpr ⟨List.mem_cons_of_mem _ (List.mem_append_left _ (List.mem_append_left _ (List.mem_of_getElem? (i := 2) rfl))), List.forall_mem_cons.mpr ⟨List.mem_cons_of_mem _ (List.mem_append_left _ (List.mem_append_left _ (List.mem_of_getElem? (i := 3) rfl))), List.forall_mem_cons.mpr ⟨List.mem_cons_of_mem _ (List.mem_append_left _ (List.mem_append_left _ (List.mem_of_getElem? (i := 4) rfl))), nowords_in⟩⟩⟩⟩)) ggX11_clashes_X11_isFarmer
set_option maxRecDepth 20000 in
theorem ggX11_clashes_X11_refuse : GoodIn wsX11_clashes wsX11_refuse := goodIn_by gd_X11_clashes (List.forall_mem_cons.mpr ⟨List.mem_cons_of_mem _ (List.mem_append_left _ (List.mem_append_left _ (List.mem_of_getElem? (i := 9) rfl))), List.forall_mem_append.mpr ⟨List.forall_mem_cons.mpr ⟨List.mem_cons_of_mem _ (List.mem_append_left _ (List.mem_append_left _ (List.mem_of_getElem? (i := 10) rfl))), nowords_in⟩, (fun _ h => List.mem_cons_of_mem _ (List.mem_append_right _ (h)))⟩⟩)
set_option maxRecDepth 20000 in
theorem gX11_clashes_X11_refuse : GoodIn wsX11_clashes (wsV RX11 75 RX11 yX11_refuse wsX11_refuse) := goodIn_app (goodIn_by gd_X11_clashes (List.forall_mem_cons.mpr ⟨List.mem_cons_of_mem _ (List.mem_append_left _ (List.mem_append_left _ (List.mem_of_getElem? (i := 6) rfl))), List.forall_mem_cons.mpr ⟨List.mem_cons_of_mem _ (List.mem_append_left _ (List.mem_append_left _ (List.mem_of_getElem? (i := 7) rfl))), List.forall_mem_cons.mpr ⟨List.mem_cons_of_mem _ (List.mem_append_left _ (List.mem_append_left _ (List.mem_of_getElem? (i := 8) rfl))), List.forall_mem_cons.mpr ⟨List.mem_cons_of_mem _ (List.mem_append_left _ (List.mem_append_left _ (List.mem_of_getElem? (i := 4) rfl))), nowords_in⟩⟩⟩⟩)) ggX11_clashes_X11_refuse
set_option maxRecDepth 20000 in
theorem ggX11_clashes_X11_tellOf : GoodIn wsX11_clashes wsX11_tellOf := goodIn_by gd_X11_clashes (List.forall_mem_cons.mpr ⟨List.mem_cons_of_mem _ (List.mem_append_left _ (List.mem_append_left _ (List.mem_of_getElem? (i := 14) rfl))), List.forall_mem_append.mpr ⟨List.forall_mem_cons.mpr ⟨List.mem_cons_of_mem _ (List.mem_append_left _ (List.mem_append_left _ (List.mem_of_getElem? (i := 15) rfl))), List.forall_mem_cons.mpr ⟨List.mem_cons_of_mem _ (List.mem_append_left _ (List.mem_append_left _ (List.mem_of_getElem? (i := 0) rfl))), List.forall_mem_cons.mpr ⟨List.mem_cons_of_mem _ (List.mem_append_left _ (List.mem_append_left _ (List.mem_of_getElem? (i := 16) rfl))), List.forall_mem_cons.mpr ⟨List.mem_cons_of_mem _ (List.mem_append_left _ (List.mem_append_left _ (List.mem_of_getElem? (i := 17) rfl))), List.forall_mem_cons.mpr ⟨List.mem_cons_of_mem _ (List.mem_append_left _ (List.mem_append_left _ (List.mem_of_getElem? (i := 18) rfl))), List.forall_mem_cons.mpr ⟨List.mem_cons_of_mem _ (List.mem_append_left _ (List.mem_append_left _ (List.mem_of_getElem? (i := 19) rfl))), List.forall_mem_cons.mpr ⟨List.mem_cons_of_mem _ (List.mem_append_left _ (List.mem_append_left _ (List.mem_of_getElem? (i := 4) rfl))), List.forall_mem_cons.mpr ⟨List.mem_cons_of_mem _ (List.mem_append_left _ (List.mem_append_left _ (List.mem_of_getElem? (i := 20) rfl))), List.forall_mem_cons.mpr ⟨List.mem_cons_of_mem _ (List.mem_append_left _ (List.mem_append_left _ (List.mem_of_getElem? (i := 21) rfl))), List.forall_mem_cons.mpr ⟨List.mem_cons_of_mem _ (List.mem_append_left _ (List.mem_append_left _ (List.mem_of_getElem? (i := 22) rfl))), List.forall_mem_cons.mpr ⟨List.mem_cons_of_mem _ (List.mem_append_left _ (List.mem_append_left _ (List.mem_of_getElem? (i := 23) rfl))), List.forall_mem_cons.mpr ⟨List.mem_cons_of_mem _ (List.mem_append_left _ (List.mem_append_right _ (List.mem_of_getElem? (i := 0) rfl))), List.forall_mem_cons.mpr ⟨List.mem_cons_of_mem _ (List.mem_append_left _ (List.mem_append_right _ (List.mem_of_getElem? (i := 1) rfl))), List.forall_mem_cons.mpr ⟨List.mem_cons_of_mem _ (List.mem_append_left _ (List.mem_append_right _ (List.mem_of_getElem? (i := 2) rfl))), List.forall_mem_cons.mpr ⟨List.mem_cons_of_mem _ (List.mem_append_left _ (List.mem_append_right _ (List.mem_of_getElem? (i := 3) rfl))), List.forall_mem_cons.mpr ⟨List.mem_cons_of_mem _ (List.mem_append_left _ (List.mem_append_right _ (List.mem_of_getElem? (i := 4) rfl))), List.forall_mem_cons.mpr ⟨List.mem_cons_of_mem _ (List.mem_append_left _ (List.mem_append_right _ (List.mem_of_getElem? (i := 5) rfl))), List.forall_mem_cons.mpr ⟨List.mem_cons_of_mem _ (List.mem_append_left _ (List.mem_append_right _ (List.mem_of_getElem? (i := 6) rfl))), List.forall_mem_cons.mpr ⟨List.mem_cons_of_mem _ (List.mem_append_left _ (List.mem_append_right _ (List.mem_of_getElem? (i := 7) rfl))), List.forall_mem_cons.mpr ⟨List.mem_cons_of_mem _ (List.mem_append_left _ (List.mem_append_right _ (List.mem_of_getElem? (i := 8) rfl))), List.forall_mem_cons.mpr ⟨List.mem_cons_of_mem _ (List.mem_append_left _ (List.mem_append_right _ (List.mem_of_getElem? (i := 9) rfl))), List.forall_mem_cons.mpr ⟨List.mem_cons_of_mem _ (List.mem_append_left _ (List.mem_append_right _ (List.mem_of_getElem? (i := 10) rfl))), nowords_in⟩⟩⟩⟩⟩⟩⟩⟩⟩⟩⟩⟩⟩⟩⟩⟩⟩⟩⟩⟩⟩⟩, (fun _ h => List.mem_cons_of_mem _ (List.mem_append_right _ (h)))⟩⟩)
set_option maxRecDepth 20000 in
theorem gX11_clashes_X11_tellOf : GoodIn wsX11_clashes (wsV RX11 307 RX11 yX11_tellOf wsX11_tellOf) := goodIn_app (goodIn_by gd_X11_clashes (List.forall_mem_cons.mpr ⟨List.mem_cons_of_mem _ (List.mem_append_left _ (List.mem_append_left _ (List.mem_of_getElem? (i := 11) rfl))), List.forall_mem_cons.mpr ⟨List.mem_cons_of_mem _ (List.mem_append_left _ (List.mem_append_left _ (List.mem_of_getElem? (i := 12) rfl))), List.forall_mem_cons.mpr ⟨List.mem_cons_of_mem _ (List.mem_append_left _ (List.mem_append_left _ (List.mem_of_getElem? (i := 13) rfl))), List.forall_mem_cons.mpr ⟨List.mem_cons_of_mem _ (List.mem_append_left _ (List.mem_append_left _ (List.mem_of_getElem? (i := 4) rfl))), nowords_in⟩⟩⟩⟩)) ggX11_clashes_X11_tellOf
set_option maxRecDepth 20000 in
theorem ggX11_clashes_X11_gives : GoodIn wsX11_clashes wsX11_gives := goodIn_by gd_X11_clashes (List.forall_mem_cons.mpr ⟨List.mem_cons_of_mem _ (List.mem_append_left _ (List.mem_append_right _ (List.mem_of_getElem? (i := 14) rfl))), List.forall_mem_append.mpr ⟨List.forall_mem_cons.mpr ⟨List.mem_cons_of_mem _ (List.mem_append_left _ (List.mem_append_left _ (List.mem_of_getElem? (i := 10) rfl))), nowords_in⟩, (fun _ h => List.mem_cons_of_mem _ (List.mem_append_right _ (h)))⟩⟩)
set_option maxRecDepth 20000 in
theorem gX11_clashes_X11_gives : GoodIn wsX11_clashes (wsV RX11 79 RX11 yX11_gives wsX11_gives) := goodIn_app (goodIn_by gd_X11_clashes (List.forall_mem_cons.mpr ⟨List.mem_cons_of_mem _ (List.mem_append_left _ (List.mem_append_right _ (List.mem_of_getElem? (i := 11) rfl))), List.forall_mem_cons.mpr ⟨List.mem_cons_of_mem _ (List.mem_append_left _ (List.mem_append_right _ (List.mem_of_getElem? (i := 12) rfl))), List.forall_mem_cons.mpr ⟨List.mem_cons_of_mem _ (List.mem_append_left _ (List.mem_append_right _ (List.mem_of_getElem? (i := 13) rfl))), List.forall_mem_cons.mpr ⟨List.mem_cons_of_mem _ (List.mem_append_left _ (List.mem_append_left _ (List.mem_of_getElem? (i := 4) rfl))), nowords_in⟩⟩⟩⟩)) ggX11_clashes_X11_gives
theorem dX11_clashes_0 : decode cX11_clashes 0 = .ok (.aload_n 0, 1) := by decide +kernel
theorem dX11_clashes_1 : decode cX11_clashes 1 = .ok (.iload_n 1, 1) := by decide +kernel
theorem dX11_clashes_2 : decode cX11_clashes 2 = .ok (.invokevirtual 267, 3) := by decide +kernel
theorem dX11_clashes_5 : decode cX11_clashes 5 = .ok (.ifCond .eq 16, 3) := by decide +kernel
theorem dX11_clashes_8 : decode cX11_clashes 8 = .ok (.aload_n 0, 1) := by decide +kernel
theorem dX11_clashes_9 : decode cX11_clashes 9 = .ok (.iload_n 2, 1) := by decide +kernel
theorem dX11_clashes_10 : decode cX11_clashes 10 = .ok (.invokevirtual 267, 3) := by decide +kernel
theorem dX11_clashes_13 : decode cX11_clashes 13 = .ok (.ifCond .eq 8, 3) := by decide +kernel
theorem dX11_clashes_16 : decode cX11_clashes 16 = .ok (.iload_n 1, 1) := by decide +kernel
theorem dX11_clashes_17 : decode cX11_clashes 17 = .ok (.iload_n 2, 1) := by decide +kernel
theorem dX11_clashes_18 : decode cX11_clashes 18 = .ok (.if_icmp .ne 9, 3) := by decide +kernel
theorem dX11_clashes_21 : decode cX11_clashes 21 = .ok (.aload_n 0, 1) := by decide +kernel
theorem dX11_clashes_22 : decode cX11_clashes 22 = .ok (.iconst 1, 1) := by decide +kernel
theorem dX11_clashes_23 : decode cX11_clashes 23 = .ok (.invokevirtual 75, 3) := by decide +kernel
theorem dX11_clashes_26 : decode cX11_clashes 26 = .ok (.ireturn, 1) := by decide +kernel
theorem dX11_clashes_27 : decode cX11_clashes 27 = .ok (.iconst 0, 1) := by decide +kernel
theorem dX11_clashes_28 : decode cX11_clashes 28 = .ok (.istore_n 3, 1) := by decide +kernel
theorem dX11_clashes_29 : decode cX11_clashes 29 = .ok (.iconst 0, 1) := by decide +kernel
theorem dX11_clashes_30 : decode cX11_clashes 30 = .ok (.istore 4, 2) := by decide +kernel
theorem dX11_clashes_32 : decode cX11_clashes 32 = .ok (.iload 4, 2) := by decide +kernel
theorem dX11_clashes_34 : decode cX11_clashes 34 = .ok (.aload_n 0, 1) := by decide +kernel
theorem dX11_clashes_35 : decode cX11_clashes 35 = .ok (.getfield 7, 3) := by decide +kernel
theorem dX11_clashes_38 : decode cX11_clashes 38 = .ok (.iconst 1, 1) := by decide +kernel
theorem dX11_clashes_39 : decode cX11_clashes 39 = .ok (.iaload, 1) := by decide +kernel
theorem dX11_clashes_40 : decode cX11_clashes 40 = .ok (.if_icmp .ge 47, 3) := by decide +kernel
theorem dX11_clashes_43 : decode cX11_clashes 43 = .ok (.iload_n 3, 1) := by decide +kernel
theorem dX11_clashes_44 : decode cX11_clashes 44 = .ok (.aload_n 0, 1) := by decide +kernel
theorem dX11_clashes_45 : decode cX11_clashes 45 = .ok (.iload_n 1, 1) := by decide +kernel
theorem dX11_clashes_46 : decode cX11_clashes 46 = .ok (.iload 4, 2) := by decide +kernel
theorem dX11_clashes_48 : decode cX11_clashes 48 = .ok (.invokevirtual 307, 3) := by decide +kernel
theorem dX11_clashes_51 : decode cX11_clashes 51 = .ok (.iconst (-1), 1) := by decide +kernel
theorem dX11_clashes_52 : decode cX11_clashes 52 = .ok (.if_icmp .eq 26, 3) := by decide +kernel
theorem dX11_clashes_55 : decode cX11_clashes 55 = .ok (.aload_n 0, 1) := by decide +kernel
theorem dX11_clashes_56 : decode cX11_clashes 56 = .ok (.iload_n 2, 1) := by decide +kernel
theorem dX11_clashes_57 : decode cX11_clashes 57 = .ok (.iload 4, 2) := by decide +kernel
theorem dX11_clashes_59 : decode cX11_clashes 59 = .ok (.invokevirtual 307, 3) := by decide +kernel
theorem dX11_clashes_62 : decode cX11_clashes 62 = .ok (.iconst 1, 1) := by decide +kernel
theorem dX11_clashes_63 : decode cX11_clashes 63 = .ok (.aload_n 0, 1) := by decide +kernel
theorem dX11_clashes_64 : decode cX11_clashes 64 = .ok (.iload_n 1, 1) := by decide +kernel
theorem dX11_clashes_65 : decode cX11_clashes 65 = .ok (.iload 4, 2) := by decide +kernel
theorem dX11_clashes_67 : decode cX11_clashes 67 = .ok (.invokevirtual 307, 3) := by decide +kernel
theorem dX11_clashes_70 : decode cX11_clashes 70 = .ok (.isub, 1) := by decide +kernel
theorem dX11_clashes_71 : decode cX11_clashes 71 = .ok (.if_icmp .ne 7, 3) := by decide +kernel
theorem dX11_clashes_74 : decode cX11_clashes 74 = .ok (.iconst 1, 1) := by decide +kernel
theorem dX11_clashes_75 : decode cX11_clashes 75 = .ok (.goto 4, 3) := by decide +kernel
theorem dX11_clashes_78 : decode cX11_clashes 78 = .ok (.iconst 0, 1) := by decide +kernel
theorem dX11_clashes_79 : decode cX11_clashes 79 = .ok (.iadd, 1) := by decide +kernel
theorem dX11_clashes_80 : decode cX11_clashes 80 = .ok (.istore_n 3, 1) := by decide +kernel
theorem dX11_clashes_81 : decode cX11_clashes 81 = .ok (.iinc 4 1, 3) := by decide +kernel
theorem dX11_clashes_84 : decode cX11_clashes 84 = .ok (.goto (-52), 3) := by decide +kernel
theorem dX11_clashes_87 : decode cX11_clashes 87 = .ok (.aload_n 0, 1) := by decide +kernel
theorem dX11_clashes_88 : decode cX11_clashes 88 = .ok (.iload_n 3, 1) := by decide +kernel
theorem dX11_clashes_89 : decode cX11_clashes 89 = .ok (.invokevirtual 79, 3) := by decide +kernel
theorem dX11_clashes_92 : decode cX11_clashes 92 = .ok (.ireturn, 1) := by decide +kernel
abbrev rmX11_clashes : Room := { frames := 3, cells := 0, slots := 0, locals := 66 }
set_option maxHeartbeats 4000000 in
set_option maxRecDepth 100000 in
theorem kX11_clashes (l : Launch) (D : va_G) (cy : Nat → ClassId) (h0 : Nat) (a0 : Nat → Nat) (s0 : Rc) (p1 : Int32) (p2 : Int32) (res : Int32 × Rc) (h : fX11_clashes p1 p2 s0 = some res) : CI l D cy yX11_clashes wsX11_clashes rmX11_clashes [.ref h0, .int p1, .int p2] (flat [WX11 cy h0 a0 s0]) (flat [WX11 cy h0 a0 res.2]) res.1 := by
  refine CI.of (cc := cX11_clashes) (maxL := 5) (by decide) rfl (Nat.le_of_ble_eq_true rfl) ?_
  intro p e s m args below meth c A QQ ls E hr
  obtain ⟨hx, hb, hml, hown, hts, hK, hN, hP, hD, hA, hl⟩ := E
  have hret : ∀ (pc : Nat) (H : Heap) (locs : List Loc) (ls : Array Slot) (u : Int32 × Rc), u = res → va_P D vwCl (flat [WX11 cy h0 a0 u.2]) H → va_D A (flat [WX11 cy h0 a0 u.2]) → va_S A s.heap H locs → decode cX11_clashes pc = .ok (.ireturn, 1) → W p l e rmX11_clashes s m args below meth c H locs 0 0 QQ (F0 m pc ls [.int u.1]) := by
    intro pc H locs ls u hu hP hD hS hd; subst hu; exact hr pc H locs ls _ rfl hP hD hS hd
  clear hr
  have hl : lv_has ls 5 [(0, .ref h0), (1, .int p1), (2, .int p2)] := hl
  have hinX11 : ∀ w ∈ wsX110, w ∈ wsX11_clashes := fun _ h => List.mem_cons_of_mem _ (List.mem_append_right _ h)
  unfold fX11_clashes at h
  suffices key : ∀ (H : Heap) (locs : List Loc), va_P D vwCl (flat [WX11 cy h0 a0 s0]) H → va_S A s.heap H locs → W p l e rmX11_clashes s m args below meth c H locs 0 0 QQ (F0 m 0 ls []) from key _ _ hP va_S.rf
  clear hP
  intro H locs hP hS
  refine lv_aload_n hx hb dX11_clashes_0 rfl (lv_at hl 0 rfl) ?_
  refine lv_iload_n hx hb dX11_clashes_1 rfl (lv_at hl 1 rfl) ?_
  refine ca_z (w' := [WX11 cy h0 a0 s0]) (rn_V (As := [.int p1]) (rest := []) ⟨hx, hb, hml, hown, hts⟩ (kX11_isFarmer l D cy h0 a0 s0 p1 _ rfl H.size) (cwV 1 hts gX11_clashes_X11_isFarmer rfl rfl rfl (by decide +kernel) ⟨Nat.le_of_ble_eq_true rfl, Nat.le_of_ble_eq_true rfl⟩) hK hN hP hD [0] rfl rfl (ci := 11) (q0 := 0) rfl rfl rfl rfl hl.1 rfl (Nat.le_of_ble_eq_true rfl) dX11_clashes_2 ⟨Nat.le_refl 0, Nat.le_refl 0⟩) hP hD hS hA [0] ⟨rfl, rfl, rfl, rfl⟩ (fun b1 H locs hP hD hS => ?_)
  refine lv_if_eq (tgt := 21) hx hb dX11_clashes_5 (by decide) (fun c2 => ?_) (fun c2 => ?_)
  · replace h := (if_pos c2).symm.trans h
    refine lv_aload_n hx hb dX11_clashes_21 rfl (lv_at hl 0 rfl) ?_
    refine lv_iconst (v := 1) hx hb dX11_clashes_22 (by decide) ?_
    obtain ⟨r3, hr3, h⟩ := lt_elim h
    refine ca_i (w' := [WX11 cy h0 a0 r3.2]) (rn_V (As := [.int (1 : Int32)]) (rest := []) ⟨hx, hb, hml, hown, hts⟩ (kX11_refuse l D cy h0 a0 s0 (1 : Int32) r3 hr3.symm H.size) (cwV 1 hts gX11_clashes_X11_refuse rfl rfl rfl (by decide +kernel) ⟨Nat.le_of_ble_eq_true rfl, Nat.le_of_ble_eq_true rfl⟩) hK hN hP hD [0] rfl rfl (ci := 11) (q0 := 0) rfl rfl rfl rfl hl.1 rfl (Nat.le_of_ble_eq_true rfl) dX11_clashes_23 ⟨Nat.le_refl 0, Nat.le_refl 0⟩) hP hD hS hA [0] ⟨rfl, rfl, rfl, rfl⟩ (fun H locs hP hD hS => ?_)
    exact hret 26 H locs ls (r3.1, r3.2) (Option.some.inj h) hP hD hS dX11_clashes_26
  · replace h := (if_neg c2).symm.trans h
    refine lv_aload_n hx hb dX11_clashes_8 rfl (lv_at hl 0 rfl) ?_
    refine lv_iload_n hx hb dX11_clashes_9 rfl (lv_at hl 2 rfl) ?_
    refine ca_z (w' := [WX11 cy h0 a0 s0]) (rn_V (As := [.int p2]) (rest := []) ⟨hx, hb, hml, hown, hts⟩ (kX11_isFarmer l D cy h0 a0 s0 p2 _ rfl H.size) (cwV 1 hts gX11_clashes_X11_isFarmer rfl rfl rfl (by decide +kernel) ⟨Nat.le_of_ble_eq_true rfl, Nat.le_of_ble_eq_true rfl⟩) hK hN hP hD [0] rfl rfl (ci := 11) (q0 := 0) rfl rfl rfl rfl hl.1 rfl (Nat.le_of_ble_eq_true rfl) dX11_clashes_10 ⟨Nat.le_refl 0, Nat.le_refl 0⟩) hP hD hS hA [0] ⟨rfl, rfl, rfl, rfl⟩ (fun b4 H locs hP hD hS => ?_)
    refine lv_if_eq (tgt := 21) hx hb dX11_clashes_13 (by decide) (fun c5 => ?_) (fun c5 => ?_)
    · replace h := (if_pos c5).symm.trans h
      refine lv_aload_n hx hb dX11_clashes_21 rfl (lv_at hl 0 rfl) ?_
      refine lv_iconst (v := 1) hx hb dX11_clashes_22 (by decide) ?_
      obtain ⟨r6, hr6, h⟩ := lt_elim h
      refine ca_i (w' := [WX11 cy h0 a0 r6.2]) (rn_V (As := [.int (1 : Int32)]) (rest := []) ⟨hx, hb, hml, hown, hts⟩ (kX11_refuse l D cy h0 a0 s0 (1 : Int32) r6 hr6.symm H.size) (cwV 1 hts gX11_clashes_X11_refuse rfl rfl rfl (by decide +kernel) ⟨Nat.le_of_ble_eq_true rfl, Nat.le_of_ble_eq_true rfl⟩) hK hN hP hD [0] rfl rfl (ci := 11) (q0 := 0) rfl rfl rfl rfl hl.1 rfl (Nat.le_of_ble_eq_true rfl) dX11_clashes_23 ⟨Nat.le_refl 0, Nat.le_refl 0⟩) hP hD hS hA [0] ⟨rfl, rfl, rfl, rfl⟩ (fun H locs hP hD hS => ?_)
      exact hret 26 H locs ls (r6.1, r6.2) (Option.some.inj h) hP hD hS dX11_clashes_26
    · replace h := (if_neg c5).symm.trans h
      refine lv_iload_n hx hb dX11_clashes_16 rfl (lv_at hl 1 rfl) ?_
      refine lv_iload_n hx hb dX11_clashes_17 rfl (lv_at hl 2 rfl) ?_
      refine lv_icmp_ne (tgt := 27) hx hb dX11_clashes_18 (by decide) (fun c7 => ?_) (fun c7 => ?_)
      · replace h := (if_neg c7).symm.trans h
        refine lv_iconst (v := 0) hx hb dX11_clashes_27 (by decide) ?_
        refine lv_istore_n (lv' := [(3, .int (0 : Int32)), (0, .ref h0), (1, .int p1), (2, .int p2)]) hx hb dX11_clashes_28 rfl hl (by decide) rfl (fun ls hl => ?_)
        refine lv_iconst (v := 0) hx hb dX11_clashes_29 (by decide) ?_
        refine lv_istore (lv' := [(4, .int (0 : Int32)), (3, .int (0 : Int32)), (0, .ref h0), (1, .int p1), (2, .int p2)]) hx hb dX11_clashes_30 hl (by decide) rfl (fun ls hl => ?_)
        have L32 : ∀ (n : Nat) (q32 : Int32 × Int32) (o : Int32), loopO (fX11_clashes_L32 p1 p2 s0) n q32 = some o → ∀ (H : Heap) (locs : List Loc) (ls : Array Slot), lv_has ls 5 [(0, .ref h0), (1, .int p1), (2, .int p2), (3, .int q32.1), (4, .int q32.2)] → va_P D vwCl (flat [WX11 cy h0 a0 s0]) H → va_D A (flat [WX11 cy h0 a0 s0]) → va_S A s.heap H locs → ∀ (kk87 : ∀ (H : Heap) (locs : List Loc) (ls : Array Slot), lv_has ls 5 [(0, .ref h0), (3, .int o)] → va_P D vwCl (flat [WX11 cy h0 a0 s0]) H → va_D A (flat [WX11 cy h0 a0 s0]) → va_S A s.heap H locs → W p l e rmX11_clashes s m args below meth c H locs 0 0 QQ (F0 m 87 ls [])), W p l e rmX11_clashes s m args below meth c H locs 0 0 QQ (F0 m 32 ls []) := by
          intro n
          induction n with
          | zero => intro q32 o h; exact absurd h (by rw [loopO_zero]; intro z; cases z)
          | succ n ih =>
            intro q32 o h H locs ls hl hP hD hS kk87
            obtain ⟨w, h, hgo, hst⟩ := loopO_elim h
            unfold fX11_clashes_L32 at h
            refine lv_iload hx hb dX11_clashes_32 (lv_at hl 4 rfl) ?_
            refine lv_aload_n hx hb dX11_clashes_34 rfl (lv_at hl 0 rfl) ?_
            refine va_get (D := D) (ci := 11) (v := .ref (a0 0)) (C := RX11) (T := TX11) (N := 38) hx hb hts hinX11 hown hK hP 0 rfl rfl 0 (by decide) (hts (.fieldLink RX11 7 "KneeBenchModel" "at" "[I") (List.mem_of_getElem? (i := 1) rfl)) (fun _ h9 => h9) rfl dX11_clashes_35 ?_
            refine lv_iconst (v := 1) hx hb dX11_clashes_38 (by decide) ?_
            refine va_iald hx hb hK hP 1 1 rfl rfl (inb_in (by decide)) dX11_clashes_39 ?_
            refine lv_icmp_ge (tgt := 87) hx hb dX11_clashes_40 (by decide) (fun c8 => ?_) (fun c8 => ?_)
            · replace h := (if_pos c8).symm.trans h
              have eo := hst _ (Option.some.inj h).symm
              subst eo
              exact kk87 H locs ls (lv_sub hl [0, 3] rfl) hP hD hS
            · replace h := (if_neg c8).symm.trans h
              refine lv_iload_n hx hb dX11_clashes_43 rfl (lv_at hl 3 rfl) ?_
              refine lv_aload_n hx hb dX11_clashes_44 rfl (lv_at hl 0 rfl) ?_
              refine lv_iload_n hx hb dX11_clashes_45 rfl (lv_at hl 1 rfl) ?_
              refine lv_iload hx hb dX11_clashes_46 (lv_at hl 4 rfl) ?_
              obtain ⟨r9, hr9, h⟩ := bd_elim h
              refine ca_i (w' := [WX11 cy h0 a0 s0]) (rn_V (As := [.int p1, .int q32.2]) (rest := [.int q32.1]) ⟨hx, hb, hml, hown, hts⟩ (kX11_tellOf l D cy h0 a0 s0 p1 q32.2 r9 hr9 H.size) (cwV 2 hts gX11_clashes_X11_tellOf rfl rfl rfl (by decide +kernel) ⟨Nat.le_of_ble_eq_true rfl, Nat.le_of_ble_eq_true rfl⟩) hK hN hP hD [0] rfl rfl (ci := 11) (q0 := 0) rfl rfl rfl rfl hl.1 rfl (Nat.le_of_ble_eq_true rfl) dX11_clashes_48 ⟨Nat.le_refl 0, Nat.le_refl 0⟩) hP hD hS hA [0] ⟨rfl, rfl, rfl, rfl⟩ (fun H locs hP hD hS => ?_)
              refine lv_iconst (v := -1) hx hb dX11_clashes_51 (by decide) ?_
              refine lv_icmp_eq (tgt := 78) hx hb dX11_clashes_52 (by decide) (fun c10 => ?_) (fun c10 => ?_)
              · replace h := (if_pos c10).symm.trans h
                refine lv_iconst (v := 0) hx hb dX11_clashes_78 (by decide) ?_
                refine lv_iadd hx hb dX11_clashes_79 ?_
                refine lv_topi (fun x11 ex11 => ?_)
                replace h := lt_use h x11 ex11
                refine lv_istore_n (lv' := [(3, .int x11), (0, .ref h0), (1, .int p1), (2, .int p2), (4, .int q32.2)]) hx hb dX11_clashes_80 rfl hl (by decide) rfl (fun ls hl => ?_)
                refine lv_iinc (v := (q32.2 + (1 : Int32))) (lv' := [(4, .int (q32.2 + (1 : Int32))), (3, .int x11), (0, .ref h0), (1, .int p1), (2, .int p2)]) hx hb dX11_clashes_81 hl (k := 4) rfl rfl (by decide) rfl (fun ls hl => ?_)
                refine lv_goto (tgt := 32) hx hb dX11_clashes_84 (by decide) ?_
                exact ih _ o (hgo _ (Option.some.inj h).symm) H locs ls (lv_sub hl [2, 3, 4, 1, 0] rfl) hP hD hS kk87
              · replace h := (if_neg c10).symm.trans h
                refine lv_aload_n hx hb dX11_clashes_55 rfl (lv_at hl 0 rfl) ?_
                refine lv_iload_n hx hb dX11_clashes_56 rfl (lv_at hl 2 rfl) ?_
                refine lv_iload hx hb dX11_clashes_57 (lv_at hl 4 rfl) ?_
                obtain ⟨r12, hr12, h⟩ := bd_elim h
                refine ca_i (w' := [WX11 cy h0 a0 s0]) (rn_V (As := [.int p2, .int q32.2]) (rest := [.int q32.1]) ⟨hx, hb, hml, hown, hts⟩ (kX11_tellOf l D cy h0 a0 s0 p2 q32.2 r12 hr12 H.size) (cwV 2 hts gX11_clashes_X11_tellOf rfl rfl rfl (by decide +kernel) ⟨Nat.le_of_ble_eq_true rfl, Nat.le_of_ble_eq_true rfl⟩) hK hN hP hD [0] rfl rfl (ci := 11) (q0 := 0) rfl rfl rfl rfl hl.1 rfl (Nat.le_of_ble_eq_true rfl) dX11_clashes_59 ⟨Nat.le_refl 0, Nat.le_refl 0⟩) hP hD hS hA [0] ⟨rfl, rfl, rfl, rfl⟩ (fun H locs hP hD hS => ?_)
                refine lv_iconst (v := 1) hx hb dX11_clashes_62 (by decide) ?_
                refine lv_aload_n hx hb dX11_clashes_63 rfl (lv_at hl 0 rfl) ?_
                refine lv_iload_n hx hb dX11_clashes_64 rfl (lv_at hl 1 rfl) ?_
                refine lv_iload hx hb dX11_clashes_65 (lv_at hl 4 rfl) ?_
                obtain ⟨r13, hr13, h⟩ := bd_elim h
                refine ca_i (w' := [WX11 cy h0 a0 s0]) (rn_V (As := [.int p1, .int q32.2]) (rest := [.int (1 : Int32), .int r12, .int q32.1]) ⟨hx, hb, hml, hown, hts⟩ (kX11_tellOf l D cy h0 a0 s0 p1 q32.2 r13 hr13 H.size) (cwV 2 hts gX11_clashes_X11_tellOf rfl rfl rfl (by decide +kernel) ⟨Nat.le_of_ble_eq_true rfl, Nat.le_of_ble_eq_true rfl⟩) hK hN hP hD [0] rfl rfl (ci := 11) (q0 := 0) rfl rfl rfl rfl hl.1 rfl (Nat.le_of_ble_eq_true rfl) dX11_clashes_67 ⟨Nat.le_refl 0, Nat.le_refl 0⟩) hP hD hS hA [0] ⟨rfl, rfl, rfl, rfl⟩ (fun H locs hP hD hS => ?_)
                refine lv_isub hx hb dX11_clashes_70 ?_
                refine lv_icmp_ne (tgt := 78) hx hb dX11_clashes_71 (by decide) (fun c14 => ?_) (fun c14 => ?_)
                · replace h := (if_neg c14).symm.trans h
                  refine lv_iconst (v := 0) hx hb dX11_clashes_78 (by decide) ?_
                  refine lv_iadd hx hb dX11_clashes_79 ?_
                  refine lv_topi (fun x15 ex15 => ?_)
                  replace h := lt_use h x15 ex15
                  refine lv_istore_n (lv' := [(3, .int x15), (0, .ref h0), (1, .int p1), (2, .int p2), (4, .int q32.2)]) hx hb dX11_clashes_80 rfl hl (by decide) rfl (fun ls hl => ?_)
                  refine lv_iinc (v := (q32.2 + (1 : Int32))) (lv' := [(4, .int (q32.2 + (1 : Int32))), (3, .int x15), (0, .ref h0), (1, .int p1), (2, .int p2)]) hx hb dX11_clashes_81 hl (k := 4) rfl rfl (by decide) rfl (fun ls hl => ?_)
                  refine lv_goto (tgt := 32) hx hb dX11_clashes_84 (by decide) ?_
                  exact ih _ o (hgo _ (Option.some.inj h).symm) H locs ls (lv_sub hl [2, 3, 4, 1, 0] rfl) hP hD hS kk87
                · replace h := (if_pos c14).symm.trans h
                  refine lv_iconst (v := 1) hx hb dX11_clashes_74 (by decide) ?_
                  refine lv_goto (tgt := 79) hx hb dX11_clashes_75 (by decide) ?_
                  refine lv_iadd hx hb dX11_clashes_79 ?_
                  refine lv_topi (fun x16 ex16 => ?_)
                  replace h := lt_use h x16 ex16
                  refine lv_istore_n (lv' := [(3, .int x16), (0, .ref h0), (1, .int p1), (2, .int p2), (4, .int q32.2)]) hx hb dX11_clashes_80 rfl hl (by decide) rfl (fun ls hl => ?_)
                  refine lv_iinc (v := (q32.2 + (1 : Int32))) (lv' := [(4, .int (q32.2 + (1 : Int32))), (3, .int x16), (0, .ref h0), (1, .int p1), (2, .int p2)]) hx hb dX11_clashes_81 hl (k := 4) rfl rfl (by decide) rfl (fun ls hl => ?_)
                  refine lv_goto (tgt := 32) hx hb dX11_clashes_84 (by decide) ?_
                  exact ih _ o (hgo _ (Option.some.inj h).symm) H locs ls (lv_sub hl [2, 3, 4, 1, 0] rfl) hP hD hS kk87
        obtain ⟨o32, ho32, h⟩ := bd_elim h
        obtain ⟨n32, hn32⟩ := loopF_some ho32
        refine L32 n32 _ o32 hn32 H locs ls (lv_sub hl [2, 3, 4, 1, 0] rfl) hP hD hS (fun H locs ls hl hP hD hS => ?_)
        refine lv_aload_n hx hb dX11_clashes_87 rfl (lv_at hl 0 rfl) ?_
        refine lv_iload_n hx hb dX11_clashes_88 rfl (lv_at hl 1 rfl) ?_
        obtain ⟨r17, hr17, h⟩ := lt_elim h
        refine ca_i (w' := [WX11 cy h0 a0 r17.2]) (rn_V (As := [.int o32]) (rest := []) ⟨hx, hb, hml, hown, hts⟩ (kX11_gives l D cy h0 a0 s0 o32 r17 hr17.symm H.size) (cwV 1 hts gX11_clashes_X11_gives rfl rfl rfl (by decide +kernel) ⟨Nat.le_of_ble_eq_true rfl, Nat.le_of_ble_eq_true rfl⟩) hK hN hP hD [0] rfl rfl (ci := 11) (q0 := 0) rfl rfl rfl rfl hl.1 rfl (Nat.le_of_ble_eq_true rfl) dX11_clashes_89 ⟨Nat.le_refl 0, Nat.le_refl 0⟩) hP hD hS hA [0] ⟨rfl, rfl, rfl, rfl⟩ (fun H locs hP hD hS => ?_)
        exact hret 92 H locs ls (r17.1, r17.2) (Option.some.inj h) hP hD hS dX11_clashes_92
      · replace h := (if_pos c7).symm.trans h
        refine lv_aload_n hx hb dX11_clashes_21 rfl (lv_at hl 0 rfl) ?_
        refine lv_iconst (v := 1) hx hb dX11_clashes_22 (by decide) ?_
        obtain ⟨r18, hr18, h⟩ := lt_elim h
        refine ca_i (w' := [WX11 cy h0 a0 r18.2]) (rn_V (As := [.int (1 : Int32)]) (rest := []) ⟨hx, hb, hml, hown, hts⟩ (kX11_refuse l D cy h0 a0 s0 (1 : Int32) r18 hr18.symm H.size) (cwV 1 hts gX11_clashes_X11_refuse rfl rfl rfl (by decide +kernel) ⟨Nat.le_of_ble_eq_true rfl, Nat.le_of_ble_eq_true rfl⟩) hK hN hP hD [0] rfl rfl (ci := 11) (q0 := 0) rfl rfl rfl rfl hl.1 rfl (Nat.le_of_ble_eq_true rfl) dX11_clashes_23 ⟨Nat.le_refl 0, Nat.le_refl 0⟩) hP hD hS hA [0] ⟨rfl, rfl, rfl, rfl⟩ (fun H locs hP hD hS => ?_)
        exact hret 26 H locs ls (r18.1, r18.2) (Option.some.inj h) hP hD hS dX11_clashes_26
theorem gd_X11_cure : wsX11_cure.all goodWord = true := by decide +kernel
set_option maxRecDepth 20000 in
theorem ggX11_cure_X11_isFarmer : GoodIn wsX11_cure wsX11_isFarmer := goodIn_by gd_X11_cure (List.forall_mem_cons.mpr ⟨List.mem_cons_of_mem _ (List.mem_append_left _ (List.mem_of_getElem? (i := 6) rfl)), List.forall_mem_append.mpr ⟨List.forall_mem_cons.mpr ⟨List.mem_cons_of_mem _ (List.mem_append_left _ (List.mem_of_getElem? (i := 1) rfl)), nowords_in⟩, (fun _ h => List.mem_cons_of_mem _ (List.mem_append_right _ (h)))⟩⟩)
set_option maxRecDepth 20000 in
theorem gX11_cure_X11_isFarmer : GoodIn wsX11_cure (wsV RX11 267 RX11 yX11_isFarmer wsX11_isFarmer) := goodIn_app (goodIn_by gd_X11_cure (List.forall_mem_cons.mpr ⟨List.mem_cons_of_mem _ (List.mem_append_left _ (List.mem_of_getElem? (i := 2) rfl)), List.forall_mem_cons.mpr ⟨List.mem_cons_of_mem _ (List.mem_append_left _ (List.mem_of_getElem? (i := 3) rfl)), List.forall_mem_cons.mpr ⟨List.mem_cons_of_mem _ (List.mem_append_left _ (List.mem_of_getElem? (i := 4) rfl)), List.forall_mem_cons.mpr ⟨List.mem_cons_of_mem _ (List.mem_append_left _ (List.mem_of_getElem? (i := 5) rfl)), nowords_in⟩⟩⟩⟩)) ggX11_cure_X11_isFarmer
set_option maxRecDepth 20000 in
theorem ggX11_cure_X11_isFrom : GoodIn wsX11_cure wsX11_isFrom := goodIn_by gd_X11_cure (List.forall_mem_cons.mpr ⟨List.mem_cons_of_mem _ (List.mem_append_left _ (List.mem_of_getElem? (i := 9) rfl)), nowords_in⟩)
set_option maxRecDepth 20000 in
theorem gX11_cure_X11_isFrom : GoodIn wsX11_cure (va_wsS RX11 282 yX11_isFrom wsX11_isFrom) := goodIn_app (goodIn_by gd_X11_cure (List.forall_mem_cons.mpr ⟨List.mem_cons_of_mem _ (List.mem_append_left _ (List.mem_of_getElem? (i := 7) rfl)), List.forall_mem_cons.mpr ⟨List.mem_cons_of_mem _ (List.mem_append_left _ (List.mem_of_getElem? (i := 8) rfl)), List.forall_mem_cons.mpr ⟨List.mem_cons_of_mem _ (List.mem_append_left _ (List.mem_of_getElem? (i := 5) rfl)), nowords_in⟩⟩⟩)) ggX11_cure_X11_isFrom
set_option maxRecDepth 20000 in
theorem ggX11_cure_X11_is : GoodIn wsX11_cure wsX11_is := goodIn_by gd_X11_cure (List.forall_mem_cons.mpr ⟨List.mem_cons_of_mem _ (List.mem_append_left _ (List.mem_of_getElem? (i := 13) rfl)), List.forall_mem_append.mpr ⟨List.forall_mem_cons.mpr ⟨List.mem_cons_of_mem _ (List.mem_append_left _ (List.mem_of_getElem? (i := 14) rfl)), nowords_in⟩, (fun _ h => List.mem_cons_of_mem _ (List.mem_append_right _ (h)))⟩⟩)
set_option maxRecDepth 20000 in
theorem gX11_cure_X11_is : GoodIn wsX11_cure (wsV RX11 82 RX11 yX11_is wsX11_is) := goodIn_app (goodIn_by gd_X11_cure (List.forall_mem_cons.mpr ⟨List.mem_cons_of_mem _ (List.mem_append_left _ (List.mem_of_getElem? (i := 10) rfl)), List.forall_mem_cons.mpr ⟨List.mem_cons_of_mem _ (List.mem_append_left _ (List.mem_of_getElem? (i := 11) rfl)), List.forall_mem_cons.mpr ⟨List.mem_cons_of_mem _ (List.mem_append_left _ (List.mem_of_getElem? (i := 12) rfl)), List.forall_mem_cons.mpr ⟨List.mem_cons_of_mem _ (List.mem_append_left _ (List.mem_of_getElem? (i := 5) rfl)), nowords_in⟩⟩⟩⟩)) ggX11_cure_X11_is
set_option maxRecDepth 20000 in
theorem ggX11_cure_X11_farmerRow : GoodIn wsX11_cure wsX11_farmerRow := goodIn_by gd_X11_cure (List.forall_mem_cons.mpr ⟨List.mem_cons_of_mem _ (List.mem_append_left _ (List.mem_of_getElem? (i := 17) rfl)), nowords_in⟩)
set_option maxRecDepth 20000 in
theorem gX11_cure_X11_farmerRow : GoodIn wsX11_cure (va_wsS RX11 177 yX11_farmerRow wsX11_farmerRow) := goodIn_app (goodIn_by gd_X11_cure (List.forall_mem_cons.mpr ⟨List.mem_cons_of_mem _ (List.mem_append_left _ (List.mem_of_getElem? (i := 15) rfl)), List.forall_mem_cons.mpr ⟨List.mem_cons_of_mem _ (List.mem_append_left _ (List.mem_of_getElem? (i := 16) rfl)), List.forall_mem_cons.mpr ⟨List.mem_cons_of_mem _ (List.mem_append_left _ (List.mem_of_getElem? (i := 5) rfl)), nowords_in⟩⟩⟩)) ggX11_cure_X11_farmerRow
theorem dX11_cure_0 : decode cX11_cure 0 = .ok (.aload_n 0, 1) := by decide +kernel
theorem dX11_cure_1 : decode cX11_cure 1 = .ok (.iload_n 1, 1) := by decide +kernel
theorem dX11_cure_2 : decode cX11_cure 2 = .ok (.invokevirtual 267, 3) := by decide +kernel
theorem dX11_cure_5 : decode cX11_cure 5 = .ok (.ifCond .eq 15, 3) := by decide +kernel
theorem dX11_cure_8 : decode cX11_cure 8 = .ok (.iload_n 2, 1) := by decide +kernel
theorem dX11_cure_9 : decode cX11_cure 9 = .ok (.i2l, 1) := by decide +kernel
theorem dX11_cure_10 : decode cX11_cure 10 = .ok (.lconst 0, 1) := by decide +kernel
theorem dX11_cure_11 : decode cX11_cure 11 = .ok (.ldc2_w 292, 3) := by decide +kernel
theorem dX11_cure_14 : decode cX11_cure 14 = .ok (.invokestatic 282, 3) := by decide +kernel
theorem dX11_cure_17 : decode cX11_cure 17 = .ok (.ifCond .ne 9, 3) := by decide +kernel
theorem dX11_cure_20 : decode cX11_cure 20 = .ok (.aload_n 0, 1) := by decide +kernel
theorem dX11_cure_21 : decode cX11_cure 21 = .ok (.iconst 1, 1) := by decide +kernel
theorem dX11_cure_22 : decode cX11_cure 22 = .ok (.invokevirtual 82, 3) := by decide +kernel
theorem dX11_cure_25 : decode cX11_cure 25 = .ok (.ireturn, 1) := by decide +kernel
theorem dX11_cure_26 : decode cX11_cure 26 = .ok (.aload_n 0, 1) := by decide +kernel
theorem dX11_cure_27 : decode cX11_cure 27 = .ok (.getfield 7, 3) := by decide +kernel
theorem dX11_cure_30 : decode cX11_cure 30 = .ok (.iconst 0, 1) := by decide +kernel
theorem dX11_cure_31 : decode cX11_cure 31 = .ok (.iload_n 1, 1) := by decide +kernel
theorem dX11_cure_32 : decode cX11_cure 32 = .ok (.invokestatic 177, 3) := by decide +kernel
theorem dX11_cure_35 : decode cX11_cure 35 = .ok (.iconst 4, 1) := by decide +kernel
theorem dX11_cure_36 : decode cX11_cure 36 = .ok (.iadd, 1) := by decide +kernel
theorem dX11_cure_37 : decode cX11_cure 37 = .ok (.iload_n 2, 1) := by decide +kernel
theorem dX11_cure_38 : decode cX11_cure 38 = .ok (.iastore, 1) := by decide +kernel
theorem dX11_cure_39 : decode cX11_cure 39 = .ok (.aload_n 0, 1) := by decide +kernel
theorem dX11_cure_40 : decode cX11_cure 40 = .ok (.iconst 0, 1) := by decide +kernel
theorem dX11_cure_41 : decode cX11_cure 41 = .ok (.invokevirtual 82, 3) := by decide +kernel
theorem dX11_cure_44 : decode cX11_cure 44 = .ok (.ireturn, 1) := by decide +kernel
abbrev rmX11_cure : Room := { frames := 1, cells := 0, slots := 0, locals := 25 }
set_option maxHeartbeats 4000000 in
set_option maxRecDepth 100000 in
theorem kX11_cure (l : Launch) (D : va_G) (cy : Nat → ClassId) (h0 : Nat) (a0 : Nat → Nat) (s0 : Rc) (p1 : Int32) (p2 : Int32) (res : Int32 × Rc) (h : fX11_cure p1 p2 s0 = some res) : CZ l D cy yX11_cure wsX11_cure rmX11_cure [.ref h0, .int p1, .int p2] (flat [WX11 cy h0 a0 s0]) (flat [WX11 cy h0 a0 res.2]) res.1 := by
  refine CZ.of (cc := cX11_cure) (maxL := 3) (by decide) rfl (Nat.le_of_ble_eq_true rfl) ?_
  intro p e s m args below meth c A QQ ls E hr
  obtain ⟨hx, hb, hml, hown, hts, hK, hN, hP, hD, hA, hl⟩ := E
  have hret : ∀ (pc : Nat) (H : Heap) (locs : List Loc) (ls : Array Slot) (u : Int32 × Rc), u = res → va_P D vwCl (flat [WX11 cy h0 a0 u.2]) H → va_D A (flat [WX11 cy h0 a0 u.2]) → va_S A s.heap H locs → isb u.1 = true → decode cX11_cure pc = .ok (.ireturn, 1) → W p l e rmX11_cure s m args below meth c H locs 0 0 QQ (F0 m pc ls [.int u.1]) := by
    intro pc H locs ls u hu hP hD hS hz hd; subst hu; exact hr pc H locs ls _ rfl hP hD hS hz hd
  clear hr
  have hl : lv_has ls 3 [(0, .ref h0), (1, .int p1), (2, .int p2)] := hl
  have hinX11 : ∀ w ∈ wsX110, w ∈ wsX11_cure := fun _ h => List.mem_cons_of_mem _ (List.mem_append_right _ h)
  unfold fX11_cure at h
  suffices key : ∀ (H : Heap) (locs : List Loc), va_P D vwCl (flat [WX11 cy h0 a0 s0]) H → va_S A s.heap H locs → W p l e rmX11_cure s m args below meth c H locs 0 0 QQ (F0 m 0 ls []) from key _ _ hP va_S.rf
  clear hP
  intro H locs hP hS
  refine lv_aload_n hx hb dX11_cure_0 rfl (lv_at hl 0 rfl) ?_
  refine lv_iload_n hx hb dX11_cure_1 rfl (lv_at hl 1 rfl) ?_
  refine ca_z (w' := [WX11 cy h0 a0 s0]) (rn_V (As := [.int p1]) (rest := []) ⟨hx, hb, hml, hown, hts⟩ (kX11_isFarmer l D cy h0 a0 s0 p1 _ rfl H.size) (cwV 1 hts gX11_cure_X11_isFarmer rfl rfl rfl (by decide +kernel) ⟨Nat.le_of_ble_eq_true rfl, Nat.le_of_ble_eq_true rfl⟩) hK hN hP hD [0] rfl rfl (ci := 11) (q0 := 0) rfl rfl rfl rfl hl.1 rfl (Nat.le_of_ble_eq_true rfl) dX11_cure_2 ⟨Nat.le_refl 0, Nat.le_refl 0⟩) hP hD hS hA [0] ⟨rfl, rfl, rfl, rfl⟩ (fun b1 H locs hP hD hS => ?_)
  refine lv_if_eq (tgt := 20) hx hb dX11_cure_5 (by decide) (fun c2 => ?_) (fun c2 => ?_)
  · replace h := (if_pos c2).symm.trans h
    refine lv_aload_n hx hb dX11_cure_20 rfl (lv_at hl 0 rfl) ?_
    refine lv_iconst (v := 1) hx hb dX11_cure_21 (by decide) ?_
    obtain ⟨r3, hr3, h⟩ := lt_elim h
    refine ca_z (w' := [WX11 cy h0 a0 r3.2]) (rn_V (As := [.int (1 : Int32)]) (rest := []) ⟨hx, hb, hml, hown, hts⟩ (kX11_is l D cy h0 a0 s0 (1 : Int32) r3 hr3.symm H.size) (cwV 1 hts gX11_cure_X11_is rfl rfl rfl (by decide +kernel) ⟨Nat.le_of_ble_eq_true rfl, Nat.le_of_ble_eq_true rfl⟩) hK hN hP hD [0] rfl rfl (ci := 11) (q0 := 0) rfl rfl rfl rfl hl.1 rfl (Nat.le_of_ble_eq_true rfl) dX11_cure_22 ⟨Nat.le_refl 0, Nat.le_refl 0⟩) hP hD hS hA [0] ⟨rfl, rfl, rfl, rfl⟩ (fun b4 H locs hP hD hS => ?_)
    exact hret 25 H locs ls (r3.1, r3.2) (Option.some.inj h) hP hD hS b4 dX11_cure_25
  · replace h := (if_neg c2).symm.trans h
    refine lv_iload_n hx hb dX11_cure_8 rfl (lv_at hl 2 rfl) ?_
    refine lv_i2l hx hb dX11_cure_9 rfl ?_
    refine lv_lconst (v := 0) hx hb dX11_cure_10 (by decide) ?_
    refine lv_ldc2 (v := 60) hx hb hown (hts (.constantLong RX11 292 (60)) (List.mem_of_getElem? (i := 1) rfl)) dX11_cure_11 ?_
    refine ca_z (w' := [WX11 cy h0 a0 s0]) (rn_S (As := [.long p2.toInt64, .long (0 : Int64), .long (60 : Int64)]) (rest := []) ⟨hx, hb, hml, hown, hts⟩ (kX11_isFrom l D cy p2.toInt64 (0 : Int64) (60 : Int64) _ rfl H.size) (va_cwS 3 hts gX11_cure_X11_isFrom rfl rfl rfl (by decide +kernel) ⟨Nat.le_of_ble_eq_true rfl, Nat.le_of_ble_eq_true rfl⟩) hK hN hP hD [] rfl rfl rfl hl.1 rfl (Nat.le_of_ble_eq_true rfl) dX11_cure_14 ⟨Nat.le_refl 0, Nat.le_refl 0⟩) hP hD hS hA [] ⟨rfl, rfl, rfl, rfl⟩ (fun b5 H locs hP hD hS => ?_)
    refine lv_if_ne (tgt := 26) hx hb dX11_cure_17 (by decide) (fun c6 => ?_) (fun c6 => ?_)
    · replace h := (if_neg c6).symm.trans h
      refine lv_aload_n hx hb dX11_cure_26 rfl (lv_at hl 0 rfl) ?_
      refine va_get (D := D) (ci := 11) (v := .ref (a0 0)) (C := RX11) (T := TX11) (N := 38) hx hb hts hinX11 hown hK hP 0 rfl rfl 0 (by decide) (hts (.fieldLink RX11 7 "KneeBenchModel" "at" "[I") (List.mem_of_getElem? (i := 2) rfl)) (fun _ h9 => h9) rfl dX11_cure_27 ?_
      refine lv_iconst (v := 0) hx hb dX11_cure_30 (by decide) ?_
      refine lv_iload_n hx hb dX11_cure_31 rfl (lv_at hl 1 rfl) ?_
      refine ca_i (w' := [WX11 cy h0 a0 s0]) (rn_S (As := [.int (0 : Int32), .int p1]) (rest := [.ref (a0 0)]) ⟨hx, hb, hml, hown, hts⟩ (kX11_farmerRow l D cy (0 : Int32) p1 _ rfl H.size) (va_cwS 2 hts gX11_cure_X11_farmerRow rfl rfl rfl (by decide +kernel) ⟨Nat.le_of_ble_eq_true rfl, Nat.le_of_ble_eq_true rfl⟩) hK hN hP hD [] rfl rfl rfl hl.1 rfl (Nat.le_of_ble_eq_true rfl) dX11_cure_32 ⟨Nat.le_refl 0, Nat.le_refl 0⟩) hP hD hS hA [] ⟨rfl, rfl, rfl, rfl⟩ (fun H locs hP hD hS => ?_)
      refine lv_iconst (v := 4) hx hb dX11_cure_35 (by decide) ?_
      refine lv_iadd hx hb dX11_cure_36 ?_
      refine lv_iload_n hx hb dX11_cure_37 rfl (lv_at hl 2 rfl) ?_
      obtain ⟨g7, h⟩ := gd_elim h
      obtain ⟨s0_8, es, h⟩ := lt_elim h
      refine va_iast hx hb hK hP hD hS 1 1 rfl rfl (inb_in g7) dX11_cure_38 (fun H locs hP hD hS => ?_)
      have hP : va_P D vwCl (flat [WX11 cy h0 a0 s0_8]) H := by rw [es]; exact hP
      have hD : va_D A (flat [WX11 cy h0 a0 s0_8]) := by rw [es]; exact hD
      clear es
      refine lv_aload_n hx hb dX11_cure_39 rfl (lv_at hl 0 rfl) ?_
      refine lv_iconst (v := 0) hx hb dX11_cure_40 (by decide) ?_
      obtain ⟨r9, hr9, h⟩ := lt_elim h
      refine ca_z (w' := [WX11 cy h0 a0 r9.2]) (rn_V (As := [.int (0 : Int32)]) (rest := []) ⟨hx, hb, hml, hown, hts⟩ (kX11_is l D cy h0 a0 s0_8 (0 : Int32) r9 hr9.symm H.size) (cwV 1 hts gX11_cure_X11_is rfl rfl rfl (by decide +kernel) ⟨Nat.le_of_ble_eq_true rfl, Nat.le_of_ble_eq_true rfl⟩) hK hN hP hD [0] rfl rfl (ci := 11) (q0 := 0) rfl rfl rfl rfl hl.1 rfl (Nat.le_of_ble_eq_true rfl) dX11_cure_41 ⟨Nat.le_refl 0, Nat.le_refl 0⟩) hP hD hS hA [0] ⟨rfl, rfl, rfl, rfl⟩ (fun b10 H locs hP hD hS => ?_)
      exact hret 44 H locs ls (r9.1, r9.2) (Option.some.inj h) hP hD hS b10 dX11_cure_44
    · replace h := (if_pos c6).symm.trans h
      refine lv_aload_n hx hb dX11_cure_20 rfl (lv_at hl 0 rfl) ?_
      refine lv_iconst (v := 1) hx hb dX11_cure_21 (by decide) ?_
      obtain ⟨r11, hr11, h⟩ := lt_elim h
      refine ca_z (w' := [WX11 cy h0 a0 r11.2]) (rn_V (As := [.int (1 : Int32)]) (rest := []) ⟨hx, hb, hml, hown, hts⟩ (kX11_is l D cy h0 a0 s0 (1 : Int32) r11 hr11.symm H.size) (cwV 1 hts gX11_cure_X11_is rfl rfl rfl (by decide +kernel) ⟨Nat.le_of_ble_eq_true rfl, Nat.le_of_ble_eq_true rfl⟩) hK hN hP hD [0] rfl rfl (ci := 11) (q0 := 0) rfl rfl rfl rfl hl.1 rfl (Nat.le_of_ble_eq_true rfl) dX11_cure_22 ⟨Nat.le_refl 0, Nat.le_refl 0⟩) hP hD hS hA [0] ⟨rfl, rfl, rfl, rfl⟩ (fun b12 H locs hP hD hS => ?_)
      exact hret 25 H locs ls (r11.1, r11.2) (Option.some.inj h) hP hD hS b12 dX11_cure_25
theorem dX11_cut_0 : decode cX11_cut 0 = .ok (.iload_n 2, 1) := by decide +kernel
theorem dX11_cut_1 : decode cX11_cut 1 = .ok (.ifCond .ne 10, 3) := by decide +kernel
theorem dX11_cut_4 : decode cX11_cut 4 = .ok (.lload_n 0, 1) := by decide +kernel
theorem dX11_cut_5 : decode cX11_cut 5 = .ok (.l2i, 1) := by decide +kernel
theorem dX11_cut_6 : decode cX11_cut 6 = .ok (.i2b, 1) := by decide +kernel
theorem dX11_cut_7 : decode cX11_cut 7 = .ok (.i2l, 1) := by decide +kernel
theorem dX11_cut_8 : decode cX11_cut 8 = .ok (.goto 27, 3) := by decide +kernel
theorem dX11_cut_11 : decode cX11_cut 11 = .ok (.iload_n 2, 1) := by decide +kernel
theorem dX11_cut_12 : decode cX11_cut 12 = .ok (.iconst 1, 1) := by decide +kernel
theorem dX11_cut_13 : decode cX11_cut 13 = .ok (.if_icmp .ne 10, 3) := by decide +kernel
theorem dX11_cut_16 : decode cX11_cut 16 = .ok (.lload_n 0, 1) := by decide +kernel
theorem dX11_cut_17 : decode cX11_cut 17 = .ok (.l2i, 1) := by decide +kernel
theorem dX11_cut_18 : decode cX11_cut 18 = .ok (.i2s, 1) := by decide +kernel
theorem dX11_cut_19 : decode cX11_cut 19 = .ok (.i2l, 1) := by decide +kernel
theorem dX11_cut_20 : decode cX11_cut 20 = .ok (.goto 15, 3) := by decide +kernel
theorem dX11_cut_23 : decode cX11_cut 23 = .ok (.iload_n 2, 1) := by decide +kernel
theorem dX11_cut_24 : decode cX11_cut 24 = .ok (.iconst 2, 1) := by decide +kernel
theorem dX11_cut_25 : decode cX11_cut 25 = .ok (.if_icmp .ne 9, 3) := by decide +kernel
theorem dX11_cut_28 : decode cX11_cut 28 = .ok (.lload_n 0, 1) := by decide +kernel
theorem dX11_cut_29 : decode cX11_cut 29 = .ok (.l2i, 1) := by decide +kernel
theorem dX11_cut_30 : decode cX11_cut 30 = .ok (.i2l, 1) := by decide +kernel
theorem dX11_cut_31 : decode cX11_cut 31 = .ok (.goto 4, 3) := by decide +kernel
theorem dX11_cut_34 : decode cX11_cut 34 = .ok (.lload_n 0, 1) := by decide +kernel
theorem dX11_cut_35 : decode cX11_cut 35 = .ok (.lreturn, 1) := by decide +kernel
abbrev rmX11_cut : Room := { frames := 0, cells := 0, slots := 0, locals := 0 }
set_option maxHeartbeats 4000000 in
set_option maxRecDepth 100000 in
theorem kX11_cut (l : Launch) (D : va_G) (cy : Nat → ClassId) (p1 : Int64) (p2 : Int32) (res : Int64) (h : fX11_cut p1 p2 = res) : CL l D cy yX11_cut wsX11_cut rmX11_cut [.long p1, .int p2] (flat []) (flat []) res := by
  refine CL.of (cc := cX11_cut) (maxL := 3) (by decide) rfl (Nat.le_of_ble_eq_true rfl) ?_
  intro p e s m args below meth c A QQ ls E hr
  obtain ⟨hx, hb, hml, hown, hts, hK, hN, hP, hD, hA, hl⟩ := E
  have hret : ∀ (pc : Nat) (H : Heap) (locs : List Loc) (ls : Array Slot) (u : Int64), u = res → va_P D vwCl (flat []) H → va_D A (flat []) → va_S A s.heap H locs → decode cX11_cut pc = .ok (.lreturn, 1) → W p l e rmX11_cut s m args below meth c H locs 0 0 QQ (F0 m pc ls [.long u]) := by
    intro pc H locs ls u hu hP hD hS hd; subst hu; exact hr pc H locs ls _ rfl hP hD hS hd
  clear hr
  have hl : lv_has ls 3 [(0, .long p1), (2, .int p2)] := hl
  unfold fX11_cut at h
  suffices key : ∀ (H : Heap) (locs : List Loc), va_P D vwCl (flat []) H → va_S A s.heap H locs → W p l e rmX11_cut s m args below meth c H locs 0 0 QQ (F0 m 0 ls []) from key _ _ hP va_S.rf
  clear hP
  intro H locs hP hS
  refine lv_iload_n hx hb dX11_cut_0 rfl (lv_at hl 1 rfl) ?_
  refine lv_if_ne (tgt := 11) hx hb dX11_cut_1 (by decide) (fun c1 => ?_) (fun c1 => ?_)
  · replace h := (if_neg c1).symm.trans h
    refine lv_iload_n hx hb dX11_cut_11 rfl (lv_at hl 1 rfl) ?_
    refine lv_iconst (v := 1) hx hb dX11_cut_12 (by decide) ?_
    refine lv_icmp_ne (tgt := 23) hx hb dX11_cut_13 (by decide) (fun c2 => ?_) (fun c2 => ?_)
    · replace h := (if_neg c2).symm.trans h
      refine lv_iload_n hx hb dX11_cut_23 rfl (lv_at hl 1 rfl) ?_
      refine lv_iconst (v := 2) hx hb dX11_cut_24 (by decide) ?_
      refine lv_icmp_ne (tgt := 34) hx hb dX11_cut_25 (by decide) (fun c3 => ?_) (fun c3 => ?_)
      · replace h := (if_neg c3).symm.trans h
        refine lv_lload_n hx hb dX11_cut_34 rfl (lv_at hl 0 rfl) ?_
        exact hret 35 H locs ls p1 h hP hD hS dX11_cut_35
      · replace h := (if_pos c3).symm.trans h
        refine lv_lload_n hx hb dX11_cut_28 rfl (lv_at hl 0 rfl) ?_
        refine lv_l2i hx hb dX11_cut_29 rfl ?_
        refine lv_i2l hx hb dX11_cut_30 rfl ?_
        refine lv_goto (tgt := 35) hx hb dX11_cut_31 (by decide) ?_
        exact hret 35 H locs ls p1.toInt32.toInt64 h hP hD hS dX11_cut_35
    · replace h := (if_pos c2).symm.trans h
      refine lv_lload_n hx hb dX11_cut_16 rfl (lv_at hl 0 rfl) ?_
      refine lv_l2i hx hb dX11_cut_17 rfl ?_
      refine lv_i2s hx hb dX11_cut_18 rfl ?_
      refine lv_i2l hx hb dX11_cut_19 rfl ?_
      refine lv_goto (tgt := 35) hx hb dX11_cut_20 (by decide) ?_
      exact hret 35 H locs ls p1.toInt32.toInt16.toInt32.toInt64 h hP hD hS dX11_cut_35
  · replace h := (if_pos c1).symm.trans h
    refine lv_lload_n hx hb dX11_cut_4 rfl (lv_at hl 0 rfl) ?_
    refine lv_l2i hx hb dX11_cut_5 rfl ?_
    refine lv_i2b hx hb dX11_cut_6 rfl ?_
    refine lv_i2l hx hb dX11_cut_7 rfl ?_
    refine lv_goto (tgt := 35) hx hb dX11_cut_8 (by decide) ?_
    exact hret 35 H locs ls p1.toInt32.toInt8.toInt32.toInt64 h hP hD hS dX11_cut_35
theorem gd_X11_dawns : wsX11_dawns.all goodWord = true := by decide +kernel
set_option maxRecDepth 20000 in
theorem ggX11_dawns_X11_twingeRow : GoodIn wsX11_dawns wsX11_twingeRow := goodIn_by gd_X11_dawns (List.forall_mem_cons.mpr ⟨List.mem_cons_of_mem _ (List.mem_append_left _ (List.mem_of_getElem? (i := 4) rfl)), nowords_in⟩)
set_option maxRecDepth 20000 in
theorem gX11_dawns_X11_twingeRow : GoodIn wsX11_dawns (va_wsS RX11 225 yX11_twingeRow wsX11_twingeRow) := goodIn_app (goodIn_by gd_X11_dawns (List.forall_mem_cons.mpr ⟨List.mem_cons_of_mem _ (List.mem_append_left _ (List.mem_of_getElem? (i := 1) rfl)), List.forall_mem_cons.mpr ⟨List.mem_cons_of_mem _ (List.mem_append_left _ (List.mem_of_getElem? (i := 2) rfl)), List.forall_mem_cons.mpr ⟨List.mem_cons_of_mem _ (List.mem_append_left _ (List.mem_of_getElem? (i := 3) rfl)), nowords_in⟩⟩⟩)) ggX11_dawns_X11_twingeRow
theorem dX11_dawns_0 : decode cX11_dawns 0 = .ok (.aload_n 0, 1) := by decide +kernel
theorem dX11_dawns_1 : decode cX11_dawns 1 = .ok (.getfield 7, 3) := by decide +kernel
theorem dX11_dawns_4 : decode cX11_dawns 4 = .ok (.iconst 1, 1) := by decide +kernel
theorem dX11_dawns_5 : decode cX11_dawns 5 = .ok (.iaload, 1) := by decide +kernel
theorem dX11_dawns_6 : decode cX11_dawns 6 = .ok (.bipush 60, 2) := by decide +kernel
theorem dX11_dawns_8 : decode cX11_dawns 8 = .ok (.if_icmp .ne 5, 3) := by decide +kernel
theorem dX11_dawns_11 : decode cX11_dawns 11 = .ok (.iconst 0, 1) := by decide +kernel
theorem dX11_dawns_12 : decode cX11_dawns 12 = .ok (.ireturn, 1) := by decide +kernel
theorem dX11_dawns_13 : decode cX11_dawns 13 = .ok (.aload_n 0, 1) := by decide +kernel
theorem dX11_dawns_14 : decode cX11_dawns 14 = .ok (.getfield 7, 3) := by decide +kernel
theorem dX11_dawns_17 : decode cX11_dawns 17 = .ok (.bipush 122, 2) := by decide +kernel
theorem dX11_dawns_19 : decode cX11_dawns 19 = .ok (.aload_n 0, 1) := by decide +kernel
theorem dX11_dawns_20 : decode cX11_dawns 20 = .ok (.getfield 7, 3) := by decide +kernel
theorem dX11_dawns_23 : decode cX11_dawns 23 = .ok (.iconst 1, 1) := by decide +kernel
theorem dX11_dawns_24 : decode cX11_dawns 24 = .ok (.iaload, 1) := by decide +kernel
theorem dX11_dawns_25 : decode cX11_dawns 25 = .ok (.iadd, 1) := by decide +kernel
theorem dX11_dawns_26 : decode cX11_dawns 26 = .ok (.iload_n 1, 1) := by decide +kernel
theorem dX11_dawns_27 : decode cX11_dawns 27 = .ok (.iastore, 1) := by decide +kernel
theorem dX11_dawns_28 : decode cX11_dawns 28 = .ok (.iconst 0, 1) := by decide +kernel
theorem dX11_dawns_29 : decode cX11_dawns 29 = .ok (.istore_n 2, 1) := by decide +kernel
theorem dX11_dawns_30 : decode cX11_dawns 30 = .ok (.iload_n 2, 1) := by decide +kernel
theorem dX11_dawns_31 : decode cX11_dawns 31 = .ok (.bipush 8, 2) := by decide +kernel
theorem dX11_dawns_33 : decode cX11_dawns 33 = .ok (.if_icmp .ge 25, 3) := by decide +kernel
theorem dX11_dawns_36 : decode cX11_dawns 36 = .ok (.aload_n 0, 1) := by decide +kernel
theorem dX11_dawns_37 : decode cX11_dawns 37 = .ok (.getfield 7, 3) := by decide +kernel
theorem dX11_dawns_40 : decode cX11_dawns 40 = .ok (.iload_n 2, 1) := by decide +kernel
theorem dX11_dawns_41 : decode cX11_dawns 41 = .ok (.aload_n 0, 1) := by decide +kernel
theorem dX11_dawns_42 : decode cX11_dawns 42 = .ok (.getfield 7, 3) := by decide +kernel
theorem dX11_dawns_45 : decode cX11_dawns 45 = .ok (.iconst 1, 1) := by decide +kernel
theorem dX11_dawns_46 : decode cX11_dawns 46 = .ok (.iaload, 1) := by decide +kernel
theorem dX11_dawns_47 : decode cX11_dawns 47 = .ok (.invokestatic 225, 3) := by decide +kernel
theorem dX11_dawns_50 : decode cX11_dawns 50 = .ok (.iconst 0, 1) := by decide +kernel
theorem dX11_dawns_51 : decode cX11_dawns 51 = .ok (.iastore, 1) := by decide +kernel
theorem dX11_dawns_52 : decode cX11_dawns 52 = .ok (.iinc 2 1, 3) := by decide +kernel
theorem dX11_dawns_55 : decode cX11_dawns 55 = .ok (.goto (-25), 3) := by decide +kernel
theorem dX11_dawns_58 : decode cX11_dawns 58 = .ok (.aload_n 0, 1) := by decide +kernel
theorem dX11_dawns_59 : decode cX11_dawns 59 = .ok (.getfield 7, 3) := by decide +kernel
theorem dX11_dawns_62 : decode cX11_dawns 62 = .ok (.iconst 1, 1) := by decide +kernel
theorem dX11_dawns_63 : decode cX11_dawns 63 = .ok (.dup2, 1) := by decide +kernel
theorem dX11_dawns_64 : decode cX11_dawns 64 = .ok (.iaload, 1) := by decide +kernel
theorem dX11_dawns_65 : decode cX11_dawns 65 = .ok (.iconst 1, 1) := by decide +kernel
theorem dX11_dawns_66 : decode cX11_dawns 66 = .ok (.iadd, 1) := by decide +kernel
theorem dX11_dawns_67 : decode cX11_dawns 67 = .ok (.iastore, 1) := by decide +kernel
theorem dX11_dawns_68 : decode cX11_dawns 68 = .ok (.iconst 1, 1) := by decide +kernel
theorem dX11_dawns_69 : decode cX11_dawns 69 = .ok (.ireturn, 1) := by decide +kernel
abbrev rmX11_dawns : Room := { frames := 1, cells := 0, slots := 0, locals := 21 }
set_option maxHeartbeats 4000000 in
set_option maxRecDepth 100000 in
theorem kX11_dawns (l : Launch) (D : va_G) (cy : Nat → ClassId) (h0 : Nat) (a0 : Nat → Nat) (s0 : Rc) (p1 : Int32) (res : Int32 × Rc) (h : fX11_dawns p1 s0 = some res) : CZ l D cy yX11_dawns wsX11_dawns rmX11_dawns [.ref h0, .int p1] (flat [WX11 cy h0 a0 s0]) (flat [WX11 cy h0 a0 res.2]) res.1 := by
  refine CZ.of (cc := cX11_dawns) (maxL := 3) (by decide) rfl (Nat.le_of_ble_eq_true rfl) ?_
  intro p e s m args below meth c A QQ ls E hr
  obtain ⟨hx, hb, hml, hown, hts, hK, hN, hP, hD, hA, hl⟩ := E
  have hret : ∀ (pc : Nat) (H : Heap) (locs : List Loc) (ls : Array Slot) (u : Int32 × Rc), u = res → va_P D vwCl (flat [WX11 cy h0 a0 u.2]) H → va_D A (flat [WX11 cy h0 a0 u.2]) → va_S A s.heap H locs → isb u.1 = true → decode cX11_dawns pc = .ok (.ireturn, 1) → W p l e rmX11_dawns s m args below meth c H locs 0 0 QQ (F0 m pc ls [.int u.1]) := by
    intro pc H locs ls u hu hP hD hS hz hd; subst hu; exact hr pc H locs ls _ rfl hP hD hS hz hd
  clear hr
  have hl : lv_has ls 3 [(0, .ref h0), (1, .int p1)] := hl
  have hinX11 : ∀ w ∈ wsX110, w ∈ wsX11_dawns := fun _ h => List.mem_cons_of_mem _ (List.mem_append_right _ h)
  unfold fX11_dawns at h
  suffices key : ∀ (H : Heap) (locs : List Loc), va_P D vwCl (flat [WX11 cy h0 a0 s0]) H → va_S A s.heap H locs → W p l e rmX11_dawns s m args below meth c H locs 0 0 QQ (F0 m 0 ls []) from key _ _ hP va_S.rf
  clear hP
  intro H locs hP hS
  refine lv_aload_n hx hb dX11_dawns_0 rfl (lv_at hl 0 rfl) ?_
  refine va_get (D := D) (ci := 11) (v := .ref (a0 0)) (C := RX11) (T := TX11) (N := 38) hx hb hts hinX11 hown hK hP 0 rfl rfl 0 (by decide) (hts (.fieldLink RX11 7 "KneeBenchModel" "at" "[I") (List.mem_of_getElem? (i := 1) rfl)) (fun _ h9 => h9) rfl dX11_dawns_1 ?_
  refine lv_iconst (v := 1) hx hb dX11_dawns_4 (by decide) ?_
  refine va_iald hx hb hK hP 1 1 rfl rfl (inb_in (by decide)) dX11_dawns_5 ?_
  refine lv_bipush (v := 60) hx hb dX11_dawns_6 (by decide) ?_
  refine lv_icmp_ne (tgt := 13) hx hb dX11_dawns_8 (by decide) (fun c1 => ?_) (fun c1 => ?_)
  · replace h := (if_neg c1).symm.trans h
    refine lv_aload_n hx hb dX11_dawns_13 rfl (lv_at hl 0 rfl) ?_
    refine va_get (D := D) (ci := 11) (v := .ref (a0 0)) (C := RX11) (T := TX11) (N := 38) hx hb hts hinX11 hown hK hP 0 rfl rfl 0 (by decide) (hts (.fieldLink RX11 7 "KneeBenchModel" "at" "[I") (List.mem_of_getElem? (i := 1) rfl)) (fun _ h9 => h9) rfl dX11_dawns_14 ?_
    refine lv_bipush (v := 122) hx hb dX11_dawns_17 (by decide) ?_
    refine lv_aload_n hx hb dX11_dawns_19 rfl (lv_at hl 0 rfl) ?_
    refine va_get (D := D) (ci := 11) (v := .ref (a0 0)) (C := RX11) (T := TX11) (N := 38) hx hb hts hinX11 hown hK hP 0 rfl rfl 0 (by decide) (hts (.fieldLink RX11 7 "KneeBenchModel" "at" "[I") (List.mem_of_getElem? (i := 1) rfl)) (fun _ h9 => h9) rfl dX11_dawns_20 ?_
    refine lv_iconst (v := 1) hx hb dX11_dawns_23 (by decide) ?_
    refine va_iald hx hb hK hP 1 1 rfl rfl (inb_in (by decide)) dX11_dawns_24 ?_
    refine lv_iadd hx hb dX11_dawns_25 ?_
    refine lv_iload_n hx hb dX11_dawns_26 rfl (lv_at hl 1 rfl) ?_
    obtain ⟨g2, h⟩ := gd_elim h
    obtain ⟨s0_3, es, h⟩ := lt_elim h
    refine va_iast hx hb hK hP hD hS 1 1 rfl rfl (inb_in g2) dX11_dawns_27 (fun H locs hP hD hS => ?_)
    have hP : va_P D vwCl (flat [WX11 cy h0 a0 s0_3]) H := by rw [es]; exact hP
    have hD : va_D A (flat [WX11 cy h0 a0 s0_3]) := by rw [es]; exact hD
    clear es
    refine lv_iconst (v := 0) hx hb dX11_dawns_28 (by decide) ?_
    refine lv_istore_n (lv' := [(2, .int (0 : Int32)), (0, .ref h0), (1, .int p1)]) hx hb dX11_dawns_29 rfl hl (by decide) rfl (fun ls hl => ?_)
    have L30 : ∀ (n : Nat) (q30 : Int32 × Rc) (o : Rc), loopO (fX11_dawns_L30) n q30 = some o → ∀ (H : Heap) (locs : List Loc) (ls : Array Slot), lv_has ls 3 [(0, .ref h0), (2, .int q30.1)] → va_P D vwCl (flat [WX11 cy h0 a0 q30.2]) H → va_D A (flat [WX11 cy h0 a0 q30.2]) → va_S A s.heap H locs → ∀ (kk58 : ∀ (H : Heap) (locs : List Loc) (ls : Array Slot), lv_has ls 3 [(0, .ref h0)] → va_P D vwCl (flat [WX11 cy h0 a0 o]) H → va_D A (flat [WX11 cy h0 a0 o]) → va_S A s.heap H locs → W p l e rmX11_dawns s m args below meth c H locs 0 0 QQ (F0 m 58 ls [])), W p l e rmX11_dawns s m args below meth c H locs 0 0 QQ (F0 m 30 ls []) := by
      intro n
      induction n with
      | zero => intro q30 o h; exact absurd h (by rw [loopO_zero]; intro z; cases z)
      | succ n ih =>
        intro q30 o h H locs ls hl hP hD hS kk58
        obtain ⟨w, h, hgo, hst⟩ := loopO_elim h
        unfold fX11_dawns_L30 at h
        refine lv_iload_n hx hb dX11_dawns_30 rfl (lv_at hl 1 rfl) ?_
        refine lv_bipush (v := 8) hx hb dX11_dawns_31 (by decide) ?_
        refine lv_icmp_ge (tgt := 58) hx hb dX11_dawns_33 (by decide) (fun c4 => ?_) (fun c4 => ?_)
        · replace h := (if_pos c4).symm.trans h
          have eo := hst _ (Option.some.inj h).symm
          subst eo
          exact kk58 H locs ls (lv_sub hl [0] rfl) hP hD hS
        · replace h := (if_neg c4).symm.trans h
          refine lv_aload_n hx hb dX11_dawns_36 rfl (lv_at hl 0 rfl) ?_
          refine va_get (D := D) (ci := 11) (v := .ref (a0 0)) (C := RX11) (T := TX11) (N := 38) hx hb hts hinX11 hown hK hP 0 rfl rfl 0 (by decide) (hts (.fieldLink RX11 7 "KneeBenchModel" "at" "[I") (List.mem_of_getElem? (i := 1) rfl)) (fun _ h9 => h9) rfl dX11_dawns_37 ?_
          refine lv_iload_n hx hb dX11_dawns_40 rfl (lv_at hl 1 rfl) ?_
          refine lv_aload_n hx hb dX11_dawns_41 rfl (lv_at hl 0 rfl) ?_
          refine va_get (D := D) (ci := 11) (v := .ref (a0 0)) (C := RX11) (T := TX11) (N := 38) hx hb hts hinX11 hown hK hP 0 rfl rfl 0 (by decide) (hts (.fieldLink RX11 7 "KneeBenchModel" "at" "[I") (List.mem_of_getElem? (i := 1) rfl)) (fun _ h9 => h9) rfl dX11_dawns_42 ?_
          refine lv_iconst (v := 1) hx hb dX11_dawns_45 (by decide) ?_
          refine va_iald hx hb hK hP 1 1 rfl rfl (inb_in (by decide)) dX11_dawns_46 ?_
          refine ca_i (w' := [WX11 cy h0 a0 q30.2]) (rn_S (As := [.int q30.1, .int (ga q30.2 0 (1 : Int32).toNatClampNeg)]) (rest := [.ref (a0 0)]) ⟨hx, hb, hml, hown, hts⟩ (kX11_twingeRow l D cy q30.1 (ga q30.2 0 (1 : Int32).toNatClampNeg) _ rfl H.size) (va_cwS 2 hts gX11_dawns_X11_twingeRow rfl rfl rfl (by decide +kernel) ⟨Nat.le_of_ble_eq_true rfl, Nat.le_of_ble_eq_true rfl⟩) hK hN hP hD [] rfl rfl rfl hl.1 rfl (Nat.le_of_ble_eq_true rfl) dX11_dawns_47 ⟨Nat.le_refl 0, Nat.le_refl 0⟩) hP hD hS hA [] ⟨rfl, rfl, rfl, rfl⟩ (fun H locs hP hD hS => ?_)
          refine lv_iconst (v := 0) hx hb dX11_dawns_50 (by decide) ?_
          obtain ⟨g5, h⟩ := gd_elim h
          obtain ⟨s0_6, es, h⟩ := lt_elim h
          refine va_iast hx hb hK hP hD hS 1 1 rfl rfl (inb_in g5) dX11_dawns_51 (fun H locs hP hD hS => ?_)
          have hP : va_P D vwCl (flat [WX11 cy h0 a0 s0_6]) H := by rw [es]; exact hP
          have hD : va_D A (flat [WX11 cy h0 a0 s0_6]) := by rw [es]; exact hD
          clear es
          refine lv_iinc (v := (q30.1 + (1 : Int32))) (lv' := [(2, .int (q30.1 + (1 : Int32))), (0, .ref h0)]) hx hb dX11_dawns_52 hl (k := 1) rfl rfl (by decide) rfl (fun ls hl => ?_)
          refine lv_goto (tgt := 30) hx hb dX11_dawns_55 (by decide) ?_
          exact ih _ o (hgo _ (Option.some.inj h).symm) H locs ls (lv_sub hl [1, 0] rfl) hP hD hS kk58
    obtain ⟨o30, ho30, h⟩ := bd_elim h
    obtain ⟨n30, hn30⟩ := loopF_some ho30
    refine L30 n30 _ o30 hn30 H locs ls (lv_sub hl [1, 0] rfl) hP hD hS (fun H locs ls hl hP hD hS => ?_)
    refine lv_aload_n hx hb dX11_dawns_58 rfl (lv_at hl 0 rfl) ?_
    refine va_get (D := D) (ci := 11) (v := .ref (a0 0)) (C := RX11) (T := TX11) (N := 38) hx hb hts hinX11 hown hK hP 0 rfl rfl 0 (by decide) (hts (.fieldLink RX11 7 "KneeBenchModel" "at" "[I") (List.mem_of_getElem? (i := 1) rfl)) (fun _ h9 => h9) rfl dX11_dawns_59 ?_
    refine lv_iconst (v := 1) hx hb dX11_dawns_62 (by decide) ?_
    refine lv_dup2_11 hx hb dX11_dawns_63 rfl rfl ?_
    refine va_iald hx hb hK hP 1 1 rfl rfl (inb_in (by decide)) dX11_dawns_64 ?_
    refine lv_iconst (v := 1) hx hb dX11_dawns_65 (by decide) ?_
    refine lv_iadd hx hb dX11_dawns_66 ?_
    obtain ⟨s0_7, es, h⟩ := lt_elim h
    refine va_iast hx hb hK hP hD hS 1 1 rfl rfl (inb_in (by decide)) dX11_dawns_67 (fun H locs hP hD hS => ?_)
    have hP : va_P D vwCl (flat [WX11 cy h0 a0 s0_7]) H := by rw [es]; exact hP
    have hD : va_D A (flat [WX11 cy h0 a0 s0_7]) := by rw [es]; exact hD
    clear es
    refine lv_iconst (v := 1) hx hb dX11_dawns_68 (by decide) ?_
    exact hret 69 H locs ls ((1 : Int32), s0_7) (Option.some.inj h) hP hD hS (show isb (1 : Int32) = true by decide) dX11_dawns_69
  · replace h := (if_pos c1).symm.trans h
    refine lv_iconst (v := 0) hx hb dX11_dawns_11 (by decide) ?_
    exact hret 12 H locs ls ((0 : Int32), s0) (Option.some.inj h) hP hD hS (show isb (0 : Int32) = true by decide) dX11_dawns_12
theorem gd_X11_day : wsX11_day.all goodWord = true := by decide +kernel
set_option maxRecDepth 20000 in
theorem ggX11_day_X11_isFrom : GoodIn wsX11_day wsX11_isFrom := goodIn_by gd_X11_day (List.forall_mem_cons.mpr ⟨List.mem_cons_of_mem _ (List.mem_append_left _ (List.mem_of_getElem? (i := 5) rfl)), nowords_in⟩)
set_option maxRecDepth 20000 in
theorem gX11_day_X11_isFrom : GoodIn wsX11_day (va_wsS RX11 282 yX11_isFrom wsX11_isFrom) := goodIn_app (goodIn_by gd_X11_day (List.forall_mem_cons.mpr ⟨List.mem_cons_of_mem _ (List.mem_append_left _ (List.mem_of_getElem? (i := 2) rfl)), List.forall_mem_cons.mpr ⟨List.mem_cons_of_mem _ (List.mem_append_left _ (List.mem_of_getElem? (i := 3) rfl)), List.forall_mem_cons.mpr ⟨List.mem_cons_of_mem _ (List.mem_append_left _ (List.mem_of_getElem? (i := 4) rfl)), nowords_in⟩⟩⟩)) ggX11_day_X11_isFrom
set_option maxRecDepth 20000 in
theorem ggX11_day_X11_refuse : GoodIn wsX11_day wsX11_refuse := goodIn_by gd_X11_day (List.forall_mem_cons.mpr ⟨List.mem_cons_of_mem _ (List.mem_append_left _ (List.mem_of_getElem? (i := 9) rfl)), List.forall_mem_append.mpr ⟨List.forall_mem_cons.mpr ⟨List.mem_cons_of_mem _ (List.mem_append_left _ (List.mem_of_getElem? (i := 10) rfl)), nowords_in⟩, (fun _ h => List.mem_cons_of_mem _ (List.mem_append_right _ (h)))⟩⟩)
set_option maxRecDepth 20000 in
theorem gX11_day_X11_refuse : GoodIn wsX11_day (wsV RX11 75 RX11 yX11_refuse wsX11_refuse) := goodIn_app (goodIn_by gd_X11_day (List.forall_mem_cons.mpr ⟨List.mem_cons_of_mem _ (List.mem_append_left _ (List.mem_of_getElem? (i := 6) rfl)), List.forall_mem_cons.mpr ⟨List.mem_cons_of_mem _ (List.mem_append_left _ (List.mem_of_getElem? (i := 7) rfl)), List.forall_mem_cons.mpr ⟨List.mem_cons_of_mem _ (List.mem_append_left _ (List.mem_of_getElem? (i := 8) rfl)), List.forall_mem_cons.mpr ⟨List.mem_cons_of_mem _ (List.mem_append_left _ (List.mem_of_getElem? (i := 4) rfl)), nowords_in⟩⟩⟩⟩)) ggX11_day_X11_refuse
set_option maxRecDepth 20000 in
theorem ggX11_day_X11_dawns : GoodIn wsX11_day wsX11_dawns := goodIn_by gd_X11_day (List.forall_mem_cons.mpr ⟨List.mem_cons_of_mem _ (List.mem_append_left _ (List.mem_of_getElem? (i := 14) rfl)), List.forall_mem_append.mpr ⟨List.forall_mem_cons.mpr ⟨List.mem_cons_of_mem _ (List.mem_append_left _ (List.mem_of_getElem? (i := 1) rfl)), List.forall_mem_cons.mpr ⟨List.mem_cons_of_mem _ (List.mem_append_left _ (List.mem_of_getElem? (i := 15) rfl)), List.forall_mem_cons.mpr ⟨List.mem_cons_of_mem _ (List.mem_append_left _ (List.mem_of_getElem? (i := 16) rfl)), List.forall_mem_cons.mpr ⟨List.mem_cons_of_mem _ (List.mem_append_left _ (List.mem_of_getElem? (i := 4) rfl)), List.forall_mem_cons.mpr ⟨List.mem_cons_of_mem _ (List.mem_append_left _ (List.mem_of_getElem? (i := 17) rfl)), nowords_in⟩⟩⟩⟩⟩, (fun _ h => List.mem_cons_of_mem _ (List.mem_append_right _ (h)))⟩⟩)
set_option maxRecDepth 20000 in
theorem gX11_day_X11_dawns : GoodIn wsX11_day (wsV RX11 298 RX11 yX11_dawns wsX11_dawns) := goodIn_app (goodIn_by gd_X11_day (List.forall_mem_cons.mpr ⟨List.mem_cons_of_mem _ (List.mem_append_left _ (List.mem_of_getElem? (i := 11) rfl)), List.forall_mem_cons.mpr ⟨List.mem_cons_of_mem _ (List.mem_append_left _ (List.mem_of_getElem? (i := 12) rfl)), List.forall_mem_cons.mpr ⟨List.mem_cons_of_mem _ (List.mem_append_left _ (List.mem_of_getElem? (i := 13) rfl)), List.forall_mem_cons.mpr ⟨List.mem_cons_of_mem _ (List.mem_append_left _ (List.mem_of_getElem? (i := 4) rfl)), nowords_in⟩⟩⟩⟩)) ggX11_day_X11_dawns
set_option maxRecDepth 20000 in
theorem ggX11_day_X11_gives : GoodIn wsX11_day wsX11_gives := goodIn_by gd_X11_day (List.forall_mem_cons.mpr ⟨List.mem_cons_of_mem _ (List.mem_append_left _ (List.mem_of_getElem? (i := 21) rfl)), List.forall_mem_append.mpr ⟨List.forall_mem_cons.mpr ⟨List.mem_cons_of_mem _ (List.mem_append_left _ (List.mem_of_getElem? (i := 10) rfl)), nowords_in⟩, (fun _ h => List.mem_cons_of_mem _ (List.mem_append_right _ (h)))⟩⟩)
set_option maxRecDepth 20000 in
theorem gX11_day_X11_gives : GoodIn wsX11_day (wsV RX11 79 RX11 yX11_gives wsX11_gives) := goodIn_app (goodIn_by gd_X11_day (List.forall_mem_cons.mpr ⟨List.mem_cons_of_mem _ (List.mem_append_left _ (List.mem_of_getElem? (i := 18) rfl)), List.forall_mem_cons.mpr ⟨List.mem_cons_of_mem _ (List.mem_append_left _ (List.mem_of_getElem? (i := 19) rfl)), List.forall_mem_cons.mpr ⟨List.mem_cons_of_mem _ (List.mem_append_left _ (List.mem_of_getElem? (i := 20) rfl)), List.forall_mem_cons.mpr ⟨List.mem_cons_of_mem _ (List.mem_append_left _ (List.mem_of_getElem? (i := 4) rfl)), nowords_in⟩⟩⟩⟩)) ggX11_day_X11_gives
theorem dX11_day_0 : decode cX11_day 0 = .ok (.iload_n 1, 1) := by decide +kernel
theorem dX11_day_1 : decode cX11_day 1 = .ok (.i2l, 1) := by decide +kernel
theorem dX11_day_2 : decode cX11_day 2 = .ok (.lconst 0, 1) := by decide +kernel
theorem dX11_day_3 : decode cX11_day 3 = .ok (.ldc2_w 296, 3) := by decide +kernel
theorem dX11_day_6 : decode cX11_day 6 = .ok (.invokestatic 282, 3) := by decide +kernel
theorem dX11_day_9 : decode cX11_day 9 = .ok (.ifCond .ne 9, 3) := by decide +kernel
theorem dX11_day_12 : decode cX11_day 12 = .ok (.aload_n 0, 1) := by decide +kernel
theorem dX11_day_13 : decode cX11_day 13 = .ok (.iconst 1, 1) := by decide +kernel
theorem dX11_day_14 : decode cX11_day 14 = .ok (.invokevirtual 75, 3) := by decide +kernel
theorem dX11_day_17 : decode cX11_day 17 = .ok (.ireturn, 1) := by decide +kernel
theorem dX11_day_18 : decode cX11_day 18 = .ok (.aload_n 0, 1) := by decide +kernel
theorem dX11_day_19 : decode cX11_day 19 = .ok (.iload_n 1, 1) := by decide +kernel
theorem dX11_day_20 : decode cX11_day 20 = .ok (.invokevirtual 298, 3) := by decide +kernel
theorem dX11_day_23 : decode cX11_day 23 = .ok (.ifCond .eq 16, 3) := by decide +kernel
theorem dX11_day_26 : decode cX11_day 26 = .ok (.aload_n 0, 1) := by decide +kernel
theorem dX11_day_27 : decode cX11_day 27 = .ok (.aload_n 0, 1) := by decide +kernel
theorem dX11_day_28 : decode cX11_day 28 = .ok (.getfield 7, 3) := by decide +kernel
theorem dX11_day_31 : decode cX11_day 31 = .ok (.iconst 1, 1) := by decide +kernel
theorem dX11_day_32 : decode cX11_day 32 = .ok (.iaload, 1) := by decide +kernel
theorem dX11_day_33 : decode cX11_day 33 = .ok (.invokevirtual 79, 3) := by decide +kernel
theorem dX11_day_36 : decode cX11_day 36 = .ok (.goto 8, 3) := by decide +kernel
theorem dX11_day_39 : decode cX11_day 39 = .ok (.aload_n 0, 1) := by decide +kernel
theorem dX11_day_40 : decode cX11_day 40 = .ok (.iconst 4, 1) := by decide +kernel
theorem dX11_day_41 : decode cX11_day 41 = .ok (.invokevirtual 75, 3) := by decide +kernel
theorem dX11_day_44 : decode cX11_day 44 = .ok (.ireturn, 1) := by decide +kernel
abbrev rmX11_day : Room := { frames := 2, cells := 0, slots := 0, locals := 43 }
set_option maxHeartbeats 4000000 in
set_option maxRecDepth 100000 in
theorem kX11_day (l : Launch) (D : va_G) (cy : Nat → ClassId) (h0 : Nat) (a0 : Nat → Nat) (s0 : Rc) (p1 : Int32) (res : Int32 × Rc) (h : fX11_day p1 s0 = some res) : CI l D cy yX11_day wsX11_day rmX11_day [.ref h0, .int p1] (flat [WX11 cy h0 a0 s0]) (flat [WX11 cy h0 a0 res.2]) res.1 := by
  refine CI.of (cc := cX11_day) (maxL := 2) (by decide) rfl (Nat.le_of_ble_eq_true rfl) ?_
  intro p e s m args below meth c A QQ ls E hr
  obtain ⟨hx, hb, hml, hown, hts, hK, hN, hP, hD, hA, hl⟩ := E
  have hret : ∀ (pc : Nat) (H : Heap) (locs : List Loc) (ls : Array Slot) (u : Int32 × Rc), u = res → va_P D vwCl (flat [WX11 cy h0 a0 u.2]) H → va_D A (flat [WX11 cy h0 a0 u.2]) → va_S A s.heap H locs → decode cX11_day pc = .ok (.ireturn, 1) → W p l e rmX11_day s m args below meth c H locs 0 0 QQ (F0 m pc ls [.int u.1]) := by
    intro pc H locs ls u hu hP hD hS hd; subst hu; exact hr pc H locs ls _ rfl hP hD hS hd
  clear hr
  have hl : lv_has ls 2 [(0, .ref h0), (1, .int p1)] := hl
  have hinX11 : ∀ w ∈ wsX110, w ∈ wsX11_day := fun _ h => List.mem_cons_of_mem _ (List.mem_append_right _ h)
  unfold fX11_day at h
  suffices key : ∀ (H : Heap) (locs : List Loc), va_P D vwCl (flat [WX11 cy h0 a0 s0]) H → va_S A s.heap H locs → W p l e rmX11_day s m args below meth c H locs 0 0 QQ (F0 m 0 ls []) from key _ _ hP va_S.rf
  clear hP
  intro H locs hP hS
  refine lv_iload_n hx hb dX11_day_0 rfl (lv_at hl 1 rfl) ?_
  refine lv_i2l hx hb dX11_day_1 rfl ?_
  refine lv_lconst (v := 0) hx hb dX11_day_2 (by decide) ?_
  refine lv_ldc2 (v := 2) hx hb hown (hts (.constantLong RX11 296 (2)) (List.mem_of_getElem? (i := 1) rfl)) dX11_day_3 ?_
  refine ca_z (w' := [WX11 cy h0 a0 s0]) (rn_S (As := [.long p1.toInt64, .long (0 : Int64), .long (2 : Int64)]) (rest := []) ⟨hx, hb, hml, hown, hts⟩ (kX11_isFrom l D cy p1.toInt64 (0 : Int64) (2 : Int64) _ rfl H.size) (va_cwS 3 hts gX11_day_X11_isFrom rfl rfl rfl (by decide +kernel) ⟨Nat.le_of_ble_eq_true rfl, Nat.le_of_ble_eq_true rfl⟩) hK hN hP hD [] rfl rfl rfl hl.1 rfl (Nat.le_of_ble_eq_true rfl) dX11_day_6 ⟨Nat.le_refl 0, Nat.le_refl 0⟩) hP hD hS hA [] ⟨rfl, rfl, rfl, rfl⟩ (fun b1 H locs hP hD hS => ?_)
  refine lv_if_ne (tgt := 18) hx hb dX11_day_9 (by decide) (fun c2 => ?_) (fun c2 => ?_)
  · replace h := (if_neg c2).symm.trans h
    refine lv_aload_n hx hb dX11_day_18 rfl (lv_at hl 0 rfl) ?_
    refine lv_iload_n hx hb dX11_day_19 rfl (lv_at hl 1 rfl) ?_
    obtain ⟨r3, hr3, h⟩ := bd_elim h
    refine ca_z (w' := [WX11 cy h0 a0 r3.2]) (rn_V (As := [.int p1]) (rest := []) ⟨hx, hb, hml, hown, hts⟩ (kX11_dawns l D cy h0 a0 s0 p1 r3 hr3 H.size) (cwV 1 hts gX11_day_X11_dawns rfl rfl rfl (by decide +kernel) ⟨Nat.le_of_ble_eq_true rfl, Nat.le_of_ble_eq_true rfl⟩) hK hN hP hD [0] rfl rfl (ci := 11) (q0 := 0) rfl rfl rfl rfl hl.1 rfl (Nat.le_of_ble_eq_true rfl) dX11_day_20 ⟨Nat.le_refl 0, Nat.le_refl 0⟩) hP hD hS hA [0] ⟨rfl, rfl, rfl, rfl⟩ (fun b4 H locs hP hD hS => ?_)
    refine lv_if_eq (tgt := 39) hx hb dX11_day_23 (by decide) (fun c5 => ?_) (fun c5 => ?_)
    · replace h := (if_pos c5).symm.trans h
      refine lv_aload_n hx hb dX11_day_39 rfl (lv_at hl 0 rfl) ?_
      refine lv_iconst (v := 4) hx hb dX11_day_40 (by decide) ?_
      obtain ⟨r6, hr6, h⟩ := lt_elim h
      refine ca_i (w' := [WX11 cy h0 a0 r6.2]) (rn_V (As := [.int (4 : Int32)]) (rest := []) ⟨hx, hb, hml, hown, hts⟩ (kX11_refuse l D cy h0 a0 r3.2 (4 : Int32) r6 hr6.symm H.size) (cwV 1 hts gX11_day_X11_refuse rfl rfl rfl (by decide +kernel) ⟨Nat.le_of_ble_eq_true rfl, Nat.le_of_ble_eq_true rfl⟩) hK hN hP hD [0] rfl rfl (ci := 11) (q0 := 0) rfl rfl rfl rfl hl.1 rfl (Nat.le_of_ble_eq_true rfl) dX11_day_41 ⟨Nat.le_refl 0, Nat.le_refl 0⟩) hP hD hS hA [0] ⟨rfl, rfl, rfl, rfl⟩ (fun H locs hP hD hS => ?_)
      exact hret 44 H locs ls (r6.1, r6.2) (Option.some.inj h) hP hD hS dX11_day_44
    · replace h := (if_neg c5).symm.trans h
      refine lv_aload_n hx hb dX11_day_26 rfl (lv_at hl 0 rfl) ?_
      refine lv_aload_n hx hb dX11_day_27 rfl (lv_at hl 0 rfl) ?_
      refine va_get (D := D) (ci := 11) (v := .ref (a0 0)) (C := RX11) (T := TX11) (N := 38) hx hb hts hinX11 hown hK hP 0 rfl rfl 0 (by decide) (hts (.fieldLink RX11 7 "KneeBenchModel" "at" "[I") (List.mem_of_getElem? (i := 2) rfl)) (fun _ h9 => h9) rfl dX11_day_28 ?_
      refine lv_iconst (v := 1) hx hb dX11_day_31 (by decide) ?_
      refine va_iald hx hb hK hP 1 1 rfl rfl (inb_in (by decide)) dX11_day_32 ?_
      obtain ⟨r7, hr7, h⟩ := lt_elim h
      refine ca_i (w' := [WX11 cy h0 a0 r7.2]) (rn_V (As := [.int (ga r3.2 0 (1 : Int32).toNatClampNeg)]) (rest := []) ⟨hx, hb, hml, hown, hts⟩ (kX11_gives l D cy h0 a0 r3.2 (ga r3.2 0 (1 : Int32).toNatClampNeg) r7 hr7.symm H.size) (cwV 1 hts gX11_day_X11_gives rfl rfl rfl (by decide +kernel) ⟨Nat.le_of_ble_eq_true rfl, Nat.le_of_ble_eq_true rfl⟩) hK hN hP hD [0] rfl rfl (ci := 11) (q0 := 0) rfl rfl rfl rfl hl.1 rfl (Nat.le_of_ble_eq_true rfl) dX11_day_33 ⟨Nat.le_refl 0, Nat.le_refl 0⟩) hP hD hS hA [0] ⟨rfl, rfl, rfl, rfl⟩ (fun H locs hP hD hS => ?_)
      refine lv_goto (tgt := 44) hx hb dX11_day_36 (by decide) ?_
      exact hret 44 H locs ls (r7.1, r7.2) (Option.some.inj h) hP hD hS dX11_day_44
  · replace h := (if_pos c2).symm.trans h
    refine lv_aload_n hx hb dX11_day_12 rfl (lv_at hl 0 rfl) ?_
    refine lv_iconst (v := 1) hx hb dX11_day_13 (by decide) ?_
    obtain ⟨r8, hr8, h⟩ := lt_elim h
    refine ca_i (w' := [WX11 cy h0 a0 r8.2]) (rn_V (As := [.int (1 : Int32)]) (rest := []) ⟨hx, hb, hml, hown, hts⟩ (kX11_refuse l D cy h0 a0 s0 (1 : Int32) r8 hr8.symm H.size) (cwV 1 hts gX11_day_X11_refuse rfl rfl rfl (by decide +kernel) ⟨Nat.le_of_ble_eq_true rfl, Nat.le_of_ble_eq_true rfl⟩) hK hN hP hD [0] rfl rfl (ci := 11) (q0 := 0) rfl rfl rfl rfl hl.1 rfl (Nat.le_of_ble_eq_true rfl) dX11_day_14 ⟨Nat.le_refl 0, Nat.le_refl 0⟩) hP hD hS hA [0] ⟨rfl, rfl, rfl, rfl⟩ (fun H locs hP hD hS => ?_)
    exact hret 17 H locs ls (r8.1, r8.2) (Option.some.inj h) hP hD hS dX11_day_17
theorem gd_X11_dayComes : wsX11_dayComes.all goodWord = true := by decide +kernel
set_option maxRecDepth 20000 in
theorem ggX11_dayComes_X11_dawns : GoodIn wsX11_dayComes wsX11_dawns := goodIn_by gd_X11_dayComes (List.forall_mem_cons.mpr ⟨List.mem_cons_of_mem _ (List.mem_append_left _ (List.mem_of_getElem? (i := 5) rfl)), List.forall_mem_append.mpr ⟨List.forall_mem_cons.mpr ⟨List.mem_cons_of_mem _ (List.mem_append_left _ (List.mem_of_getElem? (i := 6) rfl)), List.forall_mem_cons.mpr ⟨List.mem_cons_of_mem _ (List.mem_append_left _ (List.mem_of_getElem? (i := 7) rfl)), List.forall_mem_cons.mpr ⟨List.mem_cons_of_mem _ (List.mem_append_left _ (List.mem_of_getElem? (i := 8) rfl)), List.forall_mem_cons.mpr ⟨List.mem_cons_of_mem _ (List.mem_append_left _ (List.mem_of_getElem? (i := 4) rfl)), List.forall_mem_cons.mpr ⟨List.mem_cons_of_mem _ (List.mem_append_left _ (List.mem_of_getElem? (i := 9) rfl)), nowords_in⟩⟩⟩⟩⟩, (fun _ h => List.mem_cons_of_mem _ (List.mem_append_right _ (h)))⟩⟩)
set_option maxRecDepth 20000 in
theorem gX11_dayComes_X11_dawns : GoodIn wsX11_dayComes (wsV RX11 298 RX11 yX11_dawns wsX11_dawns) := goodIn_app (goodIn_by gd_X11_dayComes (List.forall_mem_cons.mpr ⟨List.mem_cons_of_mem _ (List.mem_append_left _ (List.mem_of_getElem? (i := 1) rfl)), List.forall_mem_cons.mpr ⟨List.mem_cons_of_mem _ (List.mem_append_left _ (List.mem_of_getElem? (i := 2) rfl)), List.forall_mem_cons.mpr ⟨List.mem_cons_of_mem _ (List.mem_append_left _ (List.mem_of_getElem? (i := 3) rfl)), List.forall_mem_cons.mpr ⟨List.mem_cons_of_mem _ (List.mem_append_left _ (List.mem_of_getElem? (i := 4) rfl)), nowords_in⟩⟩⟩⟩)) ggX11_dayComes_X11_dawns
theorem dX11_dayComes_0 : decode cX11_dayComes 0 = .ok (.aload_n 0, 1) := by decide +kernel
theorem dX11_dayComes_1 : decode cX11_dayComes 1 = .ok (.iload_n 1, 1) := by decide +kernel
theorem dX11_dayComes_2 : decode cX11_dayComes 2 = .ok (.invokevirtual 298, 3) := by decide +kernel
theorem dX11_dayComes_5 : decode cX11_dayComes 5 = .ok (.ifCond .ne 5, 3) := by decide +kernel
theorem dX11_dayComes_8 : decode cX11_dayComes 8 = .ok (.iconst 0, 1) := by decide +kernel
theorem dX11_dayComes_9 : decode cX11_dayComes 9 = .ok (.ireturn, 1) := by decide +kernel
theorem dX11_dayComes_10 : decode cX11_dayComes 10 = .ok (.aload_n 0, 1) := by decide +kernel
theorem dX11_dayComes_11 : decode cX11_dayComes 11 = .ok (.getfield 59, 3) := by decide +kernel
theorem dX11_dayComes_14 : decode cX11_dayComes 14 = .ok (.iconst 1, 1) := by decide +kernel
theorem dX11_dayComes_15 : decode cX11_dayComes 15 = .ok (.dup2, 1) := by decide +kernel
theorem dX11_dayComes_16 : decode cX11_dayComes 16 = .ok (.iaload, 1) := by decide +kernel
theorem dX11_dayComes_17 : decode cX11_dayComes 17 = .ok (.iconst 1, 1) := by decide +kernel
theorem dX11_dayComes_18 : decode cX11_dayComes 18 = .ok (.iadd, 1) := by decide +kernel
theorem dX11_dayComes_19 : decode cX11_dayComes 19 = .ok (.iastore, 1) := by decide +kernel
theorem dX11_dayComes_20 : decode cX11_dayComes 20 = .ok (.aload_n 0, 1) := by decide +kernel
theorem dX11_dayComes_21 : decode cX11_dayComes 21 = .ok (.getfield 59, 3) := by decide +kernel
theorem dX11_dayComes_24 : decode cX11_dayComes 24 = .ok (.iconst 2, 1) := by decide +kernel
theorem dX11_dayComes_25 : decode cX11_dayComes 25 = .ok (.dup2, 1) := by decide +kernel
theorem dX11_dayComes_26 : decode cX11_dayComes 26 = .ok (.iaload, 1) := by decide +kernel
theorem dX11_dayComes_27 : decode cX11_dayComes 27 = .ok (.iload_n 1, 1) := by decide +kernel
theorem dX11_dayComes_28 : decode cX11_dayComes 28 = .ok (.ifCond .le 7, 3) := by decide +kernel
theorem dX11_dayComes_31 : decode cX11_dayComes 31 = .ok (.iconst 1, 1) := by decide +kernel
theorem dX11_dayComes_32 : decode cX11_dayComes 32 = .ok (.goto 4, 3) := by decide +kernel
theorem dX11_dayComes_35 : decode cX11_dayComes 35 = .ok (.iconst 0, 1) := by decide +kernel
theorem dX11_dayComes_36 : decode cX11_dayComes 36 = .ok (.iadd, 1) := by decide +kernel
theorem dX11_dayComes_37 : decode cX11_dayComes 37 = .ok (.iastore, 1) := by decide +kernel
theorem dX11_dayComes_38 : decode cX11_dayComes 38 = .ok (.iconst 1, 1) := by decide +kernel
theorem dX11_dayComes_39 : decode cX11_dayComes 39 = .ok (.ireturn, 1) := by decide +kernel
abbrev rmX11_dayComes : Room := { frames := 2, cells := 0, slots := 0, locals := 43 }
set_option maxHeartbeats 4000000 in
set_option maxRecDepth 100000 in
theorem kX11_dayComes (l : Launch) (D : va_G) (cy : Nat → ClassId) (h0 : Nat) (a0 : Nat → Nat) (s0 : Rc) (p1 : Int32) (res : Int32 × Rc) (h : fX11_dayComes p1 s0 = some res) : CZ l D cy yX11_dayComes wsX11_dayComes rmX11_dayComes [.ref h0, .int p1] (flat [WX11 cy h0 a0 s0]) (flat [WX11 cy h0 a0 res.2]) res.1 := by
  refine CZ.of (cc := cX11_dayComes) (maxL := 2) (by decide) rfl (Nat.le_of_ble_eq_true rfl) ?_
  intro p e s m args below meth c A QQ ls E hr
  obtain ⟨hx, hb, hml, hown, hts, hK, hN, hP, hD, hA, hl⟩ := E
  have hret : ∀ (pc : Nat) (H : Heap) (locs : List Loc) (ls : Array Slot) (u : Int32 × Rc), u = res → va_P D vwCl (flat [WX11 cy h0 a0 u.2]) H → va_D A (flat [WX11 cy h0 a0 u.2]) → va_S A s.heap H locs → isb u.1 = true → decode cX11_dayComes pc = .ok (.ireturn, 1) → W p l e rmX11_dayComes s m args below meth c H locs 0 0 QQ (F0 m pc ls [.int u.1]) := by
    intro pc H locs ls u hu hP hD hS hz hd; subst hu; exact hr pc H locs ls _ rfl hP hD hS hz hd
  clear hr
  have hl : lv_has ls 2 [(0, .ref h0), (1, .int p1)] := hl
  have hinX11 : ∀ w ∈ wsX110, w ∈ wsX11_dayComes := fun _ h => List.mem_cons_of_mem _ (List.mem_append_right _ h)
  unfold fX11_dayComes at h
  suffices key : ∀ (H : Heap) (locs : List Loc), va_P D vwCl (flat [WX11 cy h0 a0 s0]) H → va_S A s.heap H locs → W p l e rmX11_dayComes s m args below meth c H locs 0 0 QQ (F0 m 0 ls []) from key _ _ hP va_S.rf
  clear hP
  intro H locs hP hS
  refine lv_aload_n hx hb dX11_dayComes_0 rfl (lv_at hl 0 rfl) ?_
  refine lv_iload_n hx hb dX11_dayComes_1 rfl (lv_at hl 1 rfl) ?_
  obtain ⟨r1, hr1, h⟩ := bd_elim h
  refine ca_z (w' := [WX11 cy h0 a0 r1.2]) (rn_V (As := [.int p1]) (rest := []) ⟨hx, hb, hml, hown, hts⟩ (kX11_dawns l D cy h0 a0 s0 p1 r1 hr1 H.size) (cwV 1 hts gX11_dayComes_X11_dawns rfl rfl rfl (by decide +kernel) ⟨Nat.le_of_ble_eq_true rfl, Nat.le_of_ble_eq_true rfl⟩) hK hN hP hD [0] rfl rfl (ci := 11) (q0 := 0) rfl rfl rfl rfl hl.1 rfl (Nat.le_of_ble_eq_true rfl) dX11_dayComes_2 ⟨Nat.le_refl 0, Nat.le_refl 0⟩) hP hD hS hA [0] ⟨rfl, rfl, rfl, rfl⟩ (fun b2 H locs hP hD hS => ?_)
  refine lv_if_ne (tgt := 10) hx hb dX11_dayComes_5 (by decide) (fun c3 => ?_) (fun c3 => ?_)
  · replace h := (if_neg c3).symm.trans h
    refine lv_aload_n hx hb dX11_dayComes_10 rfl (lv_at hl 0 rfl) ?_
    refine va_get (D := D) (ci := 11) (v := .ref (a0 34)) (C := RX11) (T := TX11) (N := 38) hx hb hts hinX11 hown hK hP 0 rfl rfl 34 (by decide) (hts (.fieldLink RX11 59 "KneeBenchModel" "ran" "[I") (List.mem_of_getElem? (i := 1) rfl)) (fun _ h9 => h9) rfl dX11_dayComes_11 ?_
    refine lv_iconst (v := 1) hx hb dX11_dayComes_14 (by decide) ?_
    refine lv_dup2_11 hx hb dX11_dayComes_15 rfl rfl ?_
    refine va_iald hx hb hK hP 12 1 rfl rfl (inb_in (by decide)) dX11_dayComes_16 ?_
    refine lv_iconst (v := 1) hx hb dX11_dayComes_17 (by decide) ?_
    refine lv_iadd hx hb dX11_dayComes_18 ?_
    obtain ⟨s0_4, es, h⟩ := lt_elim h
    refine va_iast hx hb hK hP hD hS 12 1 rfl rfl (inb_in (by decide)) dX11_dayComes_19 (fun H locs hP hD hS => ?_)
    have hP : va_P D vwCl (flat [WX11 cy h0 a0 s0_4]) H := by rw [es]; exact hP
    have hD : va_D A (flat [WX11 cy h0 a0 s0_4]) := by rw [es]; exact hD
    clear es
    refine lv_aload_n hx hb dX11_dayComes_20 rfl (lv_at hl 0 rfl) ?_
    refine va_get (D := D) (ci := 11) (v := .ref (a0 34)) (C := RX11) (T := TX11) (N := 38) hx hb hts hinX11 hown hK hP 0 rfl rfl 34 (by decide) (hts (.fieldLink RX11 59 "KneeBenchModel" "ran" "[I") (List.mem_of_getElem? (i := 1) rfl)) (fun _ h9 => h9) rfl dX11_dayComes_21 ?_
    refine lv_iconst (v := 2) hx hb dX11_dayComes_24 (by decide) ?_
    refine lv_dup2_11 hx hb dX11_dayComes_25 rfl rfl ?_
    refine va_iald hx hb hK hP 12 1 rfl rfl (inb_in (by decide)) dX11_dayComes_26 ?_
    refine lv_iload_n hx hb dX11_dayComes_27 rfl (lv_at hl 1 rfl) ?_
    refine lv_if_le (tgt := 35) hx hb dX11_dayComes_28 (by decide) (fun c5 => ?_) (fun c5 => ?_)
    · replace h := (if_pos c5).symm.trans h
      refine lv_iconst (v := 0) hx hb dX11_dayComes_35 (by decide) ?_
      refine lv_iadd hx hb dX11_dayComes_36 ?_
      obtain ⟨s0_6, es, h⟩ := lt_elim h
      refine va_iast hx hb hK hP hD hS 12 1 rfl rfl (inb_in (by decide)) dX11_dayComes_37 (fun H locs hP hD hS => ?_)
      have hP : va_P D vwCl (flat [WX11 cy h0 a0 s0_6]) H := by rw [es]; exact hP
      have hD : va_D A (flat [WX11 cy h0 a0 s0_6]) := by rw [es]; exact hD
      clear es
      refine lv_iconst (v := 1) hx hb dX11_dayComes_38 (by decide) ?_
      exact hret 39 H locs ls ((1 : Int32), s0_6) (Option.some.inj h) hP hD hS (show isb (1 : Int32) = true by decide) dX11_dayComes_39
    · replace h := (if_neg c5).symm.trans h
      refine lv_iconst (v := 1) hx hb dX11_dayComes_31 (by decide) ?_
      refine lv_goto (tgt := 36) hx hb dX11_dayComes_32 (by decide) ?_
      refine lv_iadd hx hb dX11_dayComes_36 ?_
      obtain ⟨s0_7, es, h⟩ := lt_elim h
      refine va_iast hx hb hK hP hD hS 12 1 rfl rfl (inb_in (by decide)) dX11_dayComes_37 (fun H locs hP hD hS => ?_)
      have hP : va_P D vwCl (flat [WX11 cy h0 a0 s0_7]) H := by rw [es]; exact hP
      have hD : va_D A (flat [WX11 cy h0 a0 s0_7]) := by rw [es]; exact hD
      clear es
      refine lv_iconst (v := 1) hx hb dX11_dayComes_38 (by decide) ?_
      exact hret 39 H locs ls ((1 : Int32), s0_7) (Option.some.inj h) hP hD hS (show isb (1 : Int32) = true by decide) dX11_dayComes_39
  · replace h := (if_pos c3).symm.trans h
    refine lv_iconst (v := 0) hx hb dX11_dayComes_8 (by decide) ?_
    exact hret 9 H locs ls ((0 : Int32), r1.2) (Option.some.inj h) hP hD hS (show isb (0 : Int32) = true by decide) dX11_dayComes_9
theorem gd_X11_dislikes : wsX11_dislikes.all goodWord = true := by decide +kernel
set_option maxRecDepth 20000 in
theorem ggX11_dislikes_X11_isFarmer : GoodIn wsX11_dislikes wsX11_isFarmer := goodIn_by gd_X11_dislikes (List.forall_mem_cons.mpr ⟨List.mem_cons_of_mem _ (List.mem_append_left _ (List.mem_of_getElem? (i := 5) rfl)), List.forall_mem_append.mpr ⟨List.forall_mem_cons.mpr ⟨List.mem_cons_of_mem _ (List.mem_append_left _ (List.mem_of_getElem? (i := 0) rfl)), nowords_in⟩, (fun _ h => List.mem_cons_of_mem _ (List.mem_append_right _ (h)))⟩⟩)
set_option maxRecDepth 20000 in
theorem gX11_dislikes_X11_isFarmer : GoodIn wsX11_dislikes (wsV RX11 267 RX11 yX11_isFarmer wsX11_isFarmer) := goodIn_app (goodIn_by gd_X11_dislikes (List.forall_mem_cons.mpr ⟨List.mem_cons_of_mem _ (List.mem_append_left _ (List.mem_of_getElem? (i := 1) rfl)), List.forall_mem_cons.mpr ⟨List.mem_cons_of_mem _ (List.mem_append_left _ (List.mem_of_getElem? (i := 2) rfl)), List.forall_mem_cons.mpr ⟨List.mem_cons_of_mem _ (List.mem_append_left _ (List.mem_of_getElem? (i := 3) rfl)), List.forall_mem_cons.mpr ⟨List.mem_cons_of_mem _ (List.mem_append_left _ (List.mem_of_getElem? (i := 4) rfl)), nowords_in⟩⟩⟩⟩)) ggX11_dislikes_X11_isFarmer
set_option maxRecDepth 20000 in
theorem ggX11_dislikes_X11_gives : GoodIn wsX11_dislikes wsX11_gives := goodIn_by gd_X11_dislikes (List.forall_mem_cons.mpr ⟨List.mem_cons_of_mem _ (List.mem_append_left _ (List.mem_of_getElem? (i := 9) rfl)), List.forall_mem_append.mpr ⟨List.forall_mem_cons.mpr ⟨List.mem_cons_of_mem _ (List.mem_append_left _ (List.mem_of_getElem? (i := 10) rfl)), nowords_in⟩, (fun _ h => List.mem_cons_of_mem _ (List.mem_append_right _ (h)))⟩⟩)
set_option maxRecDepth 20000 in
theorem gX11_dislikes_X11_gives : GoodIn wsX11_dislikes (wsV RX11 79 RX11 yX11_gives wsX11_gives) := goodIn_app (goodIn_by gd_X11_dislikes (List.forall_mem_cons.mpr ⟨List.mem_cons_of_mem _ (List.mem_append_left _ (List.mem_of_getElem? (i := 6) rfl)), List.forall_mem_cons.mpr ⟨List.mem_cons_of_mem _ (List.mem_append_left _ (List.mem_of_getElem? (i := 7) rfl)), List.forall_mem_cons.mpr ⟨List.mem_cons_of_mem _ (List.mem_append_left _ (List.mem_of_getElem? (i := 8) rfl)), List.forall_mem_cons.mpr ⟨List.mem_cons_of_mem _ (List.mem_append_left _ (List.mem_of_getElem? (i := 4) rfl)), nowords_in⟩⟩⟩⟩)) ggX11_dislikes_X11_gives
set_option maxRecDepth 20000 in
theorem ggX11_dislikes_X11_refuse : GoodIn wsX11_dislikes wsX11_refuse := goodIn_by gd_X11_dislikes (List.forall_mem_cons.mpr ⟨List.mem_cons_of_mem _ (List.mem_append_left _ (List.mem_of_getElem? (i := 14) rfl)), List.forall_mem_append.mpr ⟨List.forall_mem_cons.mpr ⟨List.mem_cons_of_mem _ (List.mem_append_left _ (List.mem_of_getElem? (i := 10) rfl)), nowords_in⟩, (fun _ h => List.mem_cons_of_mem _ (List.mem_append_right _ (h)))⟩⟩)
set_option maxRecDepth 20000 in
theorem gX11_dislikes_X11_refuse : GoodIn wsX11_dislikes (wsV RX11 75 RX11 yX11_refuse wsX11_refuse) := goodIn_app (goodIn_by gd_X11_dislikes (List.forall_mem_cons.mpr ⟨List.mem_cons_of_mem _ (List.mem_append_left _ (List.mem_of_getElem? (i := 11) rfl)), List.forall_mem_cons.mpr ⟨List.mem_cons_of_mem _ (List.mem_append_left _ (List.mem_of_getElem? (i := 12) rfl)), List.forall_mem_cons.mpr ⟨List.mem_cons_of_mem _ (List.mem_append_left _ (List.mem_of_getElem? (i := 13) rfl)), List.forall_mem_cons.mpr ⟨List.mem_cons_of_mem _ (List.mem_append_left _ (List.mem_of_getElem? (i := 4) rfl)), nowords_in⟩⟩⟩⟩)) ggX11_dislikes_X11_refuse
theorem dX11_dislikes_0 : decode cX11_dislikes 0 = .ok (.aload_n 0, 1) := by decide +kernel
theorem dX11_dislikes_1 : decode cX11_dislikes 1 = .ok (.iload_n 1, 1) := by decide +kernel
theorem dX11_dislikes_2 : decode cX11_dislikes 2 = .ok (.invokevirtual 267, 3) := by decide +kernel
theorem dX11_dislikes_5 : decode cX11_dislikes 5 = .ok (.ifCond .eq 32, 3) := by decide +kernel
theorem dX11_dislikes_8 : decode cX11_dislikes 8 = .ok (.aload_n 0, 1) := by decide +kernel
theorem dX11_dislikes_9 : decode cX11_dislikes 9 = .ok (.iload_n 2, 1) := by decide +kernel
theorem dX11_dislikes_10 : decode cX11_dislikes 10 = .ok (.invokevirtual 267, 3) := by decide +kernel
theorem dX11_dislikes_13 : decode cX11_dislikes 13 = .ok (.ifCond .eq 24, 3) := by decide +kernel
theorem dX11_dislikes_16 : decode cX11_dislikes 16 = .ok (.aload_n 0, 1) := by decide +kernel
theorem dX11_dislikes_17 : decode cX11_dislikes 17 = .ok (.aload_n 0, 1) := by decide +kernel
theorem dX11_dislikes_18 : decode cX11_dislikes 18 = .ok (.getfield 7, 3) := by decide +kernel
theorem dX11_dislikes_21 : decode cX11_dislikes 21 = .ok (.bipush 58, 2) := by decide +kernel
theorem dX11_dislikes_23 : decode cX11_dislikes 23 = .ok (.bipush 8, 2) := by decide +kernel
theorem dX11_dislikes_25 : decode cX11_dislikes 25 = .ok (.iload_n 1, 1) := by decide +kernel
theorem dX11_dislikes_26 : decode cX11_dislikes 26 = .ok (.imul, 1) := by decide +kernel
theorem dX11_dislikes_27 : decode cX11_dislikes 27 = .ok (.iadd, 1) := by decide +kernel
theorem dX11_dislikes_28 : decode cX11_dislikes 28 = .ok (.iload_n 2, 1) := by decide +kernel
theorem dX11_dislikes_29 : decode cX11_dislikes 29 = .ok (.iadd, 1) := by decide +kernel
theorem dX11_dislikes_30 : decode cX11_dislikes 30 = .ok (.iaload, 1) := by decide +kernel
theorem dX11_dislikes_31 : decode cX11_dislikes 31 = .ok (.invokevirtual 79, 3) := by decide +kernel
theorem dX11_dislikes_34 : decode cX11_dislikes 34 = .ok (.goto 8, 3) := by decide +kernel
theorem dX11_dislikes_37 : decode cX11_dislikes 37 = .ok (.aload_n 0, 1) := by decide +kernel
theorem dX11_dislikes_38 : decode cX11_dislikes 38 = .ok (.iconst 1, 1) := by decide +kernel
theorem dX11_dislikes_39 : decode cX11_dislikes 39 = .ok (.invokevirtual 75, 3) := by decide +kernel
theorem dX11_dislikes_42 : decode cX11_dislikes 42 = .ok (.ireturn, 1) := by decide +kernel
abbrev rmX11_dislikes : Room := { frames := 1, cells := 0, slots := 0, locals := 21 }
set_option maxHeartbeats 4000000 in
set_option maxRecDepth 100000 in
theorem kX11_dislikes (l : Launch) (D : va_G) (cy : Nat → ClassId) (h0 : Nat) (a0 : Nat → Nat) (s0 : Rc) (p1 : Int32) (p2 : Int32) (res : Int32 × Rc) (h : fX11_dislikes p1 p2 s0 = some res) : CI l D cy yX11_dislikes wsX11_dislikes rmX11_dislikes [.ref h0, .int p1, .int p2] (flat [WX11 cy h0 a0 s0]) (flat [WX11 cy h0 a0 res.2]) res.1 := by
  refine CI.of (cc := cX11_dislikes) (maxL := 3) (by decide) rfl (Nat.le_of_ble_eq_true rfl) ?_
  intro p e s m args below meth c A QQ ls E hr
  obtain ⟨hx, hb, hml, hown, hts, hK, hN, hP, hD, hA, hl⟩ := E
  have hret : ∀ (pc : Nat) (H : Heap) (locs : List Loc) (ls : Array Slot) (u : Int32 × Rc), u = res → va_P D vwCl (flat [WX11 cy h0 a0 u.2]) H → va_D A (flat [WX11 cy h0 a0 u.2]) → va_S A s.heap H locs → decode cX11_dislikes pc = .ok (.ireturn, 1) → W p l e rmX11_dislikes s m args below meth c H locs 0 0 QQ (F0 m pc ls [.int u.1]) := by
    intro pc H locs ls u hu hP hD hS hd; subst hu; exact hr pc H locs ls _ rfl hP hD hS hd
  clear hr
  have hl : lv_has ls 3 [(0, .ref h0), (1, .int p1), (2, .int p2)] := hl
  have hinX11 : ∀ w ∈ wsX110, w ∈ wsX11_dislikes := fun _ h => List.mem_cons_of_mem _ (List.mem_append_right _ h)
  unfold fX11_dislikes at h
  suffices key : ∀ (H : Heap) (locs : List Loc), va_P D vwCl (flat [WX11 cy h0 a0 s0]) H → va_S A s.heap H locs → W p l e rmX11_dislikes s m args below meth c H locs 0 0 QQ (F0 m 0 ls []) from key _ _ hP va_S.rf
  clear hP
  intro H locs hP hS
  refine lv_aload_n hx hb dX11_dislikes_0 rfl (lv_at hl 0 rfl) ?_
  refine lv_iload_n hx hb dX11_dislikes_1 rfl (lv_at hl 1 rfl) ?_
  refine ca_z (w' := [WX11 cy h0 a0 s0]) (rn_V (As := [.int p1]) (rest := []) ⟨hx, hb, hml, hown, hts⟩ (kX11_isFarmer l D cy h0 a0 s0 p1 _ rfl H.size) (cwV 1 hts gX11_dislikes_X11_isFarmer rfl rfl rfl (by decide +kernel) ⟨Nat.le_of_ble_eq_true rfl, Nat.le_of_ble_eq_true rfl⟩) hK hN hP hD [0] rfl rfl (ci := 11) (q0 := 0) rfl rfl rfl rfl hl.1 rfl (Nat.le_of_ble_eq_true rfl) dX11_dislikes_2 ⟨Nat.le_refl 0, Nat.le_refl 0⟩) hP hD hS hA [0] ⟨rfl, rfl, rfl, rfl⟩ (fun b1 H locs hP hD hS => ?_)
  refine lv_if_eq (tgt := 37) hx hb dX11_dislikes_5 (by decide) (fun c2 => ?_) (fun c2 => ?_)
  · replace h := (if_pos c2).symm.trans h
    refine lv_aload_n hx hb dX11_dislikes_37 rfl (lv_at hl 0 rfl) ?_
    refine lv_iconst (v := 1) hx hb dX11_dislikes_38 (by decide) ?_
    obtain ⟨r3, hr3, h⟩ := lt_elim h
    refine ca_i (w' := [WX11 cy h0 a0 r3.2]) (rn_V (As := [.int (1 : Int32)]) (rest := []) ⟨hx, hb, hml, hown, hts⟩ (kX11_refuse l D cy h0 a0 s0 (1 : Int32) r3 hr3.symm H.size) (cwV 1 hts gX11_dislikes_X11_refuse rfl rfl rfl (by decide +kernel) ⟨Nat.le_of_ble_eq_true rfl, Nat.le_of_ble_eq_true rfl⟩) hK hN hP hD [0] rfl rfl (ci := 11) (q0 := 0) rfl rfl rfl rfl hl.1 rfl (Nat.le_of_ble_eq_true rfl) dX11_dislikes_39 ⟨Nat.le_refl 0, Nat.le_refl 0⟩) hP hD hS hA [0] ⟨rfl, rfl, rfl, rfl⟩ (fun H locs hP hD hS => ?_)
    exact hret 42 H locs ls (r3.1, r3.2) (Option.some.inj h) hP hD hS dX11_dislikes_42
  · replace h := (if_neg c2).symm.trans h
    refine lv_aload_n hx hb dX11_dislikes_8 rfl (lv_at hl 0 rfl) ?_
    refine lv_iload_n hx hb dX11_dislikes_9 rfl (lv_at hl 2 rfl) ?_
    refine ca_z (w' := [WX11 cy h0 a0 s0]) (rn_V (As := [.int p2]) (rest := []) ⟨hx, hb, hml, hown, hts⟩ (kX11_isFarmer l D cy h0 a0 s0 p2 _ rfl H.size) (cwV 1 hts gX11_dislikes_X11_isFarmer rfl rfl rfl (by decide +kernel) ⟨Nat.le_of_ble_eq_true rfl, Nat.le_of_ble_eq_true rfl⟩) hK hN hP hD [0] rfl rfl (ci := 11) (q0 := 0) rfl rfl rfl rfl hl.1 rfl (Nat.le_of_ble_eq_true rfl) dX11_dislikes_10 ⟨Nat.le_refl 0, Nat.le_refl 0⟩) hP hD hS hA [0] ⟨rfl, rfl, rfl, rfl⟩ (fun b4 H locs hP hD hS => ?_)
    refine lv_if_eq (tgt := 37) hx hb dX11_dislikes_13 (by decide) (fun c5 => ?_) (fun c5 => ?_)
    · replace h := (if_pos c5).symm.trans h
      refine lv_aload_n hx hb dX11_dislikes_37 rfl (lv_at hl 0 rfl) ?_
      refine lv_iconst (v := 1) hx hb dX11_dislikes_38 (by decide) ?_
      obtain ⟨r6, hr6, h⟩ := lt_elim h
      refine ca_i (w' := [WX11 cy h0 a0 r6.2]) (rn_V (As := [.int (1 : Int32)]) (rest := []) ⟨hx, hb, hml, hown, hts⟩ (kX11_refuse l D cy h0 a0 s0 (1 : Int32) r6 hr6.symm H.size) (cwV 1 hts gX11_dislikes_X11_refuse rfl rfl rfl (by decide +kernel) ⟨Nat.le_of_ble_eq_true rfl, Nat.le_of_ble_eq_true rfl⟩) hK hN hP hD [0] rfl rfl (ci := 11) (q0 := 0) rfl rfl rfl rfl hl.1 rfl (Nat.le_of_ble_eq_true rfl) dX11_dislikes_39 ⟨Nat.le_refl 0, Nat.le_refl 0⟩) hP hD hS hA [0] ⟨rfl, rfl, rfl, rfl⟩ (fun H locs hP hD hS => ?_)
      exact hret 42 H locs ls (r6.1, r6.2) (Option.some.inj h) hP hD hS dX11_dislikes_42
    · replace h := (if_neg c5).symm.trans h
      refine lv_aload_n hx hb dX11_dislikes_16 rfl (lv_at hl 0 rfl) ?_
      refine lv_aload_n hx hb dX11_dislikes_17 rfl (lv_at hl 0 rfl) ?_
      refine va_get (D := D) (ci := 11) (v := .ref (a0 0)) (C := RX11) (T := TX11) (N := 38) hx hb hts hinX11 hown hK hP 0 rfl rfl 0 (by decide) (hts (.fieldLink RX11 7 "KneeBenchModel" "at" "[I") (List.mem_of_getElem? (i := 1) rfl)) (fun _ h9 => h9) rfl dX11_dislikes_18 ?_
      refine lv_bipush (v := 58) hx hb dX11_dislikes_21 (by decide) ?_
      refine lv_bipush (v := 8) hx hb dX11_dislikes_23 (by decide) ?_
      refine lv_iload_n hx hb dX11_dislikes_25 rfl (lv_at hl 1 rfl) ?_
      refine lv_imul hx hb dX11_dislikes_26 ?_
      refine lv_iadd hx hb dX11_dislikes_27 ?_
      refine lv_iload_n hx hb dX11_dislikes_28 rfl (lv_at hl 2 rfl) ?_
      refine lv_iadd hx hb dX11_dislikes_29 ?_
      obtain ⟨g7, h⟩ := gd_elim h
      refine va_iald hx hb hK hP 1 1 rfl rfl (inb_in g7) dX11_dislikes_30 ?_
      obtain ⟨r8, hr8, h⟩ := lt_elim h
      refine ca_i (w' := [WX11 cy h0 a0 r8.2]) (rn_V (As := [.int (ga s0 0 (((58 : Int32) + ((8 : Int32) * p1)) + p2).toNatClampNeg)]) (rest := []) ⟨hx, hb, hml, hown, hts⟩ (kX11_gives l D cy h0 a0 s0 (ga s0 0 (((58 : Int32) + ((8 : Int32) * p1)) + p2).toNatClampNeg) r8 hr8.symm H.size) (cwV 1 hts gX11_dislikes_X11_gives rfl rfl rfl (by decide +kernel) ⟨Nat.le_of_ble_eq_true rfl, Nat.le_of_ble_eq_true rfl⟩) hK hN hP hD [0] rfl rfl (ci := 11) (q0 := 0) rfl rfl rfl rfl hl.1 rfl (Nat.le_of_ble_eq_true rfl) dX11_dislikes_31 ⟨Nat.le_refl 0, Nat.le_refl 0⟩) hP hD hS hA [0] ⟨rfl, rfl, rfl, rfl⟩ (fun H locs hP hD hS => ?_)
      refine lv_goto (tgt := 42) hx hb dX11_dislikes_34 (by decide) ?_
      exact hret 42 H locs ls (r8.1, r8.2) (Option.some.inj h) hP hD hS dX11_dislikes_42
theorem dX11_draw_0 : decode cX11_draw 0 = .ok (.aload_n 0, 1) := by decide +kernel
theorem dX11_draw_1 : decode cX11_draw 1 = .ok (.aload_n 0, 1) := by decide +kernel
theorem dX11_draw_2 : decode cX11_draw 2 = .ok (.getfield 273, 3) := by decide +kernel
theorem dX11_draw_5 : decode cX11_draw 5 = .ok (.sipush 2857, 3) := by decide +kernel
theorem dX11_draw_8 : decode cX11_draw 8 = .ok (.imul, 1) := by decide +kernel
theorem dX11_draw_9 : decode cX11_draw 9 = .ok (.sipush 11059, 3) := by decide +kernel
theorem dX11_draw_12 : decode cX11_draw 12 = .ok (.iadd, 1) := by decide +kernel
theorem dX11_draw_13 : decode cX11_draw 13 = .ok (.ldc_w 276, 3) := by decide +kernel
theorem dX11_draw_16 : decode cX11_draw 16 = .ok (.irem, 1) := by decide +kernel
theorem dX11_draw_17 : decode cX11_draw 17 = .ok (.putfield 273, 3) := by decide +kernel
theorem dX11_draw_20 : decode cX11_draw 20 = .ok (.aload_n 0, 1) := by decide +kernel
theorem dX11_draw_21 : decode cX11_draw 21 = .ok (.getfield 273, 3) := by decide +kernel
theorem dX11_draw_24 : decode cX11_draw 24 = .ok (.bipush 8, 2) := by decide +kernel
theorem dX11_draw_26 : decode cX11_draw 26 = .ok (.idiv, 1) := by decide +kernel
theorem dX11_draw_27 : decode cX11_draw 27 = .ok (.iload_n 1, 1) := by decide +kernel
theorem dX11_draw_28 : decode cX11_draw 28 = .ok (.irem, 1) := by decide +kernel
theorem dX11_draw_29 : decode cX11_draw 29 = .ok (.ireturn, 1) := by decide +kernel
abbrev rmX11_draw : Room := { frames := 0, cells := 0, slots := 0, locals := 0 }
set_option maxHeartbeats 4000000 in
set_option maxRecDepth 100000 in
theorem kX11_draw (l : Launch) (D : va_G) (cy : Nat → ClassId) (h0 : Nat) (a0 : Nat → Nat) (s0 : Rc) (p1 : Int32) (res : Int32 × Rc) (h : fX11_draw p1 s0 = some res) : CI l D cy yX11_draw wsX11_draw rmX11_draw [.ref h0, .int p1] (flat [WX11 cy h0 a0 s0]) (flat [WX11 cy h0 a0 res.2]) res.1 := by
  refine CI.of (cc := cX11_draw) (maxL := 2) (by decide) rfl (Nat.le_of_ble_eq_true rfl) ?_
  intro p e s m args below meth c A QQ ls E hr
  obtain ⟨hx, hb, hml, hown, hts, hK, hN, hP, hD, hA, hl⟩ := E
  have hret : ∀ (pc : Nat) (H : Heap) (locs : List Loc) (ls : Array Slot) (u : Int32 × Rc), u = res → va_P D vwCl (flat [WX11 cy h0 a0 u.2]) H → va_D A (flat [WX11 cy h0 a0 u.2]) → va_S A s.heap H locs → decode cX11_draw pc = .ok (.ireturn, 1) → W p l e rmX11_draw s m args below meth c H locs 0 0 QQ (F0 m pc ls [.int u.1]) := by
    intro pc H locs ls u hu hP hD hS hd; subst hu; exact hr pc H locs ls _ rfl hP hD hS hd
  clear hr
  have hl : lv_has ls 2 [(0, .ref h0), (1, .int p1)] := hl
  have hinX11 : ∀ w ∈ wsX110, w ∈ wsX11_draw := fun _ h => List.mem_cons_of_mem _ (List.mem_append_right _ h)
  unfold fX11_draw at h
  suffices key : ∀ (H : Heap) (locs : List Loc), va_P D vwCl (flat [WX11 cy h0 a0 s0]) H → va_S A s.heap H locs → W p l e rmX11_draw s m args below meth c H locs 0 0 QQ (F0 m 0 ls []) from key _ _ hP va_S.rf
  clear hP
  intro H locs hP hS
  refine lv_aload_n hx hb dX11_draw_0 rfl (lv_at hl 0 rfl) ?_
  refine lv_aload_n hx hb dX11_draw_1 rfl (lv_at hl 0 rfl) ?_
  refine va_get (D := D) (ci := 11) (v := .int (gi s0 24)) (C := RX11) (T := TX11) (N := 38) hx hb hts hinX11 hown hK hP 0 rfl rfl 24 (by decide) (hts (.fieldLink RX11 273 "KneeBenchModel" "drawn" "I") (List.mem_of_getElem? (i := 1) rfl)) (fun _ h9 => h9) rfl dX11_draw_2 ?_
  refine lv_sipush (v := 2857) hx hb dX11_draw_5 (by decide) ?_
  refine lv_imul hx hb dX11_draw_8 ?_
  refine lv_sipush (v := 11059) hx hb dX11_draw_9 (by decide) ?_
  refine lv_iadd hx hb dX11_draw_12 ?_
  refine lv_ldcw (v := 65536) hx hb hown (hts (.constant RX11 276 (65536)) (List.mem_of_getElem? (i := 2) rfl)) dX11_draw_13 ?_
  refine lv_irem hx hb dX11_draw_16 (by decide) ?_
  obtain ⟨s0_1, es, h⟩ := lt_elim h
  refine va_put (D := D) (ci := 11) (v := .int ((((gi s0 24) * (2857 : Int32)) + (11059 : Int32)) - (((gi s0 24) * (2857 : Int32)) + (11059 : Int32)) / (65536 : Int32) * (65536 : Int32))) (ty := .int) (C := RX11) (T := TX11) (N := 38) hx hb hts hinX11 tyX11 tyX11_ok nmX11 hown hK hP hD hS 0 rfl rfl 24 (by decide) (hts (.fieldLink RX11 273 "KneeBenchModel" "drawn" "I") (List.mem_of_getElem? (i := 1) rfl)) (fun _ h9 => h9) rfl (by decide +kernel) rfl rfl (Nat.le_of_ble_eq_true rfl) dX11_draw_17 (fun H locs hP hD hS => ?_)
  have hP : va_P D vwCl (flat [WX11 cy h0 a0 s0_1]) H := by rw [es]; exact hP
  have hD : va_D A (flat [WX11 cy h0 a0 s0_1]) := by rw [es]; exact hD
  clear es
  refine lv_aload_n hx hb dX11_draw_20 rfl (lv_at hl 0 rfl) ?_
  refine va_get (D := D) (ci := 11) (v := .int (gi s0_1 24)) (C := RX11) (T := TX11) (N := 38) hx hb hts hinX11 hown hK hP 0 rfl rfl 24 (by decide) (hts (.fieldLink RX11 273 "KneeBenchModel" "drawn" "I") (List.mem_of_getElem? (i := 1) rfl)) (fun _ h9 => h9) rfl dX11_draw_21 ?_
  refine lv_bipush (v := 8) hx hb dX11_draw_24 (by decide) ?_
  refine lv_idiv hx hb dX11_draw_26 (by decide) ?_
  refine lv_iload_n hx hb dX11_draw_27 rfl (lv_at hl 1 rfl) ?_
  obtain ⟨g2, h⟩ := gd_elim h
  refine lv_irem hx hb dX11_draw_28 (nz32_ne g2) ?_
  exact hret 29 H locs ls ((((gi s0_1 24) / (8 : Int32)) - ((gi s0_1 24) / (8 : Int32)) / p1 * p1), s0_1) (Option.some.inj h) hP hD hS dX11_draw_29
theorem gd_X11_feels : wsX11_feels.all goodWord = true := by decide +kernel
set_option maxRecDepth 20000 in
theorem ggX11_feels_X11_draw : GoodIn wsX11_feels wsX11_draw := goodIn_by gd_X11_feels (List.forall_mem_cons.mpr ⟨List.mem_cons_of_mem _ (List.mem_append_left _ (List.mem_append_left _ (List.mem_of_getElem? (i := 5) rfl))), List.forall_mem_append.mpr ⟨List.forall_mem_cons.mpr ⟨List.mem_cons_of_mem _ (List.mem_append_left _ (List.mem_append_left _ (List.mem_of_getElem? (i := 6) rfl))), List.forall_mem_cons.mpr ⟨List.mem_cons_of_mem _ (List.mem_append_left _ (List.mem_append_left _ (List.mem_of_getElem? (i := 7) rfl))), nowords_in⟩⟩, (fun _ h => List.mem_cons_of_mem _ (List.mem_append_right _ (h)))⟩⟩)
set_option maxRecDepth 20000 in
theorem gX11_feels_X11_draw : GoodIn wsX11_feels (wsV RX11 277 RX11 yX11_draw wsX11_draw) := goodIn_app (goodIn_by gd_X11_feels (List.forall_mem_cons.mpr ⟨List.mem_cons_of_mem _ (List.mem_append_left _ (List.mem_append_left _ (List.mem_of_getElem? (i := 1) rfl))), List.forall_mem_cons.mpr ⟨List.mem_cons_of_mem _ (List.mem_append_left _ (List.mem_append_left _ (List.mem_of_getElem? (i := 2) rfl))), List.forall_mem_cons.mpr ⟨List.mem_cons_of_mem _ (List.mem_append_left _ (List.mem_append_left _ (List.mem_of_getElem? (i := 3) rfl))), List.forall_mem_cons.mpr ⟨List.mem_cons_of_mem _ (List.mem_append_left _ (List.mem_append_left _ (List.mem_of_getElem? (i := 4) rfl))), nowords_in⟩⟩⟩⟩)) ggX11_feels_X11_draw
set_option maxRecDepth 20000 in
theorem ggX11_feels_X11_shouldFeel : GoodIn wsX11_feels wsX11_shouldFeel := goodIn_by gd_X11_feels (List.forall_mem_cons.mpr ⟨List.mem_cons_of_mem _ (List.mem_append_left _ (List.mem_append_left _ (List.mem_of_getElem? (i := 11) rfl))), List.forall_mem_append.mpr ⟨List.forall_mem_cons.mpr ⟨List.mem_cons_of_mem _ (List.mem_append_left _ (List.mem_append_left _ (List.mem_of_getElem? (i := 12) rfl))), List.forall_mem_cons.mpr ⟨List.mem_cons_of_mem _ (List.mem_append_left _ (List.mem_append_left _ (List.mem_of_getElem? (i := 13) rfl))), List.forall_mem_cons.mpr ⟨List.mem_cons_of_mem _ (List.mem_append_left _ (List.mem_append_left _ (List.mem_of_getElem? (i := 14) rfl))), List.forall_mem_cons.mpr ⟨List.mem_cons_of_mem _ (List.mem_append_left _ (List.mem_append_left _ (List.mem_of_getElem? (i := 4) rfl))), List.forall_mem_cons.mpr ⟨List.mem_cons_of_mem _ (List.mem_append_left _ (List.mem_append_left _ (List.mem_of_getElem? (i := 15) rfl))), List.forall_mem_cons.mpr ⟨List.mem_cons_of_mem _ (List.mem_append_left _ (List.mem_append_left _ (List.mem_of_getElem? (i := 0) rfl))), List.forall_mem_cons.mpr ⟨List.mem_cons_of_mem _ (List.mem_append_left _ (List.mem_append_left _ (List.mem_of_getElem? (i := 16) rfl))), List.forall_mem_cons.mpr ⟨List.mem_cons_of_mem _ (List.mem_append_left _ (List.mem_append_left _ (List.mem_of_getElem? (i := 17) rfl))), List.forall_mem_cons.mpr ⟨List.mem_cons_of_mem _ (List.mem_append_left _ (List.mem_append_left _ (List.mem_of_getElem? (i := 18) rfl))), List.forall_mem_cons.mpr ⟨List.mem_cons_of_mem _ (List.mem_append_left _ (List.mem_append_left _ (List.mem_of_getElem? (i := 19) rfl))), List.forall_mem_cons.mpr ⟨List.mem_cons_of_mem _ (List.mem_append_left _ (List.mem_append_left _ (List.mem_of_getElem? (i := 20) rfl))), List.forall_mem_cons.mpr ⟨List.mem_cons_of_mem _ (List.mem_append_left _ (List.mem_append_left _ (List.mem_of_getElem? (i := 21) rfl))), List.forall_mem_cons.mpr ⟨List.mem_cons_of_mem _ (List.mem_append_left _ (List.mem_append_left _ (List.mem_of_getElem? (i := 22) rfl))), List.forall_mem_cons.mpr ⟨List.mem_cons_of_mem _ (List.mem_append_left _ (List.mem_append_left _ (List.mem_of_getElem? (i := 23) rfl))), List.forall_mem_cons.mpr ⟨List.mem_cons_of_mem _ (List.mem_append_left _ (List.mem_append_right _ (List.mem_of_getElem? (i := 0) rfl))), List.forall_mem_cons.mpr ⟨List.mem_cons_of_mem _ (List.mem_append_left _ (List.mem_append_right _ (List.mem_of_getElem? (i := 1) rfl))), List.forall_mem_cons.mpr ⟨List.mem_cons_of_mem _ (List.mem_append_left _ (List.mem_append_right _ (List.mem_of_getElem? (i := 2) rfl))), List.forall_mem_cons.mpr ⟨List.mem_cons_of_mem _ (List.mem_append_left _ (List.mem_append_right _ (List.mem_of_getElem? (i := 3) rfl))), List.forall_mem_cons.mpr ⟨List.mem_cons_of_mem _ (List.mem_append_left _ (List.mem_append_right _ (List.mem_of_getElem? (i := 4) rfl))), List.forall_mem_cons.mpr ⟨List.mem_cons_of_mem _ (List.mem_append_left _ (List.mem_append_right _ (List.mem_of_getElem? (i := 5) rfl))), List.forall_mem_cons.mpr ⟨List.mem_cons_of_mem _ (List.mem_append_left _ (List.mem_append_right _ (List.mem_of_getElem? (i := 6) rfl))), nowords_in⟩⟩⟩⟩⟩⟩⟩⟩⟩⟩⟩⟩⟩⟩⟩⟩⟩⟩⟩⟩⟩, (fun _ h => List.mem_cons_of_mem _ (List.mem_append_right _ (h)))⟩⟩)
set_option maxRecDepth 20000 in
theorem gX11_feels_X11_shouldFeel : GoodIn wsX11_feels (wsV RX11 228 RX11 yX11_shouldFeel wsX11_shouldFeel) := goodIn_app (goodIn_by gd_X11_feels (List.forall_mem_cons.mpr ⟨List.mem_cons_of_mem _ (List.mem_append_left _ (List.mem_append_left _ (List.mem_of_getElem? (i := 8) rfl))), List.forall_mem_cons.mpr ⟨List.mem_cons_of_mem _ (List.mem_append_left _ (List.mem_append_left _ (List.mem_of_getElem? (i := 9) rfl))), List.forall_mem_cons.mpr ⟨List.mem_cons_of_mem _ (List.mem_append_left _ (List.mem_append_left _ (List.mem_of_getElem? (i := 10) rfl))), List.forall_mem_cons.mpr ⟨List.mem_cons_of_mem _ (List.mem_append_left _ (List.mem_append_left _ (List.mem_of_getElem? (i := 4) rfl))), nowords_in⟩⟩⟩⟩)) ggX11_feels_X11_shouldFeel
set_option maxRecDepth 20000 in
theorem ggX11_feels_X11_farmerRow : GoodIn wsX11_feels wsX11_farmerRow := goodIn_by gd_X11_feels (List.forall_mem_cons.mpr ⟨List.mem_cons_of_mem _ (List.mem_append_left _ (List.mem_append_left _ (List.mem_of_getElem? (i := 18) rfl))), nowords_in⟩)
set_option maxRecDepth 20000 in
theorem gX11_feels_X11_farmerRow : GoodIn wsX11_feels (va_wsS RX11 177 yX11_farmerRow wsX11_farmerRow) := goodIn_app (goodIn_by gd_X11_feels (List.forall_mem_cons.mpr ⟨List.mem_cons_of_mem _ (List.mem_append_left _ (List.mem_append_left _ (List.mem_of_getElem? (i := 16) rfl))), List.forall_mem_cons.mpr ⟨List.mem_cons_of_mem _ (List.mem_append_left _ (List.mem_append_left _ (List.mem_of_getElem? (i := 17) rfl))), List.forall_mem_cons.mpr ⟨List.mem_cons_of_mem _ (List.mem_append_left _ (List.mem_append_left _ (List.mem_of_getElem? (i := 4) rfl))), nowords_in⟩⟩⟩)) ggX11_feels_X11_farmerRow
set_option maxRecDepth 20000 in
theorem ggX11_feels_X11_twingeRow : GoodIn wsX11_feels wsX11_twingeRow := goodIn_by gd_X11_feels (List.forall_mem_cons.mpr ⟨List.mem_cons_of_mem _ (List.mem_append_left _ (List.mem_append_right _ (List.mem_of_getElem? (i := 9) rfl))), nowords_in⟩)
set_option maxRecDepth 20000 in
theorem gX11_feels_X11_twingeRow : GoodIn wsX11_feels (va_wsS RX11 225 yX11_twingeRow wsX11_twingeRow) := goodIn_app (goodIn_by gd_X11_feels (List.forall_mem_cons.mpr ⟨List.mem_cons_of_mem _ (List.mem_append_left _ (List.mem_append_right _ (List.mem_of_getElem? (i := 7) rfl))), List.forall_mem_cons.mpr ⟨List.mem_cons_of_mem _ (List.mem_append_left _ (List.mem_append_right _ (List.mem_of_getElem? (i := 8) rfl))), List.forall_mem_cons.mpr ⟨List.mem_cons_of_mem _ (List.mem_append_left _ (List.mem_append_left _ (List.mem_of_getElem? (i := 4) rfl))), nowords_in⟩⟩⟩)) ggX11_feels_X11_twingeRow
theorem dX11_feels_0 : decode cX11_feels 0 = .ok (.iconst 0, 1) := by decide +kernel
theorem dX11_feels_1 : decode cX11_feels 1 = .ok (.istore_n 1, 1) := by decide +kernel
theorem dX11_feels_2 : decode cX11_feels 2 = .ok (.iconst 0, 1) := by decide +kernel
theorem dX11_feels_3 : decode cX11_feels 3 = .ok (.istore_n 2, 1) := by decide +kernel
theorem dX11_feels_4 : decode cX11_feels 4 = .ok (.iload_n 2, 1) := by decide +kernel
theorem dX11_feels_5 : decode cX11_feels 5 = .ok (.aload_n 0, 1) := by decide +kernel
theorem dX11_feels_6 : decode cX11_feels 6 = .ok (.getfield 7, 3) := by decide +kernel
theorem dX11_feels_9 : decode cX11_feels 9 = .ok (.iconst 0, 1) := by decide +kernel
theorem dX11_feels_10 : decode cX11_feels 10 = .ok (.iaload, 1) := by decide +kernel
theorem dX11_feels_11 : decode cX11_feels 11 = .ok (.if_icmp .ge 126, 3) := by decide +kernel
theorem dX11_feels_14 : decode cX11_feels 14 = .ok (.iconst 0, 1) := by decide +kernel
theorem dX11_feels_15 : decode cX11_feels 15 = .ok (.istore_n 3, 1) := by decide +kernel
theorem dX11_feels_16 : decode cX11_feels 16 = .ok (.iload_n 3, 1) := by decide +kernel
theorem dX11_feels_17 : decode cX11_feels 17 = .ok (.aload_n 0, 1) := by decide +kernel
theorem dX11_feels_18 : decode cX11_feels 18 = .ok (.getfield 7, 3) := by decide +kernel
theorem dX11_feels_21 : decode cX11_feels 21 = .ok (.iconst 1, 1) := by decide +kernel
theorem dX11_feels_22 : decode cX11_feels 22 = .ok (.iaload, 1) := by decide +kernel
theorem dX11_feels_23 : decode cX11_feels 23 = .ok (.if_icmp .ge 108, 3) := by decide +kernel
theorem dX11_feels_26 : decode cX11_feels 26 = .ok (.aload_n 0, 1) := by decide +kernel
theorem dX11_feels_27 : decode cX11_feels 27 = .ok (.bipush 16, 2) := by decide +kernel
theorem dX11_feels_29 : decode cX11_feels 29 = .ok (.invokevirtual 277, 3) := by decide +kernel
theorem dX11_feels_32 : decode cX11_feels 32 = .ok (.istore 4, 2) := by decide +kernel
theorem dX11_feels_34 : decode cX11_feels 34 = .ok (.aload_n 0, 1) := by decide +kernel
theorem dX11_feels_35 : decode cX11_feels 35 = .ok (.iload_n 2, 1) := by decide +kernel
theorem dX11_feels_36 : decode cX11_feels 36 = .ok (.iload_n 3, 1) := by decide +kernel
theorem dX11_feels_37 : decode cX11_feels 37 = .ok (.invokevirtual 228, 3) := by decide +kernel
theorem dX11_feels_40 : decode cX11_feels 40 = .ok (.ifCond .eq 28, 3) := by decide +kernel
theorem dX11_feels_43 : decode cX11_feels 43 = .ok (.iload 4, 2) := by decide +kernel
theorem dX11_feels_45 : decode cX11_feels 45 = .ok (.aload_n 0, 1) := by decide +kernel
theorem dX11_feels_46 : decode cX11_feels 46 = .ok (.getfield 7, 3) := by decide +kernel
theorem dX11_feels_49 : decode cX11_feels 49 = .ok (.iconst 0, 1) := by decide +kernel
theorem dX11_feels_50 : decode cX11_feels 50 = .ok (.iload_n 2, 1) := by decide +kernel
theorem dX11_feels_51 : decode cX11_feels 51 = .ok (.invokestatic 177, 3) := by decide +kernel
theorem dX11_feels_54 : decode cX11_feels 54 = .ok (.iconst 1, 1) := by decide +kernel
theorem dX11_feels_55 : decode cX11_feels 55 = .ok (.iadd, 1) := by decide +kernel
theorem dX11_feels_56 : decode cX11_feels 56 = .ok (.iaload, 1) := by decide +kernel
theorem dX11_feels_57 : decode cX11_feels 57 = .ok (.if_icmp .lt 7, 3) := by decide +kernel
theorem dX11_feels_60 : decode cX11_feels 60 = .ok (.iconst 1, 1) := by decide +kernel
theorem dX11_feels_61 : decode cX11_feels 61 = .ok (.goto 29, 3) := by decide +kernel
theorem dX11_feels_64 : decode cX11_feels 64 = .ok (.iconst 0, 1) := by decide +kernel
theorem dX11_feels_65 : decode cX11_feels 65 = .ok (.goto 25, 3) := by decide +kernel
theorem dX11_feels_68 : decode cX11_feels 68 = .ok (.iload 4, 2) := by decide +kernel
theorem dX11_feels_70 : decode cX11_feels 70 = .ok (.aload_n 0, 1) := by decide +kernel
theorem dX11_feels_71 : decode cX11_feels 71 = .ok (.getfield 7, 3) := by decide +kernel
theorem dX11_feels_74 : decode cX11_feels 74 = .ok (.iconst 0, 1) := by decide +kernel
theorem dX11_feels_75 : decode cX11_feels 75 = .ok (.iload_n 2, 1) := by decide +kernel
theorem dX11_feels_76 : decode cX11_feels 76 = .ok (.invokestatic 177, 3) := by decide +kernel
theorem dX11_feels_79 : decode cX11_feels 79 = .ok (.iconst 2, 1) := by decide +kernel
theorem dX11_feels_80 : decode cX11_feels 80 = .ok (.iadd, 1) := by decide +kernel
theorem dX11_feels_81 : decode cX11_feels 81 = .ok (.iaload, 1) := by decide +kernel
theorem dX11_feels_82 : decode cX11_feels 82 = .ok (.if_icmp .ge 7, 3) := by decide +kernel
theorem dX11_feels_85 : decode cX11_feels 85 = .ok (.iconst 1, 1) := by decide +kernel
theorem dX11_feels_86 : decode cX11_feels 86 = .ok (.goto 4, 3) := by decide +kernel
theorem dX11_feels_89 : decode cX11_feels 89 = .ok (.iconst 0, 1) := by decide +kernel
theorem dX11_feels_90 : decode cX11_feels 90 = .ok (.istore 5, 2) := by decide +kernel
theorem dX11_feels_92 : decode cX11_feels 92 = .ok (.aload_n 0, 1) := by decide +kernel
theorem dX11_feels_93 : decode cX11_feels 93 = .ok (.getfield 7, 3) := by decide +kernel
theorem dX11_feels_96 : decode cX11_feels 96 = .ok (.iload_n 2, 1) := by decide +kernel
theorem dX11_feels_97 : decode cX11_feels 97 = .ok (.iload_n 3, 1) := by decide +kernel
theorem dX11_feels_98 : decode cX11_feels 98 = .ok (.invokestatic 225, 3) := by decide +kernel
theorem dX11_feels_101 : decode cX11_feels 101 = .ok (.iload 5, 2) := by decide +kernel
theorem dX11_feels_103 : decode cX11_feels 103 = .ok (.ifCond .eq 7, 3) := by decide +kernel
theorem dX11_feels_106 : decode cX11_feels 106 = .ok (.iconst 1, 1) := by decide +kernel
theorem dX11_feels_107 : decode cX11_feels 107 = .ok (.goto 4, 3) := by decide +kernel
theorem dX11_feels_110 : decode cX11_feels 110 = .ok (.iconst 0, 1) := by decide +kernel
theorem dX11_feels_111 : decode cX11_feels 111 = .ok (.iastore, 1) := by decide +kernel
theorem dX11_feels_112 : decode cX11_feels 112 = .ok (.iload_n 1, 1) := by decide +kernel
theorem dX11_feels_113 : decode cX11_feels 113 = .ok (.iload 5, 2) := by decide +kernel
theorem dX11_feels_115 : decode cX11_feels 115 = .ok (.ifCond .eq 7, 3) := by decide +kernel
theorem dX11_feels_118 : decode cX11_feels 118 = .ok (.iconst 1, 1) := by decide +kernel
theorem dX11_feels_119 : decode cX11_feels 119 = .ok (.goto 4, 3) := by decide +kernel
theorem dX11_feels_122 : decode cX11_feels 122 = .ok (.iconst 0, 1) := by decide +kernel
theorem dX11_feels_123 : decode cX11_feels 123 = .ok (.iadd, 1) := by decide +kernel
theorem dX11_feels_124 : decode cX11_feels 124 = .ok (.istore_n 1, 1) := by decide +kernel
theorem dX11_feels_125 : decode cX11_feels 125 = .ok (.iinc 3 1, 3) := by decide +kernel
theorem dX11_feels_128 : decode cX11_feels 128 = .ok (.goto (-112), 3) := by decide +kernel
theorem dX11_feels_131 : decode cX11_feels 131 = .ok (.iinc 2 1, 3) := by decide +kernel
theorem dX11_feels_134 : decode cX11_feels 134 = .ok (.goto (-130), 3) := by decide +kernel
theorem dX11_feels_137 : decode cX11_feels 137 = .ok (.iload_n 1, 1) := by decide +kernel
theorem dX11_feels_138 : decode cX11_feels 138 = .ok (.ireturn, 1) := by decide +kernel
abbrev rmX11_feels : Room := { frames := 3, cells := 0, slots := 0, locals := 65 }
set_option maxHeartbeats 4000000 in
set_option maxRecDepth 100000 in
theorem kX11_feels (l : Launch) (D : va_G) (cy : Nat → ClassId) (h0 : Nat) (a0 : Nat → Nat) (s0 : Rc) (res : Int32 × Rc) (h : fX11_feels s0 = some res) : CI l D cy yX11_feels wsX11_feels rmX11_feels [.ref h0] (flat [WX11 cy h0 a0 s0]) (flat [WX11 cy h0 a0 res.2]) res.1 := by
  refine CI.of (cc := cX11_feels) (maxL := 6) (by decide) rfl (Nat.le_of_ble_eq_true rfl) ?_
  intro p e s m args below meth c A QQ ls E hr
  obtain ⟨hx, hb, hml, hown, hts, hK, hN, hP, hD, hA, hl⟩ := E
  have hret : ∀ (pc : Nat) (H : Heap) (locs : List Loc) (ls : Array Slot) (u : Int32 × Rc), u = res → va_P D vwCl (flat [WX11 cy h0 a0 u.2]) H → va_D A (flat [WX11 cy h0 a0 u.2]) → va_S A s.heap H locs → decode cX11_feels pc = .ok (.ireturn, 1) → W p l e rmX11_feels s m args below meth c H locs 0 0 QQ (F0 m pc ls [.int u.1]) := by
    intro pc H locs ls u hu hP hD hS hd; subst hu; exact hr pc H locs ls _ rfl hP hD hS hd
  clear hr
  have hl : lv_has ls 6 [(0, .ref h0)] := hl
  have hinX11 : ∀ w ∈ wsX110, w ∈ wsX11_feels := fun _ h => List.mem_cons_of_mem _ (List.mem_append_right _ h)
  unfold fX11_feels at h
  suffices key : ∀ (H : Heap) (locs : List Loc), va_P D vwCl (flat [WX11 cy h0 a0 s0]) H → va_S A s.heap H locs → W p l e rmX11_feels s m args below meth c H locs 0 0 QQ (F0 m 0 ls []) from key _ _ hP va_S.rf
  clear hP
  intro H locs hP hS
  refine lv_iconst (v := 0) hx hb dX11_feels_0 (by decide) ?_
  refine lv_istore_n (lv' := [(1, .int (0 : Int32)), (0, .ref h0)]) hx hb dX11_feels_1 rfl hl (by decide) rfl (fun ls hl => ?_)
  refine lv_iconst (v := 0) hx hb dX11_feels_2 (by decide) ?_
  refine lv_istore_n (lv' := [(2, .int (0 : Int32)), (1, .int (0 : Int32)), (0, .ref h0)]) hx hb dX11_feels_3 rfl hl (by decide) rfl (fun ls hl => ?_)
  have L4 : ∀ (n : Nat) (q4 : Int32 × Int32 × Rc) (o : Int32 × Rc), loopO (fX11_feels_L4) n q4 = some o → ∀ (H : Heap) (locs : List Loc) (ls : Array Slot), lv_has ls 6 [(0, .ref h0), (1, .int q4.1), (2, .int q4.2.1)] → va_P D vwCl (flat [WX11 cy h0 a0 q4.2.2]) H → va_D A (flat [WX11 cy h0 a0 q4.2.2]) → va_S A s.heap H locs → ∀ (kk137 : ∀ (H : Heap) (locs : List Loc) (ls : Array Slot), lv_has ls 6 [(1, .int o.1)] → va_P D vwCl (flat [WX11 cy h0 a0 o.2]) H → va_D A (flat [WX11 cy h0 a0 o.2]) → va_S A s.heap H locs → W p l e rmX11_feels s m args below meth c H locs 0 0 QQ (F0 m 137 ls [])), W p l e rmX11_feels s m args below meth c H locs 0 0 QQ (F0 m 4 ls []) := by
    intro n
    induction n with
    | zero => intro q4 o h; exact absurd h (by rw [loopO_zero]; intro z; cases z)
    | succ n ih =>
      intro q4 o h H locs ls hl hP hD hS kk137
      obtain ⟨w, h, hgo, hst⟩ := loopO_elim h
      unfold fX11_feels_L4 at h
      refine lv_iload_n hx hb dX11_feels_4 rfl (lv_at hl 2 rfl) ?_
      refine lv_aload_n hx hb dX11_feels_5 rfl (lv_at hl 0 rfl) ?_
      refine va_get (D := D) (ci := 11) (v := .ref (a0 0)) (C := RX11) (T := TX11) (N := 38) hx hb hts hinX11 hown hK hP 0 rfl rfl 0 (by decide) (hts (.fieldLink RX11 7 "KneeBenchModel" "at" "[I") (List.mem_of_getElem? (i := 1) rfl)) (fun _ h9 => h9) rfl dX11_feels_6 ?_
      refine lv_iconst (v := 0) hx hb dX11_feels_9 (by decide) ?_
      refine va_iald hx hb hK hP 1 1 rfl rfl (inb_in (by decide)) dX11_feels_10 ?_
      refine lv_icmp_ge (tgt := 137) hx hb dX11_feels_11 (by decide) (fun c1 => ?_) (fun c1 => ?_)
      · replace h := (if_pos c1).symm.trans h
        have eo := hst _ (Option.some.inj h).symm
        subst eo
        exact kk137 H locs ls (lv_sub hl [1] rfl) hP hD hS
      · replace h := (if_neg c1).symm.trans h
        refine lv_iconst (v := 0) hx hb dX11_feels_14 (by decide) ?_
        refine lv_istore_n (lv' := [(3, .int (0 : Int32)), (0, .ref h0), (1, .int q4.1), (2, .int q4.2.1)]) hx hb dX11_feels_15 rfl hl (by decide) rfl (fun ls hl => ?_)
        have L16 : ∀ (n : Nat) (q16 : Int32 × Int32 × Rc) (o : Int32 × Rc), loopO (fX11_feels_L16 q4) n q16 = some o → ∀ (H : Heap) (locs : List Loc) (ls : Array Slot), lv_has ls 6 [(0, .ref h0), (2, .int q4.2.1), (1, .int q16.1), (3, .int q16.2.1)] → va_P D vwCl (flat [WX11 cy h0 a0 q16.2.2]) H → va_D A (flat [WX11 cy h0 a0 q16.2.2]) → va_S A s.heap H locs → ∀ (kk131 : ∀ (H : Heap) (locs : List Loc) (ls : Array Slot), lv_has ls 6 [(0, .ref h0), (2, .int q4.2.1), (1, .int o.1)] → va_P D vwCl (flat [WX11 cy h0 a0 o.2]) H → va_D A (flat [WX11 cy h0 a0 o.2]) → va_S A s.heap H locs → W p l e rmX11_feels s m args below meth c H locs 0 0 QQ (F0 m 131 ls [])), W p l e rmX11_feels s m args below meth c H locs 0 0 QQ (F0 m 16 ls []) := by
          intro n
          induction n with
          | zero => intro q16 o h; exact absurd h (by rw [loopO_zero]; intro z; cases z)
          | succ n ih =>
            intro q16 o h H locs ls hl hP hD hS kk131
            obtain ⟨w, h, hgo, hst⟩ := loopO_elim h
            unfold fX11_feels_L16 at h
            have J111 : ∀ (y111_5 : Int32) (z111_0 : Int32) (z111_1 : Int32) (t111_0 : Rc) (H : Heap) (locs : List Loc) (ls : Array Slot), lv_has ls 6 [(0, .ref h0), (2, .int q4.2.1), (1, .int q16.1), (3, .int q16.2.1), (5, .int y111_5)] → va_P D vwCl (flat [WX11 cy h0 a0 t111_0]) H → va_D A (flat [WX11 cy h0 a0 t111_0]) → va_S A s.heap H locs → fX11_feels_J111 q16 y111_5 z111_0 z111_1 t111_0 = some w → W p l e rmX11_feels s m args below meth c H locs 0 0 QQ (F0 m 111 ls [.int z111_0, .int z111_1, .ref (a0 0)]) := by
              intro y111_5 z111_0 z111_1 t111_0 H locs ls hl hP hD hS h
              unfold fX11_feels_J111 at h
              obtain ⟨g2, h⟩ := gd_elim h
              obtain ⟨s0_3, es, h⟩ := lt_elim h
              refine va_iast hx hb hK hP hD hS 1 1 rfl rfl (inb_in g2) dX11_feels_111 (fun H locs hP hD hS => ?_)
              have hP : va_P D vwCl (flat [WX11 cy h0 a0 s0_3]) H := by rw [es]; exact hP
              have hD : va_D A (flat [WX11 cy h0 a0 s0_3]) := by rw [es]; exact hD
              clear es
              refine lv_iload_n hx hb dX11_feels_112 rfl (lv_at hl 2 rfl) ?_
              refine lv_iload hx hb dX11_feels_113 (lv_at hl 4 rfl) ?_
              refine lv_if_eq (tgt := 122) hx hb dX11_feels_115 (by decide) (fun c4 => ?_) (fun c4 => ?_)
              · replace h := (if_pos c4).symm.trans h
                refine lv_iconst (v := 0) hx hb dX11_feels_122 (by decide) ?_
                refine lv_iadd hx hb dX11_feels_123 ?_
                refine lv_topi (fun x5 ex5 => ?_)
                replace h := lt_use h x5 ex5
                refine lv_istore_n (lv' := [(1, .int x5), (0, .ref h0), (2, .int q4.2.1), (3, .int q16.2.1), (5, .int y111_5)]) hx hb dX11_feels_124 rfl hl (by decide) rfl (fun ls hl => ?_)
                refine lv_iinc (v := (q16.2.1 + (1 : Int32))) (lv' := [(3, .int (q16.2.1 + (1 : Int32))), (1, .int x5), (0, .ref h0), (2, .int q4.2.1), (5, .int y111_5)]) hx hb dX11_feels_125 hl (k := 3) rfl rfl (by decide) rfl (fun ls hl => ?_)
                refine lv_goto (tgt := 16) hx hb dX11_feels_128 (by decide) ?_
                exact ih _ o (hgo _ (Option.some.inj h).symm) H locs ls (lv_sub hl [2, 3, 1, 0] rfl) hP hD hS kk131
              · replace h := (if_neg c4).symm.trans h
                refine lv_iconst (v := 1) hx hb dX11_feels_118 (by decide) ?_
                refine lv_goto (tgt := 123) hx hb dX11_feels_119 (by decide) ?_
                refine lv_iadd hx hb dX11_feels_123 ?_
                refine lv_topi (fun x6 ex6 => ?_)
                replace h := lt_use h x6 ex6
                refine lv_istore_n (lv' := [(1, .int x6), (0, .ref h0), (2, .int q4.2.1), (3, .int q16.2.1), (5, .int y111_5)]) hx hb dX11_feels_124 rfl hl (by decide) rfl (fun ls hl => ?_)
                refine lv_iinc (v := (q16.2.1 + (1 : Int32))) (lv' := [(3, .int (q16.2.1 + (1 : Int32))), (1, .int x6), (0, .ref h0), (2, .int q4.2.1), (5, .int y111_5)]) hx hb dX11_feels_125 hl (k := 3) rfl rfl (by decide) rfl (fun ls hl => ?_)
                refine lv_goto (tgt := 16) hx hb dX11_feels_128 (by decide) ?_
                exact ih _ o (hgo _ (Option.some.inj h).symm) H locs ls (lv_sub hl [2, 3, 1, 0] rfl) hP hD hS kk131
            have J90 : ∀ (z90_0 : Int32) (t90_0 : Rc) (H : Heap) (locs : List Loc) (ls : Array Slot), lv_has ls 6 [(0, .ref h0), (2, .int q4.2.1), (1, .int q16.1), (3, .int q16.2.1)] → va_P D vwCl (flat [WX11 cy h0 a0 t90_0]) H → va_D A (flat [WX11 cy h0 a0 t90_0]) → va_S A s.heap H locs → fX11_feels_J90 q4 q16 z90_0 t90_0 = some w → W p l e rmX11_feels s m args below meth c H locs 0 0 QQ (F0 m 90 ls [.int z90_0]) := by
              intro z90_0 t90_0 H locs ls hl hP hD hS h
              unfold fX11_feels_J90 at h
              refine lv_istore (lv' := [(5, .int z90_0), (0, .ref h0), (2, .int q4.2.1), (1, .int q16.1), (3, .int q16.2.1)]) hx hb dX11_feels_90 hl (by decide) rfl (fun ls hl => ?_)
              refine lv_aload_n hx hb dX11_feels_92 rfl (lv_at hl 1 rfl) ?_
              refine va_get (D := D) (ci := 11) (v := .ref (a0 0)) (C := RX11) (T := TX11) (N := 38) hx hb hts hinX11 hown hK hP 0 rfl rfl 0 (by decide) (hts (.fieldLink RX11 7 "KneeBenchModel" "at" "[I") (List.mem_of_getElem? (i := 1) rfl)) (fun _ h9 => h9) rfl dX11_feels_93 ?_
              refine lv_iload_n hx hb dX11_feels_96 rfl (lv_at hl 2 rfl) ?_
              refine lv_iload_n hx hb dX11_feels_97 rfl (lv_at hl 4 rfl) ?_
              refine ca_i (w' := [WX11 cy h0 a0 t90_0]) (rn_S (As := [.int q4.2.1, .int q16.2.1]) (rest := [.ref (a0 0)]) ⟨hx, hb, hml, hown, hts⟩ (kX11_twingeRow l D cy q4.2.1 q16.2.1 _ rfl H.size) (va_cwS 2 hts gX11_feels_X11_twingeRow rfl rfl rfl (by decide +kernel) ⟨Nat.le_of_ble_eq_true rfl, Nat.le_of_ble_eq_true rfl⟩) hK hN hP hD [] rfl rfl rfl hl.1 rfl (Nat.le_of_ble_eq_true rfl) dX11_feels_98 ⟨Nat.le_refl 0, Nat.le_refl 0⟩) hP hD hS hA [] ⟨rfl, rfl, rfl, rfl⟩ (fun H locs hP hD hS => ?_)
              refine lv_iload hx hb dX11_feels_101 (lv_at hl 0 rfl) ?_
              refine lv_if_eq (tgt := 110) hx hb dX11_feels_103 (by decide) (fun c7 => ?_) (fun c7 => ?_)
              · replace h := (if_pos c7).symm.trans h
                refine lv_iconst (v := 0) hx hb dX11_feels_110 (by decide) ?_
                exact J111 z90_0 (0 : Int32) (fX11_twingeRow q4.2.1 q16.2.1) t90_0 H locs ls (lv_sub hl [1, 2, 3, 4, 0] rfl) hP hD hS h
              · replace h := (if_neg c7).symm.trans h
                refine lv_iconst (v := 1) hx hb dX11_feels_106 (by decide) ?_
                refine lv_goto (tgt := 111) hx hb dX11_feels_107 (by decide) ?_
                exact J111 z90_0 (1 : Int32) (fX11_twingeRow q4.2.1 q16.2.1) t90_0 H locs ls (lv_sub hl [1, 2, 3, 4, 0] rfl) hP hD hS h
            refine lv_iload_n hx hb dX11_feels_16 rfl (lv_at hl 3 rfl) ?_
            refine lv_aload_n hx hb dX11_feels_17 rfl (lv_at hl 0 rfl) ?_
            refine va_get (D := D) (ci := 11) (v := .ref (a0 0)) (C := RX11) (T := TX11) (N := 38) hx hb hts hinX11 hown hK hP 0 rfl rfl 0 (by decide) (hts (.fieldLink RX11 7 "KneeBenchModel" "at" "[I") (List.mem_of_getElem? (i := 1) rfl)) (fun _ h9 => h9) rfl dX11_feels_18 ?_
            refine lv_iconst (v := 1) hx hb dX11_feels_21 (by decide) ?_
            refine va_iald hx hb hK hP 1 1 rfl rfl (inb_in (by decide)) dX11_feels_22 ?_
            refine lv_icmp_ge (tgt := 131) hx hb dX11_feels_23 (by decide) (fun c8 => ?_) (fun c8 => ?_)
            · replace h := (if_pos c8).symm.trans h
              have eo := hst _ (Option.some.inj h).symm
              subst eo
              exact kk131 H locs ls (lv_sub hl [0, 1, 2] rfl) hP hD hS
            · replace h := (if_neg c8).symm.trans h
              refine lv_aload_n hx hb dX11_feels_26 rfl (lv_at hl 0 rfl) ?_
              refine lv_bipush (v := 16) hx hb dX11_feels_27 (by decide) ?_
              obtain ⟨r9, hr9, h⟩ := bd_elim h
              refine ca_i (w' := [WX11 cy h0 a0 r9.2]) (rn_V (As := [.int (16 : Int32)]) (rest := []) ⟨hx, hb, hml, hown, hts⟩ (kX11_draw l D cy h0 a0 q16.2.2 (16 : Int32) r9 hr9 H.size) (cwV 1 hts gX11_feels_X11_draw rfl rfl rfl (by decide +kernel) ⟨Nat.le_of_ble_eq_true rfl, Nat.le_of_ble_eq_true rfl⟩) hK hN hP hD [0] rfl rfl (ci := 11) (q0 := 0) rfl rfl rfl rfl hl.1 rfl (Nat.le_of_ble_eq_true rfl) dX11_feels_29 ⟨Nat.le_refl 0, Nat.le_refl 0⟩) hP hD hS hA [0] ⟨rfl, rfl, rfl, rfl⟩ (fun H locs hP hD hS => ?_)
              refine lv_istore (lv' := [(4, .int r9.1), (0, .ref h0), (2, .int q4.2.1), (1, .int q16.1), (3, .int q16.2.1)]) hx hb dX11_feels_32 hl (by decide) rfl (fun ls hl => ?_)
              refine lv_aload_n hx hb dX11_feels_34 rfl (lv_at hl 1 rfl) ?_
              refine lv_iload_n hx hb dX11_feels_35 rfl (lv_at hl 2 rfl) ?_
              refine lv_iload_n hx hb dX11_feels_36 rfl (lv_at hl 4 rfl) ?_
              obtain ⟨r10, hr10, h⟩ := bd_elim h
              refine ca_z (w' := [WX11 cy h0 a0 r9.2]) (rn_V (As := [.int q4.2.1, .int q16.2.1]) (rest := []) ⟨hx, hb, hml, hown, hts⟩ (kX11_shouldFeel l D cy h0 a0 r9.2 q4.2.1 q16.2.1 r10 hr10 H.size) (cwV 2 hts gX11_feels_X11_shouldFeel rfl rfl rfl (by decide +kernel) ⟨Nat.le_of_ble_eq_true rfl, Nat.le_of_ble_eq_true rfl⟩) hK hN hP hD [0] rfl rfl (ci := 11) (q0 := 0) rfl rfl rfl rfl hl.1 rfl (Nat.le_of_ble_eq_true rfl) dX11_feels_37 ⟨Nat.le_refl 0, Nat.le_refl 0⟩) hP hD hS hA [0] ⟨rfl, rfl, rfl, rfl⟩ (fun b11 H locs hP hD hS => ?_)
              refine lv_if_eq (tgt := 68) hx hb dX11_feels_40 (by decide) (fun c12 => ?_) (fun c12 => ?_)
              · replace h := (if_pos c12).symm.trans h
                refine lv_iload hx hb dX11_feels_68 (lv_at hl 0 rfl) ?_
                refine lv_aload_n hx hb dX11_feels_70 rfl (lv_at hl 1 rfl) ?_
                refine va_get (D := D) (ci := 11) (v := .ref (a0 0)) (C := RX11) (T := TX11) (N := 38) hx hb hts hinX11 hown hK hP 0 rfl rfl 0 (by decide) (hts (.fieldLink RX11 7 "KneeBenchModel" "at" "[I") (List.mem_of_getElem? (i := 1) rfl)) (fun _ h9 => h9) rfl dX11_feels_71 ?_
                refine lv_iconst (v := 0) hx hb dX11_feels_74 (by decide) ?_
                refine lv_iload_n hx hb dX11_feels_75 rfl (lv_at hl 2 rfl) ?_
                refine ca_i (w' := [WX11 cy h0 a0 r9.2]) (rn_S (As := [.int (0 : Int32), .int q4.2.1]) (rest := [.ref (a0 0), .int r9.1]) ⟨hx, hb, hml, hown, hts⟩ (kX11_farmerRow l D cy (0 : Int32) q4.2.1 _ rfl H.size) (va_cwS 2 hts gX11_feels_X11_farmerRow rfl rfl rfl (by decide +kernel) ⟨Nat.le_of_ble_eq_true rfl, Nat.le_of_ble_eq_true rfl⟩) hK hN hP hD [] rfl rfl rfl hl.1 rfl (Nat.le_of_ble_eq_true rfl) dX11_feels_76 ⟨Nat.le_refl 0, Nat.le_refl 0⟩) hP hD hS hA [] ⟨rfl, rfl, rfl, rfl⟩ (fun H locs hP hD hS => ?_)
                refine lv_iconst (v := 2) hx hb dX11_feels_79 (by decide) ?_
                refine lv_iadd hx hb dX11_feels_80 ?_
                obtain ⟨g13, h⟩ := gd_elim h
                refine va_iald hx hb hK hP 1 1 rfl rfl (inb_in g13) dX11_feels_81 ?_
                refine lv_icmp_ge (tgt := 89) hx hb dX11_feels_82 (by decide) (fun c14 => ?_) (fun c14 => ?_)
                · replace h := (if_pos c14).symm.trans h
                  refine lv_iconst (v := 0) hx hb dX11_feels_89 (by decide) ?_
                  exact J90 (0 : Int32) r9.2 H locs ls (lv_sub hl [1, 2, 3, 4] rfl) hP hD hS h
                · replace h := (if_neg c14).symm.trans h
                  refine lv_iconst (v := 1) hx hb dX11_feels_85 (by decide) ?_
                  refine lv_goto (tgt := 90) hx hb dX11_feels_86 (by decide) ?_
                  exact J90 (1 : Int32) r9.2 H locs ls (lv_sub hl [1, 2, 3, 4] rfl) hP hD hS h
              · replace h := (if_neg c12).symm.trans h
                refine lv_iload hx hb dX11_feels_43 (lv_at hl 0 rfl) ?_
                refine lv_aload_n hx hb dX11_feels_45 rfl (lv_at hl 1 rfl) ?_
                refine va_get (D := D) (ci := 11) (v := .ref (a0 0)) (C := RX11) (T := TX11) (N := 38) hx hb hts hinX11 hown hK hP 0 rfl rfl 0 (by decide) (hts (.fieldLink RX11 7 "KneeBenchModel" "at" "[I") (List.mem_of_getElem? (i := 1) rfl)) (fun _ h9 => h9) rfl dX11_feels_46 ?_
                refine lv_iconst (v := 0) hx hb dX11_feels_49 (by decide) ?_
                refine lv_iload_n hx hb dX11_feels_50 rfl (lv_at hl 2 rfl) ?_
                refine ca_i (w' := [WX11 cy h0 a0 r9.2]) (rn_S (As := [.int (0 : Int32), .int q4.2.1]) (rest := [.ref (a0 0), .int r9.1]) ⟨hx, hb, hml, hown, hts⟩ (kX11_farmerRow l D cy (0 : Int32) q4.2.1 _ rfl H.size) (va_cwS 2 hts gX11_feels_X11_farmerRow rfl rfl rfl (by decide +kernel) ⟨Nat.le_of_ble_eq_true rfl, Nat.le_of_ble_eq_true rfl⟩) hK hN hP hD [] rfl rfl rfl hl.1 rfl (Nat.le_of_ble_eq_true rfl) dX11_feels_51 ⟨Nat.le_refl 0, Nat.le_refl 0⟩) hP hD hS hA [] ⟨rfl, rfl, rfl, rfl⟩ (fun H locs hP hD hS => ?_)
                refine lv_iconst (v := 1) hx hb dX11_feels_54 (by decide) ?_
                refine lv_iadd hx hb dX11_feels_55 ?_
                obtain ⟨g15, h⟩ := gd_elim h
                refine va_iald hx hb hK hP 1 1 rfl rfl (inb_in g15) dX11_feels_56 ?_
                refine lv_icmp_lt (tgt := 64) hx hb dX11_feels_57 (by decide) (fun c16 => ?_) (fun c16 => ?_)
                · replace h := (if_pos c16).symm.trans h
                  refine lv_iconst (v := 0) hx hb dX11_feels_64 (by decide) ?_
                  refine lv_goto (tgt := 90) hx hb dX11_feels_65 (by decide) ?_
                  exact J90 (0 : Int32) r9.2 H locs ls (lv_sub hl [1, 2, 3, 4] rfl) hP hD hS h
                · replace h := (if_neg c16).symm.trans h
                  refine lv_iconst (v := 1) hx hb dX11_feels_60 (by decide) ?_
                  refine lv_goto (tgt := 90) hx hb dX11_feels_61 (by decide) ?_
                  exact J90 (1 : Int32) r9.2 H locs ls (lv_sub hl [1, 2, 3, 4] rfl) hP hD hS h
        obtain ⟨o16, ho16, h⟩ := bd_elim h
        obtain ⟨n16, hn16⟩ := loopF_some ho16
        refine L16 n16 _ o16 hn16 H locs ls (lv_sub hl [1, 3, 2, 0] rfl) hP hD hS (fun H locs ls hl hP hD hS => ?_)
        refine lv_iinc (v := (q4.2.1 + (1 : Int32))) (lv' := [(2, .int (q4.2.1 + (1 : Int32))), (0, .ref h0), (1, .int o16.1)]) hx hb dX11_feels_131 hl (k := 1) rfl rfl (by decide) rfl (fun ls hl => ?_)
        refine lv_goto (tgt := 4) hx hb dX11_feels_134 (by decide) ?_
        exact ih _ o (hgo _ (Option.some.inj h).symm) H locs ls (lv_sub hl [1, 2, 0] rfl) hP hD hS kk137
  obtain ⟨o4, ho4, h⟩ := bd_elim h
  obtain ⟨n4, hn4⟩ := loopF_some ho4
  refine L4 n4 _ o4 hn4 H locs ls (lv_sub hl [2, 1, 0] rfl) hP hD hS (fun H locs ls hl hP hD hS => ?_)
  refine lv_iload_n hx hb dX11_feels_137 rfl (lv_at hl 0 rfl) ?_
  exact hret 138 H locs ls (o4.1, o4.2) (Option.some.inj h) hP hD hS dX11_feels_138
theorem gd_X11_turnsRound : wsX11_turnsRound.all goodWord = true := by decide +kernel
set_option maxRecDepth 20000 in
theorem ggX11_turnsRound_X11_twingeRow : GoodIn wsX11_turnsRound wsX11_twingeRow := goodIn_by gd_X11_turnsRound (List.forall_mem_cons.mpr ⟨List.mem_cons_of_mem _ (List.mem_append_left _ (List.mem_of_getElem? (i := 4) rfl)), nowords_in⟩)
set_option maxRecDepth 20000 in
theorem gX11_turnsRound_X11_twingeRow : GoodIn wsX11_turnsRound (va_wsS RX11 225 yX11_twingeRow wsX11_twingeRow) := goodIn_app (goodIn_by gd_X11_turnsRound (List.forall_mem_cons.mpr ⟨List.mem_cons_of_mem _ (List.mem_append_left _ (List.mem_of_getElem? (i := 1) rfl)), List.forall_mem_cons.mpr ⟨List.mem_cons_of_mem _ (List.mem_append_left _ (List.mem_of_getElem? (i := 2) rfl)), List.forall_mem_cons.mpr ⟨List.mem_cons_of_mem _ (List.mem_append_left _ (List.mem_of_getElem? (i := 3) rfl)), nowords_in⟩⟩⟩)) ggX11_turnsRound_X11_twingeRow
theorem dX11_turnsRound_0 : decode cX11_turnsRound 0 = .ok (.aload_n 0, 1) := by decide +kernel
theorem dX11_turnsRound_1 : decode cX11_turnsRound 1 = .ok (.getfield 7, 3) := by decide +kernel
theorem dX11_turnsRound_4 : decode cX11_turnsRound 4 = .ok (.iload_n 1, 1) := by decide +kernel
theorem dX11_turnsRound_5 : decode cX11_turnsRound 5 = .ok (.iload_n 2, 1) := by decide +kernel
theorem dX11_turnsRound_6 : decode cX11_turnsRound 6 = .ok (.invokestatic 225, 3) := by decide +kernel
theorem dX11_turnsRound_9 : decode cX11_turnsRound 9 = .ok (.iconst 1, 1) := by decide +kernel
theorem dX11_turnsRound_10 : decode cX11_turnsRound 10 = .ok (.aload_n 0, 1) := by decide +kernel
theorem dX11_turnsRound_11 : decode cX11_turnsRound 11 = .ok (.getfield 7, 3) := by decide +kernel
theorem dX11_turnsRound_14 : decode cX11_turnsRound 14 = .ok (.iload_n 1, 1) := by decide +kernel
theorem dX11_turnsRound_15 : decode cX11_turnsRound 15 = .ok (.iload_n 2, 1) := by decide +kernel
theorem dX11_turnsRound_16 : decode cX11_turnsRound 16 = .ok (.invokestatic 225, 3) := by decide +kernel
theorem dX11_turnsRound_19 : decode cX11_turnsRound 19 = .ok (.iaload, 1) := by decide +kernel
theorem dX11_turnsRound_20 : decode cX11_turnsRound 20 = .ok (.isub, 1) := by decide +kernel
theorem dX11_turnsRound_21 : decode cX11_turnsRound 21 = .ok (.iastore, 1) := by decide +kernel
theorem dX11_turnsRound_22 : decode cX11_turnsRound 22 = .ok (.aload_n 0, 1) := by decide +kernel
theorem dX11_turnsRound_23 : decode cX11_turnsRound 23 = .ok (.getfield 7, 3) := by decide +kernel
theorem dX11_turnsRound_26 : decode cX11_turnsRound 26 = .ok (.iload_n 1, 1) := by decide +kernel
theorem dX11_turnsRound_27 : decode cX11_turnsRound 27 = .ok (.iload_n 2, 1) := by decide +kernel
theorem dX11_turnsRound_28 : decode cX11_turnsRound 28 = .ok (.invokestatic 225, 3) := by decide +kernel
theorem dX11_turnsRound_31 : decode cX11_turnsRound 31 = .ok (.iaload, 1) := by decide +kernel
theorem dX11_turnsRound_32 : decode cX11_turnsRound 32 = .ok (.ireturn, 1) := by decide +kernel
abbrev rmX11_turnsRound : Room := { frames := 1, cells := 0, slots := 0, locals := 21 }
set_option maxHeartbeats 4000000 in
set_option maxRecDepth 100000 in
theorem kX11_turnsRound (l : Launch) (D : va_G) (cy : Nat → ClassId) (h0 : Nat) (a0 : Nat → Nat) (s0 : Rc) (p1 : Int32) (p2 : Int32) (res : Int32 × Rc) (h : fX11_turnsRound p1 p2 s0 = some res) : CI l D cy yX11_turnsRound wsX11_turnsRound rmX11_turnsRound [.ref h0, .int p1, .int p2] (flat [WX11 cy h0 a0 s0]) (flat [WX11 cy h0 a0 res.2]) res.1 := by
  refine CI.of (cc := cX11_turnsRound) (maxL := 3) (by decide) rfl (Nat.le_of_ble_eq_true rfl) ?_
  intro p e s m args below meth c A QQ ls E hr
  obtain ⟨hx, hb, hml, hown, hts, hK, hN, hP, hD, hA, hl⟩ := E
  have hret : ∀ (pc : Nat) (H : Heap) (locs : List Loc) (ls : Array Slot) (u : Int32 × Rc), u = res → va_P D vwCl (flat [WX11 cy h0 a0 u.2]) H → va_D A (flat [WX11 cy h0 a0 u.2]) → va_S A s.heap H locs → decode cX11_turnsRound pc = .ok (.ireturn, 1) → W p l e rmX11_turnsRound s m args below meth c H locs 0 0 QQ (F0 m pc ls [.int u.1]) := by
    intro pc H locs ls u hu hP hD hS hd; subst hu; exact hr pc H locs ls _ rfl hP hD hS hd
  clear hr
  have hl : lv_has ls 3 [(0, .ref h0), (1, .int p1), (2, .int p2)] := hl
  have hinX11 : ∀ w ∈ wsX110, w ∈ wsX11_turnsRound := fun _ h => List.mem_cons_of_mem _ (List.mem_append_right _ h)
  unfold fX11_turnsRound at h
  suffices key : ∀ (H : Heap) (locs : List Loc), va_P D vwCl (flat [WX11 cy h0 a0 s0]) H → va_S A s.heap H locs → W p l e rmX11_turnsRound s m args below meth c H locs 0 0 QQ (F0 m 0 ls []) from key _ _ hP va_S.rf
  clear hP
  intro H locs hP hS
  refine lv_aload_n hx hb dX11_turnsRound_0 rfl (lv_at hl 0 rfl) ?_
  refine va_get (D := D) (ci := 11) (v := .ref (a0 0)) (C := RX11) (T := TX11) (N := 38) hx hb hts hinX11 hown hK hP 0 rfl rfl 0 (by decide) (hts (.fieldLink RX11 7 "KneeBenchModel" "at" "[I") (List.mem_of_getElem? (i := 1) rfl)) (fun _ h9 => h9) rfl dX11_turnsRound_1 ?_
  refine lv_iload_n hx hb dX11_turnsRound_4 rfl (lv_at hl 1 rfl) ?_
  refine lv_iload_n hx hb dX11_turnsRound_5 rfl (lv_at hl 2 rfl) ?_
  refine ca_i (w' := [WX11 cy h0 a0 s0]) (rn_S (As := [.int p1, .int p2]) (rest := [.ref (a0 0)]) ⟨hx, hb, hml, hown, hts⟩ (kX11_twingeRow l D cy p1 p2 _ rfl H.size) (va_cwS 2 hts gX11_turnsRound_X11_twingeRow rfl rfl rfl (by decide +kernel) ⟨Nat.le_of_ble_eq_true rfl, Nat.le_of_ble_eq_true rfl⟩) hK hN hP hD [] rfl rfl rfl hl.1 rfl (Nat.le_of_ble_eq_true rfl) dX11_turnsRound_6 ⟨Nat.le_refl 0, Nat.le_refl 0⟩) hP hD hS hA [] ⟨rfl, rfl, rfl, rfl⟩ (fun H locs hP hD hS => ?_)
  refine lv_iconst (v := 1) hx hb dX11_turnsRound_9 (by decide) ?_
  refine lv_aload_n hx hb dX11_turnsRound_10 rfl (lv_at hl 0 rfl) ?_
  refine va_get (D := D) (ci := 11) (v := .ref (a0 0)) (C := RX11) (T := TX11) (N := 38) hx hb hts hinX11 hown hK hP 0 rfl rfl 0 (by decide) (hts (.fieldLink RX11 7 "KneeBenchModel" "at" "[I") (List.mem_of_getElem? (i := 1) rfl)) (fun _ h9 => h9) rfl dX11_turnsRound_11 ?_
  refine lv_iload_n hx hb dX11_turnsRound_14 rfl (lv_at hl 1 rfl) ?_
  refine lv_iload_n hx hb dX11_turnsRound_15 rfl (lv_at hl 2 rfl) ?_
  refine ca_i (w' := [WX11 cy h0 a0 s0]) (rn_S (As := [.int p1, .int p2]) (rest := [.ref (a0 0), .int (1 : Int32), .int (fX11_twingeRow p1 p2), .ref (a0 0)]) ⟨hx, hb, hml, hown, hts⟩ (kX11_twingeRow l D cy p1 p2 _ rfl H.size) (va_cwS 2 hts gX11_turnsRound_X11_twingeRow rfl rfl rfl (by decide +kernel) ⟨Nat.le_of_ble_eq_true rfl, Nat.le_of_ble_eq_true rfl⟩) hK hN hP hD [] rfl rfl rfl hl.1 rfl (Nat.le_of_ble_eq_true rfl) dX11_turnsRound_16 ⟨Nat.le_refl 0, Nat.le_refl 0⟩) hP hD hS hA [] ⟨rfl, rfl, rfl, rfl⟩ (fun H locs hP hD hS => ?_)
  obtain ⟨g1, h⟩ := gd_elim h
  refine va_iald hx hb hK hP 1 1 rfl rfl (inb_in g1) dX11_turnsRound_19 ?_
  refine lv_isub hx hb dX11_turnsRound_20 ?_
  obtain ⟨s0_2, es, h⟩ := lt_elim h
  refine va_iast hx hb hK hP hD hS 1 1 rfl rfl (inb_in g1) dX11_turnsRound_21 (fun H locs hP hD hS => ?_)
  have hP : va_P D vwCl (flat [WX11 cy h0 a0 s0_2]) H := by rw [es]; exact hP
  have hD : va_D A (flat [WX11 cy h0 a0 s0_2]) := by rw [es]; exact hD
  clear es
  refine lv_aload_n hx hb dX11_turnsRound_22 rfl (lv_at hl 0 rfl) ?_
  refine va_get (D := D) (ci := 11) (v := .ref (a0 0)) (C := RX11) (T := TX11) (N := 38) hx hb hts hinX11 hown hK hP 0 rfl rfl 0 (by decide) (hts (.fieldLink RX11 7 "KneeBenchModel" "at" "[I") (List.mem_of_getElem? (i := 1) rfl)) (fun _ h9 => h9) rfl dX11_turnsRound_23 ?_
  refine lv_iload_n hx hb dX11_turnsRound_26 rfl (lv_at hl 1 rfl) ?_
  refine lv_iload_n hx hb dX11_turnsRound_27 rfl (lv_at hl 2 rfl) ?_
  refine ca_i (w' := [WX11 cy h0 a0 s0_2]) (rn_S (As := [.int p1, .int p2]) (rest := [.ref (a0 0)]) ⟨hx, hb, hml, hown, hts⟩ (kX11_twingeRow l D cy p1 p2 _ rfl H.size) (va_cwS 2 hts gX11_turnsRound_X11_twingeRow rfl rfl rfl (by decide +kernel) ⟨Nat.le_of_ble_eq_true rfl, Nat.le_of_ble_eq_true rfl⟩) hK hN hP hD [] rfl rfl rfl hl.1 rfl (Nat.le_of_ble_eq_true rfl) dX11_turnsRound_28 ⟨Nat.le_refl 0, Nat.le_refl 0⟩) hP hD hS hA [] ⟨rfl, rfl, rfl, rfl⟩ (fun H locs hP hD hS => ?_)
  refine va_iald hx hb hK hP 1 1 rfl rfl (inb_in g1) dX11_turnsRound_31 ?_
  exact hret 32 H locs ls ((ga s0_2 0 (fX11_twingeRow p1 p2).toNatClampNeg), s0_2) (Option.some.inj h) hP hD hS dX11_turnsRound_32
theorem gd_X11_isRight : wsX11_isRight.all goodWord = true := by decide +kernel
set_option maxRecDepth 20000 in
theorem ggX11_isRight_X11_tellOf : GoodIn wsX11_isRight wsX11_tellOf := goodIn_by gd_X11_isRight (List.forall_mem_cons.mpr ⟨List.mem_cons_of_mem _ (List.mem_append_left _ (List.mem_append_left _ (List.mem_of_getElem? (i := 4) rfl))), List.forall_mem_append.mpr ⟨List.forall_mem_cons.mpr ⟨List.mem_cons_of_mem _ (List.mem_append_left _ (List.mem_append_left _ (List.mem_of_getElem? (i := 5) rfl))), List.forall_mem_cons.mpr ⟨List.mem_cons_of_mem _ (List.mem_append_left _ (List.mem_append_left _ (List.mem_of_getElem? (i := 6) rfl))), List.forall_mem_cons.mpr ⟨List.mem_cons_of_mem _ (List.mem_append_left _ (List.mem_append_left _ (List.mem_of_getElem? (i := 7) rfl))), List.forall_mem_cons.mpr ⟨List.mem_cons_of_mem _ (List.mem_append_left _ (List.mem_append_left _ (List.mem_of_getElem? (i := 8) rfl))), List.forall_mem_cons.mpr ⟨List.mem_cons_of_mem _ (List.mem_append_left _ (List.mem_append_left _ (List.mem_of_getElem? (i := 9) rfl))), List.forall_mem_cons.mpr ⟨List.mem_cons_of_mem _ (List.mem_append_left _ (List.mem_append_left _ (List.mem_of_getElem? (i := 10) rfl))), List.forall_mem_cons.mpr ⟨List.mem_cons_of_mem _ (List.mem_append_left _ (List.mem_append_left _ (List.mem_of_getElem? (i := 3) rfl))), List.forall_mem_cons.mpr ⟨List.mem_cons_of_mem _ (List.mem_append_left _ (List.mem_append_left _ (List.mem_of_getElem? (i := 11) rfl))), List.forall_mem_cons.mpr ⟨List.mem_cons_of_mem _ (List.mem_append_left _ (List.mem_append_left _ (List.mem_of_getElem? (i := 12) rfl))), List.forall_mem_cons.mpr ⟨List.mem_cons_of_mem _ (List.mem_append_left _ (List.mem_append_left _ (List.mem_of_getElem? (i := 13) rfl))), List.forall_mem_cons.mpr ⟨List.mem_cons_of_mem _ (List.mem_append_left _ (List.mem_append_left _ (List.mem_of_getElem? (i := 14) rfl))), List.forall_mem_cons.mpr ⟨List.mem_cons_of_mem _ (List.mem_append_left _ (List.mem_append_left _ (List.mem_of_getElem? (i := 15) rfl))), List.forall_mem_cons.mpr ⟨List.mem_cons_of_mem _ (List.mem_append_left _ (List.mem_append_left _ (List.mem_of_getElem? (i := 16) rfl))), List.forall_mem_cons.mpr ⟨List.mem_cons_of_mem _ (List.mem_append_left _ (List.mem_append_left _ (List.mem_of_getElem? (i := 17) rfl))), List.forall_mem_cons.mpr ⟨List.mem_cons_of_mem _ (List.mem_append_left _ (List.mem_append_left _ (List.mem_of_getElem? (i := 18) rfl))), List.forall_mem_cons.mpr ⟨List.mem_cons_of_mem _ (List.mem_append_left _ (List.mem_append_left _ (List.mem_of_getElem? (i := 19) rfl))), List.forall_mem_cons.mpr ⟨List.mem_cons_of_mem _ (List.mem_append_left _ (List.mem_append_left _ (List.mem_of_getElem? (i := 20) rfl))), List.forall_mem_cons.mpr ⟨List.mem_cons_of_mem _ (List.mem_append_left _ (List.mem_append_left _ (List.mem_of_getElem? (i := 21) rfl))), List.forall_mem_cons.mpr ⟨List.mem_cons_of_mem _ (List.mem_append_left _ (List.mem_append_left _ (List.mem_of_getElem? (i := 22) rfl))), List.forall_mem_cons.mpr ⟨List.mem_cons_of_mem _ (List.mem_append_left _ (List.mem_append_left _ (List.mem_of_getElem? (i := 23) rfl))), List.forall_mem_cons.mpr ⟨List.mem_cons_of_mem _ (List.mem_append_left _ (List.mem_append_right _ (List.mem_of_getElem? (i := 0) rfl))), List.forall_mem_cons.mpr ⟨List.mem_cons_of_mem _ (List.mem_append_left _ (List.mem_append_right _ (List.mem_of_getElem? (i := 1) rfl))), nowords_in⟩⟩⟩⟩⟩⟩⟩⟩⟩⟩⟩⟩⟩⟩⟩⟩⟩⟩⟩⟩⟩⟩, (fun _ h => List.mem_cons_of_mem _ (List.mem_append_right _ (h)))⟩⟩)
set_option maxRecDepth 20000 in
theorem gX11_isRight_X11_tellOf : GoodIn wsX11_isRight (wsV RX11 307 RX11 yX11_tellOf wsX11_tellOf) := goodIn_app (goodIn_by gd_X11_isRight (List.forall_mem_cons.mpr ⟨List.mem_cons_of_mem _ (List.mem_append_left _ (List.mem_append_left _ (List.mem_of_getElem? (i := 0) rfl))), List.forall_mem_cons.mpr ⟨List.mem_cons_of_mem _ (List.mem_append_left _ (List.mem_append_left _ (List.mem_of_getElem? (i := 1) rfl))), List.forall_mem_cons.mpr ⟨List.mem_cons_of_mem _ (List.mem_append_left _ (List.mem_append_left _ (List.mem_of_getElem? (i := 2) rfl))), List.forall_mem_cons.mpr ⟨List.mem_cons_of_mem _ (List.mem_append_left _ (List.mem_append_left _ (List.mem_of_getElem? (i := 3) rfl))), nowords_in⟩⟩⟩⟩)) ggX11_isRight_X11_tellOf
set_option maxRecDepth 20000 in
theorem ggX11_isRight_X11_comesFor : GoodIn wsX11_isRight wsX11_comesFor := goodIn_by gd_X11_isRight (List.forall_mem_cons.mpr ⟨List.mem_cons_of_mem _ (List.mem_append_left _ (List.mem_append_right _ (List.mem_of_getElem? (i := 5) rfl))), List.forall_mem_append.mpr ⟨List.forall_mem_cons.mpr ⟨List.mem_cons_of_mem _ (List.mem_append_left _ (List.mem_append_left _ (List.mem_of_getElem? (i := 6) rfl))), List.forall_mem_cons.mpr ⟨List.mem_cons_of_mem _ (List.mem_append_left _ (List.mem_append_left _ (List.mem_of_getElem? (i := 12) rfl))), List.forall_mem_cons.mpr ⟨List.mem_cons_of_mem _ (List.mem_append_left _ (List.mem_append_left _ (List.mem_of_getElem? (i := 13) rfl))), List.forall_mem_cons.mpr ⟨List.mem_cons_of_mem _ (List.mem_append_left _ (List.mem_append_left _ (List.mem_of_getElem? (i := 3) rfl))), List.forall_mem_cons.mpr ⟨List.mem_cons_of_mem _ (List.mem_append_left _ (List.mem_append_left _ (List.mem_of_getElem? (i := 14) rfl))), nowords_in⟩⟩⟩⟩⟩, (fun _ h => List.mem_cons_of_mem _ (List.mem_append_right _ (h)))⟩⟩)
set_option maxRecDepth 20000 in
theorem gX11_isRight_X11_comesFor : GoodIn wsX11_isRight (wsV RX11 258 RX11 yX11_comesFor wsX11_comesFor) := goodIn_app (goodIn_by gd_X11_isRight (List.forall_mem_cons.mpr ⟨List.mem_cons_of_mem _ (List.mem_append_left _ (List.mem_append_right _ (List.mem_of_getElem? (i := 2) rfl))), List.forall_mem_cons.mpr ⟨List.mem_cons_of_mem _ (List.mem_append_left _ (List.mem_append_right _ (List.mem_of_getElem? (i := 3) rfl))), List.forall_mem_cons.mpr ⟨List.mem_cons_of_mem _ (List.mem_append_left _ (List.mem_append_right _ (List.mem_of_getElem? (i := 4) rfl))), List.forall_mem_cons.mpr ⟨List.mem_cons_of_mem _ (List.mem_append_left _ (List.mem_append_left _ (List.mem_of_getElem? (i := 3) rfl))), nowords_in⟩⟩⟩⟩)) ggX11_isRight_X11_comesFor
theorem dX11_isRight_0 : decode cX11_isRight 0 = .ok (.aload_n 0, 1) := by decide +kernel
theorem dX11_isRight_1 : decode cX11_isRight 1 = .ok (.iload_n 1, 1) := by decide +kernel
theorem dX11_isRight_2 : decode cX11_isRight 2 = .ok (.iload_n 2, 1) := by decide +kernel
theorem dX11_isRight_3 : decode cX11_isRight 3 = .ok (.invokevirtual 307, 3) := by decide +kernel
theorem dX11_isRight_6 : decode cX11_isRight 6 = .ok (.aload_n 0, 1) := by decide +kernel
theorem dX11_isRight_7 : decode cX11_isRight 7 = .ok (.iload_n 1, 1) := by decide +kernel
theorem dX11_isRight_8 : decode cX11_isRight 8 = .ok (.iload_n 2, 1) := by decide +kernel
theorem dX11_isRight_9 : decode cX11_isRight 9 = .ok (.invokevirtual 258, 3) := by decide +kernel
theorem dX11_isRight_12 : decode cX11_isRight 12 = .ok (.ifCond .eq 7, 3) := by decide +kernel
theorem dX11_isRight_15 : decode cX11_isRight 15 = .ok (.iconst 1, 1) := by decide +kernel
theorem dX11_isRight_16 : decode cX11_isRight 16 = .ok (.goto 4, 3) := by decide +kernel
theorem dX11_isRight_19 : decode cX11_isRight 19 = .ok (.iconst 0, 1) := by decide +kernel
theorem dX11_isRight_20 : decode cX11_isRight 20 = .ok (.if_icmp .ne 7, 3) := by decide +kernel
theorem dX11_isRight_23 : decode cX11_isRight 23 = .ok (.iconst 1, 1) := by decide +kernel
theorem dX11_isRight_24 : decode cX11_isRight 24 = .ok (.goto 4, 3) := by decide +kernel
theorem dX11_isRight_27 : decode cX11_isRight 27 = .ok (.iconst 0, 1) := by decide +kernel
theorem dX11_isRight_28 : decode cX11_isRight 28 = .ok (.ireturn, 1) := by decide +kernel
abbrev rmX11_isRight : Room := { frames := 3, cells := 0, slots := 0, locals := 66 }
set_option maxHeartbeats 4000000 in
set_option maxRecDepth 100000 in
theorem kX11_isRight (l : Launch) (D : va_G) (cy : Nat → ClassId) (h0 : Nat) (a0 : Nat → Nat) (s0 : Rc) (p1 : Int32) (p2 : Int32) (res : Int32) (h : fX11_isRight p1 p2 s0 = some res) : CZ l D cy yX11_isRight wsX11_isRight rmX11_isRight [.ref h0, .int p1, .int p2] (flat [WX11 cy h0 a0 s0]) (flat [WX11 cy h0 a0 s0]) res := by
  refine CZ.of (cc := cX11_isRight) (maxL := 3) (by decide) rfl (Nat.le_of_ble_eq_true rfl) ?_
  intro p e s m args below meth c A QQ ls E hr
  obtain ⟨hx, hb, hml, hown, hts, hK, hN, hP, hD, hA, hl⟩ := E
  have hret : ∀ (pc : Nat) (H : Heap) (locs : List Loc) (ls : Array Slot) (u : Int32), u = res → va_P D vwCl (flat [WX11 cy h0 a0 s0]) H → va_D A (flat [WX11 cy h0 a0 s0]) → va_S A s.heap H locs → isb u = true → decode cX11_isRight pc = .ok (.ireturn, 1) → W p l e rmX11_isRight s m args below meth c H locs 0 0 QQ (F0 m pc ls [.int u]) := by
    intro pc H locs ls u hu hP hD hS hz hd; subst hu; exact hr pc H locs ls _ rfl hP hD hS hz hd
  clear hr
  have hl : lv_has ls 3 [(0, .ref h0), (1, .int p1), (2, .int p2)] := hl
  unfold fX11_isRight at h
  suffices key : ∀ (H : Heap) (locs : List Loc), va_P D vwCl (flat [WX11 cy h0 a0 s0]) H → va_S A s.heap H locs → W p l e rmX11_isRight s m args below meth c H locs 0 0 QQ (F0 m 0 ls []) from key _ _ hP va_S.rf
  clear hP
  intro H locs hP hS
  have J20 : ∀ (z20_0 : Int32) (z20_1 : Int32) (H : Heap) (locs : List Loc) (ls : Array Slot), lv_has ls 3 [] → va_P D vwCl (flat [WX11 cy h0 a0 s0]) H → va_D A (flat [WX11 cy h0 a0 s0]) → va_S A s.heap H locs → fX11_isRight_J20 z20_0 z20_1 = some res → W p l e rmX11_isRight s m args below meth c H locs 0 0 QQ (F0 m 20 ls [.int z20_0, .int z20_1]) := by
    intro z20_0 z20_1 H locs ls hl hP hD hS h
    unfold fX11_isRight_J20 at h
    refine lv_icmp_ne (tgt := 27) hx hb dX11_isRight_20 (by decide) (fun c1 => ?_) (fun c1 => ?_)
    · replace h := (if_neg c1).symm.trans h
      refine lv_iconst (v := 0) hx hb dX11_isRight_27 (by decide) ?_
      exact hret 28 H locs ls (0 : Int32) (Option.some.inj h) hP hD hS (show isb (0 : Int32) = true by decide) dX11_isRight_28
    · replace h := (if_pos c1).symm.trans h
      refine lv_iconst (v := 1) hx hb dX11_isRight_23 (by decide) ?_
      refine lv_goto (tgt := 28) hx hb dX11_isRight_24 (by decide) ?_
      exact hret 28 H locs ls (1 : Int32) (Option.some.inj h) hP hD hS (show isb (1 : Int32) = true by decide) dX11_isRight_28
  refine lv_aload_n hx hb dX11_isRight_0 rfl (lv_at hl 0 rfl) ?_
  refine lv_iload_n hx hb dX11_isRight_1 rfl (lv_at hl 1 rfl) ?_
  refine lv_iload_n hx hb dX11_isRight_2 rfl (lv_at hl 2 rfl) ?_
  obtain ⟨r2, hr2, h⟩ := bd_elim h
  refine ca_i (w' := [WX11 cy h0 a0 s0]) (rn_V (As := [.int p1, .int p2]) (rest := []) ⟨hx, hb, hml, hown, hts⟩ (kX11_tellOf l D cy h0 a0 s0 p1 p2 r2 hr2 H.size) (cwV 2 hts gX11_isRight_X11_tellOf rfl rfl rfl (by decide +kernel) ⟨Nat.le_of_ble_eq_true rfl, Nat.le_of_ble_eq_true rfl⟩) hK hN hP hD [0] rfl rfl (ci := 11) (q0 := 0) rfl rfl rfl rfl hl.1 rfl (Nat.le_of_ble_eq_true rfl) dX11_isRight_3 ⟨Nat.le_refl 0, Nat.le_refl 0⟩) hP hD hS hA [0] ⟨rfl, rfl, rfl, rfl⟩ (fun H locs hP hD hS => ?_)
  refine lv_aload_n hx hb dX11_isRight_6 rfl (lv_at hl 0 rfl) ?_
  refine lv_iload_n hx hb dX11_isRight_7 rfl (lv_at hl 1 rfl) ?_
  refine lv_iload_n hx hb dX11_isRight_8 rfl (lv_at hl 2 rfl) ?_
  obtain ⟨r3, hr3, h⟩ := bd_elim h
  refine ca_z (w' := [WX11 cy h0 a0 s0]) (rn_V (As := [.int p1, .int p2]) (rest := [.int r2]) ⟨hx, hb, hml, hown, hts⟩ (kX11_comesFor l D cy h0 a0 s0 p1 p2 r3 hr3 H.size) (cwV 2 hts gX11_isRight_X11_comesFor rfl rfl rfl (by decide +kernel) ⟨Nat.le_of_ble_eq_true rfl, Nat.le_of_ble_eq_true rfl⟩) hK hN hP hD [0] rfl rfl (ci := 11) (q0 := 0) rfl rfl rfl rfl hl.1 rfl (Nat.le_of_ble_eq_true rfl) dX11_isRight_9 ⟨Nat.le_refl 0, Nat.le_refl 0⟩) hP hD hS hA [0] ⟨rfl, rfl, rfl, rfl⟩ (fun b4 H locs hP hD hS => ?_)
  refine lv_if_eq (tgt := 19) hx hb dX11_isRight_12 (by decide) (fun c5 => ?_) (fun c5 => ?_)
  · replace h := (if_pos c5).symm.trans h
    refine lv_iconst (v := 0) hx hb dX11_isRight_19 (by decide) ?_
    exact J20 (0 : Int32) r2 H locs ls (lv_sub hl [] rfl) hP hD hS h
  · replace h := (if_neg c5).symm.trans h
    refine lv_iconst (v := 1) hx hb dX11_isRight_15 (by decide) ?_
    refine lv_goto (tgt := 20) hx hb dX11_isRight_16 (by decide) ?_
    exact J20 (1 : Int32) r2 H locs ls (lv_sub hl [] rfl) hP hD hS h
theorem gd_X11_learns : wsX11_learns.all goodWord = true := by decide +kernel
set_option maxRecDepth 20000 in
theorem ggX11_learns_X11_tellOf : GoodIn wsX11_learns wsX11_tellOf := goodIn_by gd_X11_learns (List.forall_mem_cons.mpr ⟨List.mem_cons_of_mem _ (List.mem_append_left _ (List.mem_append_left _ (List.mem_of_getElem? (i := 9) rfl))), List.forall_mem_append.mpr ⟨List.forall_mem_cons.mpr ⟨List.mem_cons_of_mem _ (List.mem_append_left _ (List.mem_append_left _ (List.mem_of_getElem? (i := 10) rfl))), List.forall_mem_cons.mpr ⟨List.mem_cons_of_mem _ (List.mem_append_left _ (List.mem_append_left _ (List.mem_of_getElem? (i := 0) rfl))), List.forall_mem_cons.mpr ⟨List.mem_cons_of_mem _ (List.mem_append_left _ (List.mem_append_left _ (List.mem_of_getElem? (i := 11) rfl))), List.forall_mem_cons.mpr ⟨List.mem_cons_of_mem _ (List.mem_append_left _ (List.mem_append_left _ (List.mem_of_getElem? (i := 12) rfl))), List.forall_mem_cons.mpr ⟨List.mem_cons_of_mem _ (List.mem_append_left _ (List.mem_append_left _ (List.mem_of_getElem? (i := 13) rfl))), List.forall_mem_cons.mpr ⟨List.mem_cons_of_mem _ (List.mem_append_left _ (List.mem_append_left _ (List.mem_of_getElem? (i := 14) rfl))), List.forall_mem_cons.mpr ⟨List.mem_cons_of_mem _ (List.mem_append_left _ (List.mem_append_left _ (List.mem_of_getElem? (i := 8) rfl))), List.forall_mem_cons.mpr ⟨List.mem_cons_of_mem _ (List.mem_append_left _ (List.mem_append_left _ (List.mem_of_getElem? (i := 15) rfl))), List.forall_mem_cons.mpr ⟨List.mem_cons_of_mem _ (List.mem_append_left _ (List.mem_append_left _ (List.mem_of_getElem? (i := 16) rfl))), List.forall_mem_cons.mpr ⟨List.mem_cons_of_mem _ (List.mem_append_left _ (List.mem_append_left _ (List.mem_of_getElem? (i := 17) rfl))), List.forall_mem_cons.mpr ⟨List.mem_cons_of_mem _ (List.mem_append_left _ (List.mem_append_left _ (List.mem_of_getElem? (i := 18) rfl))), List.forall_mem_cons.mpr ⟨List.mem_cons_of_mem _ (List.mem_append_left _ (List.mem_append_left _ (List.mem_of_getElem? (i := 19) rfl))), List.forall_mem_cons.mpr ⟨List.mem_cons_of_mem _ (List.mem_append_left _ (List.mem_append_left _ (List.mem_of_getElem? (i := 20) rfl))), List.forall_mem_cons.mpr ⟨List.mem_cons_of_mem _ (List.mem_append_left _ (List.mem_append_left _ (List.mem_of_getElem? (i := 21) rfl))), List.forall_mem_cons.mpr ⟨List.mem_cons_of_mem _ (List.mem_append_left _ (List.mem_append_left _ (List.mem_of_getElem? (i := 22) rfl))), List.forall_mem_cons.mpr ⟨List.mem_cons_of_mem _ (List.mem_append_left _ (List.mem_append_left _ (List.mem_of_getElem? (i := 23) rfl))), List.forall_mem_cons.mpr ⟨List.mem_cons_of_mem _ (List.mem_append_left _ (List.mem_append_right _ (List.mem_of_getElem? (i := 0) rfl))), List.forall_mem_cons.mpr ⟨List.mem_cons_of_mem _ (List.mem_append_left _ (List.mem_append_right _ (List.mem_of_getElem? (i := 1) rfl))), List.forall_mem_cons.mpr ⟨List.mem_cons_of_mem _ (List.mem_append_left _ (List.mem_append_right _ (List.mem_of_getElem? (i := 2) rfl))), List.forall_mem_cons.mpr ⟨List.mem_cons_of_mem _ (List.mem_append_left _ (List.mem_append_right _ (List.mem_of_getElem? (i := 3) rfl))), List.forall_mem_cons.mpr ⟨List.mem_cons_of_mem _ (List.mem_append_left _ (List.mem_append_right _ (List.mem_of_getElem? (i := 4) rfl))), List.forall_mem_cons.mpr ⟨List.mem_cons_of_mem _ (List.mem_append_left _ (List.mem_append_right _ (List.mem_of_getElem? (i := 5) rfl))), nowords_in⟩⟩⟩⟩⟩⟩⟩⟩⟩⟩⟩⟩⟩⟩⟩⟩⟩⟩⟩⟩⟩⟩, (fun _ h => List.mem_cons_of_mem _ (List.mem_append_right _ (h)))⟩⟩)
set_option maxRecDepth 20000 in
theorem gX11_learns_X11_tellOf : GoodIn wsX11_learns (wsV RX11 307 RX11 yX11_tellOf wsX11_tellOf) := goodIn_app (goodIn_by gd_X11_learns (List.forall_mem_cons.mpr ⟨List.mem_cons_of_mem _ (List.mem_append_left _ (List.mem_append_left _ (List.mem_of_getElem? (i := 5) rfl))), List.forall_mem_cons.mpr ⟨List.mem_cons_of_mem _ (List.mem_append_left _ (List.mem_append_left _ (List.mem_of_getElem? (i := 6) rfl))), List.forall_mem_cons.mpr ⟨List.mem_cons_of_mem _ (List.mem_append_left _ (List.mem_append_left _ (List.mem_of_getElem? (i := 7) rfl))), List.forall_mem_cons.mpr ⟨List.mem_cons_of_mem _ (List.mem_append_left _ (List.mem_append_left _ (List.mem_of_getElem? (i := 8) rfl))), nowords_in⟩⟩⟩⟩)) ggX11_learns_X11_tellOf
set_option maxRecDepth 20000 in
theorem ggX11_learns_X11_isRight : GoodIn wsX11_learns wsX11_isRight := goodIn_by gd_X11_learns (List.forall_mem_cons.mpr ⟨List.mem_cons_of_mem _ (List.mem_append_left _ (List.mem_append_right _ (List.mem_of_getElem? (i := 9) rfl))), List.forall_mem_append.mpr ⟨List.forall_mem_append.mpr ⟨List.forall_mem_cons.mpr ⟨List.mem_cons_of_mem _ (List.mem_append_left _ (List.mem_append_left _ (List.mem_of_getElem? (i := 5) rfl))), List.forall_mem_cons.mpr ⟨List.mem_cons_of_mem _ (List.mem_append_left _ (List.mem_append_left _ (List.mem_of_getElem? (i := 6) rfl))), List.forall_mem_cons.mpr ⟨List.mem_cons_of_mem _ (List.mem_append_left _ (List.mem_append_left _ (List.mem_of_getElem? (i := 7) rfl))), List.forall_mem_cons.mpr ⟨List.mem_cons_of_mem _ (List.mem_append_left _ (List.mem_append_left _ (List.mem_of_getElem? (i := 8) rfl))), List.forall_mem_cons.mpr ⟨List.mem_cons_of_mem _ (List.mem_append_left _ (List.mem_append_left _ (List.mem_of_getElem? (i := 9) rfl))), List.forall_mem_cons.mpr ⟨List.mem_cons_of_mem _ (List.mem_append_left _ (List.mem_append_left _ (List.mem_of_getElem? (i := 10) rfl))), List.forall_mem_cons.mpr ⟨List.mem_cons_of_mem _ (List.mem_append_left _ (List.mem_append_left _ (List.mem_of_getElem? (i := 0) rfl))), List.forall_mem_cons.mpr ⟨List.mem_cons_of_mem _ (List.mem_append_left _ (List.mem_append_left _ (List.mem_of_getElem? (i := 11) rfl))), List.forall_mem_cons.mpr ⟨List.mem_cons_of_mem _ (List.mem_append_left _ (List.mem_append_left _ (List.mem_of_getElem? (i := 12) rfl))), List.forall_mem_cons.mpr ⟨List.mem_cons_of_mem _ (List.mem_append_left _ (List.mem_append_left _ (List.mem_of_getElem? (i := 13) rfl))), List.forall_mem_cons.mpr ⟨List.mem_cons_of_mem _ (List.mem_append_left _ (List.mem_append_left _ (List.mem_of_getElem? (i := 14) rfl))), List.forall_mem_cons.mpr ⟨List.mem_cons_of_mem _ (List.mem_append_left _ (List.mem_append_left _ (List.mem_of_getElem? (i := 15) rfl))), List.forall_mem_cons.mpr ⟨List.mem_cons_of_mem _ (List.mem_append_left _ (List.mem_append_left _ (List.mem_of_getElem? (i := 16) rfl))), List.forall_mem_cons.mpr ⟨List.mem_cons_of_mem _ (List.mem_append_left _ (List.mem_append_left _ (List.mem_of_getElem? (i := 17) rfl))), List.forall_mem_cons.mpr ⟨List.mem_cons_of_mem _ (List.mem_append_left _ (List.mem_append_left _ (List.mem_of_getElem? (i := 18) rfl))), List.forall_mem_cons.mpr ⟨List.mem_cons_of_mem _ (List.mem_append_left _ (List.mem_append_left _ (List.mem_of_getElem? (i := 19) rfl))), List.forall_mem_cons.mpr ⟨List.mem_cons_of_mem _ (List.mem_append_left _ (List.mem_append_left _ (List.mem_of_getElem? (i := 20) rfl))), List.forall_mem_cons.mpr ⟨List.mem_cons_of_mem _ (List.mem_append_left _ (List.mem_append_left _ (List.mem_of_getElem? (i := 21) rfl))), List.forall_mem_cons.mpr ⟨List.mem_cons_of_mem _ (List.mem_append_left _ (List.mem_append_left _ (List.mem_of_getElem? (i := 22) rfl))), List.forall_mem_cons.mpr ⟨List.mem_cons_of_mem _ (List.mem_append_left _ (List.mem_append_left _ (List.mem_of_getElem? (i := 23) rfl))), List.forall_mem_cons.mpr ⟨List.mem_cons_of_mem _ (List.mem_append_left _ (List.mem_append_right _ (List.mem_of_getElem? (i := 0) rfl))), List.forall_mem_cons.mpr ⟨List.mem_cons_of_mem _ (List.mem_append_left _ (List.mem_append_right _ (List.mem_of_getElem? (i := 1) rfl))), List.forall_mem_cons.mpr ⟨List.mem_cons_of_mem _ (List.mem_append_left _ (List.mem_append_right _ (List.mem_of_getElem? (i := 2) rfl))), List.forall_mem_cons.mpr ⟨List.mem_cons_of_mem _ (List.mem_append_left _ (List.mem_append_right _ (List.mem_of_getElem? (i := 3) rfl))), nowords_in⟩⟩⟩⟩⟩⟩⟩⟩⟩⟩⟩⟩⟩⟩⟩⟩⟩⟩⟩⟩⟩⟩⟩⟩, List.forall_mem_cons.mpr ⟨List.mem_cons_of_mem _ (List.mem_append_left _ (List.mem_append_right _ (List.mem_of_getElem? (i := 4) rfl))), List.forall_mem_cons.mpr ⟨List.mem_cons_of_mem _ (List.mem_append_left _ (List.mem_append_right _ (List.mem_of_getElem? (i := 5) rfl))), List.forall_mem_cons.mpr ⟨List.mem_cons_of_mem _ (List.mem_append_left _ (List.mem_append_right _ (List.mem_of_getElem? (i := 10) rfl))), List.forall_mem_cons.mpr ⟨List.mem_cons_of_mem _ (List.mem_append_left _ (List.mem_append_right _ (List.mem_of_getElem? (i := 11) rfl))), List.forall_mem_cons.mpr ⟨List.mem_cons_of_mem _ (List.mem_append_left _ (List.mem_append_right _ (List.mem_of_getElem? (i := 12) rfl))), List.forall_mem_cons.mpr ⟨List.mem_cons_of_mem _ (List.mem_append_left _ (List.mem_append_right _ (List.mem_of_getElem? (i := 13) rfl))), nowords_in⟩⟩⟩⟩⟩⟩⟩, (fun _ h => List.mem_cons_of_mem _ (List.mem_append_right _ (h)))⟩⟩)
set_option maxRecDepth 20000 in
theorem gX11_learns_X11_isRight : GoodIn wsX11_learns (wsV RX11 325 RX11 yX11_isRight wsX11_isRight) := goodIn_app (goodIn_by gd_X11_learns (List.forall_mem_cons.mpr ⟨List.mem_cons_of_mem _ (List.mem_append_left _ (List.mem_append_right _ (List.mem_of_getElem? (i := 6) rfl))), List.forall_mem_cons.mpr ⟨List.mem_cons_of_mem _ (List.mem_append_left _ (List.mem_append_right _ (List.mem_of_getElem? (i := 7) rfl))), List.forall_mem_cons.mpr ⟨List.mem_cons_of_mem _ (List.mem_append_left _ (List.mem_append_right _ (List.mem_of_getElem? (i := 8) rfl))), List.forall_mem_cons.mpr ⟨List.mem_cons_of_mem _ (List.mem_append_left _ (List.mem_append_left _ (List.mem_of_getElem? (i := 8) rfl))), nowords_in⟩⟩⟩⟩)) ggX11_learns_X11_isRight
set_option maxRecDepth 20000 in
theorem ggX11_learns_X11_farmerRow : GoodIn wsX11_learns wsX11_farmerRow := goodIn_by gd_X11_learns (List.forall_mem_cons.mpr ⟨List.mem_cons_of_mem _ (List.mem_append_left _ (List.mem_append_left _ (List.mem_of_getElem? (i := 18) rfl))), nowords_in⟩)
set_option maxRecDepth 20000 in
theorem gX11_learns_X11_farmerRow : GoodIn wsX11_learns (va_wsS RX11 177 yX11_farmerRow wsX11_farmerRow) := goodIn_app (goodIn_by gd_X11_learns (List.forall_mem_cons.mpr ⟨List.mem_cons_of_mem _ (List.mem_append_left _ (List.mem_append_left _ (List.mem_of_getElem? (i := 16) rfl))), List.forall_mem_cons.mpr ⟨List.mem_cons_of_mem _ (List.mem_append_left _ (List.mem_append_left _ (List.mem_of_getElem? (i := 17) rfl))), List.forall_mem_cons.mpr ⟨List.mem_cons_of_mem _ (List.mem_append_left _ (List.mem_append_left _ (List.mem_of_getElem? (i := 8) rfl))), nowords_in⟩⟩⟩)) ggX11_learns_X11_farmerRow
theorem dX11_learns_0 : decode cX11_learns 0 = .ok (.iconst 0, 1) := by decide +kernel
theorem dX11_learns_1 : decode cX11_learns 1 = .ok (.istore_n 2, 1) := by decide +kernel
theorem dX11_learns_2 : decode cX11_learns 2 = .ok (.iconst 0, 1) := by decide +kernel
theorem dX11_learns_3 : decode cX11_learns 3 = .ok (.istore_n 3, 1) := by decide +kernel
theorem dX11_learns_4 : decode cX11_learns 4 = .ok (.iload_n 3, 1) := by decide +kernel
theorem dX11_learns_5 : decode cX11_learns 5 = .ok (.aload_n 0, 1) := by decide +kernel
theorem dX11_learns_6 : decode cX11_learns 6 = .ok (.getfield 7, 3) := by decide +kernel
theorem dX11_learns_9 : decode cX11_learns 9 = .ok (.iconst 0, 1) := by decide +kernel
theorem dX11_learns_10 : decode cX11_learns 10 = .ok (.iaload, 1) := by decide +kernel
theorem dX11_learns_11 : decode cX11_learns 11 = .ok (.if_icmp .ge 63, 3) := by decide +kernel
theorem dX11_learns_14 : decode cX11_learns 14 = .ok (.aload_n 0, 1) := by decide +kernel
theorem dX11_learns_15 : decode cX11_learns 15 = .ok (.iload_n 3, 1) := by decide +kernel
theorem dX11_learns_16 : decode cX11_learns 16 = .ok (.iload_n 1, 1) := by decide +kernel
theorem dX11_learns_17 : decode cX11_learns 17 = .ok (.invokevirtual 307, 3) := by decide +kernel
theorem dX11_learns_20 : decode cX11_learns 20 = .ok (.iconst (-1), 1) := by decide +kernel
theorem dX11_learns_21 : decode cX11_learns 21 = .ok (.if_icmp .eq 47, 3) := by decide +kernel
theorem dX11_learns_24 : decode cX11_learns 24 = .ok (.aload_n 0, 1) := by decide +kernel
theorem dX11_learns_25 : decode cX11_learns 25 = .ok (.iload_n 3, 1) := by decide +kernel
theorem dX11_learns_26 : decode cX11_learns 26 = .ok (.iload_n 1, 1) := by decide +kernel
theorem dX11_learns_27 : decode cX11_learns 27 = .ok (.invokevirtual 325, 3) := by decide +kernel
theorem dX11_learns_30 : decode cX11_learns 30 = .ok (.ifCond .eq 6, 3) := by decide +kernel
theorem dX11_learns_33 : decode cX11_learns 33 = .ok (.goto 35, 3) := by decide +kernel
theorem dX11_learns_36 : decode cX11_learns 36 = .ok (.iconst 0, 1) := by decide +kernel
theorem dX11_learns_37 : decode cX11_learns 37 = .ok (.iload_n 3, 1) := by decide +kernel
theorem dX11_learns_38 : decode cX11_learns 38 = .ok (.invokestatic 177, 3) := by decide +kernel
theorem dX11_learns_41 : decode cX11_learns 41 = .ok (.iconst 5, 1) := by decide +kernel
theorem dX11_learns_42 : decode cX11_learns 42 = .ok (.iadd, 1) := by decide +kernel
theorem dX11_learns_43 : decode cX11_learns 43 = .ok (.istore 4, 2) := by decide +kernel
theorem dX11_learns_45 : decode cX11_learns 45 = .ok (.aload_n 0, 1) := by decide +kernel
theorem dX11_learns_46 : decode cX11_learns 46 = .ok (.getfield 7, 3) := by decide +kernel
theorem dX11_learns_49 : decode cX11_learns 49 = .ok (.iload 4, 2) := by decide +kernel
theorem dX11_learns_51 : decode cX11_learns 51 = .ok (.iconst 1, 1) := by decide +kernel
theorem dX11_learns_52 : decode cX11_learns 52 = .ok (.aload_n 0, 1) := by decide +kernel
theorem dX11_learns_53 : decode cX11_learns 53 = .ok (.getfield 7, 3) := by decide +kernel
theorem dX11_learns_56 : decode cX11_learns 56 = .ok (.iload 4, 2) := by decide +kernel
theorem dX11_learns_58 : decode cX11_learns 58 = .ok (.iaload, 1) := by decide +kernel
theorem dX11_learns_59 : decode cX11_learns 59 = .ok (.iconst 2, 1) := by decide +kernel
theorem dX11_learns_60 : decode cX11_learns 60 = .ok (.idiv, 1) := by decide +kernel
theorem dX11_learns_61 : decode cX11_learns 61 = .ok (.invokestatic 341, 3) := by decide +kernel
theorem dX11_learns_64 : decode cX11_learns 64 = .ok (.iastore, 1) := by decide +kernel
theorem dX11_learns_65 : decode cX11_learns 65 = .ok (.iinc 2 1, 3) := by decide +kernel
theorem dX11_learns_68 : decode cX11_learns 68 = .ok (.iinc 3 1, 3) := by decide +kernel
theorem dX11_learns_71 : decode cX11_learns 71 = .ok (.goto (-67), 3) := by decide +kernel
theorem dX11_learns_74 : decode cX11_learns 74 = .ok (.iload_n 2, 1) := by decide +kernel
theorem dX11_learns_75 : decode cX11_learns 75 = .ok (.ireturn, 1) := by decide +kernel
abbrev rmX11_learns : Room := { frames := 4, cells := 0, slots := 0, locals := 88 }
set_option maxHeartbeats 4000000 in
set_option maxRecDepth 100000 in
theorem kX11_learns (l : Launch) (D : va_G) (cy : Nat → ClassId) (h0 : Nat) (a0 : Nat → Nat) (s0 : Rc) (p1 : Int32) (res : Int32 × Rc) (h : fX11_learns p1 s0 = some res) : CI l D cy yX11_learns wsX11_learns rmX11_learns [.ref h0, .int p1] (flat [WX11 cy h0 a0 s0]) (flat [WX11 cy h0 a0 res.2]) res.1 := by
  refine CI.of (cc := cX11_learns) (maxL := 5) (by decide) rfl (Nat.le_of_ble_eq_true rfl) ?_
  intro p e s m args below meth c A QQ ls E hr
  obtain ⟨hx, hb, hml, hown, hts, hK, hN, hP, hD, hA, hl⟩ := E
  have hret : ∀ (pc : Nat) (H : Heap) (locs : List Loc) (ls : Array Slot) (u : Int32 × Rc), u = res → va_P D vwCl (flat [WX11 cy h0 a0 u.2]) H → va_D A (flat [WX11 cy h0 a0 u.2]) → va_S A s.heap H locs → decode cX11_learns pc = .ok (.ireturn, 1) → W p l e rmX11_learns s m args below meth c H locs 0 0 QQ (F0 m pc ls [.int u.1]) := by
    intro pc H locs ls u hu hP hD hS hd; subst hu; exact hr pc H locs ls _ rfl hP hD hS hd
  clear hr
  have hl : lv_has ls 5 [(0, .ref h0), (1, .int p1)] := hl
  have hinX11 : ∀ w ∈ wsX110, w ∈ wsX11_learns := fun _ h => List.mem_cons_of_mem _ (List.mem_append_right _ h)
  unfold fX11_learns at h
  suffices key : ∀ (H : Heap) (locs : List Loc), va_P D vwCl (flat [WX11 cy h0 a0 s0]) H → va_S A s.heap H locs → W p l e rmX11_learns s m args below meth c H locs 0 0 QQ (F0 m 0 ls []) from key _ _ hP va_S.rf
  clear hP
  intro H locs hP hS
  refine lv_iconst (v := 0) hx hb dX11_learns_0 (by decide) ?_
  refine lv_istore_n (lv' := [(2, .int (0 : Int32)), (0, .ref h0), (1, .int p1)]) hx hb dX11_learns_1 rfl hl (by decide) rfl (fun ls hl => ?_)
  refine lv_iconst (v := 0) hx hb dX11_learns_2 (by decide) ?_
  refine lv_istore_n (lv' := [(3, .int (0 : Int32)), (2, .int (0 : Int32)), (0, .ref h0), (1, .int p1)]) hx hb dX11_learns_3 rfl hl (by decide) rfl (fun ls hl => ?_)
  have L4 : ∀ (n : Nat) (q4 : Int32 × Int32 × Rc) (o : Int32 × Rc), loopO (fX11_learns_L4 p1) n q4 = some o → ∀ (H : Heap) (locs : List Loc) (ls : Array Slot), lv_has ls 5 [(0, .ref h0), (1, .int p1), (2, .int q4.1), (3, .int q4.2.1)] → va_P D vwCl (flat [WX11 cy h0 a0 q4.2.2]) H → va_D A (flat [WX11 cy h0 a0 q4.2.2]) → va_S A s.heap H locs → ∀ (kk74 : ∀ (H : Heap) (locs : List Loc) (ls : Array Slot), lv_has ls 5 [(2, .int o.1)] → va_P D vwCl (flat [WX11 cy h0 a0 o.2]) H → va_D A (flat [WX11 cy h0 a0 o.2]) → va_S A s.heap H locs → W p l e rmX11_learns s m args below meth c H locs 0 0 QQ (F0 m 74 ls [])), W p l e rmX11_learns s m args below meth c H locs 0 0 QQ (F0 m 4 ls []) := by
    intro n
    induction n with
    | zero => intro q4 o h; exact absurd h (by rw [loopO_zero]; intro z; cases z)
    | succ n ih =>
      intro q4 o h H locs ls hl hP hD hS kk74
      obtain ⟨w, h, hgo, hst⟩ := loopO_elim h
      unfold fX11_learns_L4 at h
      refine lv_iload_n hx hb dX11_learns_4 rfl (lv_at hl 3 rfl) ?_
      refine lv_aload_n hx hb dX11_learns_5 rfl (lv_at hl 0 rfl) ?_
      refine va_get (D := D) (ci := 11) (v := .ref (a0 0)) (C := RX11) (T := TX11) (N := 38) hx hb hts hinX11 hown hK hP 0 rfl rfl 0 (by decide) (hts (.fieldLink RX11 7 "KneeBenchModel" "at" "[I") (List.mem_of_getElem? (i := 1) rfl)) (fun _ h9 => h9) rfl dX11_learns_6 ?_
      refine lv_iconst (v := 0) hx hb dX11_learns_9 (by decide) ?_
      refine va_iald hx hb hK hP 1 1 rfl rfl (inb_in (by decide)) dX11_learns_10 ?_
      refine lv_icmp_ge (tgt := 74) hx hb dX11_learns_11 (by decide) (fun c1 => ?_) (fun c1 => ?_)
      · replace h := (if_pos c1).symm.trans h
        have eo := hst _ (Option.some.inj h).symm
        subst eo
        exact kk74 H locs ls (lv_sub hl [2] rfl) hP hD hS
      · replace h := (if_neg c1).symm.trans h
        refine lv_aload_n hx hb dX11_learns_14 rfl (lv_at hl 0 rfl) ?_
        refine lv_iload_n hx hb dX11_learns_15 rfl (lv_at hl 3 rfl) ?_
        refine lv_iload_n hx hb dX11_learns_16 rfl (lv_at hl 1 rfl) ?_
        obtain ⟨r2, hr2, h⟩ := bd_elim h
        refine ca_i (w' := [WX11 cy h0 a0 q4.2.2]) (rn_V (As := [.int q4.2.1, .int p1]) (rest := []) ⟨hx, hb, hml, hown, hts⟩ (kX11_tellOf l D cy h0 a0 q4.2.2 q4.2.1 p1 r2 hr2 H.size) (cwV 2 hts gX11_learns_X11_tellOf rfl rfl rfl (by decide +kernel) ⟨Nat.le_of_ble_eq_true rfl, Nat.le_of_ble_eq_true rfl⟩) hK hN hP hD [0] rfl rfl (ci := 11) (q0 := 0) rfl rfl rfl rfl hl.1 rfl (Nat.le_of_ble_eq_true rfl) dX11_learns_17 ⟨Nat.le_refl 0, Nat.le_refl 0⟩) hP hD hS hA [0] ⟨rfl, rfl, rfl, rfl⟩ (fun H locs hP hD hS => ?_)
        refine lv_iconst (v := -1) hx hb dX11_learns_20 (by decide) ?_
        refine lv_icmp_eq (tgt := 68) hx hb dX11_learns_21 (by decide) (fun c3 => ?_) (fun c3 => ?_)
        · replace h := (if_pos c3).symm.trans h
          refine lv_iinc (v := (q4.2.1 + (1 : Int32))) (lv' := [(3, .int (q4.2.1 + (1 : Int32))), (0, .ref h0), (1, .int p1), (2, .int q4.1)]) hx hb dX11_learns_68 hl (k := 3) rfl rfl (by decide) rfl (fun ls hl => ?_)
          refine lv_goto (tgt := 4) hx hb dX11_learns_71 (by decide) ?_
          exact ih _ o (hgo _ (Option.some.inj h).symm) H locs ls (lv_sub hl [1, 2, 3, 0] rfl) hP hD hS kk74
        · replace h := (if_neg c3).symm.trans h
          refine lv_aload_n hx hb dX11_learns_24 rfl (lv_at hl 0 rfl) ?_
          refine lv_iload_n hx hb dX11_learns_25 rfl (lv_at hl 3 rfl) ?_
          refine lv_iload_n hx hb dX11_learns_26 rfl (lv_at hl 1 rfl) ?_
          obtain ⟨r4, hr4, h⟩ := bd_elim h
          refine ca_z (w' := [WX11 cy h0 a0 q4.2.2]) (rn_V (As := [.int q4.2.1, .int p1]) (rest := []) ⟨hx, hb, hml, hown, hts⟩ (kX11_isRight l D cy h0 a0 q4.2.2 q4.2.1 p1 r4 hr4 H.size) (cwV 2 hts gX11_learns_X11_isRight rfl rfl rfl (by decide +kernel) ⟨Nat.le_of_ble_eq_true rfl, Nat.le_of_ble_eq_true rfl⟩) hK hN hP hD [0] rfl rfl (ci := 11) (q0 := 0) rfl rfl rfl rfl hl.1 rfl (Nat.le_of_ble_eq_true rfl) dX11_learns_27 ⟨Nat.le_refl 0, Nat.le_refl 0⟩) hP hD hS hA [0] ⟨rfl, rfl, rfl, rfl⟩ (fun b5 H locs hP hD hS => ?_)
          refine lv_if_eq (tgt := 36) hx hb dX11_learns_30 (by decide) (fun c6 => ?_) (fun c6 => ?_)
          · replace h := (if_pos c6).symm.trans h
            refine lv_iconst (v := 0) hx hb dX11_learns_36 (by decide) ?_
            refine lv_iload_n hx hb dX11_learns_37 rfl (lv_at hl 3 rfl) ?_
            refine ca_i (w' := [WX11 cy h0 a0 q4.2.2]) (rn_S (As := [.int (0 : Int32), .int q4.2.1]) (rest := []) ⟨hx, hb, hml, hown, hts⟩ (kX11_farmerRow l D cy (0 : Int32) q4.2.1 _ rfl H.size) (va_cwS 2 hts gX11_learns_X11_farmerRow rfl rfl rfl (by decide +kernel) ⟨Nat.le_of_ble_eq_true rfl, Nat.le_of_ble_eq_true rfl⟩) hK hN hP hD [] rfl rfl rfl hl.1 rfl (Nat.le_of_ble_eq_true rfl) dX11_learns_38 ⟨Nat.le_refl 0, Nat.le_refl 0⟩) hP hD hS hA [] ⟨rfl, rfl, rfl, rfl⟩ (fun H locs hP hD hS => ?_)
            refine lv_iconst (v := 5) hx hb dX11_learns_41 (by decide) ?_
            refine lv_iadd hx hb dX11_learns_42 ?_
            refine lv_topi (fun x7 ex7 => ?_)
            replace h := lt_use h x7 ex7
            refine lv_istore (lv' := [(4, .int x7), (0, .ref h0), (1, .int p1), (2, .int q4.1), (3, .int q4.2.1)]) hx hb dX11_learns_43 hl (by decide) rfl (fun ls hl => ?_)
            refine lv_aload_n hx hb dX11_learns_45 rfl (lv_at hl 1 rfl) ?_
            refine va_get (D := D) (ci := 11) (v := .ref (a0 0)) (C := RX11) (T := TX11) (N := 38) hx hb hts hinX11 hown hK hP 0 rfl rfl 0 (by decide) (hts (.fieldLink RX11 7 "KneeBenchModel" "at" "[I") (List.mem_of_getElem? (i := 1) rfl)) (fun _ h9 => h9) rfl dX11_learns_46 ?_
            refine lv_iload hx hb dX11_learns_49 (lv_at hl 0 rfl) ?_
            refine lv_iconst (v := 1) hx hb dX11_learns_51 (by decide) ?_
            refine lv_aload_n hx hb dX11_learns_52 rfl (lv_at hl 1 rfl) ?_
            refine va_get (D := D) (ci := 11) (v := .ref (a0 0)) (C := RX11) (T := TX11) (N := 38) hx hb hts hinX11 hown hK hP 0 rfl rfl 0 (by decide) (hts (.fieldLink RX11 7 "KneeBenchModel" "at" "[I") (List.mem_of_getElem? (i := 1) rfl)) (fun _ h9 => h9) rfl dX11_learns_53 ?_
            refine lv_iload hx hb dX11_learns_56 (lv_at hl 0 rfl) ?_
            obtain ⟨g8, h⟩ := gd_elim h
            refine va_iald hx hb hK hP 1 1 rfl rfl (inb_in g8) dX11_learns_58 ?_
            refine lv_iconst (v := 2) hx hb dX11_learns_59 (by decide) ?_
            refine lv_idiv hx hb dX11_learns_60 (by decide) ?_
            refine va_mmax hx hb (hml.trans hl.1.symm) hown (hts (.methodLink RX11 341 Lib.Math.max.name) (List.mem_of_getElem? (i := 2) rfl)) (hts (.static Lib.Math.max.name) (List.mem_of_getElem? (i := 3) rfl)) (hts (.initialized "java/lang/Math") (List.mem_of_getElem? (i := 4) rfl)) (hts (.code Lib.Math.max.name Lib.Math.max.code 2 (some .int)) (List.mem_of_getElem? (i := 5) rfl)) (Nat.le_of_ble_eq_true rfl) (Nat.le_of_ble_eq_true rfl) (Nat.le_refl 0) (Nat.le_refl 0) dX11_learns_61 ?_
            obtain ⟨s0_9, es, h⟩ := lt_elim h
            refine va_iast hx hb hK hP hD hS 1 1 rfl rfl (inb_in g8) dX11_learns_64 (fun H locs hP hD hS => ?_)
            have hP : va_P D vwCl (flat [WX11 cy h0 a0 s0_9]) H := by rw [es]; exact hP
            have hD : va_D A (flat [WX11 cy h0 a0 s0_9]) := by rw [es]; exact hD
            clear es
            refine lv_iinc (v := (q4.1 + (1 : Int32))) (lv' := [(2, .int (q4.1 + (1 : Int32))), (4, .int x7), (0, .ref h0), (1, .int p1), (3, .int q4.2.1)]) hx hb dX11_learns_65 hl (k := 3) rfl rfl (by decide) rfl (fun ls hl => ?_)
            refine lv_iinc (v := (q4.2.1 + (1 : Int32))) (lv' := [(3, .int (q4.2.1 + (1 : Int32))), (2, .int (q4.1 + (1 : Int32))), (4, .int x7), (0, .ref h0), (1, .int p1)]) hx hb dX11_learns_68 hl (k := 4) rfl rfl (by decide) rfl (fun ls hl => ?_)
            refine lv_goto (tgt := 4) hx hb dX11_learns_71 (by decide) ?_
            exact ih _ o (hgo _ (Option.some.inj h).symm) H locs ls (lv_sub hl [3, 4, 1, 0] rfl) hP hD hS kk74
          · replace h := (if_neg c6).symm.trans h
            refine lv_goto (tgt := 68) hx hb dX11_learns_33 (by decide) ?_
            refine lv_iinc (v := (q4.2.1 + (1 : Int32))) (lv' := [(3, .int (q4.2.1 + (1 : Int32))), (0, .ref h0), (1, .int p1), (2, .int q4.1)]) hx hb dX11_learns_68 hl (k := 3) rfl rfl (by decide) rfl (fun ls hl => ?_)
            refine lv_goto (tgt := 4) hx hb dX11_learns_71 (by decide) ?_
            exact ih _ o (hgo _ (Option.some.inj h).symm) H locs ls (lv_sub hl [1, 2, 3, 0] rfl) hP hD hS kk74
  obtain ⟨o4, ho4, h⟩ := bd_elim h
  obtain ⟨n4, hn4⟩ := loopF_some ho4
  refine L4 n4 _ o4 hn4 H locs ls (lv_sub hl [2, 3, 1, 0] rfl) hP hD hS (fun H locs ls hl hP hD hS => ?_)
  refine lv_iload_n hx hb dX11_learns_74 rfl (lv_at hl 0 rfl) ?_
  exact hret 75 H locs ls (o4.1, o4.2) (Option.some.inj h) hP hD hS dX11_learns_75
