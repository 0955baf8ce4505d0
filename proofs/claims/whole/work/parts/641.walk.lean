theorem gd_X11_fewest : wsX11_fewest.all goodWord = true := by decide +kernel
set_option maxRecDepth 20000 in
theorem ggX11_fewest_X11_isFrom : GoodIn wsX11_fewest wsX11_isFrom := goodIn_by gd_X11_fewest (List.forall_mem_cons.mpr ⟨List.mem_cons_of_mem _ (List.mem_append_left _ (List.mem_append_left _ (List.mem_of_getElem? (i := 5) rfl))), nowords_in⟩)
set_option maxRecDepth 20000 in
theorem gX11_fewest_X11_isFrom : GoodIn wsX11_fewest (va_wsS RX11 282 yX11_isFrom wsX11_isFrom) := goodIn_app (goodIn_by gd_X11_fewest (List.forall_mem_cons.mpr ⟨List.mem_cons_of_mem _ (List.mem_append_left _ (List.mem_append_left _ (List.mem_of_getElem? (i := 2) rfl))), List.forall_mem_cons.mpr ⟨List.mem_cons_of_mem _ (List.mem_append_left _ (List.mem_append_left _ (List.mem_of_getElem? (i := 3) rfl))), List.forall_mem_cons.mpr ⟨List.mem_cons_of_mem _ (List.mem_append_left _ (List.mem_append_left _ (List.mem_of_getElem? (i := 4) rfl))), nowords_in⟩⟩⟩)) ggX11_fewest_X11_isFrom
set_option maxRecDepth 20000 in
theorem ggX11_fewest_X11_refuse : GoodIn wsX11_fewest wsX11_refuse := goodIn_by gd_X11_fewest (List.forall_mem_cons.mpr ⟨List.mem_cons_of_mem _ (List.mem_append_left _ (List.mem_append_left _ (List.mem_of_getElem? (i := 9) rfl))), List.forall_mem_append.mpr ⟨List.forall_mem_cons.mpr ⟨List.mem_cons_of_mem _ (List.mem_append_left _ (List.mem_append_left _ (List.mem_of_getElem? (i := 10) rfl))), nowords_in⟩, (fun _ h => List.mem_cons_of_mem _ (List.mem_append_right _ (h)))⟩⟩)
set_option maxRecDepth 20000 in
theorem gX11_fewest_X11_refuse : GoodIn wsX11_fewest (wsV RX11 75 RX11 yX11_refuse wsX11_refuse) := goodIn_app (goodIn_by gd_X11_fewest (List.forall_mem_cons.mpr ⟨List.mem_cons_of_mem _ (List.mem_append_left _ (List.mem_append_left _ (List.mem_of_getElem? (i := 6) rfl))), List.forall_mem_cons.mpr ⟨List.mem_cons_of_mem _ (List.mem_append_left _ (List.mem_append_left _ (List.mem_of_getElem? (i := 7) rfl))), List.forall_mem_cons.mpr ⟨List.mem_cons_of_mem _ (List.mem_append_left _ (List.mem_append_left _ (List.mem_of_getElem? (i := 8) rfl))), List.forall_mem_cons.mpr ⟨List.mem_cons_of_mem _ (List.mem_append_left _ (List.mem_append_left _ (List.mem_of_getElem? (i := 4) rfl))), nowords_in⟩⟩⟩⟩)) ggX11_fewest_X11_refuse
set_option maxRecDepth 20000 in
theorem ggX11_fewest_X11_bits : GoodIn wsX11_fewest wsX11_bits := goodIn_by gd_X11_fewest (List.forall_mem_cons.mpr ⟨List.mem_cons_of_mem _ (List.mem_append_left _ (List.mem_append_left _ (List.mem_of_getElem? (i := 13) rfl))), nowords_in⟩)
set_option maxRecDepth 20000 in
theorem gX11_fewest_X11_bits : GoodIn wsX11_fewest (va_wsS RX11 322 yX11_bits wsX11_bits) := goodIn_app (goodIn_by gd_X11_fewest (List.forall_mem_cons.mpr ⟨List.mem_cons_of_mem _ (List.mem_append_left _ (List.mem_append_left _ (List.mem_of_getElem? (i := 11) rfl))), List.forall_mem_cons.mpr ⟨List.mem_cons_of_mem _ (List.mem_append_left _ (List.mem_append_left _ (List.mem_of_getElem? (i := 12) rfl))), List.forall_mem_cons.mpr ⟨List.mem_cons_of_mem _ (List.mem_append_left _ (List.mem_append_left _ (List.mem_of_getElem? (i := 4) rfl))), nowords_in⟩⟩⟩)) ggX11_fewest_X11_bits
set_option maxRecDepth 20000 in
theorem ggX11_fewest_X11_isEnough : GoodIn wsX11_fewest wsX11_isEnough := goodIn_by gd_X11_fewest (List.forall_mem_cons.mpr ⟨List.mem_cons_of_mem _ (List.mem_append_left _ (List.mem_append_left _ (List.mem_of_getElem? (i := 17) rfl))), List.forall_mem_append.mpr ⟨List.forall_mem_append.mpr ⟨List.forall_mem_cons.mpr ⟨List.mem_cons_of_mem _ (List.mem_append_left _ (List.mem_append_left _ (List.mem_of_getElem? (i := 1) rfl))), List.forall_mem_cons.mpr ⟨List.mem_cons_of_mem _ (List.mem_append_left _ (List.mem_append_left _ (List.mem_of_getElem? (i := 18) rfl))), List.forall_mem_cons.mpr ⟨List.mem_cons_of_mem _ (List.mem_append_left _ (List.mem_append_left _ (List.mem_of_getElem? (i := 19) rfl))), List.forall_mem_cons.mpr ⟨List.mem_cons_of_mem _ (List.mem_append_left _ (List.mem_append_left _ (List.mem_of_getElem? (i := 20) rfl))), List.forall_mem_cons.mpr ⟨List.mem_cons_of_mem _ (List.mem_append_left _ (List.mem_append_left _ (List.mem_of_getElem? (i := 4) rfl))), List.forall_mem_cons.mpr ⟨List.mem_cons_of_mem _ (List.mem_append_left _ (List.mem_append_left _ (List.mem_of_getElem? (i := 21) rfl))), List.forall_mem_cons.mpr ⟨List.mem_cons_of_mem _ (List.mem_append_left _ (List.mem_append_left _ (List.mem_of_getElem? (i := 22) rfl))), List.forall_mem_cons.mpr ⟨List.mem_cons_of_mem _ (List.mem_append_left _ (List.mem_append_left _ (List.mem_of_getElem? (i := 23) rfl))), List.forall_mem_cons.mpr ⟨List.mem_cons_of_mem _ (List.mem_append_left _ (List.mem_append_right _ (List.mem_append_left _ (List.mem_of_getElem? (i := 0) rfl)))), List.forall_mem_cons.mpr ⟨List.mem_cons_of_mem _ (List.mem_append_left _ (List.mem_append_right _ (List.mem_append_left _ (List.mem_of_getElem? (i := 1) rfl)))), List.forall_mem_cons.mpr ⟨List.mem_cons_of_mem _ (List.mem_append_left _ (List.mem_append_right _ (List.mem_append_left _ (List.mem_of_getElem? (i := 2) rfl)))), List.forall_mem_cons.mpr ⟨List.mem_cons_of_mem _ (List.mem_append_left _ (List.mem_append_right _ (List.mem_append_left _ (List.mem_of_getElem? (i := 3) rfl)))), List.forall_mem_cons.mpr ⟨List.mem_cons_of_mem _ (List.mem_append_left _ (List.mem_append_right _ (List.mem_append_left _ (List.mem_of_getElem? (i := 4) rfl)))), List.forall_mem_cons.mpr ⟨List.mem_cons_of_mem _ (List.mem_append_left _ (List.mem_append_right _ (List.mem_append_left _ (List.mem_of_getElem? (i := 5) rfl)))), List.forall_mem_cons.mpr ⟨List.mem_cons_of_mem _ (List.mem_append_left _ (List.mem_append_right _ (List.mem_append_left _ (List.mem_of_getElem? (i := 6) rfl)))), List.forall_mem_cons.mpr ⟨List.mem_cons_of_mem _ (List.mem_append_left _ (List.mem_append_right _ (List.mem_append_left _ (List.mem_of_getElem? (i := 7) rfl)))), List.forall_mem_cons.mpr ⟨List.mem_cons_of_mem _ (List.mem_append_left _ (List.mem_append_right _ (List.mem_append_left _ (List.mem_of_getElem? (i := 8) rfl)))), List.forall_mem_cons.mpr ⟨List.mem_cons_of_mem _ (List.mem_append_left _ (List.mem_append_right _ (List.mem_append_left _ (List.mem_of_getElem? (i := 9) rfl)))), List.forall_mem_cons.mpr ⟨List.mem_cons_of_mem _ (List.mem_append_left _ (List.mem_append_right _ (List.mem_append_left _ (List.mem_of_getElem? (i := 10) rfl)))), List.forall_mem_cons.mpr ⟨List.mem_cons_of_mem _ (List.mem_append_left _ (List.mem_append_right _ (List.mem_append_left _ (List.mem_of_getElem? (i := 11) rfl)))), List.forall_mem_cons.mpr ⟨List.mem_cons_of_mem _ (List.mem_append_left _ (List.mem_append_right _ (List.mem_append_left _ (List.mem_of_getElem? (i := 12) rfl)))), List.forall_mem_cons.mpr ⟨List.mem_cons_of_mem _ (List.mem_append_left _ (List.mem_append_right _ (List.mem_append_left _ (List.mem_of_getElem? (i := 13) rfl)))), List.forall_mem_cons.mpr ⟨List.mem_cons_of_mem _ (List.mem_append_left _ (List.mem_append_right _ (List.mem_append_left _ (List.mem_of_getElem? (i := 14) rfl)))), List.forall_mem_cons.mpr ⟨List.mem_cons_of_mem _ (List.mem_append_left _ (List.mem_append_right _ (List.mem_append_left _ (List.mem_of_getElem? (i := 15) rfl)))), nowords_in⟩⟩⟩⟩⟩⟩⟩⟩⟩⟩⟩⟩⟩⟩⟩⟩⟩⟩⟩⟩⟩⟩⟩⟩, List.forall_mem_cons.mpr ⟨List.mem_cons_of_mem _ (List.mem_append_left _ (List.mem_append_right _ (List.mem_append_left _ (List.mem_of_getElem? (i := 16) rfl)))), List.forall_mem_cons.mpr ⟨List.mem_cons_of_mem _ (List.mem_append_left _ (List.mem_append_right _ (List.mem_append_left _ (List.mem_of_getElem? (i := 17) rfl)))), List.forall_mem_cons.mpr ⟨List.mem_cons_of_mem _ (List.mem_append_left _ (List.mem_append_right _ (List.mem_append_left _ (List.mem_of_getElem? (i := 18) rfl)))), List.forall_mem_cons.mpr ⟨List.mem_cons_of_mem _ (List.mem_append_left _ (List.mem_append_right _ (List.mem_append_left _ (List.mem_of_getElem? (i := 19) rfl)))), List.forall_mem_cons.mpr ⟨List.mem_cons_of_mem _ (List.mem_append_left _ (List.mem_append_right _ (List.mem_append_left _ (List.mem_of_getElem? (i := 20) rfl)))), List.forall_mem_cons.mpr ⟨List.mem_cons_of_mem _ (List.mem_append_left _ (List.mem_append_right _ (List.mem_append_left _ (List.mem_of_getElem? (i := 21) rfl)))), nowords_in⟩⟩⟩⟩⟩⟩⟩, (fun _ h => List.mem_cons_of_mem _ (List.mem_append_right _ (h)))⟩⟩)
set_option maxRecDepth 20000 in
theorem gX11_fewest_X11_isEnough : GoodIn wsX11_fewest (wsV RX11 382 RX11 yX11_isEnough wsX11_isEnough) := goodIn_app (goodIn_by gd_X11_fewest (List.forall_mem_cons.mpr ⟨List.mem_cons_of_mem _ (List.mem_append_left _ (List.mem_append_left _ (List.mem_of_getElem? (i := 14) rfl))), List.forall_mem_cons.mpr ⟨List.mem_cons_of_mem _ (List.mem_append_left _ (List.mem_append_left _ (List.mem_of_getElem? (i := 15) rfl))), List.forall_mem_cons.mpr ⟨List.mem_cons_of_mem _ (List.mem_append_left _ (List.mem_append_left _ (List.mem_of_getElem? (i := 16) rfl))), List.forall_mem_cons.mpr ⟨List.mem_cons_of_mem _ (List.mem_append_left _ (List.mem_append_left _ (List.mem_of_getElem? (i := 4) rfl))), nowords_in⟩⟩⟩⟩)) ggX11_fewest_X11_isEnough
set_option maxRecDepth 20000 in
theorem ggX11_fewest_X11_orNone : GoodIn wsX11_fewest wsX11_orNone := goodIn_by gd_X11_fewest (List.forall_mem_cons.mpr ⟨List.mem_cons_of_mem _ (List.mem_append_left _ (List.mem_append_right _ (List.mem_append_right _ (List.mem_of_getElem? (i := 1) rfl)))), List.forall_mem_append.mpr ⟨List.forall_mem_cons.mpr ⟨List.mem_cons_of_mem _ (List.mem_append_left _ (List.mem_append_left _ (List.mem_of_getElem? (i := 6) rfl))), List.forall_mem_cons.mpr ⟨List.mem_cons_of_mem _ (List.mem_append_left _ (List.mem_append_left _ (List.mem_of_getElem? (i := 7) rfl))), List.forall_mem_cons.mpr ⟨List.mem_cons_of_mem _ (List.mem_append_left _ (List.mem_append_left _ (List.mem_of_getElem? (i := 8) rfl))), List.forall_mem_cons.mpr ⟨List.mem_cons_of_mem _ (List.mem_append_left _ (List.mem_append_left _ (List.mem_of_getElem? (i := 4) rfl))), List.forall_mem_cons.mpr ⟨List.mem_cons_of_mem _ (List.mem_append_left _ (List.mem_append_left _ (List.mem_of_getElem? (i := 9) rfl))), List.forall_mem_cons.mpr ⟨List.mem_cons_of_mem _ (List.mem_append_left _ (List.mem_append_left _ (List.mem_of_getElem? (i := 10) rfl))), List.forall_mem_cons.mpr ⟨List.mem_cons_of_mem _ (List.mem_append_left _ (List.mem_append_right _ (List.mem_append_right _ (List.mem_of_getElem? (i := 2) rfl)))), List.forall_mem_cons.mpr ⟨List.mem_cons_of_mem _ (List.mem_append_left _ (List.mem_append_right _ (List.mem_append_right _ (List.mem_of_getElem? (i := 3) rfl)))), List.forall_mem_cons.mpr ⟨List.mem_cons_of_mem _ (List.mem_append_left _ (List.mem_append_right _ (List.mem_append_right _ (List.mem_of_getElem? (i := 4) rfl)))), List.forall_mem_cons.mpr ⟨List.mem_cons_of_mem _ (List.mem_append_left _ (List.mem_append_right _ (List.mem_append_right _ (List.mem_of_getElem? (i := 5) rfl)))), nowords_in⟩⟩⟩⟩⟩⟩⟩⟩⟩⟩, (fun _ h => List.mem_cons_of_mem _ (List.mem_append_right _ (h)))⟩⟩)
set_option maxRecDepth 20000 in
theorem gX11_fewest_X11_orNone : GoodIn wsX11_fewest (wsV RX11 310 RX11 yX11_orNone wsX11_orNone) := goodIn_app (goodIn_by gd_X11_fewest (List.forall_mem_cons.mpr ⟨List.mem_cons_of_mem _ (List.mem_append_left _ (List.mem_append_right _ (List.mem_append_left _ (List.mem_of_getElem? (i := 22) rfl)))), List.forall_mem_cons.mpr ⟨List.mem_cons_of_mem _ (List.mem_append_left _ (List.mem_append_right _ (List.mem_append_left _ (List.mem_of_getElem? (i := 23) rfl)))), List.forall_mem_cons.mpr ⟨List.mem_cons_of_mem _ (List.mem_append_left _ (List.mem_append_right _ (List.mem_append_right _ (List.mem_of_getElem? (i := 0) rfl)))), List.forall_mem_cons.mpr ⟨List.mem_cons_of_mem _ (List.mem_append_left _ (List.mem_append_left _ (List.mem_of_getElem? (i := 4) rfl))), nowords_in⟩⟩⟩⟩)) ggX11_fewest_X11_orNone
theorem dX11_fewest_0 : decode cX11_fewest 0 = .ok (.iload_n 1, 1) := by decide +kernel
theorem dX11_fewest_1 : decode cX11_fewest 1 = .ok (.i2l, 1) := by decide +kernel
theorem dX11_fewest_2 : decode cX11_fewest 2 = .ok (.lconst 0, 1) := by decide +kernel
theorem dX11_fewest_3 : decode cX11_fewest 3 = .ok (.ldc2_w 292, 3) := by decide +kernel
theorem dX11_fewest_6 : decode cX11_fewest 6 = .ok (.invokestatic 282, 3) := by decide +kernel
theorem dX11_fewest_9 : decode cX11_fewest 9 = .ok (.ifCond .ne 9, 3) := by decide +kernel
theorem dX11_fewest_12 : decode cX11_fewest 12 = .ok (.aload_n 0, 1) := by decide +kernel
theorem dX11_fewest_13 : decode cX11_fewest 13 = .ok (.iconst 1, 1) := by decide +kernel
theorem dX11_fewest_14 : decode cX11_fewest 14 = .ok (.invokevirtual 75, 3) := by decide +kernel
theorem dX11_fewest_17 : decode cX11_fewest 17 = .ok (.ireturn, 1) := by decide +kernel
theorem dX11_fewest_18 : decode cX11_fewest 18 = .ok (.iconst (-1), 1) := by decide +kernel
theorem dX11_fewest_19 : decode cX11_fewest 19 = .ok (.istore_n 2, 1) := by decide +kernel
theorem dX11_fewest_20 : decode cX11_fewest 20 = .ok (.iconst 0, 1) := by decide +kernel
theorem dX11_fewest_21 : decode cX11_fewest 21 = .ok (.istore_n 3, 1) := by decide +kernel
theorem dX11_fewest_22 : decode cX11_fewest 22 = .ok (.iload_n 3, 1) := by decide +kernel
theorem dX11_fewest_23 : decode cX11_fewest 23 = .ok (.iconst 1, 1) := by decide +kernel
theorem dX11_fewest_24 : decode cX11_fewest 24 = .ok (.aload_n 0, 1) := by decide +kernel
theorem dX11_fewest_25 : decode cX11_fewest 25 = .ok (.getfield 7, 3) := by decide +kernel
theorem dX11_fewest_28 : decode cX11_fewest 28 = .ok (.iconst 0, 1) := by decide +kernel
theorem dX11_fewest_29 : decode cX11_fewest 29 = .ok (.iaload, 1) := by decide +kernel
theorem dX11_fewest_30 : decode cX11_fewest 30 = .ok (.ishl, 1) := by decide +kernel
theorem dX11_fewest_31 : decode cX11_fewest 31 = .ok (.if_icmp .ge 36, 3) := by decide +kernel
theorem dX11_fewest_34 : decode cX11_fewest 34 = .ok (.iload_n 2, 1) := by decide +kernel
theorem dX11_fewest_35 : decode cX11_fewest 35 = .ok (.iconst (-1), 1) := by decide +kernel
theorem dX11_fewest_36 : decode cX11_fewest 36 = .ok (.if_icmp .eq 14, 3) := by decide +kernel
theorem dX11_fewest_39 : decode cX11_fewest 39 = .ok (.iload_n 3, 1) := by decide +kernel
theorem dX11_fewest_40 : decode cX11_fewest 40 = .ok (.invokestatic 322, 3) := by decide +kernel
theorem dX11_fewest_43 : decode cX11_fewest 43 = .ok (.iload_n 2, 1) := by decide +kernel
theorem dX11_fewest_44 : decode cX11_fewest 44 = .ok (.invokestatic 322, 3) := by decide +kernel
theorem dX11_fewest_47 : decode cX11_fewest 47 = .ok (.if_icmp .ge 14, 3) := by decide +kernel
theorem dX11_fewest_50 : decode cX11_fewest 50 = .ok (.aload_n 0, 1) := by decide +kernel
theorem dX11_fewest_51 : decode cX11_fewest 51 = .ok (.iload_n 3, 1) := by decide +kernel
theorem dX11_fewest_52 : decode cX11_fewest 52 = .ok (.iload_n 1, 1) := by decide +kernel
theorem dX11_fewest_53 : decode cX11_fewest 53 = .ok (.invokevirtual 382, 3) := by decide +kernel
theorem dX11_fewest_56 : decode cX11_fewest 56 = .ok (.ifCond .eq 5, 3) := by decide +kernel
theorem dX11_fewest_59 : decode cX11_fewest 59 = .ok (.iload_n 3, 1) := by decide +kernel
theorem dX11_fewest_60 : decode cX11_fewest 60 = .ok (.istore_n 2, 1) := by decide +kernel
theorem dX11_fewest_61 : decode cX11_fewest 61 = .ok (.iinc 3 1, 3) := by decide +kernel
theorem dX11_fewest_64 : decode cX11_fewest 64 = .ok (.goto (-42), 3) := by decide +kernel
theorem dX11_fewest_67 : decode cX11_fewest 67 = .ok (.aload_n 0, 1) := by decide +kernel
theorem dX11_fewest_68 : decode cX11_fewest 68 = .ok (.iload_n 2, 1) := by decide +kernel
theorem dX11_fewest_69 : decode cX11_fewest 69 = .ok (.invokevirtual 310, 3) := by decide +kernel
theorem dX11_fewest_72 : decode cX11_fewest 72 = .ok (.ireturn, 1) := by decide +kernel
abbrev rmX11_fewest : Room := { frames := 4, cells := 0, slots := 0, locals := 92 }
set_option maxHeartbeats 4000000 in
set_option maxRecDepth 100000 in
theorem kX11_fewest (l : Launch) (D : va_G) (cy : Nat → ClassId) (h0 : Nat) (a0 : Nat → Nat) (s0 : Rc) (p1 : Int32) (res : Int32 × Rc) (h : fX11_fewest p1 s0 = some res) : CI l D cy yX11_fewest wsX11_fewest rmX11_fewest [.ref h0, .int p1] (flat [WX11 cy h0 a0 s0]) (flat [WX11 cy h0 a0 res.2]) res.1 := by
  refine CI.of (cc := cX11_fewest) (maxL := 4) (by decide) rfl (Nat.le_of_ble_eq_true rfl) ?_
  intro p e s m args below meth c A QQ ls E hr
  obtain ⟨hx, hb, hml, hown, hts, hK, hN, hP, hD, hA, hl⟩ := E
  have hret : ∀ (pc : Nat) (H : Heap) (locs : List Loc) (ls : Array Slot) (u : Int32 × Rc), u = res → va_P D vwCl (flat [WX11 cy h0 a0 u.2]) H → va_D A (flat [WX11 cy h0 a0 u.2]) → va_S A s.heap H locs → decode cX11_fewest pc = .ok (.ireturn, 1) → W p l e rmX11_fewest s m args below meth c H locs 0 0 QQ (F0 m pc ls [.int u.1]) := by
    intro pc H locs ls u hu hP hD hS hd; subst hu; exact hr pc H locs ls _ rfl hP hD hS hd
  clear hr
  have hl : lv_has ls 4 [(0, .ref h0), (1, .int p1)] := hl
  have hinX11 : ∀ w ∈ wsX110, w ∈ wsX11_fewest := fun _ h => List.mem_cons_of_mem _ (List.mem_append_right _ h)
  unfold fX11_fewest at h
  suffices key : ∀ (H : Heap) (locs : List Loc), va_P D vwCl (flat [WX11 cy h0 a0 s0]) H → va_S A s.heap H locs → W p l e rmX11_fewest s m args below meth c H locs 0 0 QQ (F0 m 0 ls []) from key _ _ hP va_S.rf
  clear hP
  intro H locs hP hS
  refine lv_iload_n hx hb dX11_fewest_0 rfl (lv_at hl 1 rfl) ?_
  refine lv_i2l hx hb dX11_fewest_1 rfl ?_
  refine lv_lconst (v := 0) hx hb dX11_fewest_2 (by decide) ?_
  refine lv_ldc2 (v := 60) hx hb hown (hts (.constantLong RX11 292 (60)) (List.mem_of_getElem? (i := 1) rfl)) dX11_fewest_3 ?_
  refine ca_z (w' := [WX11 cy h0 a0 s0]) (rn_S (As := [.long p1.toInt64, .long (0 : Int64), .long (60 : Int64)]) (rest := []) ⟨hx, hb, hml, hown, hts⟩ (kX11_isFrom l D cy p1.toInt64 (0 : Int64) (60 : Int64) _ rfl H.size) (va_cwS 3 hts gX11_fewest_X11_isFrom rfl rfl rfl (by decide +kernel) ⟨Nat.le_of_ble_eq_true rfl, Nat.le_of_ble_eq_true rfl⟩) hK hN hP hD [] rfl rfl rfl hl.1 rfl (Nat.le_of_ble_eq_true rfl) dX11_fewest_6 ⟨Nat.le_refl 0, Nat.le_refl 0⟩) hP hD hS hA [] ⟨rfl, rfl, rfl, rfl⟩ (fun b1 H locs hP hD hS => ?_)
  refine lv_if_ne (tgt := 18) hx hb dX11_fewest_9 (by decide) (fun c2 => ?_) (fun c2 => ?_)
  · replace h := (if_neg c2).symm.trans h
    refine lv_iconst (v := -1) hx hb dX11_fewest_18 (by decide) ?_
    refine lv_istore_n (lv' := [(2, .int (-1 : Int32)), (0, .ref h0), (1, .int p1)]) hx hb dX11_fewest_19 rfl hl (by decide) rfl (fun ls hl => ?_)
    refine lv_iconst (v := 0) hx hb dX11_fewest_20 (by decide) ?_
    refine lv_istore_n (lv' := [(3, .int (0 : Int32)), (2, .int (-1 : Int32)), (0, .ref h0), (1, .int p1)]) hx hb dX11_fewest_21 rfl hl (by decide) rfl (fun ls hl => ?_)
    have L22 : ∀ (n : Nat) (q22 : Int32 × Int32) (o : Int32), loopO (fX11_fewest_L22 p1 s0) n q22 = some o → ∀ (H : Heap) (locs : List Loc) (ls : Array Slot), lv_has ls 4 [(0, .ref h0), (1, .int p1), (2, .int q22.1), (3, .int q22.2)] → va_P D vwCl (flat [WX11 cy h0 a0 s0]) H → va_D A (flat [WX11 cy h0 a0 s0]) → va_S A s.heap H locs → ∀ (kk67 : ∀ (H : Heap) (locs : List Loc) (ls : Array Slot), lv_has ls 4 [(0, .ref h0), (2, .int o)] → va_P D vwCl (flat [WX11 cy h0 a0 s0]) H → va_D A (flat [WX11 cy h0 a0 s0]) → va_S A s.heap H locs → W p l e rmX11_fewest s m args below meth c H locs 0 0 QQ (F0 m 67 ls [])), W p l e rmX11_fewest s m args below meth c H locs 0 0 QQ (F0 m 22 ls []) := by
      intro n
      induction n with
      | zero => intro q22 o h; exact absurd h (by rw [loopO_zero]; intro z; cases z)
      | succ n ih =>
        intro q22 o h H locs ls hl hP hD hS kk67
        obtain ⟨w, h, hgo, hst⟩ := loopO_elim h
        unfold fX11_fewest_L22 at h
        have J50 : ∀  (H : Heap) (locs : List Loc) (ls : Array Slot), lv_has ls 4 [(0, .ref h0), (1, .int p1), (2, .int q22.1), (3, .int q22.2)] → va_P D vwCl (flat [WX11 cy h0 a0 s0]) H → va_D A (flat [WX11 cy h0 a0 s0]) → va_S A s.heap H locs → fX11_fewest_J50 p1 s0 q22 = some w → W p l e rmX11_fewest s m args below meth c H locs 0 0 QQ (F0 m 50 ls []) := by
          intro  H locs ls hl hP hD hS h
          unfold fX11_fewest_J50 at h
          refine lv_aload_n hx hb dX11_fewest_50 rfl (lv_at hl 0 rfl) ?_
          refine lv_iload_n hx hb dX11_fewest_51 rfl (lv_at hl 3 rfl) ?_
          refine lv_iload_n hx hb dX11_fewest_52 rfl (lv_at hl 1 rfl) ?_
          obtain ⟨r3, hr3, h⟩ := bd_elim h
          refine ca_z (w' := [WX11 cy h0 a0 s0]) (rn_V (As := [.int q22.2, .int p1]) (rest := []) ⟨hx, hb, hml, hown, hts⟩ (kX11_isEnough l D cy h0 a0 s0 q22.2 p1 r3 hr3 H.size) (cwV 2 hts gX11_fewest_X11_isEnough rfl rfl rfl (by decide +kernel) ⟨Nat.le_of_ble_eq_true rfl, Nat.le_of_ble_eq_true rfl⟩) hK hN hP hD [0] rfl rfl (ci := 11) (q0 := 0) rfl rfl rfl rfl hl.1 rfl (Nat.le_of_ble_eq_true rfl) dX11_fewest_53 ⟨Nat.le_refl 0, Nat.le_refl 0⟩) hP hD hS hA [0] ⟨rfl, rfl, rfl, rfl⟩ (fun b4 H locs hP hD hS => ?_)
          refine lv_if_eq (tgt := 61) hx hb dX11_fewest_56 (by decide) (fun c5 => ?_) (fun c5 => ?_)
          · replace h := (if_pos c5).symm.trans h
            refine lv_iinc (v := (q22.2 + (1 : Int32))) (lv' := [(3, .int (q22.2 + (1 : Int32))), (0, .ref h0), (1, .int p1), (2, .int q22.1)]) hx hb dX11_fewest_61 hl (k := 3) rfl rfl (by decide) rfl (fun ls hl => ?_)
            refine lv_goto (tgt := 22) hx hb dX11_fewest_64 (by decide) ?_
            exact ih _ o (hgo _ (Option.some.inj h).symm) H locs ls (lv_sub hl [1, 2, 3, 0] rfl) hP hD hS kk67
          · replace h := (if_neg c5).symm.trans h
            refine lv_iload_n hx hb dX11_fewest_59 rfl (lv_at hl 3 rfl) ?_
            refine lv_istore_n (lv' := [(2, .int q22.2), (0, .ref h0), (1, .int p1), (3, .int q22.2)]) hx hb dX11_fewest_60 rfl hl (by decide) rfl (fun ls hl => ?_)
            refine lv_iinc (v := (q22.2 + (1 : Int32))) (lv' := [(3, .int (q22.2 + (1 : Int32))), (2, .int q22.2), (0, .ref h0), (1, .int p1)]) hx hb dX11_fewest_61 hl (k := 3) rfl rfl (by decide) rfl (fun ls hl => ?_)
            refine lv_goto (tgt := 22) hx hb dX11_fewest_64 (by decide) ?_
            exact ih _ o (hgo _ (Option.some.inj h).symm) H locs ls (lv_sub hl [2, 3, 1, 0] rfl) hP hD hS kk67
        refine lv_iload_n hx hb dX11_fewest_22 rfl (lv_at hl 3 rfl) ?_
        refine lv_iconst (v := 1) hx hb dX11_fewest_23 (by decide) ?_
        refine lv_aload_n hx hb dX11_fewest_24 rfl (lv_at hl 0 rfl) ?_
        refine va_get (D := D) (ci := 11) (v := .ref (a0 0)) (C := RX11) (T := TX11) (N := 38) hx hb hts hinX11 hown hK hP 0 rfl rfl 0 (by decide) (hts (.fieldLink RX11 7 "KneeBenchModel" "at" "[I") (List.mem_of_getElem? (i := 2) rfl)) (fun _ h9 => h9) rfl dX11_fewest_25 ?_
        refine lv_iconst (v := 0) hx hb dX11_fewest_28 (by decide) ?_
        refine va_iald hx hb hK hP 1 1 rfl rfl (inb_in (by decide)) dX11_fewest_29 ?_
        refine lv_ishl hx hb dX11_fewest_30 ?_
        refine lv_icmp_ge (tgt := 67) hx hb dX11_fewest_31 (by decide) (fun c6 => ?_) (fun c6 => ?_)
        · replace h := (if_pos c6).symm.trans h
          have eo := hst _ (Option.some.inj h).symm
          subst eo
          exact kk67 H locs ls (lv_sub hl [0, 2] rfl) hP hD hS
        · replace h := (if_neg c6).symm.trans h
          refine lv_iload_n hx hb dX11_fewest_34 rfl (lv_at hl 2 rfl) ?_
          refine lv_iconst (v := -1) hx hb dX11_fewest_35 (by decide) ?_
          refine lv_icmp_eq (tgt := 50) hx hb dX11_fewest_36 (by decide) (fun c7 => ?_) (fun c7 => ?_)
          · replace h := (if_pos c7).symm.trans h
            exact J50  H locs ls (lv_sub hl [0, 1, 2, 3] rfl) hP hD hS h
          · replace h := (if_neg c7).symm.trans h
            refine lv_iload_n hx hb dX11_fewest_39 rfl (lv_at hl 3 rfl) ?_
            obtain ⟨r8, hr8, h⟩ := bd_elim h
            refine ca_i (w' := [WX11 cy h0 a0 s0]) (rn_S (As := [.int q22.2]) (rest := []) ⟨hx, hb, hml, hown, hts⟩ (kX11_bits l D cy q22.2 r8 hr8 H.size) (va_cwS 1 hts gX11_fewest_X11_bits rfl rfl rfl (by decide +kernel) ⟨Nat.le_of_ble_eq_true rfl, Nat.le_of_ble_eq_true rfl⟩) hK hN hP hD [] rfl rfl rfl hl.1 rfl (Nat.le_of_ble_eq_true rfl) dX11_fewest_40 ⟨Nat.le_refl 0, Nat.le_refl 0⟩) hP hD hS hA [] ⟨rfl, rfl, rfl, rfl⟩ (fun H locs hP hD hS => ?_)
            refine lv_iload_n hx hb dX11_fewest_43 rfl (lv_at hl 2 rfl) ?_
            obtain ⟨r9, hr9, h⟩ := bd_elim h
            refine ca_i (w' := [WX11 cy h0 a0 s0]) (rn_S (As := [.int q22.1]) (rest := [.int r8]) ⟨hx, hb, hml, hown, hts⟩ (kX11_bits l D cy q22.1 r9 hr9 H.size) (va_cwS 1 hts gX11_fewest_X11_bits rfl rfl rfl (by decide +kernel) ⟨Nat.le_of_ble_eq_true rfl, Nat.le_of_ble_eq_true rfl⟩) hK hN hP hD [] rfl rfl rfl hl.1 rfl (Nat.le_of_ble_eq_true rfl) dX11_fewest_44 ⟨Nat.le_refl 0, Nat.le_refl 0⟩) hP hD hS hA [] ⟨rfl, rfl, rfl, rfl⟩ (fun H locs hP hD hS => ?_)
            refine lv_icmp_ge (tgt := 61) hx hb dX11_fewest_47 (by decide) (fun c10 => ?_) (fun c10 => ?_)
            · replace h := (if_pos c10).symm.trans h
              refine lv_iinc (v := (q22.2 + (1 : Int32))) (lv' := [(3, .int (q22.2 + (1 : Int32))), (0, .ref h0), (1, .int p1), (2, .int q22.1)]) hx hb dX11_fewest_61 hl (k := 3) rfl rfl (by decide) rfl (fun ls hl => ?_)
              refine lv_goto (tgt := 22) hx hb dX11_fewest_64 (by decide) ?_
              exact ih _ o (hgo _ (Option.some.inj h).symm) H locs ls (lv_sub hl [1, 2, 3, 0] rfl) hP hD hS kk67
            · replace h := (if_neg c10).symm.trans h
              exact J50  H locs ls (lv_sub hl [0, 1, 2, 3] rfl) hP hD hS h
    obtain ⟨o22, ho22, h⟩ := bd_elim h
    obtain ⟨n22, hn22⟩ := loopF_some ho22
    refine L22 n22 _ o22 hn22 H locs ls (lv_sub hl [2, 3, 1, 0] rfl) hP hD hS (fun H locs ls hl hP hD hS => ?_)
    refine lv_aload_n hx hb dX11_fewest_67 rfl (lv_at hl 0 rfl) ?_
    refine lv_iload_n hx hb dX11_fewest_68 rfl (lv_at hl 1 rfl) ?_
    obtain ⟨r11, hr11, h⟩ := lt_elim h
    refine ca_i (w' := [WX11 cy h0 a0 r11.2]) (rn_V (As := [.int o22]) (rest := []) ⟨hx, hb, hml, hown, hts⟩ (kX11_orNone l D cy h0 a0 s0 o22 r11 hr11.symm H.size) (cwV 1 hts gX11_fewest_X11_orNone rfl rfl rfl (by decide +kernel) ⟨Nat.le_of_ble_eq_true rfl, Nat.le_of_ble_eq_true rfl⟩) hK hN hP hD [0] rfl rfl (ci := 11) (q0 := 0) rfl rfl rfl rfl hl.1 rfl (Nat.le_of_ble_eq_true rfl) dX11_fewest_69 ⟨Nat.le_refl 0, Nat.le_refl 0⟩) hP hD hS hA [0] ⟨rfl, rfl, rfl, rfl⟩ (fun H locs hP hD hS => ?_)
    exact hret 72 H locs ls (r11.1, r11.2) (Option.some.inj h) hP hD hS dX11_fewest_72
  · replace h := (if_pos c2).symm.trans h
    refine lv_aload_n hx hb dX11_fewest_12 rfl (lv_at hl 0 rfl) ?_
    refine lv_iconst (v := 1) hx hb dX11_fewest_13 (by decide) ?_
    obtain ⟨r12, hr12, h⟩ := lt_elim h
    refine ca_i (w' := [WX11 cy h0 a0 r12.2]) (rn_V (As := [.int (1 : Int32)]) (rest := []) ⟨hx, hb, hml, hown, hts⟩ (kX11_refuse l D cy h0 a0 s0 (1 : Int32) r12 hr12.symm H.size) (cwV 1 hts gX11_fewest_X11_refuse rfl rfl rfl (by decide +kernel) ⟨Nat.le_of_ble_eq_true rfl, Nat.le_of_ble_eq_true rfl⟩) hK hN hP hD [0] rfl rfl (ci := 11) (q0 := 0) rfl rfl rfl rfl hl.1 rfl (Nat.le_of_ble_eq_true rfl) dX11_fewest_14 ⟨Nat.le_refl 0, Nat.le_refl 0⟩) hP hD hS hA [0] ⟨rfl, rfl, rfl, rfl⟩ (fun H locs hP hD hS => ?_)
    exact hret 17 H locs ls (r12.1, r12.2) (Option.some.inj h) hP hD hS dX11_fewest_17
theorem gd_X11_fitsOf : wsX11_fitsOf.all goodWord = true := by decide +kernel
set_option maxRecDepth 20000 in
theorem ggX11_fitsOf_X11_isDay : GoodIn wsX11_fitsOf wsX11_isDay := goodIn_by gd_X11_fitsOf (List.forall_mem_cons.mpr ⟨List.mem_cons_of_mem _ (List.mem_append_left _ (List.mem_of_getElem? (i := 5) rfl)), List.forall_mem_append.mpr ⟨List.forall_mem_cons.mpr ⟨List.mem_cons_of_mem _ (List.mem_append_left _ (List.mem_of_getElem? (i := 0) rfl)), nowords_in⟩, (fun _ h => List.mem_cons_of_mem _ (List.mem_append_right _ (h)))⟩⟩)
set_option maxRecDepth 20000 in
theorem gX11_fitsOf_X11_isDay : GoodIn wsX11_fitsOf (wsV RX11 255 RX11 yX11_isDay wsX11_isDay) := goodIn_app (goodIn_by gd_X11_fitsOf (List.forall_mem_cons.mpr ⟨List.mem_cons_of_mem _ (List.mem_append_left _ (List.mem_of_getElem? (i := 1) rfl)), List.forall_mem_cons.mpr ⟨List.mem_cons_of_mem _ (List.mem_append_left _ (List.mem_of_getElem? (i := 2) rfl)), List.forall_mem_cons.mpr ⟨List.mem_cons_of_mem _ (List.mem_append_left _ (List.mem_of_getElem? (i := 3) rfl)), List.forall_mem_cons.mpr ⟨List.mem_cons_of_mem _ (List.mem_append_left _ (List.mem_of_getElem? (i := 4) rfl)), nowords_in⟩⟩⟩⟩)) ggX11_fitsOf_X11_isDay
set_option maxRecDepth 20000 in
theorem ggX11_fitsOf_X11_felt : GoodIn wsX11_fitsOf wsX11_felt := goodIn_by gd_X11_fitsOf (List.forall_mem_cons.mpr ⟨List.mem_cons_of_mem _ (List.mem_append_left _ (List.mem_of_getElem? (i := 9) rfl)), List.forall_mem_append.mpr ⟨List.forall_mem_cons.mpr ⟨List.mem_cons_of_mem _ (List.mem_append_left _ (List.mem_of_getElem? (i := 0) rfl)), List.forall_mem_cons.mpr ⟨List.mem_cons_of_mem _ (List.mem_append_left _ (List.mem_of_getElem? (i := 10) rfl)), List.forall_mem_cons.mpr ⟨List.mem_cons_of_mem _ (List.mem_append_left _ (List.mem_of_getElem? (i := 11) rfl)), List.forall_mem_cons.mpr ⟨List.mem_cons_of_mem _ (List.mem_append_left _ (List.mem_of_getElem? (i := 4) rfl)), List.forall_mem_cons.mpr ⟨List.mem_cons_of_mem _ (List.mem_append_left _ (List.mem_of_getElem? (i := 12) rfl)), nowords_in⟩⟩⟩⟩⟩, (fun _ h => List.mem_cons_of_mem _ (List.mem_append_right _ (h)))⟩⟩)
set_option maxRecDepth 20000 in
theorem gX11_fitsOf_X11_felt : GoodIn wsX11_fitsOf (wsV RX11 313 RX11 yX11_felt wsX11_felt) := goodIn_app (goodIn_by gd_X11_fitsOf (List.forall_mem_cons.mpr ⟨List.mem_cons_of_mem _ (List.mem_append_left _ (List.mem_of_getElem? (i := 6) rfl)), List.forall_mem_cons.mpr ⟨List.mem_cons_of_mem _ (List.mem_append_left _ (List.mem_of_getElem? (i := 7) rfl)), List.forall_mem_cons.mpr ⟨List.mem_cons_of_mem _ (List.mem_append_left _ (List.mem_of_getElem? (i := 8) rfl)), List.forall_mem_cons.mpr ⟨List.mem_cons_of_mem _ (List.mem_append_left _ (List.mem_of_getElem? (i := 4) rfl)), nowords_in⟩⟩⟩⟩)) ggX11_fitsOf_X11_felt
set_option maxRecDepth 20000 in
theorem ggX11_fitsOf_X11_comesFor : GoodIn wsX11_fitsOf wsX11_comesFor := goodIn_by gd_X11_fitsOf (List.forall_mem_cons.mpr ⟨List.mem_cons_of_mem _ (List.mem_append_left _ (List.mem_of_getElem? (i := 16) rfl)), List.forall_mem_append.mpr ⟨List.forall_mem_cons.mpr ⟨List.mem_cons_of_mem _ (List.mem_append_left _ (List.mem_of_getElem? (i := 0) rfl)), List.forall_mem_cons.mpr ⟨List.mem_cons_of_mem _ (List.mem_append_left _ (List.mem_of_getElem? (i := 17) rfl)), List.forall_mem_cons.mpr ⟨List.mem_cons_of_mem _ (List.mem_append_left _ (List.mem_of_getElem? (i := 18) rfl)), List.forall_mem_cons.mpr ⟨List.mem_cons_of_mem _ (List.mem_append_left _ (List.mem_of_getElem? (i := 4) rfl)), List.forall_mem_cons.mpr ⟨List.mem_cons_of_mem _ (List.mem_append_left _ (List.mem_of_getElem? (i := 19) rfl)), nowords_in⟩⟩⟩⟩⟩, (fun _ h => List.mem_cons_of_mem _ (List.mem_append_right _ (h)))⟩⟩)
set_option maxRecDepth 20000 in
theorem gX11_fitsOf_X11_comesFor : GoodIn wsX11_fitsOf (wsV RX11 258 RX11 yX11_comesFor wsX11_comesFor) := goodIn_app (goodIn_by gd_X11_fitsOf (List.forall_mem_cons.mpr ⟨List.mem_cons_of_mem _ (List.mem_append_left _ (List.mem_of_getElem? (i := 13) rfl)), List.forall_mem_cons.mpr ⟨List.mem_cons_of_mem _ (List.mem_append_left _ (List.mem_of_getElem? (i := 14) rfl)), List.forall_mem_cons.mpr ⟨List.mem_cons_of_mem _ (List.mem_append_left _ (List.mem_of_getElem? (i := 15) rfl)), List.forall_mem_cons.mpr ⟨List.mem_cons_of_mem _ (List.mem_append_left _ (List.mem_of_getElem? (i := 4) rfl)), nowords_in⟩⟩⟩⟩)) ggX11_fitsOf_X11_comesFor
theorem dX11_fitsOf_0 : decode cX11_fitsOf 0 = .ok (.iconst 0, 1) := by decide +kernel
theorem dX11_fitsOf_1 : decode cX11_fitsOf 1 = .ok (.istore_n 3, 1) := by decide +kernel
theorem dX11_fitsOf_2 : decode cX11_fitsOf 2 = .ok (.iconst 0, 1) := by decide +kernel
theorem dX11_fitsOf_3 : decode cX11_fitsOf 3 = .ok (.istore 4, 2) := by decide +kernel
theorem dX11_fitsOf_5 : decode cX11_fitsOf 5 = .ok (.iload 4, 2) := by decide +kernel
theorem dX11_fitsOf_7 : decode cX11_fitsOf 7 = .ok (.aload_n 0, 1) := by decide +kernel
theorem dX11_fitsOf_8 : decode cX11_fitsOf 8 = .ok (.getfield 7, 3) := by decide +kernel
theorem dX11_fitsOf_11 : decode cX11_fitsOf 11 = .ok (.iconst 1, 1) := by decide +kernel
theorem dX11_fitsOf_12 : decode cX11_fitsOf 12 = .ok (.iaload, 1) := by decide +kernel
theorem dX11_fitsOf_13 : decode cX11_fitsOf 13 = .ok (.if_icmp .ge 47, 3) := by decide +kernel
theorem dX11_fitsOf_16 : decode cX11_fitsOf 16 = .ok (.iload_n 3, 1) := by decide +kernel
theorem dX11_fitsOf_17 : decode cX11_fitsOf 17 = .ok (.aload_n 0, 1) := by decide +kernel
theorem dX11_fitsOf_18 : decode cX11_fitsOf 18 = .ok (.iload 4, 2) := by decide +kernel
theorem dX11_fitsOf_20 : decode cX11_fitsOf 20 = .ok (.iload_n 2, 1) := by decide +kernel
theorem dX11_fitsOf_21 : decode cX11_fitsOf 21 = .ok (.iadd, 1) := by decide +kernel
theorem dX11_fitsOf_22 : decode cX11_fitsOf 22 = .ok (.invokevirtual 255, 3) := by decide +kernel
theorem dX11_fitsOf_25 : decode cX11_fitsOf 25 = .ok (.ifCond .eq 26, 3) := by decide +kernel
theorem dX11_fitsOf_28 : decode cX11_fitsOf 28 = .ok (.aload_n 0, 1) := by decide +kernel
theorem dX11_fitsOf_29 : decode cX11_fitsOf 29 = .ok (.iload_n 1, 1) := by decide +kernel
theorem dX11_fitsOf_30 : decode cX11_fitsOf 30 = .ok (.iload 4, 2) := by decide +kernel
theorem dX11_fitsOf_32 : decode cX11_fitsOf 32 = .ok (.invokevirtual 313, 3) := by decide +kernel
theorem dX11_fitsOf_35 : decode cX11_fitsOf 35 = .ok (.aload_n 0, 1) := by decide +kernel
theorem dX11_fitsOf_36 : decode cX11_fitsOf 36 = .ok (.iload_n 1, 1) := by decide +kernel
theorem dX11_fitsOf_37 : decode cX11_fitsOf 37 = .ok (.iload 4, 2) := by decide +kernel
theorem dX11_fitsOf_39 : decode cX11_fitsOf 39 = .ok (.iload_n 2, 1) := by decide +kernel
theorem dX11_fitsOf_40 : decode cX11_fitsOf 40 = .ok (.iadd, 1) := by decide +kernel
theorem dX11_fitsOf_41 : decode cX11_fitsOf 41 = .ok (.invokevirtual 258, 3) := by decide +kernel
theorem dX11_fitsOf_44 : decode cX11_fitsOf 44 = .ok (.if_icmp .ne 7, 3) := by decide +kernel
theorem dX11_fitsOf_47 : decode cX11_fitsOf 47 = .ok (.iconst 1, 1) := by decide +kernel
theorem dX11_fitsOf_48 : decode cX11_fitsOf 48 = .ok (.goto 4, 3) := by decide +kernel
theorem dX11_fitsOf_51 : decode cX11_fitsOf 51 = .ok (.iconst 0, 1) := by decide +kernel
theorem dX11_fitsOf_52 : decode cX11_fitsOf 52 = .ok (.iadd, 1) := by decide +kernel
theorem dX11_fitsOf_53 : decode cX11_fitsOf 53 = .ok (.istore_n 3, 1) := by decide +kernel
theorem dX11_fitsOf_54 : decode cX11_fitsOf 54 = .ok (.iinc 4 1, 3) := by decide +kernel
theorem dX11_fitsOf_57 : decode cX11_fitsOf 57 = .ok (.goto (-52), 3) := by decide +kernel
theorem dX11_fitsOf_60 : decode cX11_fitsOf 60 = .ok (.iload_n 3, 1) := by decide +kernel
theorem dX11_fitsOf_61 : decode cX11_fitsOf 61 = .ok (.ireturn, 1) := by decide +kernel
abbrev rmX11_fitsOf : Room := { frames := 2, cells := 0, slots := 0, locals := 43 }
set_option maxHeartbeats 4000000 in
set_option maxRecDepth 100000 in
theorem kX11_fitsOf (l : Launch) (D : va_G) (cy : Nat → ClassId) (h0 : Nat) (a0 : Nat → Nat) (s0 : Rc) (p1 : Int32) (p2 : Int32) (res : Int32) (h : fX11_fitsOf p1 p2 s0 = some res) : CI l D cy yX11_fitsOf wsX11_fitsOf rmX11_fitsOf [.ref h0, .int p1, .int p2] (flat [WX11 cy h0 a0 s0]) (flat [WX11 cy h0 a0 s0]) res := by
  refine CI.of (cc := cX11_fitsOf) (maxL := 5) (by decide) rfl (Nat.le_of_ble_eq_true rfl) ?_
  intro p e s m args below meth c A QQ ls E hr
  obtain ⟨hx, hb, hml, hown, hts, hK, hN, hP, hD, hA, hl⟩ := E
  have hret : ∀ (pc : Nat) (H : Heap) (locs : List Loc) (ls : Array Slot) (u : Int32), u = res → va_P D vwCl (flat [WX11 cy h0 a0 s0]) H → va_D A (flat [WX11 cy h0 a0 s0]) → va_S A s.heap H locs → decode cX11_fitsOf pc = .ok (.ireturn, 1) → W p l e rmX11_fitsOf s m args below meth c H locs 0 0 QQ (F0 m pc ls [.int u]) := by
    intro pc H locs ls u hu hP hD hS hd; subst hu; exact hr pc H locs ls _ rfl hP hD hS hd
  clear hr
  have hl : lv_has ls 5 [(0, .ref h0), (1, .int p1), (2, .int p2)] := hl
  have hinX11 : ∀ w ∈ wsX110, w ∈ wsX11_fitsOf := fun _ h => List.mem_cons_of_mem _ (List.mem_append_right _ h)
  unfold fX11_fitsOf at h
  suffices key : ∀ (H : Heap) (locs : List Loc), va_P D vwCl (flat [WX11 cy h0 a0 s0]) H → va_S A s.heap H locs → W p l e rmX11_fitsOf s m args below meth c H locs 0 0 QQ (F0 m 0 ls []) from key _ _ hP va_S.rf
  clear hP
  intro H locs hP hS
  refine lv_iconst (v := 0) hx hb dX11_fitsOf_0 (by decide) ?_
  refine lv_istore_n (lv' := [(3, .int (0 : Int32)), (0, .ref h0), (1, .int p1), (2, .int p2)]) hx hb dX11_fitsOf_1 rfl hl (by decide) rfl (fun ls hl => ?_)
  refine lv_iconst (v := 0) hx hb dX11_fitsOf_2 (by decide) ?_
  refine lv_istore (lv' := [(4, .int (0 : Int32)), (3, .int (0 : Int32)), (0, .ref h0), (1, .int p1), (2, .int p2)]) hx hb dX11_fitsOf_3 hl (by decide) rfl (fun ls hl => ?_)
  have L5 : ∀ (n : Nat) (q5 : Int32 × Int32) (o : Int32), loopO (fX11_fitsOf_L5 p1 p2 s0) n q5 = some o → ∀ (H : Heap) (locs : List Loc) (ls : Array Slot), lv_has ls 5 [(0, .ref h0), (1, .int p1), (2, .int p2), (3, .int q5.1), (4, .int q5.2)] → va_P D vwCl (flat [WX11 cy h0 a0 s0]) H → va_D A (flat [WX11 cy h0 a0 s0]) → va_S A s.heap H locs → ∀ (kk60 : ∀ (H : Heap) (locs : List Loc) (ls : Array Slot), lv_has ls 5 [(3, .int o)] → va_P D vwCl (flat [WX11 cy h0 a0 s0]) H → va_D A (flat [WX11 cy h0 a0 s0]) → va_S A s.heap H locs → W p l e rmX11_fitsOf s m args below meth c H locs 0 0 QQ (F0 m 60 ls [])), W p l e rmX11_fitsOf s m args below meth c H locs 0 0 QQ (F0 m 5 ls []) := by
    intro n
    induction n with
    | zero => intro q5 o h; exact absurd h (by rw [loopO_zero]; intro z; cases z)
    | succ n ih =>
      intro q5 o h H locs ls hl hP hD hS kk60
      obtain ⟨w, h, hgo, hst⟩ := loopO_elim h
      unfold fX11_fitsOf_L5 at h
      refine lv_iload hx hb dX11_fitsOf_5 (lv_at hl 4 rfl) ?_
      refine lv_aload_n hx hb dX11_fitsOf_7 rfl (lv_at hl 0 rfl) ?_
      refine va_get (D := D) (ci := 11) (v := .ref (a0 0)) (C := RX11) (T := TX11) (N := 38) hx hb hts hinX11 hown hK hP 0 rfl rfl 0 (by decide) (hts (.fieldLink RX11 7 "KneeBenchModel" "at" "[I") (List.mem_of_getElem? (i := 1) rfl)) (fun _ h9 => h9) rfl dX11_fitsOf_8 ?_
      refine lv_iconst (v := 1) hx hb dX11_fitsOf_11 (by decide) ?_
      refine va_iald hx hb hK hP 1 1 rfl rfl (inb_in (by decide)) dX11_fitsOf_12 ?_
      refine lv_icmp_ge (tgt := 60) hx hb dX11_fitsOf_13 (by decide) (fun c1 => ?_) (fun c1 => ?_)
      · replace h := (if_pos c1).symm.trans h
        have eo := hst _ (Option.some.inj h).symm
        subst eo
        exact kk60 H locs ls (lv_sub hl [3] rfl) hP hD hS
      · replace h := (if_neg c1).symm.trans h
        refine lv_iload_n hx hb dX11_fitsOf_16 rfl (lv_at hl 3 rfl) ?_
        refine lv_aload_n hx hb dX11_fitsOf_17 rfl (lv_at hl 0 rfl) ?_
        refine lv_iload hx hb dX11_fitsOf_18 (lv_at hl 4 rfl) ?_
        refine lv_iload_n hx hb dX11_fitsOf_20 rfl (lv_at hl 2 rfl) ?_
        refine lv_iadd hx hb dX11_fitsOf_21 ?_
        refine ca_z (w' := [WX11 cy h0 a0 s0]) (rn_V (As := [.int (q5.2 + p2)]) (rest := [.int q5.1]) ⟨hx, hb, hml, hown, hts⟩ (kX11_isDay l D cy h0 a0 s0 (q5.2 + p2) _ rfl H.size) (cwV 1 hts gX11_fitsOf_X11_isDay rfl rfl rfl (by decide +kernel) ⟨Nat.le_of_ble_eq_true rfl, Nat.le_of_ble_eq_true rfl⟩) hK hN hP hD [0] rfl rfl (ci := 11) (q0 := 0) rfl rfl rfl rfl hl.1 rfl (Nat.le_of_ble_eq_true rfl) dX11_fitsOf_22 ⟨Nat.le_refl 0, Nat.le_refl 0⟩) hP hD hS hA [0] ⟨rfl, rfl, rfl, rfl⟩ (fun b2 H locs hP hD hS => ?_)
        refine lv_if_eq (tgt := 51) hx hb dX11_fitsOf_25 (by decide) (fun c3 => ?_) (fun c3 => ?_)
        · replace h := (if_pos c3).symm.trans h
          refine lv_iconst (v := 0) hx hb dX11_fitsOf_51 (by decide) ?_
          refine lv_iadd hx hb dX11_fitsOf_52 ?_
          refine lv_topi (fun x4 ex4 => ?_)
          replace h := lt_use h x4 ex4
          refine lv_istore_n (lv' := [(3, .int x4), (0, .ref h0), (1, .int p1), (2, .int p2), (4, .int q5.2)]) hx hb dX11_fitsOf_53 rfl hl (by decide) rfl (fun ls hl => ?_)
          refine lv_iinc (v := (q5.2 + (1 : Int32))) (lv' := [(4, .int (q5.2 + (1 : Int32))), (3, .int x4), (0, .ref h0), (1, .int p1), (2, .int p2)]) hx hb dX11_fitsOf_54 hl (k := 4) rfl rfl (by decide) rfl (fun ls hl => ?_)
          refine lv_goto (tgt := 5) hx hb dX11_fitsOf_57 (by decide) ?_
          exact ih _ o (hgo _ (Option.some.inj h).symm) H locs ls (lv_sub hl [2, 3, 4, 1, 0] rfl) hP hD hS kk60
        · replace h := (if_neg c3).symm.trans h
          refine lv_aload_n hx hb dX11_fitsOf_28 rfl (lv_at hl 0 rfl) ?_
          refine lv_iload_n hx hb dX11_fitsOf_29 rfl (lv_at hl 1 rfl) ?_
          refine lv_iload hx hb dX11_fitsOf_30 (lv_at hl 4 rfl) ?_
          obtain ⟨r5, hr5, h⟩ := bd_elim h
          refine ca_z (w' := [WX11 cy h0 a0 s0]) (rn_V (As := [.int p1, .int q5.2]) (rest := [.int q5.1]) ⟨hx, hb, hml, hown, hts⟩ (kX11_felt l D cy h0 a0 s0 p1 q5.2 r5 hr5 H.size) (cwV 2 hts gX11_fitsOf_X11_felt rfl rfl rfl (by decide +kernel) ⟨Nat.le_of_ble_eq_true rfl, Nat.le_of_ble_eq_true rfl⟩) hK hN hP hD [0] rfl rfl (ci := 11) (q0 := 0) rfl rfl rfl rfl hl.1 rfl (Nat.le_of_ble_eq_true rfl) dX11_fitsOf_32 ⟨Nat.le_refl 0, Nat.le_refl 0⟩) hP hD hS hA [0] ⟨rfl, rfl, rfl, rfl⟩ (fun b6 H locs hP hD hS => ?_)
          refine lv_aload_n hx hb dX11_fitsOf_35 rfl (lv_at hl 0 rfl) ?_
          refine lv_iload_n hx hb dX11_fitsOf_36 rfl (lv_at hl 1 rfl) ?_
          refine lv_iload hx hb dX11_fitsOf_37 (lv_at hl 4 rfl) ?_
          refine lv_iload_n hx hb dX11_fitsOf_39 rfl (lv_at hl 2 rfl) ?_
          refine lv_iadd hx hb dX11_fitsOf_40 ?_
          obtain ⟨r7, hr7, h⟩ := bd_elim h
          refine ca_z (w' := [WX11 cy h0 a0 s0]) (rn_V (As := [.int p1, .int (q5.2 + p2)]) (rest := [.int r5, .int q5.1]) ⟨hx, hb, hml, hown, hts⟩ (kX11_comesFor l D cy h0 a0 s0 p1 (q5.2 + p2) r7 hr7 H.size) (cwV 2 hts gX11_fitsOf_X11_comesFor rfl rfl rfl (by decide +kernel) ⟨Nat.le_of_ble_eq_true rfl, Nat.le_of_ble_eq_true rfl⟩) hK hN hP hD [0] rfl rfl (ci := 11) (q0 := 0) rfl rfl rfl rfl hl.1 rfl (Nat.le_of_ble_eq_true rfl) dX11_fitsOf_41 ⟨Nat.le_refl 0, Nat.le_refl 0⟩) hP hD hS hA [0] ⟨rfl, rfl, rfl, rfl⟩ (fun b8 H locs hP hD hS => ?_)
          refine lv_icmp_ne (tgt := 51) hx hb dX11_fitsOf_44 (by decide) (fun c9 => ?_) (fun c9 => ?_)
          · replace h := (if_neg c9).symm.trans h
            refine lv_iconst (v := 0) hx hb dX11_fitsOf_51 (by decide) ?_
            refine lv_iadd hx hb dX11_fitsOf_52 ?_
            refine lv_topi (fun x10 ex10 => ?_)
            replace h := lt_use h x10 ex10
            refine lv_istore_n (lv' := [(3, .int x10), (0, .ref h0), (1, .int p1), (2, .int p2), (4, .int q5.2)]) hx hb dX11_fitsOf_53 rfl hl (by decide) rfl (fun ls hl => ?_)
            refine lv_iinc (v := (q5.2 + (1 : Int32))) (lv' := [(4, .int (q5.2 + (1 : Int32))), (3, .int x10), (0, .ref h0), (1, .int p1), (2, .int p2)]) hx hb dX11_fitsOf_54 hl (k := 4) rfl rfl (by decide) rfl (fun ls hl => ?_)
            refine lv_goto (tgt := 5) hx hb dX11_fitsOf_57 (by decide) ?_
            exact ih _ o (hgo _ (Option.some.inj h).symm) H locs ls (lv_sub hl [2, 3, 4, 1, 0] rfl) hP hD hS kk60
          · replace h := (if_pos c9).symm.trans h
            refine lv_iconst (v := 1) hx hb dX11_fitsOf_47 (by decide) ?_
            refine lv_goto (tgt := 52) hx hb dX11_fitsOf_48 (by decide) ?_
            refine lv_iadd hx hb dX11_fitsOf_52 ?_
            refine lv_topi (fun x11 ex11 => ?_)
            replace h := lt_use h x11 ex11
            refine lv_istore_n (lv' := [(3, .int x11), (0, .ref h0), (1, .int p1), (2, .int p2), (4, .int q5.2)]) hx hb dX11_fitsOf_53 rfl hl (by decide) rfl (fun ls hl => ?_)
            refine lv_iinc (v := (q5.2 + (1 : Int32))) (lv' := [(4, .int (q5.2 + (1 : Int32))), (3, .int x11), (0, .ref h0), (1, .int p1), (2, .int p2)]) hx hb dX11_fitsOf_54 hl (k := 4) rfl rfl (by decide) rfl (fun ls hl => ?_)
            refine lv_goto (tgt := 5) hx hb dX11_fitsOf_57 (by decide) ?_
            exact ih _ o (hgo _ (Option.some.inj h).symm) H locs ls (lv_sub hl [2, 3, 4, 1, 0] rfl) hP hD hS kk60
  obtain ⟨o5, ho5, h⟩ := bd_elim h
  obtain ⟨n5, hn5⟩ := loopF_some ho5
  refine L5 n5 _ o5 hn5 H locs ls (lv_sub hl [2, 3, 4, 1, 0] rfl) hP hD hS (fun H locs ls hl hP hD hS => ?_)
  refine lv_iload_n hx hb dX11_fitsOf_60 rfl (lv_at hl 0 rfl) ?_
  exact hret 61 H locs ls o5 (Option.some.inj h) hP hD hS dX11_fitsOf_61
theorem gd_X11_fits : wsX11_fits.all goodWord = true := by decide +kernel
set_option maxRecDepth 20000 in
theorem ggX11_fits_X11_isFarmer : GoodIn wsX11_fits wsX11_isFarmer := goodIn_by gd_X11_fits (List.forall_mem_cons.mpr ⟨List.mem_cons_of_mem _ (List.mem_append_left _ (List.mem_append_left _ (List.mem_of_getElem? (i := 6) rfl))), List.forall_mem_append.mpr ⟨List.forall_mem_cons.mpr ⟨List.mem_cons_of_mem _ (List.mem_append_left _ (List.mem_append_left _ (List.mem_of_getElem? (i := 7) rfl))), nowords_in⟩, (fun _ h => List.mem_cons_of_mem _ (List.mem_append_right _ (h)))⟩⟩)
set_option maxRecDepth 20000 in
theorem gX11_fits_X11_isFarmer : GoodIn wsX11_fits (wsV RX11 267 RX11 yX11_isFarmer wsX11_isFarmer) := goodIn_app (goodIn_by gd_X11_fits (List.forall_mem_cons.mpr ⟨List.mem_cons_of_mem _ (List.mem_append_left _ (List.mem_append_left _ (List.mem_of_getElem? (i := 2) rfl))), List.forall_mem_cons.mpr ⟨List.mem_cons_of_mem _ (List.mem_append_left _ (List.mem_append_left _ (List.mem_of_getElem? (i := 3) rfl))), List.forall_mem_cons.mpr ⟨List.mem_cons_of_mem _ (List.mem_append_left _ (List.mem_append_left _ (List.mem_of_getElem? (i := 4) rfl))), List.forall_mem_cons.mpr ⟨List.mem_cons_of_mem _ (List.mem_append_left _ (List.mem_append_left _ (List.mem_of_getElem? (i := 5) rfl))), nowords_in⟩⟩⟩⟩)) ggX11_fits_X11_isFarmer
set_option maxRecDepth 20000 in
theorem ggX11_fits_X11_isFrom : GoodIn wsX11_fits wsX11_isFrom := goodIn_by gd_X11_fits (List.forall_mem_cons.mpr ⟨List.mem_cons_of_mem _ (List.mem_append_left _ (List.mem_append_left _ (List.mem_of_getElem? (i := 10) rfl))), nowords_in⟩)
set_option maxRecDepth 20000 in
theorem gX11_fits_X11_isFrom : GoodIn wsX11_fits (va_wsS RX11 282 yX11_isFrom wsX11_isFrom) := goodIn_app (goodIn_by gd_X11_fits (List.forall_mem_cons.mpr ⟨List.mem_cons_of_mem _ (List.mem_append_left _ (List.mem_append_left _ (List.mem_of_getElem? (i := 8) rfl))), List.forall_mem_cons.mpr ⟨List.mem_cons_of_mem _ (List.mem_append_left _ (List.mem_append_left _ (List.mem_of_getElem? (i := 9) rfl))), List.forall_mem_cons.mpr ⟨List.mem_cons_of_mem _ (List.mem_append_left _ (List.mem_append_left _ (List.mem_of_getElem? (i := 5) rfl))), nowords_in⟩⟩⟩)) ggX11_fits_X11_isFrom
set_option maxRecDepth 20000 in
theorem ggX11_fits_X11_fitsOf : GoodIn wsX11_fits wsX11_fitsOf := goodIn_by gd_X11_fits (List.forall_mem_cons.mpr ⟨List.mem_cons_of_mem _ (List.mem_append_left _ (List.mem_append_left _ (List.mem_of_getElem? (i := 14) rfl))), List.forall_mem_append.mpr ⟨List.forall_mem_cons.mpr ⟨List.mem_cons_of_mem _ (List.mem_append_left _ (List.mem_append_left _ (List.mem_of_getElem? (i := 7) rfl))), List.forall_mem_cons.mpr ⟨List.mem_cons_of_mem _ (List.mem_append_left _ (List.mem_append_left _ (List.mem_of_getElem? (i := 15) rfl))), List.forall_mem_cons.mpr ⟨List.mem_cons_of_mem _ (List.mem_append_left _ (List.mem_append_left _ (List.mem_of_getElem? (i := 16) rfl))), List.forall_mem_cons.mpr ⟨List.mem_cons_of_mem _ (List.mem_append_left _ (List.mem_append_left _ (List.mem_of_getElem? (i := 17) rfl))), List.forall_mem_cons.mpr ⟨List.mem_cons_of_mem _ (List.mem_append_left _ (List.mem_append_left _ (List.mem_of_getElem? (i := 5) rfl))), List.forall_mem_cons.mpr ⟨List.mem_cons_of_mem _ (List.mem_append_left _ (List.mem_append_left _ (List.mem_of_getElem? (i := 18) rfl))), List.forall_mem_cons.mpr ⟨List.mem_cons_of_mem _ (List.mem_append_left _ (List.mem_append_left _ (List.mem_of_getElem? (i := 19) rfl))), List.forall_mem_cons.mpr ⟨List.mem_cons_of_mem _ (List.mem_append_left _ (List.mem_append_left _ (List.mem_of_getElem? (i := 20) rfl))), List.forall_mem_cons.mpr ⟨List.mem_cons_of_mem _ (List.mem_append_left _ (List.mem_append_left _ (List.mem_of_getElem? (i := 21) rfl))), List.forall_mem_cons.mpr ⟨List.mem_cons_of_mem _ (List.mem_append_left _ (List.mem_append_left _ (List.mem_of_getElem? (i := 22) rfl))), List.forall_mem_cons.mpr ⟨List.mem_cons_of_mem _ (List.mem_append_left _ (List.mem_append_left _ (List.mem_of_getElem? (i := 23) rfl))), List.forall_mem_cons.mpr ⟨List.mem_cons_of_mem _ (List.mem_append_left _ (List.mem_append_right _ (List.mem_of_getElem? (i := 0) rfl))), List.forall_mem_cons.mpr ⟨List.mem_cons_of_mem _ (List.mem_append_left _ (List.mem_append_right _ (List.mem_of_getElem? (i := 1) rfl))), List.forall_mem_cons.mpr ⟨List.mem_cons_of_mem _ (List.mem_append_left _ (List.mem_append_right _ (List.mem_of_getElem? (i := 2) rfl))), List.forall_mem_cons.mpr ⟨List.mem_cons_of_mem _ (List.mem_append_left _ (List.mem_append_right _ (List.mem_of_getElem? (i := 3) rfl))), List.forall_mem_cons.mpr ⟨List.mem_cons_of_mem _ (List.mem_append_left _ (List.mem_append_right _ (List.mem_of_getElem? (i := 4) rfl))), List.forall_mem_cons.mpr ⟨List.mem_cons_of_mem _ (List.mem_append_left _ (List.mem_append_right _ (List.mem_of_getElem? (i := 5) rfl))), List.forall_mem_cons.mpr ⟨List.mem_cons_of_mem _ (List.mem_append_left _ (List.mem_append_right _ (List.mem_of_getElem? (i := 6) rfl))), List.forall_mem_cons.mpr ⟨List.mem_cons_of_mem _ (List.mem_append_left _ (List.mem_append_right _ (List.mem_of_getElem? (i := 7) rfl))), List.forall_mem_cons.mpr ⟨List.mem_cons_of_mem _ (List.mem_append_left _ (List.mem_append_right _ (List.mem_of_getElem? (i := 8) rfl))), nowords_in⟩⟩⟩⟩⟩⟩⟩⟩⟩⟩⟩⟩⟩⟩⟩⟩⟩⟩⟩⟩, (fun _ h => List.mem_cons_of_mem _ (List.mem_append_right _ (h)))⟩⟩)
set_option maxRecDepth 20000 in
theorem gX11_fits_X11_fitsOf : GoodIn wsX11_fits (wsV RX11 387 RX11 yX11_fitsOf wsX11_fitsOf) := goodIn_app (goodIn_by gd_X11_fits (List.forall_mem_cons.mpr ⟨List.mem_cons_of_mem _ (List.mem_append_left _ (List.mem_append_left _ (List.mem_of_getElem? (i := 11) rfl))), List.forall_mem_cons.mpr ⟨List.mem_cons_of_mem _ (List.mem_append_left _ (List.mem_append_left _ (List.mem_of_getElem? (i := 12) rfl))), List.forall_mem_cons.mpr ⟨List.mem_cons_of_mem _ (List.mem_append_left _ (List.mem_append_left _ (List.mem_of_getElem? (i := 13) rfl))), List.forall_mem_cons.mpr ⟨List.mem_cons_of_mem _ (List.mem_append_left _ (List.mem_append_left _ (List.mem_of_getElem? (i := 5) rfl))), nowords_in⟩⟩⟩⟩)) ggX11_fits_X11_fitsOf
set_option maxRecDepth 20000 in
theorem ggX11_fits_X11_gives : GoodIn wsX11_fits wsX11_gives := goodIn_by gd_X11_fits (List.forall_mem_cons.mpr ⟨List.mem_cons_of_mem _ (List.mem_append_left _ (List.mem_append_right _ (List.mem_of_getElem? (i := 12) rfl))), List.forall_mem_append.mpr ⟨List.forall_mem_cons.mpr ⟨List.mem_cons_of_mem _ (List.mem_append_left _ (List.mem_append_right _ (List.mem_of_getElem? (i := 13) rfl))), nowords_in⟩, (fun _ h => List.mem_cons_of_mem _ (List.mem_append_right _ (h)))⟩⟩)
set_option maxRecDepth 20000 in
theorem gX11_fits_X11_gives : GoodIn wsX11_fits (wsV RX11 79 RX11 yX11_gives wsX11_gives) := goodIn_app (goodIn_by gd_X11_fits (List.forall_mem_cons.mpr ⟨List.mem_cons_of_mem _ (List.mem_append_left _ (List.mem_append_right _ (List.mem_of_getElem? (i := 9) rfl))), List.forall_mem_cons.mpr ⟨List.mem_cons_of_mem _ (List.mem_append_left _ (List.mem_append_right _ (List.mem_of_getElem? (i := 10) rfl))), List.forall_mem_cons.mpr ⟨List.mem_cons_of_mem _ (List.mem_append_left _ (List.mem_append_right _ (List.mem_of_getElem? (i := 11) rfl))), List.forall_mem_cons.mpr ⟨List.mem_cons_of_mem _ (List.mem_append_left _ (List.mem_append_left _ (List.mem_of_getElem? (i := 5) rfl))), nowords_in⟩⟩⟩⟩)) ggX11_fits_X11_gives
set_option maxRecDepth 20000 in
theorem ggX11_fits_X11_refuse : GoodIn wsX11_fits wsX11_refuse := goodIn_by gd_X11_fits (List.forall_mem_cons.mpr ⟨List.mem_cons_of_mem _ (List.mem_append_left _ (List.mem_append_right _ (List.mem_of_getElem? (i := 17) rfl))), List.forall_mem_append.mpr ⟨List.forall_mem_cons.mpr ⟨List.mem_cons_of_mem _ (List.mem_append_left _ (List.mem_append_right _ (List.mem_of_getElem? (i := 13) rfl))), nowords_in⟩, (fun _ h => List.mem_cons_of_mem _ (List.mem_append_right _ (h)))⟩⟩)
set_option maxRecDepth 20000 in
theorem gX11_fits_X11_refuse : GoodIn wsX11_fits (wsV RX11 75 RX11 yX11_refuse wsX11_refuse) := goodIn_app (goodIn_by gd_X11_fits (List.forall_mem_cons.mpr ⟨List.mem_cons_of_mem _ (List.mem_append_left _ (List.mem_append_right _ (List.mem_of_getElem? (i := 14) rfl))), List.forall_mem_cons.mpr ⟨List.mem_cons_of_mem _ (List.mem_append_left _ (List.mem_append_right _ (List.mem_of_getElem? (i := 15) rfl))), List.forall_mem_cons.mpr ⟨List.mem_cons_of_mem _ (List.mem_append_left _ (List.mem_append_right _ (List.mem_of_getElem? (i := 16) rfl))), List.forall_mem_cons.mpr ⟨List.mem_cons_of_mem _ (List.mem_append_left _ (List.mem_append_left _ (List.mem_of_getElem? (i := 5) rfl))), nowords_in⟩⟩⟩⟩)) ggX11_fits_X11_refuse
theorem dX11_fits_0 : decode cX11_fits 0 = .ok (.aload_n 0, 1) := by decide +kernel
theorem dX11_fits_1 : decode cX11_fits 1 = .ok (.iload_n 1, 1) := by decide +kernel
theorem dX11_fits_2 : decode cX11_fits 2 = .ok (.invokevirtual 267, 3) := by decide +kernel
theorem dX11_fits_5 : decode cX11_fits 5 = .ok (.ifCond .eq 30, 3) := by decide +kernel
theorem dX11_fits_8 : decode cX11_fits 8 = .ok (.iload_n 2, 1) := by decide +kernel
theorem dX11_fits_9 : decode cX11_fits 9 = .ok (.i2l, 1) := by decide +kernel
theorem dX11_fits_10 : decode cX11_fits 10 = .ok (.ldc2_w 385, 3) := by decide +kernel
theorem dX11_fits_13 : decode cX11_fits 13 = .ok (.ldc2_w 352, 3) := by decide +kernel
theorem dX11_fits_16 : decode cX11_fits 16 = .ok (.invokestatic 282, 3) := by decide +kernel
theorem dX11_fits_19 : decode cX11_fits 19 = .ok (.ifCond .eq 16, 3) := by decide +kernel
theorem dX11_fits_22 : decode cX11_fits 22 = .ok (.aload_n 0, 1) := by decide +kernel
theorem dX11_fits_23 : decode cX11_fits 23 = .ok (.aload_n 0, 1) := by decide +kernel
theorem dX11_fits_24 : decode cX11_fits 24 = .ok (.iload_n 1, 1) := by decide +kernel
theorem dX11_fits_25 : decode cX11_fits 25 = .ok (.iload_n 2, 1) := by decide +kernel
theorem dX11_fits_26 : decode cX11_fits 26 = .ok (.invokevirtual 387, 3) := by decide +kernel
theorem dX11_fits_29 : decode cX11_fits 29 = .ok (.invokevirtual 79, 3) := by decide +kernel
theorem dX11_fits_32 : decode cX11_fits 32 = .ok (.goto 8, 3) := by decide +kernel
theorem dX11_fits_35 : decode cX11_fits 35 = .ok (.aload_n 0, 1) := by decide +kernel
theorem dX11_fits_36 : decode cX11_fits 36 = .ok (.iconst 1, 1) := by decide +kernel
theorem dX11_fits_37 : decode cX11_fits 37 = .ok (.invokevirtual 75, 3) := by decide +kernel
theorem dX11_fits_40 : decode cX11_fits 40 = .ok (.ireturn, 1) := by decide +kernel
abbrev rmX11_fits : Room := { frames := 3, cells := 0, slots := 0, locals := 67 }
set_option maxHeartbeats 4000000 in
set_option maxRecDepth 100000 in
theorem kX11_fits (l : Launch) (D : va_G) (cy : Nat → ClassId) (h0 : Nat) (a0 : Nat → Nat) (s0 : Rc) (p1 : Int32) (p2 : Int32) (res : Int32 × Rc) (h : fX11_fits p1 p2 s0 = some res) : CI l D cy yX11_fits wsX11_fits rmX11_fits [.ref h0, .int p1, .int p2] (flat [WX11 cy h0 a0 s0]) (flat [WX11 cy h0 a0 res.2]) res.1 := by
  refine CI.of (cc := cX11_fits) (maxL := 3) (by decide) rfl (Nat.le_of_ble_eq_true rfl) ?_
  intro p e s m args below meth c A QQ ls E hr
  obtain ⟨hx, hb, hml, hown, hts, hK, hN, hP, hD, hA, hl⟩ := E
  have hret : ∀ (pc : Nat) (H : Heap) (locs : List Loc) (ls : Array Slot) (u : Int32 × Rc), u = res → va_P D vwCl (flat [WX11 cy h0 a0 u.2]) H → va_D A (flat [WX11 cy h0 a0 u.2]) → va_S A s.heap H locs → decode cX11_fits pc = .ok (.ireturn, 1) → W p l e rmX11_fits s m args below meth c H locs 0 0 QQ (F0 m pc ls [.int u.1]) := by
    intro pc H locs ls u hu hP hD hS hd; subst hu; exact hr pc H locs ls _ rfl hP hD hS hd
  clear hr
  have hl : lv_has ls 3 [(0, .ref h0), (1, .int p1), (2, .int p2)] := hl
  unfold fX11_fits at h
  suffices key : ∀ (H : Heap) (locs : List Loc), va_P D vwCl (flat [WX11 cy h0 a0 s0]) H → va_S A s.heap H locs → W p l e rmX11_fits s m args below meth c H locs 0 0 QQ (F0 m 0 ls []) from key _ _ hP va_S.rf
  clear hP
  intro H locs hP hS
  refine lv_aload_n hx hb dX11_fits_0 rfl (lv_at hl 0 rfl) ?_
  refine lv_iload_n hx hb dX11_fits_1 rfl (lv_at hl 1 rfl) ?_
  refine ca_z (w' := [WX11 cy h0 a0 s0]) (rn_V (As := [.int p1]) (rest := []) ⟨hx, hb, hml, hown, hts⟩ (kX11_isFarmer l D cy h0 a0 s0 p1 _ rfl H.size) (cwV 1 hts gX11_fits_X11_isFarmer rfl rfl rfl (by decide +kernel) ⟨Nat.le_of_ble_eq_true rfl, Nat.le_of_ble_eq_true rfl⟩) hK hN hP hD [0] rfl rfl (ci := 11) (q0 := 0) rfl rfl rfl rfl hl.1 rfl (Nat.le_of_ble_eq_true rfl) dX11_fits_2 ⟨Nat.le_refl 0, Nat.le_refl 0⟩) hP hD hS hA [0] ⟨rfl, rfl, rfl, rfl⟩ (fun b1 H locs hP hD hS => ?_)
  refine lv_if_eq (tgt := 35) hx hb dX11_fits_5 (by decide) (fun c2 => ?_) (fun c2 => ?_)
  · replace h := (if_pos c2).symm.trans h
    refine lv_aload_n hx hb dX11_fits_35 rfl (lv_at hl 0 rfl) ?_
    refine lv_iconst (v := 1) hx hb dX11_fits_36 (by decide) ?_
    obtain ⟨r3, hr3, h⟩ := lt_elim h
    refine ca_i (w' := [WX11 cy h0 a0 r3.2]) (rn_V (As := [.int (1 : Int32)]) (rest := []) ⟨hx, hb, hml, hown, hts⟩ (kX11_refuse l D cy h0 a0 s0 (1 : Int32) r3 hr3.symm H.size) (cwV 1 hts gX11_fits_X11_refuse rfl rfl rfl (by decide +kernel) ⟨Nat.le_of_ble_eq_true rfl, Nat.le_of_ble_eq_true rfl⟩) hK hN hP hD [0] rfl rfl (ci := 11) (q0 := 0) rfl rfl rfl rfl hl.1 rfl (Nat.le_of_ble_eq_true rfl) dX11_fits_37 ⟨Nat.le_refl 0, Nat.le_refl 0⟩) hP hD hS hA [0] ⟨rfl, rfl, rfl, rfl⟩ (fun H locs hP hD hS => ?_)
    exact hret 40 H locs ls (r3.1, r3.2) (Option.some.inj h) hP hD hS dX11_fits_40
  · replace h := (if_neg c2).symm.trans h
    refine lv_iload_n hx hb dX11_fits_8 rfl (lv_at hl 2 rfl) ?_
    refine lv_i2l hx hb dX11_fits_9 rfl ?_
    refine lv_ldc2 (v := -3) hx hb hown (hts (.constantLong RX11 385 (-3)) (List.mem_of_getElem? (i := 1) rfl)) dX11_fits_10 ?_
    refine lv_ldc2 (v := 3) hx hb hown (hts (.constantLong RX11 352 (3)) (List.mem_of_getElem? (i := 2) rfl)) dX11_fits_13 ?_
    refine ca_z (w' := [WX11 cy h0 a0 s0]) (rn_S (As := [.long p2.toInt64, .long (-3 : Int64), .long (3 : Int64)]) (rest := []) ⟨hx, hb, hml, hown, hts⟩ (kX11_isFrom l D cy p2.toInt64 (-3 : Int64) (3 : Int64) _ rfl H.size) (va_cwS 3 hts gX11_fits_X11_isFrom rfl rfl rfl (by decide +kernel) ⟨Nat.le_of_ble_eq_true rfl, Nat.le_of_ble_eq_true rfl⟩) hK hN hP hD [] rfl rfl rfl hl.1 rfl (Nat.le_of_ble_eq_true rfl) dX11_fits_16 ⟨Nat.le_refl 0, Nat.le_refl 0⟩) hP hD hS hA [] ⟨rfl, rfl, rfl, rfl⟩ (fun b4 H locs hP hD hS => ?_)
    refine lv_if_eq (tgt := 35) hx hb dX11_fits_19 (by decide) (fun c5 => ?_) (fun c5 => ?_)
    · replace h := (if_pos c5).symm.trans h
      refine lv_aload_n hx hb dX11_fits_35 rfl (lv_at hl 0 rfl) ?_
      refine lv_iconst (v := 1) hx hb dX11_fits_36 (by decide) ?_
      obtain ⟨r6, hr6, h⟩ := lt_elim h
      refine ca_i (w' := [WX11 cy h0 a0 r6.2]) (rn_V (As := [.int (1 : Int32)]) (rest := []) ⟨hx, hb, hml, hown, hts⟩ (kX11_refuse l D cy h0 a0 s0 (1 : Int32) r6 hr6.symm H.size) (cwV 1 hts gX11_fits_X11_refuse rfl rfl rfl (by decide +kernel) ⟨Nat.le_of_ble_eq_true rfl, Nat.le_of_ble_eq_true rfl⟩) hK hN hP hD [0] rfl rfl (ci := 11) (q0 := 0) rfl rfl rfl rfl hl.1 rfl (Nat.le_of_ble_eq_true rfl) dX11_fits_37 ⟨Nat.le_refl 0, Nat.le_refl 0⟩) hP hD hS hA [0] ⟨rfl, rfl, rfl, rfl⟩ (fun H locs hP hD hS => ?_)
      exact hret 40 H locs ls (r6.1, r6.2) (Option.some.inj h) hP hD hS dX11_fits_40
    · replace h := (if_neg c5).symm.trans h
      refine lv_aload_n hx hb dX11_fits_22 rfl (lv_at hl 0 rfl) ?_
      refine lv_aload_n hx hb dX11_fits_23 rfl (lv_at hl 0 rfl) ?_
      refine lv_iload_n hx hb dX11_fits_24 rfl (lv_at hl 1 rfl) ?_
      refine lv_iload_n hx hb dX11_fits_25 rfl (lv_at hl 2 rfl) ?_
      obtain ⟨r7, hr7, h⟩ := bd_elim h
      refine ca_i (w' := [WX11 cy h0 a0 s0]) (rn_V (As := [.int p1, .int p2]) (rest := [.ref h0]) ⟨hx, hb, hml, hown, hts⟩ (kX11_fitsOf l D cy h0 a0 s0 p1 p2 r7 hr7 H.size) (cwV 2 hts gX11_fits_X11_fitsOf rfl rfl rfl (by decide +kernel) ⟨Nat.le_of_ble_eq_true rfl, Nat.le_of_ble_eq_true rfl⟩) hK hN hP hD [0] rfl rfl (ci := 11) (q0 := 0) rfl rfl rfl rfl hl.1 rfl (Nat.le_of_ble_eq_true rfl) dX11_fits_26 ⟨Nat.le_refl 0, Nat.le_refl 0⟩) hP hD hS hA [0] ⟨rfl, rfl, rfl, rfl⟩ (fun H locs hP hD hS => ?_)
      obtain ⟨r8, hr8, h⟩ := lt_elim h
      refine ca_i (w' := [WX11 cy h0 a0 r8.2]) (rn_V (As := [.int r7]) (rest := []) ⟨hx, hb, hml, hown, hts⟩ (kX11_gives l D cy h0 a0 s0 r7 r8 hr8.symm H.size) (cwV 1 hts gX11_fits_X11_gives rfl rfl rfl (by decide +kernel) ⟨Nat.le_of_ble_eq_true rfl, Nat.le_of_ble_eq_true rfl⟩) hK hN hP hD [0] rfl rfl (ci := 11) (q0 := 0) rfl rfl rfl rfl hl.1 rfl (Nat.le_of_ble_eq_true rfl) dX11_fits_29 ⟨Nat.le_refl 0, Nat.le_refl 0⟩) hP hD hS hA [0] ⟨rfl, rfl, rfl, rfl⟩ (fun H locs hP hD hS => ?_)
      refine lv_goto (tgt := 40) hx hb dX11_fits_32 (by decide) ?_
      exact hret 40 H locs ls (r8.1, r8.2) (Option.some.inj h) hP hD hS dX11_fits_40
theorem gd_X11_isTurned : wsX11_isTurned.all goodWord = true := by decide +kernel
set_option maxRecDepth 20000 in
theorem ggX11_isTurned_X11_sayOf : GoodIn wsX11_isTurned wsX11_sayOf := goodIn_by gd_X11_isTurned (List.forall_mem_cons.mpr ⟨List.mem_cons_of_mem _ (List.mem_append_left _ (List.mem_append_left _ (List.mem_of_getElem? (i := 5) rfl))), List.forall_mem_append.mpr ⟨List.forall_mem_append.mpr ⟨List.forall_mem_cons.mpr ⟨List.mem_cons_of_mem _ (List.mem_append_left _ (List.mem_append_left _ (List.mem_of_getElem? (i := 6) rfl))), List.forall_mem_cons.mpr ⟨List.mem_cons_of_mem _ (List.mem_append_left _ (List.mem_append_left _ (List.mem_of_getElem? (i := 7) rfl))), List.forall_mem_cons.mpr ⟨List.mem_cons_of_mem _ (List.mem_append_left _ (List.mem_append_left _ (List.mem_of_getElem? (i := 8) rfl))), List.forall_mem_cons.mpr ⟨List.mem_cons_of_mem _ (List.mem_append_left _ (List.mem_append_left _ (List.mem_of_getElem? (i := 9) rfl))), List.forall_mem_cons.mpr ⟨List.mem_cons_of_mem _ (List.mem_append_left _ (List.mem_append_left _ (List.mem_of_getElem? (i := 4) rfl))), List.forall_mem_cons.mpr ⟨List.mem_cons_of_mem _ (List.mem_append_left _ (List.mem_append_left _ (List.mem_of_getElem? (i := 10) rfl))), List.forall_mem_cons.mpr ⟨List.mem_cons_of_mem _ (List.mem_append_left _ (List.mem_append_left _ (List.mem_of_getElem? (i := 11) rfl))), List.forall_mem_cons.mpr ⟨List.mem_cons_of_mem _ (List.mem_append_left _ (List.mem_append_left _ (List.mem_of_getElem? (i := 0) rfl))), List.forall_mem_cons.mpr ⟨List.mem_cons_of_mem _ (List.mem_append_left _ (List.mem_append_left _ (List.mem_of_getElem? (i := 12) rfl))), List.forall_mem_cons.mpr ⟨List.mem_cons_of_mem _ (List.mem_append_left _ (List.mem_append_left _ (List.mem_of_getElem? (i := 13) rfl))), List.forall_mem_cons.mpr ⟨List.mem_cons_of_mem _ (List.mem_append_left _ (List.mem_append_left _ (List.mem_of_getElem? (i := 14) rfl))), List.forall_mem_cons.mpr ⟨List.mem_cons_of_mem _ (List.mem_append_left _ (List.mem_append_left _ (List.mem_of_getElem? (i := 15) rfl))), List.forall_mem_cons.mpr ⟨List.mem_cons_of_mem _ (List.mem_append_left _ (List.mem_append_left _ (List.mem_of_getElem? (i := 16) rfl))), List.forall_mem_cons.mpr ⟨List.mem_cons_of_mem _ (List.mem_append_left _ (List.mem_append_left _ (List.mem_of_getElem? (i := 17) rfl))), List.forall_mem_cons.mpr ⟨List.mem_cons_of_mem _ (List.mem_append_left _ (List.mem_append_left _ (List.mem_of_getElem? (i := 18) rfl))), List.forall_mem_cons.mpr ⟨List.mem_cons_of_mem _ (List.mem_append_left _ (List.mem_append_left _ (List.mem_of_getElem? (i := 19) rfl))), List.forall_mem_cons.mpr ⟨List.mem_cons_of_mem _ (List.mem_append_left _ (List.mem_append_left _ (List.mem_of_getElem? (i := 20) rfl))), List.forall_mem_cons.mpr ⟨List.mem_cons_of_mem _ (List.mem_append_left _ (List.mem_append_left _ (List.mem_of_getElem? (i := 21) rfl))), List.forall_mem_cons.mpr ⟨List.mem_cons_of_mem _ (List.mem_append_left _ (List.mem_append_left _ (List.mem_of_getElem? (i := 22) rfl))), List.forall_mem_cons.mpr ⟨List.mem_cons_of_mem _ (List.mem_append_left _ (List.mem_append_left _ (List.mem_of_getElem? (i := 23) rfl))), List.forall_mem_cons.mpr ⟨List.mem_cons_of_mem _ (List.mem_append_left _ (List.mem_append_right _ (List.mem_of_getElem? (i := 0) rfl))), List.forall_mem_cons.mpr ⟨List.mem_cons_of_mem _ (List.mem_append_left _ (List.mem_append_right _ (List.mem_of_getElem? (i := 1) rfl))), List.forall_mem_cons.mpr ⟨List.mem_cons_of_mem _ (List.mem_append_left _ (List.mem_append_right _ (List.mem_of_getElem? (i := 2) rfl))), List.forall_mem_cons.mpr ⟨List.mem_cons_of_mem _ (List.mem_append_left _ (List.mem_append_right _ (List.mem_of_getElem? (i := 3) rfl))), nowords_in⟩⟩⟩⟩⟩⟩⟩⟩⟩⟩⟩⟩⟩⟩⟩⟩⟩⟩⟩⟩⟩⟩⟩⟩, List.forall_mem_cons.mpr ⟨List.mem_cons_of_mem _ (List.mem_append_left _ (List.mem_append_right _ (List.mem_of_getElem? (i := 4) rfl))), List.forall_mem_cons.mpr ⟨List.mem_cons_of_mem _ (List.mem_append_left _ (List.mem_append_right _ (List.mem_of_getElem? (i := 5) rfl))), nowords_in⟩⟩⟩, (fun _ h => List.mem_cons_of_mem _ (List.mem_append_right _ (h)))⟩⟩)
set_option maxRecDepth 20000 in
theorem gX11_isTurned_X11_sayOf : GoodIn wsX11_isTurned (wsV RX11 316 RX11 yX11_sayOf wsX11_sayOf) := goodIn_app (goodIn_by gd_X11_isTurned (List.forall_mem_cons.mpr ⟨List.mem_cons_of_mem _ (List.mem_append_left _ (List.mem_append_left _ (List.mem_of_getElem? (i := 1) rfl))), List.forall_mem_cons.mpr ⟨List.mem_cons_of_mem _ (List.mem_append_left _ (List.mem_append_left _ (List.mem_of_getElem? (i := 2) rfl))), List.forall_mem_cons.mpr ⟨List.mem_cons_of_mem _ (List.mem_append_left _ (List.mem_append_left _ (List.mem_of_getElem? (i := 3) rfl))), List.forall_mem_cons.mpr ⟨List.mem_cons_of_mem _ (List.mem_append_left _ (List.mem_append_left _ (List.mem_of_getElem? (i := 4) rfl))), nowords_in⟩⟩⟩⟩)) ggX11_isTurned_X11_sayOf
theorem dX11_isTurned_0 : decode cX11_isTurned 0 = .ok (.aload_n 0, 1) := by decide +kernel
theorem dX11_isTurned_1 : decode cX11_isTurned 1 = .ok (.iload_n 2, 1) := by decide +kernel
theorem dX11_isTurned_2 : decode cX11_isTurned 2 = .ok (.invokevirtual 316, 3) := by decide +kernel
theorem dX11_isTurned_5 : decode cX11_isTurned 5 = .ok (.istore_n 3, 1) := by decide +kernel
theorem dX11_isTurned_6 : decode cX11_isTurned 6 = .ok (.aload_n 0, 1) := by decide +kernel
theorem dX11_isTurned_7 : decode cX11_isTurned 7 = .ok (.iload_n 1, 1) := by decide +kernel
theorem dX11_isTurned_8 : decode cX11_isTurned 8 = .ok (.putfield 301, 3) := by decide +kernel
theorem dX11_isTurned_11 : decode cX11_isTurned 11 = .ok (.aload_n 0, 1) := by decide +kernel
theorem dX11_isTurned_12 : decode cX11_isTurned 12 = .ok (.iload_n 2, 1) := by decide +kernel
theorem dX11_isTurned_13 : decode cX11_isTurned 13 = .ok (.invokevirtual 316, 3) := by decide +kernel
theorem dX11_isTurned_16 : decode cX11_isTurned 16 = .ok (.iload_n 3, 1) := by decide +kernel
theorem dX11_isTurned_17 : decode cX11_isTurned 17 = .ok (.if_icmp .eq 7, 3) := by decide +kernel
theorem dX11_isTurned_20 : decode cX11_isTurned 20 = .ok (.iconst 1, 1) := by decide +kernel
theorem dX11_isTurned_21 : decode cX11_isTurned 21 = .ok (.goto 4, 3) := by decide +kernel
theorem dX11_isTurned_24 : decode cX11_isTurned 24 = .ok (.iconst 0, 1) := by decide +kernel
theorem dX11_isTurned_25 : decode cX11_isTurned 25 = .ok (.istore 4, 2) := by decide +kernel
theorem dX11_isTurned_27 : decode cX11_isTurned 27 = .ok (.aload_n 0, 1) := by decide +kernel
theorem dX11_isTurned_28 : decode cX11_isTurned 28 = .ok (.iconst 0, 1) := by decide +kernel
theorem dX11_isTurned_29 : decode cX11_isTurned 29 = .ok (.putfield 301, 3) := by decide +kernel
theorem dX11_isTurned_32 : decode cX11_isTurned 32 = .ok (.iload 4, 2) := by decide +kernel
theorem dX11_isTurned_34 : decode cX11_isTurned 34 = .ok (.ireturn, 1) := by decide +kernel
abbrev rmX11_isTurned : Room := { frames := 4, cells := 0, slots := 0, locals := 92 }
set_option maxHeartbeats 4000000 in
set_option maxRecDepth 100000 in
theorem kX11_isTurned (l : Launch) (D : va_G) (cy : Nat → ClassId) (h0 : Nat) (a0 : Nat → Nat) (s0 : Rc) (p1 : Int32) (p2 : Int32) (res : Int32 × Rc) (h : fX11_isTurned p1 p2 s0 = some res) : CZ l D cy yX11_isTurned wsX11_isTurned rmX11_isTurned [.ref h0, .int p1, .int p2] (flat [WX11 cy h0 a0 s0]) (flat [WX11 cy h0 a0 res.2]) res.1 := by
  refine CZ.of (cc := cX11_isTurned) (maxL := 5) (by decide) rfl (Nat.le_of_ble_eq_true rfl) ?_
  intro p e s m args below meth c A QQ ls E hr
  obtain ⟨hx, hb, hml, hown, hts, hK, hN, hP, hD, hA, hl⟩ := E
  have hret : ∀ (pc : Nat) (H : Heap) (locs : List Loc) (ls : Array Slot) (u : Int32 × Rc), u = res → va_P D vwCl (flat [WX11 cy h0 a0 u.2]) H → va_D A (flat [WX11 cy h0 a0 u.2]) → va_S A s.heap H locs → isb u.1 = true → decode cX11_isTurned pc = .ok (.ireturn, 1) → W p l e rmX11_isTurned s m args below meth c H locs 0 0 QQ (F0 m pc ls [.int u.1]) := by
    intro pc H locs ls u hu hP hD hS hz hd; subst hu; exact hr pc H locs ls _ rfl hP hD hS hz hd
  clear hr
  have hl : lv_has ls 5 [(0, .ref h0), (1, .int p1), (2, .int p2)] := hl
  have hinX11 : ∀ w ∈ wsX110, w ∈ wsX11_isTurned := fun _ h => List.mem_cons_of_mem _ (List.mem_append_right _ h)
  unfold fX11_isTurned at h
  suffices key : ∀ (H : Heap) (locs : List Loc), va_P D vwCl (flat [WX11 cy h0 a0 s0]) H → va_S A s.heap H locs → W p l e rmX11_isTurned s m args below meth c H locs 0 0 QQ (F0 m 0 ls []) from key _ _ hP va_S.rf
  clear hP
  intro H locs hP hS
  refine lv_aload_n hx hb dX11_isTurned_0 rfl (lv_at hl 0 rfl) ?_
  refine lv_iload_n hx hb dX11_isTurned_1 rfl (lv_at hl 2 rfl) ?_
  obtain ⟨r1, hr1, h⟩ := bd_elim h
  refine ca_i (w' := [WX11 cy h0 a0 s0]) (rn_V (As := [.int p2]) (rest := []) ⟨hx, hb, hml, hown, hts⟩ (kX11_sayOf l D cy h0 a0 s0 p2 r1 hr1 H.size) (cwV 1 hts gX11_isTurned_X11_sayOf rfl rfl rfl (by decide +kernel) ⟨Nat.le_of_ble_eq_true rfl, Nat.le_of_ble_eq_true rfl⟩) hK hN hP hD [0] rfl rfl (ci := 11) (q0 := 0) rfl rfl rfl rfl hl.1 rfl (Nat.le_of_ble_eq_true rfl) dX11_isTurned_2 ⟨Nat.le_refl 0, Nat.le_refl 0⟩) hP hD hS hA [0] ⟨rfl, rfl, rfl, rfl⟩ (fun H locs hP hD hS => ?_)
  refine lv_istore_n (lv' := [(3, .int r1), (0, .ref h0), (1, .int p1), (2, .int p2)]) hx hb dX11_isTurned_5 rfl hl (by decide) rfl (fun ls hl => ?_)
  refine lv_aload_n hx hb dX11_isTurned_6 rfl (lv_at hl 1 rfl) ?_
  refine lv_iload_n hx hb dX11_isTurned_7 rfl (lv_at hl 2 rfl) ?_
  obtain ⟨s0_2, es, h⟩ := lt_elim h
  refine va_put (D := D) (ci := 11) (v := .int p1) (ty := .int) (C := RX11) (T := TX11) (N := 38) hx hb hts hinX11 tyX11 tyX11_ok nmX11 hown hK hP hD hS 0 rfl rfl 26 (by decide) (hts (.fieldLink RX11 301 "KneeBenchModel" "turned" "I") (List.mem_of_getElem? (i := 1) rfl)) (fun _ h9 => h9) rfl (by decide +kernel) rfl rfl (Nat.le_of_ble_eq_true rfl) dX11_isTurned_8 (fun H locs hP hD hS => ?_)
  have hP : va_P D vwCl (flat [WX11 cy h0 a0 s0_2]) H := by rw [es]; exact hP
  have hD : va_D A (flat [WX11 cy h0 a0 s0_2]) := by rw [es]; exact hD
  clear es
  refine lv_aload_n hx hb dX11_isTurned_11 rfl (lv_at hl 1 rfl) ?_
  refine lv_iload_n hx hb dX11_isTurned_12 rfl (lv_at hl 3 rfl) ?_
  obtain ⟨r3, hr3, h⟩ := bd_elim h
  refine ca_i (w' := [WX11 cy h0 a0 s0_2]) (rn_V (As := [.int p2]) (rest := []) ⟨hx, hb, hml, hown, hts⟩ (kX11_sayOf l D cy h0 a0 s0_2 p2 r3 hr3 H.size) (cwV 1 hts gX11_isTurned_X11_sayOf rfl rfl rfl (by decide +kernel) ⟨Nat.le_of_ble_eq_true rfl, Nat.le_of_ble_eq_true rfl⟩) hK hN hP hD [0] rfl rfl (ci := 11) (q0 := 0) rfl rfl rfl rfl hl.1 rfl (Nat.le_of_ble_eq_true rfl) dX11_isTurned_13 ⟨Nat.le_refl 0, Nat.le_refl 0⟩) hP hD hS hA [0] ⟨rfl, rfl, rfl, rfl⟩ (fun H locs hP hD hS => ?_)
  refine lv_iload_n hx hb dX11_isTurned_16 rfl (lv_at hl 0 rfl) ?_
  refine lv_icmp_eq (tgt := 24) hx hb dX11_isTurned_17 (by decide) (fun c4 => ?_) (fun c4 => ?_)
  · replace h := (if_pos c4).symm.trans h
    refine lv_iconst (v := 0) hx hb dX11_isTurned_24 (by decide) ?_
    refine lv_istore (lv' := [(4, .int (0 : Int32)), (3, .int r1), (0, .ref h0), (1, .int p1), (2, .int p2)]) hx hb dX11_isTurned_25 hl (by decide) rfl (fun ls hl => ?_)
    refine lv_aload_n hx hb dX11_isTurned_27 rfl (lv_at hl 2 rfl) ?_
    refine lv_iconst (v := 0) hx hb dX11_isTurned_28 (by decide) ?_
    obtain ⟨s0_5, es, h⟩ := lt_elim h
    refine va_put (D := D) (ci := 11) (v := .int (0 : Int32)) (ty := .int) (C := RX11) (T := TX11) (N := 38) hx hb hts hinX11 tyX11 tyX11_ok nmX11 hown hK hP hD hS 0 rfl rfl 26 (by decide) (hts (.fieldLink RX11 301 "KneeBenchModel" "turned" "I") (List.mem_of_getElem? (i := 1) rfl)) (fun _ h9 => h9) rfl (by decide +kernel) rfl rfl (Nat.le_of_ble_eq_true rfl) dX11_isTurned_29 (fun H locs hP hD hS => ?_)
    have hP : va_P D vwCl (flat [WX11 cy h0 a0 s0_5]) H := by rw [es]; exact hP
    have hD : va_D A (flat [WX11 cy h0 a0 s0_5]) := by rw [es]; exact hD
    clear es
    refine lv_iload hx hb dX11_isTurned_32 (lv_at hl 0 rfl) ?_
    exact hret 34 H locs ls ((0 : Int32), s0_5) (Option.some.inj h) hP hD hS (show isb (0 : Int32) = true by decide) dX11_isTurned_34
  · replace h := (if_neg c4).symm.trans h
    refine lv_iconst (v := 1) hx hb dX11_isTurned_20 (by decide) ?_
    refine lv_goto (tgt := 25) hx hb dX11_isTurned_21 (by decide) ?_
    refine lv_istore (lv' := [(4, .int (1 : Int32)), (3, .int r1), (0, .ref h0), (1, .int p1), (2, .int p2)]) hx hb dX11_isTurned_25 hl (by decide) rfl (fun ls hl => ?_)
    refine lv_aload_n hx hb dX11_isTurned_27 rfl (lv_at hl 2 rfl) ?_
    refine lv_iconst (v := 0) hx hb dX11_isTurned_28 (by decide) ?_
    obtain ⟨s0_6, es, h⟩ := lt_elim h
    refine va_put (D := D) (ci := 11) (v := .int (0 : Int32)) (ty := .int) (C := RX11) (T := TX11) (N := 38) hx hb hts hinX11 tyX11 tyX11_ok nmX11 hown hK hP hD hS 0 rfl rfl 26 (by decide) (hts (.fieldLink RX11 301 "KneeBenchModel" "turned" "I") (List.mem_of_getElem? (i := 1) rfl)) (fun _ h9 => h9) rfl (by decide +kernel) rfl rfl (Nat.le_of_ble_eq_true rfl) dX11_isTurned_29 (fun H locs hP hD hS => ?_)
    have hP : va_P D vwCl (flat [WX11 cy h0 a0 s0_6]) H := by rw [es]; exact hP
    have hD : va_D A (flat [WX11 cy h0 a0 s0_6]) := by rw [es]; exact hD
    clear es
    refine lv_iload hx hb dX11_isTurned_32 (lv_at hl 0 rfl) ?_
    exact hret 34 H locs ls ((1 : Int32), s0_6) (Option.some.inj h) hP hD hS (show isb (1 : Int32) = true by decide) dX11_isTurned_34
theorem gd_X11_flips : wsX11_flips.all goodWord = true := by decide +kernel
set_option maxRecDepth 20000 in
theorem ggX11_flips_X11_isAsked : GoodIn wsX11_flips wsX11_isAsked := goodIn_by gd_X11_flips (List.forall_mem_cons.mpr ⟨List.mem_cons_of_mem _ (List.mem_append_left _ (List.mem_append_left _ (List.mem_of_getElem? (i := 4) rfl))), nowords_in⟩)
set_option maxRecDepth 20000 in
theorem gX11_flips_X11_isAsked : GoodIn wsX11_flips (va_wsS RX11 304 yX11_isAsked wsX11_isAsked) := goodIn_app (goodIn_by gd_X11_flips (List.forall_mem_cons.mpr ⟨List.mem_cons_of_mem _ (List.mem_append_left _ (List.mem_append_left _ (List.mem_of_getElem? (i := 1) rfl))), List.forall_mem_cons.mpr ⟨List.mem_cons_of_mem _ (List.mem_append_left _ (List.mem_append_left _ (List.mem_of_getElem? (i := 2) rfl))), List.forall_mem_cons.mpr ⟨List.mem_cons_of_mem _ (List.mem_append_left _ (List.mem_append_left _ (List.mem_of_getElem? (i := 3) rfl))), nowords_in⟩⟩⟩)) ggX11_flips_X11_isAsked
set_option maxRecDepth 20000 in
theorem ggX11_flips_X11_refuse : GoodIn wsX11_flips wsX11_refuse := goodIn_by gd_X11_flips (List.forall_mem_cons.mpr ⟨List.mem_cons_of_mem _ (List.mem_append_left _ (List.mem_append_left _ (List.mem_of_getElem? (i := 8) rfl))), List.forall_mem_append.mpr ⟨List.forall_mem_cons.mpr ⟨List.mem_cons_of_mem _ (List.mem_append_left _ (List.mem_append_left _ (List.mem_of_getElem? (i := 9) rfl))), nowords_in⟩, (fun _ h => List.mem_cons_of_mem _ (List.mem_append_right _ (h)))⟩⟩)
set_option maxRecDepth 20000 in
theorem gX11_flips_X11_refuse : GoodIn wsX11_flips (wsV RX11 75 RX11 yX11_refuse wsX11_refuse) := goodIn_app (goodIn_by gd_X11_flips (List.forall_mem_cons.mpr ⟨List.mem_cons_of_mem _ (List.mem_append_left _ (List.mem_append_left _ (List.mem_of_getElem? (i := 5) rfl))), List.forall_mem_cons.mpr ⟨List.mem_cons_of_mem _ (List.mem_append_left _ (List.mem_append_left _ (List.mem_of_getElem? (i := 6) rfl))), List.forall_mem_cons.mpr ⟨List.mem_cons_of_mem _ (List.mem_append_left _ (List.mem_append_left _ (List.mem_of_getElem? (i := 7) rfl))), List.forall_mem_cons.mpr ⟨List.mem_cons_of_mem _ (List.mem_append_left _ (List.mem_append_left _ (List.mem_of_getElem? (i := 3) rfl))), nowords_in⟩⟩⟩⟩)) ggX11_flips_X11_refuse
set_option maxRecDepth 20000 in
theorem ggX11_flips_X11_sayOf : GoodIn wsX11_flips wsX11_sayOf := goodIn_by gd_X11_flips (List.forall_mem_cons.mpr ⟨List.mem_cons_of_mem _ (List.mem_append_left _ (List.mem_append_left _ (List.mem_of_getElem? (i := 13) rfl))), List.forall_mem_append.mpr ⟨List.forall_mem_append.mpr ⟨List.forall_mem_cons.mpr ⟨List.mem_cons_of_mem _ (List.mem_append_left _ (List.mem_append_left _ (List.mem_of_getElem? (i := 0) rfl))), List.forall_mem_cons.mpr ⟨List.mem_cons_of_mem _ (List.mem_append_left _ (List.mem_append_left _ (List.mem_of_getElem? (i := 14) rfl))), List.forall_mem_cons.mpr ⟨List.mem_cons_of_mem _ (List.mem_append_left _ (List.mem_append_left _ (List.mem_of_getElem? (i := 15) rfl))), List.forall_mem_cons.mpr ⟨List.mem_cons_of_mem _ (List.mem_append_left _ (List.mem_append_left _ (List.mem_of_getElem? (i := 16) rfl))), List.forall_mem_cons.mpr ⟨List.mem_cons_of_mem _ (List.mem_append_left _ (List.mem_append_left _ (List.mem_of_getElem? (i := 3) rfl))), List.forall_mem_cons.mpr ⟨List.mem_cons_of_mem _ (List.mem_append_left _ (List.mem_append_left _ (List.mem_of_getElem? (i := 17) rfl))), List.forall_mem_cons.mpr ⟨List.mem_cons_of_mem _ (List.mem_append_left _ (List.mem_append_left _ (List.mem_of_getElem? (i := 18) rfl))), List.forall_mem_cons.mpr ⟨List.mem_cons_of_mem _ (List.mem_append_left _ (List.mem_append_left _ (List.mem_of_getElem? (i := 19) rfl))), List.forall_mem_cons.mpr ⟨List.mem_cons_of_mem _ (List.mem_append_left _ (List.mem_append_left _ (List.mem_of_getElem? (i := 20) rfl))), List.forall_mem_cons.mpr ⟨List.mem_cons_of_mem _ (List.mem_append_left _ (List.mem_append_left _ (List.mem_of_getElem? (i := 21) rfl))), List.forall_mem_cons.mpr ⟨List.mem_cons_of_mem _ (List.mem_append_left _ (List.mem_append_left _ (List.mem_of_getElem? (i := 22) rfl))), List.forall_mem_cons.mpr ⟨List.mem_cons_of_mem _ (List.mem_append_left _ (List.mem_append_left _ (List.mem_of_getElem? (i := 23) rfl))), List.forall_mem_cons.mpr ⟨List.mem_cons_of_mem _ (List.mem_append_left _ (List.mem_append_right _ (List.mem_append_left _ (List.mem_of_getElem? (i := 0) rfl)))), List.forall_mem_cons.mpr ⟨List.mem_cons_of_mem _ (List.mem_append_left _ (List.mem_append_right _ (List.mem_append_left _ (List.mem_of_getElem? (i := 1) rfl)))), List.forall_mem_cons.mpr ⟨List.mem_cons_of_mem _ (List.mem_append_left _ (List.mem_append_right _ (List.mem_append_left _ (List.mem_of_getElem? (i := 2) rfl)))), List.forall_mem_cons.mpr ⟨List.mem_cons_of_mem _ (List.mem_append_left _ (List.mem_append_right _ (List.mem_append_left _ (List.mem_of_getElem? (i := 3) rfl)))), List.forall_mem_cons.mpr ⟨List.mem_cons_of_mem _ (List.mem_append_left _ (List.mem_append_right _ (List.mem_append_left _ (List.mem_of_getElem? (i := 4) rfl)))), List.forall_mem_cons.mpr ⟨List.mem_cons_of_mem _ (List.mem_append_left _ (List.mem_append_right _ (List.mem_append_left _ (List.mem_of_getElem? (i := 5) rfl)))), List.forall_mem_cons.mpr ⟨List.mem_cons_of_mem _ (List.mem_append_left _ (List.mem_append_right _ (List.mem_append_left _ (List.mem_of_getElem? (i := 6) rfl)))), List.forall_mem_cons.mpr ⟨List.mem_cons_of_mem _ (List.mem_append_left _ (List.mem_append_right _ (List.mem_append_left _ (List.mem_of_getElem? (i := 7) rfl)))), List.forall_mem_cons.mpr ⟨List.mem_cons_of_mem _ (List.mem_append_left _ (List.mem_append_right _ (List.mem_append_left _ (List.mem_of_getElem? (i := 8) rfl)))), List.forall_mem_cons.mpr ⟨List.mem_cons_of_mem _ (List.mem_append_left _ (List.mem_append_right _ (List.mem_append_left _ (List.mem_of_getElem? (i := 9) rfl)))), List.forall_mem_cons.mpr ⟨List.mem_cons_of_mem _ (List.mem_append_left _ (List.mem_append_right _ (List.mem_append_left _ (List.mem_of_getElem? (i := 10) rfl)))), List.forall_mem_cons.mpr ⟨List.mem_cons_of_mem _ (List.mem_append_left _ (List.mem_append_right _ (List.mem_append_left _ (List.mem_of_getElem? (i := 11) rfl)))), nowords_in⟩⟩⟩⟩⟩⟩⟩⟩⟩⟩⟩⟩⟩⟩⟩⟩⟩⟩⟩⟩⟩⟩⟩⟩, List.forall_mem_cons.mpr ⟨List.mem_cons_of_mem _ (List.mem_append_left _ (List.mem_append_right _ (List.mem_append_left _ (List.mem_of_getElem? (i := 12) rfl)))), List.forall_mem_cons.mpr ⟨List.mem_cons_of_mem _ (List.mem_append_left _ (List.mem_append_right _ (List.mem_append_left _ (List.mem_of_getElem? (i := 13) rfl)))), nowords_in⟩⟩⟩, (fun _ h => List.mem_cons_of_mem _ (List.mem_append_right _ (h)))⟩⟩)
set_option maxRecDepth 20000 in
theorem gX11_flips_X11_sayOf : GoodIn wsX11_flips (wsV RX11 316 RX11 yX11_sayOf wsX11_sayOf) := goodIn_app (goodIn_by gd_X11_flips (List.forall_mem_cons.mpr ⟨List.mem_cons_of_mem _ (List.mem_append_left _ (List.mem_append_left _ (List.mem_of_getElem? (i := 10) rfl))), List.forall_mem_cons.mpr ⟨List.mem_cons_of_mem _ (List.mem_append_left _ (List.mem_append_left _ (List.mem_of_getElem? (i := 11) rfl))), List.forall_mem_cons.mpr ⟨List.mem_cons_of_mem _ (List.mem_append_left _ (List.mem_append_left _ (List.mem_of_getElem? (i := 12) rfl))), List.forall_mem_cons.mpr ⟨List.mem_cons_of_mem _ (List.mem_append_left _ (List.mem_append_left _ (List.mem_of_getElem? (i := 3) rfl))), nowords_in⟩⟩⟩⟩)) ggX11_flips_X11_sayOf
set_option maxRecDepth 20000 in
theorem ggX11_flips_X11_tellOf : GoodIn wsX11_flips wsX11_tellOf := goodIn_by gd_X11_flips (List.forall_mem_cons.mpr ⟨List.mem_cons_of_mem _ (List.mem_append_left _ (List.mem_append_left _ (List.mem_of_getElem? (i := 17) rfl))), List.forall_mem_append.mpr ⟨List.forall_mem_cons.mpr ⟨List.mem_cons_of_mem _ (List.mem_append_left _ (List.mem_append_left _ (List.mem_of_getElem? (i := 18) rfl))), List.forall_mem_cons.mpr ⟨List.mem_cons_of_mem _ (List.mem_append_left _ (List.mem_append_left _ (List.mem_of_getElem? (i := 0) rfl))), List.forall_mem_cons.mpr ⟨List.mem_cons_of_mem _ (List.mem_append_left _ (List.mem_append_left _ (List.mem_of_getElem? (i := 19) rfl))), List.forall_mem_cons.mpr ⟨List.mem_cons_of_mem _ (List.mem_append_left _ (List.mem_append_left _ (List.mem_of_getElem? (i := 20) rfl))), List.forall_mem_cons.mpr ⟨List.mem_cons_of_mem _ (List.mem_append_left _ (List.mem_append_left _ (List.mem_of_getElem? (i := 21) rfl))), List.forall_mem_cons.mpr ⟨List.mem_cons_of_mem _ (List.mem_append_left _ (List.mem_append_left _ (List.mem_of_getElem? (i := 22) rfl))), List.forall_mem_cons.mpr ⟨List.mem_cons_of_mem _ (List.mem_append_left _ (List.mem_append_left _ (List.mem_of_getElem? (i := 3) rfl))), List.forall_mem_cons.mpr ⟨List.mem_cons_of_mem _ (List.mem_append_left _ (List.mem_append_left _ (List.mem_of_getElem? (i := 23) rfl))), List.forall_mem_cons.mpr ⟨List.mem_cons_of_mem _ (List.mem_append_left _ (List.mem_append_right _ (List.mem_append_left _ (List.mem_of_getElem? (i := 0) rfl)))), List.forall_mem_cons.mpr ⟨List.mem_cons_of_mem _ (List.mem_append_left _ (List.mem_append_right _ (List.mem_append_left _ (List.mem_of_getElem? (i := 1) rfl)))), List.forall_mem_cons.mpr ⟨List.mem_cons_of_mem _ (List.mem_append_left _ (List.mem_append_right _ (List.mem_append_left _ (List.mem_of_getElem? (i := 2) rfl)))), List.forall_mem_cons.mpr ⟨List.mem_cons_of_mem _ (List.mem_append_left _ (List.mem_append_right _ (List.mem_append_left _ (List.mem_of_getElem? (i := 3) rfl)))), List.forall_mem_cons.mpr ⟨List.mem_cons_of_mem _ (List.mem_append_left _ (List.mem_append_right _ (List.mem_append_left _ (List.mem_of_getElem? (i := 4) rfl)))), List.forall_mem_cons.mpr ⟨List.mem_cons_of_mem _ (List.mem_append_left _ (List.mem_append_right _ (List.mem_append_left _ (List.mem_of_getElem? (i := 5) rfl)))), List.forall_mem_cons.mpr ⟨List.mem_cons_of_mem _ (List.mem_append_left _ (List.mem_append_right _ (List.mem_append_left _ (List.mem_of_getElem? (i := 6) rfl)))), List.forall_mem_cons.mpr ⟨List.mem_cons_of_mem _ (List.mem_append_left _ (List.mem_append_right _ (List.mem_append_left _ (List.mem_of_getElem? (i := 7) rfl)))), List.forall_mem_cons.mpr ⟨List.mem_cons_of_mem _ (List.mem_append_left _ (List.mem_append_right _ (List.mem_append_left _ (List.mem_of_getElem? (i := 8) rfl)))), List.forall_mem_cons.mpr ⟨List.mem_cons_of_mem _ (List.mem_append_left _ (List.mem_append_right _ (List.mem_append_left _ (List.mem_of_getElem? (i := 9) rfl)))), List.forall_mem_cons.mpr ⟨List.mem_cons_of_mem _ (List.mem_append_left _ (List.mem_append_right _ (List.mem_append_left _ (List.mem_of_getElem? (i := 10) rfl)))), List.forall_mem_cons.mpr ⟨List.mem_cons_of_mem _ (List.mem_append_left _ (List.mem_append_right _ (List.mem_append_left _ (List.mem_of_getElem? (i := 11) rfl)))), List.forall_mem_cons.mpr ⟨List.mem_cons_of_mem _ (List.mem_append_left _ (List.mem_append_right _ (List.mem_append_left _ (List.mem_of_getElem? (i := 12) rfl)))), List.forall_mem_cons.mpr ⟨List.mem_cons_of_mem _ (List.mem_append_left _ (List.mem_append_right _ (List.mem_append_left _ (List.mem_of_getElem? (i := 13) rfl)))), nowords_in⟩⟩⟩⟩⟩⟩⟩⟩⟩⟩⟩⟩⟩⟩⟩⟩⟩⟩⟩⟩⟩⟩, (fun _ h => List.mem_cons_of_mem _ (List.mem_append_right _ (h)))⟩⟩)
set_option maxRecDepth 20000 in
theorem gX11_flips_X11_tellOf : GoodIn wsX11_flips (wsV RX11 307 RX11 yX11_tellOf wsX11_tellOf) := goodIn_app (goodIn_by gd_X11_flips (List.forall_mem_cons.mpr ⟨List.mem_cons_of_mem _ (List.mem_append_left _ (List.mem_append_left _ (List.mem_of_getElem? (i := 14) rfl))), List.forall_mem_cons.mpr ⟨List.mem_cons_of_mem _ (List.mem_append_left _ (List.mem_append_left _ (List.mem_of_getElem? (i := 15) rfl))), List.forall_mem_cons.mpr ⟨List.mem_cons_of_mem _ (List.mem_append_left _ (List.mem_append_left _ (List.mem_of_getElem? (i := 16) rfl))), List.forall_mem_cons.mpr ⟨List.mem_cons_of_mem _ (List.mem_append_left _ (List.mem_append_left _ (List.mem_of_getElem? (i := 3) rfl))), nowords_in⟩⟩⟩⟩)) ggX11_flips_X11_tellOf
set_option maxRecDepth 20000 in
theorem ggX11_flips_X11_bits : GoodIn wsX11_flips wsX11_bits := goodIn_by gd_X11_flips (List.forall_mem_cons.mpr ⟨List.mem_cons_of_mem _ (List.mem_append_left _ (List.mem_append_right _ (List.mem_append_left _ (List.mem_of_getElem? (i := 16) rfl)))), nowords_in⟩)
set_option maxRecDepth 20000 in
theorem gX11_flips_X11_bits : GoodIn wsX11_flips (va_wsS RX11 322 yX11_bits wsX11_bits) := goodIn_app (goodIn_by gd_X11_flips (List.forall_mem_cons.mpr ⟨List.mem_cons_of_mem _ (List.mem_append_left _ (List.mem_append_right _ (List.mem_append_left _ (List.mem_of_getElem? (i := 14) rfl)))), List.forall_mem_cons.mpr ⟨List.mem_cons_of_mem _ (List.mem_append_left _ (List.mem_append_right _ (List.mem_append_left _ (List.mem_of_getElem? (i := 15) rfl)))), List.forall_mem_cons.mpr ⟨List.mem_cons_of_mem _ (List.mem_append_left _ (List.mem_append_left _ (List.mem_of_getElem? (i := 3) rfl))), nowords_in⟩⟩⟩)) ggX11_flips_X11_bits
set_option maxRecDepth 20000 in
theorem ggX11_flips_X11_isTurned : GoodIn wsX11_flips wsX11_isTurned := goodIn_by gd_X11_flips (List.forall_mem_cons.mpr ⟨List.mem_cons_of_mem _ (List.mem_append_left _ (List.mem_append_right _ (List.mem_append_left _ (List.mem_of_getElem? (i := 20) rfl)))), List.forall_mem_append.mpr ⟨List.forall_mem_append.mpr ⟨List.forall_mem_cons.mpr ⟨List.mem_cons_of_mem _ (List.mem_append_left _ (List.mem_append_left _ (List.mem_of_getElem? (i := 19) rfl))), List.forall_mem_cons.mpr ⟨List.mem_cons_of_mem _ (List.mem_append_left _ (List.mem_append_left _ (List.mem_of_getElem? (i := 10) rfl))), List.forall_mem_cons.mpr ⟨List.mem_cons_of_mem _ (List.mem_append_left _ (List.mem_append_left _ (List.mem_of_getElem? (i := 11) rfl))), List.forall_mem_cons.mpr ⟨List.mem_cons_of_mem _ (List.mem_append_left _ (List.mem_append_left _ (List.mem_of_getElem? (i := 12) rfl))), List.forall_mem_cons.mpr ⟨List.mem_cons_of_mem _ (List.mem_append_left _ (List.mem_append_left _ (List.mem_of_getElem? (i := 3) rfl))), List.forall_mem_cons.mpr ⟨List.mem_cons_of_mem _ (List.mem_append_left _ (List.mem_append_left _ (List.mem_of_getElem? (i := 13) rfl))), List.forall_mem_cons.mpr ⟨List.mem_cons_of_mem _ (List.mem_append_left _ (List.mem_append_left _ (List.mem_of_getElem? (i := 0) rfl))), List.forall_mem_cons.mpr ⟨List.mem_cons_of_mem _ (List.mem_append_left _ (List.mem_append_left _ (List.mem_of_getElem? (i := 14) rfl))), List.forall_mem_cons.mpr ⟨List.mem_cons_of_mem _ (List.mem_append_left _ (List.mem_append_left _ (List.mem_of_getElem? (i := 15) rfl))), List.forall_mem_cons.mpr ⟨List.mem_cons_of_mem _ (List.mem_append_left _ (List.mem_append_left _ (List.mem_of_getElem? (i := 16) rfl))), List.forall_mem_cons.mpr ⟨List.mem_cons_of_mem _ (List.mem_append_left _ (List.mem_append_left _ (List.mem_of_getElem? (i := 17) rfl))), List.forall_mem_cons.mpr ⟨List.mem_cons_of_mem _ (List.mem_append_left _ (List.mem_append_left _ (List.mem_of_getElem? (i := 18) rfl))), List.forall_mem_cons.mpr ⟨List.mem_cons_of_mem _ (List.mem_append_left _ (List.mem_append_left _ (List.mem_of_getElem? (i := 20) rfl))), List.forall_mem_cons.mpr ⟨List.mem_cons_of_mem _ (List.mem_append_left _ (List.mem_append_left _ (List.mem_of_getElem? (i := 21) rfl))), List.forall_mem_cons.mpr ⟨List.mem_cons_of_mem _ (List.mem_append_left _ (List.mem_append_left _ (List.mem_of_getElem? (i := 22) rfl))), List.forall_mem_cons.mpr ⟨List.mem_cons_of_mem _ (List.mem_append_left _ (List.mem_append_left _ (List.mem_of_getElem? (i := 23) rfl))), List.forall_mem_cons.mpr ⟨List.mem_cons_of_mem _ (List.mem_append_left _ (List.mem_append_right _ (List.mem_append_left _ (List.mem_of_getElem? (i := 0) rfl)))), List.forall_mem_cons.mpr ⟨List.mem_cons_of_mem _ (List.mem_append_left _ (List.mem_append_right _ (List.mem_append_left _ (List.mem_of_getElem? (i := 1) rfl)))), List.forall_mem_cons.mpr ⟨List.mem_cons_of_mem _ (List.mem_append_left _ (List.mem_append_right _ (List.mem_append_left _ (List.mem_of_getElem? (i := 2) rfl)))), List.forall_mem_cons.mpr ⟨List.mem_cons_of_mem _ (List.mem_append_left _ (List.mem_append_right _ (List.mem_append_left _ (List.mem_of_getElem? (i := 3) rfl)))), List.forall_mem_cons.mpr ⟨List.mem_cons_of_mem _ (List.mem_append_left _ (List.mem_append_right _ (List.mem_append_left _ (List.mem_of_getElem? (i := 4) rfl)))), List.forall_mem_cons.mpr ⟨List.mem_cons_of_mem _ (List.mem_append_left _ (List.mem_append_right _ (List.mem_append_left _ (List.mem_of_getElem? (i := 5) rfl)))), List.forall_mem_cons.mpr ⟨List.mem_cons_of_mem _ (List.mem_append_left _ (List.mem_append_right _ (List.mem_append_left _ (List.mem_of_getElem? (i := 6) rfl)))), List.forall_mem_cons.mpr ⟨List.mem_cons_of_mem _ (List.mem_append_left _ (List.mem_append_right _ (List.mem_append_left _ (List.mem_of_getElem? (i := 7) rfl)))), nowords_in⟩⟩⟩⟩⟩⟩⟩⟩⟩⟩⟩⟩⟩⟩⟩⟩⟩⟩⟩⟩⟩⟩⟩⟩, List.forall_mem_cons.mpr ⟨List.mem_cons_of_mem _ (List.mem_append_left _ (List.mem_append_right _ (List.mem_append_left _ (List.mem_of_getElem? (i := 8) rfl)))), List.forall_mem_cons.mpr ⟨List.mem_cons_of_mem _ (List.mem_append_left _ (List.mem_append_right _ (List.mem_append_left _ (List.mem_of_getElem? (i := 9) rfl)))), List.forall_mem_cons.mpr ⟨List.mem_cons_of_mem _ (List.mem_append_left _ (List.mem_append_right _ (List.mem_append_left _ (List.mem_of_getElem? (i := 10) rfl)))), List.forall_mem_cons.mpr ⟨List.mem_cons_of_mem _ (List.mem_append_left _ (List.mem_append_right _ (List.mem_append_left _ (List.mem_of_getElem? (i := 11) rfl)))), List.forall_mem_cons.mpr ⟨List.mem_cons_of_mem _ (List.mem_append_left _ (List.mem_append_right _ (List.mem_append_left _ (List.mem_of_getElem? (i := 12) rfl)))), List.forall_mem_cons.mpr ⟨List.mem_cons_of_mem _ (List.mem_append_left _ (List.mem_append_right _ (List.mem_append_left _ (List.mem_of_getElem? (i := 13) rfl)))), nowords_in⟩⟩⟩⟩⟩⟩⟩, (fun _ h => List.mem_cons_of_mem _ (List.mem_append_right _ (h)))⟩⟩)
set_option maxRecDepth 20000 in
theorem gX11_flips_X11_isTurned : GoodIn wsX11_flips (wsV RX11 319 RX11 yX11_isTurned wsX11_isTurned) := goodIn_app (goodIn_by gd_X11_flips (List.forall_mem_cons.mpr ⟨List.mem_cons_of_mem _ (List.mem_append_left _ (List.mem_append_right _ (List.mem_append_left _ (List.mem_of_getElem? (i := 17) rfl)))), List.forall_mem_cons.mpr ⟨List.mem_cons_of_mem _ (List.mem_append_left _ (List.mem_append_right _ (List.mem_append_left _ (List.mem_of_getElem? (i := 18) rfl)))), List.forall_mem_cons.mpr ⟨List.mem_cons_of_mem _ (List.mem_append_left _ (List.mem_append_right _ (List.mem_append_left _ (List.mem_of_getElem? (i := 19) rfl)))), List.forall_mem_cons.mpr ⟨List.mem_cons_of_mem _ (List.mem_append_left _ (List.mem_append_left _ (List.mem_of_getElem? (i := 3) rfl))), nowords_in⟩⟩⟩⟩)) ggX11_flips_X11_isTurned
set_option maxRecDepth 20000 in
theorem ggX11_flips_X11_gives : GoodIn wsX11_flips wsX11_gives := goodIn_by gd_X11_flips (List.forall_mem_cons.mpr ⟨List.mem_cons_of_mem _ (List.mem_append_left _ (List.mem_append_right _ (List.mem_append_right _ (List.mem_of_getElem? (i := 0) rfl)))), List.forall_mem_append.mpr ⟨List.forall_mem_cons.mpr ⟨List.mem_cons_of_mem _ (List.mem_append_left _ (List.mem_append_left _ (List.mem_of_getElem? (i := 9) rfl))), nowords_in⟩, (fun _ h => List.mem_cons_of_mem _ (List.mem_append_right _ (h)))⟩⟩)
set_option maxRecDepth 20000 in
theorem gX11_flips_X11_gives : GoodIn wsX11_flips (wsV RX11 79 RX11 yX11_gives wsX11_gives) := goodIn_app (goodIn_by gd_X11_flips (List.forall_mem_cons.mpr ⟨List.mem_cons_of_mem _ (List.mem_append_left _ (List.mem_append_right _ (List.mem_append_left _ (List.mem_of_getElem? (i := 21) rfl)))), List.forall_mem_cons.mpr ⟨List.mem_cons_of_mem _ (List.mem_append_left _ (List.mem_append_right _ (List.mem_append_left _ (List.mem_of_getElem? (i := 22) rfl)))), List.forall_mem_cons.mpr ⟨List.mem_cons_of_mem _ (List.mem_append_left _ (List.mem_append_right _ (List.mem_append_left _ (List.mem_of_getElem? (i := 23) rfl)))), List.forall_mem_cons.mpr ⟨List.mem_cons_of_mem _ (List.mem_append_left _ (List.mem_append_left _ (List.mem_of_getElem? (i := 3) rfl))), nowords_in⟩⟩⟩⟩)) ggX11_flips_X11_gives
theorem dX11_flips_0 : decode cX11_flips 0 = .ok (.iload_n 1, 1) := by decide +kernel
theorem dX11_flips_1 : decode cX11_flips 1 = .ok (.invokestatic 304, 3) := by decide +kernel
theorem dX11_flips_4 : decode cX11_flips 4 = .ok (.ifCond .ne 9, 3) := by decide +kernel
theorem dX11_flips_7 : decode cX11_flips 7 = .ok (.aload_n 0, 1) := by decide +kernel
theorem dX11_flips_8 : decode cX11_flips 8 = .ok (.iconst 1, 1) := by decide +kernel
theorem dX11_flips_9 : decode cX11_flips 9 = .ok (.invokevirtual 75, 3) := by decide +kernel
theorem dX11_flips_12 : decode cX11_flips 12 = .ok (.ireturn, 1) := by decide +kernel
theorem dX11_flips_13 : decode cX11_flips 13 = .ok (.aload_n 0, 1) := by decide +kernel
theorem dX11_flips_14 : decode cX11_flips 14 = .ok (.iload_n 1, 1) := by decide +kernel
theorem dX11_flips_15 : decode cX11_flips 15 = .ok (.invokevirtual 316, 3) := by decide +kernel
theorem dX11_flips_18 : decode cX11_flips 18 = .ok (.iconst (-1), 1) := by decide +kernel
theorem dX11_flips_19 : decode cX11_flips 19 = .ok (.if_icmp .ne 10, 3) := by decide +kernel
theorem dX11_flips_22 : decode cX11_flips 22 = .ok (.aload_n 0, 1) := by decide +kernel
theorem dX11_flips_23 : decode cX11_flips 23 = .ok (.bipush 6, 2) := by decide +kernel
theorem dX11_flips_25 : decode cX11_flips 25 = .ok (.invokevirtual 75, 3) := by decide +kernel
theorem dX11_flips_28 : decode cX11_flips 28 = .ok (.ireturn, 1) := by decide +kernel
theorem dX11_flips_29 : decode cX11_flips 29 = .ok (.iconst 0, 1) := by decide +kernel
theorem dX11_flips_30 : decode cX11_flips 30 = .ok (.istore_n 2, 1) := by decide +kernel
theorem dX11_flips_31 : decode cX11_flips 31 = .ok (.iconst 0, 1) := by decide +kernel
theorem dX11_flips_32 : decode cX11_flips 32 = .ok (.istore_n 3, 1) := by decide +kernel
theorem dX11_flips_33 : decode cX11_flips 33 = .ok (.iload_n 3, 1) := by decide +kernel
theorem dX11_flips_34 : decode cX11_flips 34 = .ok (.aload_n 0, 1) := by decide +kernel
theorem dX11_flips_35 : decode cX11_flips 35 = .ok (.getfield 7, 3) := by decide +kernel
theorem dX11_flips_38 : decode cX11_flips 38 = .ok (.iconst 0, 1) := by decide +kernel
theorem dX11_flips_39 : decode cX11_flips 39 = .ok (.iaload, 1) := by decide +kernel
theorem dX11_flips_40 : decode cX11_flips 40 = .ok (.if_icmp .ge 29, 3) := by decide +kernel
theorem dX11_flips_43 : decode cX11_flips 43 = .ok (.iload_n 2, 1) := by decide +kernel
theorem dX11_flips_44 : decode cX11_flips 44 = .ok (.aload_n 0, 1) := by decide +kernel
theorem dX11_flips_45 : decode cX11_flips 45 = .ok (.iload_n 3, 1) := by decide +kernel
theorem dX11_flips_46 : decode cX11_flips 46 = .ok (.iload_n 1, 1) := by decide +kernel
theorem dX11_flips_47 : decode cX11_flips 47 = .ok (.invokevirtual 307, 3) := by decide +kernel
theorem dX11_flips_50 : decode cX11_flips 50 = .ok (.iconst (-1), 1) := by decide +kernel
theorem dX11_flips_51 : decode cX11_flips 51 = .ok (.if_icmp .eq 9, 3) := by decide +kernel
theorem dX11_flips_54 : decode cX11_flips 54 = .ok (.iconst 1, 1) := by decide +kernel
theorem dX11_flips_55 : decode cX11_flips 55 = .ok (.iload_n 3, 1) := by decide +kernel
theorem dX11_flips_56 : decode cX11_flips 56 = .ok (.ishl, 1) := by decide +kernel
theorem dX11_flips_57 : decode cX11_flips 57 = .ok (.goto 4, 3) := by decide +kernel
theorem dX11_flips_60 : decode cX11_flips 60 = .ok (.iconst 0, 1) := by decide +kernel
theorem dX11_flips_61 : decode cX11_flips 61 = .ok (.ior, 1) := by decide +kernel
theorem dX11_flips_62 : decode cX11_flips 62 = .ok (.istore_n 2, 1) := by decide +kernel
theorem dX11_flips_63 : decode cX11_flips 63 = .ok (.iinc 3 1, 3) := by decide +kernel
theorem dX11_flips_66 : decode cX11_flips 66 = .ok (.goto (-33), 3) := by decide +kernel
theorem dX11_flips_69 : decode cX11_flips 69 = .ok (.bipush 8, 2) := by decide +kernel
theorem dX11_flips_71 : decode cX11_flips 71 = .ok (.istore_n 3, 1) := by decide +kernel
theorem dX11_flips_72 : decode cX11_flips 72 = .ok (.iconst 1, 1) := by decide +kernel
theorem dX11_flips_73 : decode cX11_flips 73 = .ok (.istore 4, 2) := by decide +kernel
theorem dX11_flips_75 : decode cX11_flips 75 = .ok (.iload 4, 2) := by decide +kernel
theorem dX11_flips_77 : decode cX11_flips 77 = .ok (.iconst 1, 1) := by decide +kernel
theorem dX11_flips_78 : decode cX11_flips 78 = .ok (.aload_n 0, 1) := by decide +kernel
theorem dX11_flips_79 : decode cX11_flips 79 = .ok (.getfield 7, 3) := by decide +kernel
theorem dX11_flips_82 : decode cX11_flips 82 = .ok (.iconst 0, 1) := by decide +kernel
theorem dX11_flips_83 : decode cX11_flips 83 = .ok (.iaload, 1) := by decide +kernel
theorem dX11_flips_84 : decode cX11_flips 84 = .ok (.ishl, 1) := by decide +kernel
theorem dX11_flips_85 : decode cX11_flips 85 = .ok (.if_icmp .ge 43, 3) := by decide +kernel
theorem dX11_flips_88 : decode cX11_flips 88 = .ok (.iload 4, 2) := by decide +kernel
theorem dX11_flips_90 : decode cX11_flips 90 = .ok (.iload_n 2, 1) := by decide +kernel
theorem dX11_flips_91 : decode cX11_flips 91 = .ok (.iconst (-1), 1) := by decide +kernel
theorem dX11_flips_92 : decode cX11_flips 92 = .ok (.ixor, 1) := by decide +kernel
theorem dX11_flips_93 : decode cX11_flips 93 = .ok (.iand, 1) := by decide +kernel
theorem dX11_flips_94 : decode cX11_flips 94 = .ok (.ifCond .ne 28, 3) := by decide +kernel
theorem dX11_flips_97 : decode cX11_flips 97 = .ok (.iload 4, 2) := by decide +kernel
theorem dX11_flips_99 : decode cX11_flips 99 = .ok (.invokestatic 322, 3) := by decide +kernel
theorem dX11_flips_102 : decode cX11_flips 102 = .ok (.iload_n 3, 1) := by decide +kernel
theorem dX11_flips_103 : decode cX11_flips 103 = .ok (.if_icmp .ge 19, 3) := by decide +kernel
theorem dX11_flips_106 : decode cX11_flips 106 = .ok (.aload_n 0, 1) := by decide +kernel
theorem dX11_flips_107 : decode cX11_flips 107 = .ok (.iload 4, 2) := by decide +kernel
theorem dX11_flips_109 : decode cX11_flips 109 = .ok (.iload_n 1, 1) := by decide +kernel
theorem dX11_flips_110 : decode cX11_flips 110 = .ok (.invokevirtual 319, 3) := by decide +kernel
theorem dX11_flips_113 : decode cX11_flips 113 = .ok (.ifCond .eq 9, 3) := by decide +kernel
theorem dX11_flips_116 : decode cX11_flips 116 = .ok (.iload 4, 2) := by decide +kernel
theorem dX11_flips_118 : decode cX11_flips 118 = .ok (.invokestatic 322, 3) := by decide +kernel
theorem dX11_flips_121 : decode cX11_flips 121 = .ok (.istore_n 3, 1) := by decide +kernel
theorem dX11_flips_122 : decode cX11_flips 122 = .ok (.iinc 4 1, 3) := by decide +kernel
theorem dX11_flips_125 : decode cX11_flips 125 = .ok (.goto (-50), 3) := by decide +kernel
theorem dX11_flips_128 : decode cX11_flips 128 = .ok (.aload_n 0, 1) := by decide +kernel
theorem dX11_flips_129 : decode cX11_flips 129 = .ok (.iload_n 3, 1) := by decide +kernel
theorem dX11_flips_130 : decode cX11_flips 130 = .ok (.invokevirtual 79, 3) := by decide +kernel
theorem dX11_flips_133 : decode cX11_flips 133 = .ok (.ireturn, 1) := by decide +kernel
abbrev rmX11_flips : Room := { frames := 5, cells := 0, slots := 0, locals := 116 }
set_option maxHeartbeats 4000000 in
set_option maxRecDepth 100000 in
theorem kX11_flips (l : Launch) (D : va_G) (cy : Nat → ClassId) (h0 : Nat) (a0 : Nat → Nat) (s0 : Rc) (p1 : Int32) (res : Int32 × Rc) (h : fX11_flips p1 s0 = some res) : CI l D cy yX11_flips wsX11_flips rmX11_flips [.ref h0, .int p1] (flat [WX11 cy h0 a0 s0]) (flat [WX11 cy h0 a0 res.2]) res.1 := by
  refine CI.of (cc := cX11_flips) (maxL := 5) (by decide) rfl (Nat.le_of_ble_eq_true rfl) ?_
  intro p e s m args below meth c A QQ ls E hr
  obtain ⟨hx, hb, hml, hown, hts, hK, hN, hP, hD, hA, hl⟩ := E
  have hret : ∀ (pc : Nat) (H : Heap) (locs : List Loc) (ls : Array Slot) (u : Int32 × Rc), u = res → va_P D vwCl (flat [WX11 cy h0 a0 u.2]) H → va_D A (flat [WX11 cy h0 a0 u.2]) → va_S A s.heap H locs → decode cX11_flips pc = .ok (.ireturn, 1) → W p l e rmX11_flips s m args below meth c H locs 0 0 QQ (F0 m pc ls [.int u.1]) := by
    intro pc H locs ls u hu hP hD hS hd; subst hu; exact hr pc H locs ls _ rfl hP hD hS hd
  clear hr
  have hl : lv_has ls 5 [(0, .ref h0), (1, .int p1)] := hl
  have hinX11 : ∀ w ∈ wsX110, w ∈ wsX11_flips := fun _ h => List.mem_cons_of_mem _ (List.mem_append_right _ h)
  unfold fX11_flips at h
  suffices key : ∀ (H : Heap) (locs : List Loc), va_P D vwCl (flat [WX11 cy h0 a0 s0]) H → va_S A s.heap H locs → W p l e rmX11_flips s m args below meth c H locs 0 0 QQ (F0 m 0 ls []) from key _ _ hP va_S.rf
  clear hP
  intro H locs hP hS
  refine lv_iload_n hx hb dX11_flips_0 rfl (lv_at hl 1 rfl) ?_
  refine ca_z (w' := [WX11 cy h0 a0 s0]) (rn_S (As := [.int p1]) (rest := []) ⟨hx, hb, hml, hown, hts⟩ (kX11_isAsked l D cy p1 _ rfl H.size) (va_cwS 1 hts gX11_flips_X11_isAsked rfl rfl rfl (by decide +kernel) ⟨Nat.le_of_ble_eq_true rfl, Nat.le_of_ble_eq_true rfl⟩) hK hN hP hD [] rfl rfl rfl hl.1 rfl (Nat.le_of_ble_eq_true rfl) dX11_flips_1 ⟨Nat.le_refl 0, Nat.le_refl 0⟩) hP hD hS hA [] ⟨rfl, rfl, rfl, rfl⟩ (fun b1 H locs hP hD hS => ?_)
  refine lv_if_ne (tgt := 13) hx hb dX11_flips_4 (by decide) (fun c2 => ?_) (fun c2 => ?_)
  · replace h := (if_neg c2).symm.trans h
    refine lv_aload_n hx hb dX11_flips_13 rfl (lv_at hl 0 rfl) ?_
    refine lv_iload_n hx hb dX11_flips_14 rfl (lv_at hl 1 rfl) ?_
    obtain ⟨r3, hr3, h⟩ := bd_elim h
    refine ca_i (w' := [WX11 cy h0 a0 s0]) (rn_V (As := [.int p1]) (rest := []) ⟨hx, hb, hml, hown, hts⟩ (kX11_sayOf l D cy h0 a0 s0 p1 r3 hr3 H.size) (cwV 1 hts gX11_flips_X11_sayOf rfl rfl rfl (by decide +kernel) ⟨Nat.le_of_ble_eq_true rfl, Nat.le_of_ble_eq_true rfl⟩) hK hN hP hD [0] rfl rfl (ci := 11) (q0 := 0) rfl rfl rfl rfl hl.1 rfl (Nat.le_of_ble_eq_true rfl) dX11_flips_15 ⟨Nat.le_refl 0, Nat.le_refl 0⟩) hP hD hS hA [0] ⟨rfl, rfl, rfl, rfl⟩ (fun H locs hP hD hS => ?_)
    refine lv_iconst (v := -1) hx hb dX11_flips_18 (by decide) ?_
    refine lv_icmp_ne (tgt := 29) hx hb dX11_flips_19 (by decide) (fun c4 => ?_) (fun c4 => ?_)
    · replace h := (if_neg c4).symm.trans h
      refine lv_iconst (v := 0) hx hb dX11_flips_29 (by decide) ?_
      refine lv_istore_n (lv' := [(2, .int (0 : Int32)), (0, .ref h0), (1, .int p1)]) hx hb dX11_flips_30 rfl hl (by decide) rfl (fun ls hl => ?_)
      refine lv_iconst (v := 0) hx hb dX11_flips_31 (by decide) ?_
      refine lv_istore_n (lv' := [(3, .int (0 : Int32)), (2, .int (0 : Int32)), (0, .ref h0), (1, .int p1)]) hx hb dX11_flips_32 rfl hl (by decide) rfl (fun ls hl => ?_)
      have L33 : ∀ (n : Nat) (q33 : Int32 × Int32) (o : Int32), loopO (fX11_flips_L33 p1 s0) n q33 = some o → ∀ (H : Heap) (locs : List Loc) (ls : Array Slot), lv_has ls 5 [(0, .ref h0), (1, .int p1), (2, .int q33.1), (3, .int q33.2)] → va_P D vwCl (flat [WX11 cy h0 a0 s0]) H → va_D A (flat [WX11 cy h0 a0 s0]) → va_S A s.heap H locs → ∀ (kk69 : ∀ (H : Heap) (locs : List Loc) (ls : Array Slot), lv_has ls 5 [(0, .ref h0), (1, .int p1), (2, .int o)] → va_P D vwCl (flat [WX11 cy h0 a0 s0]) H → va_D A (flat [WX11 cy h0 a0 s0]) → va_S A s.heap H locs → W p l e rmX11_flips s m args below meth c H locs 0 0 QQ (F0 m 69 ls [])), W p l e rmX11_flips s m args below meth c H locs 0 0 QQ (F0 m 33 ls []) := by
        intro n
        induction n with
        | zero => intro q33 o h; exact absurd h (by rw [loopO_zero]; intro z; cases z)
        | succ n ih =>
          intro q33 o h H locs ls hl hP hD hS kk69
          obtain ⟨w, h, hgo, hst⟩ := loopO_elim h
          unfold fX11_flips_L33 at h
          refine lv_iload_n hx hb dX11_flips_33 rfl (lv_at hl 3 rfl) ?_
          refine lv_aload_n hx hb dX11_flips_34 rfl (lv_at hl 0 rfl) ?_
          refine va_get (D := D) (ci := 11) (v := .ref (a0 0)) (C := RX11) (T := TX11) (N := 38) hx hb hts hinX11 hown hK hP 0 rfl rfl 0 (by decide) (hts (.fieldLink RX11 7 "KneeBenchModel" "at" "[I") (List.mem_of_getElem? (i := 1) rfl)) (fun _ h9 => h9) rfl dX11_flips_35 ?_
          refine lv_iconst (v := 0) hx hb dX11_flips_38 (by decide) ?_
          refine va_iald hx hb hK hP 1 1 rfl rfl (inb_in (by decide)) dX11_flips_39 ?_
          refine lv_icmp_ge (tgt := 69) hx hb dX11_flips_40 (by decide) (fun c5 => ?_) (fun c5 => ?_)
          · replace h := (if_pos c5).symm.trans h
            have eo := hst _ (Option.some.inj h).symm
            subst eo
            exact kk69 H locs ls (lv_sub hl [0, 1, 2] rfl) hP hD hS
          · replace h := (if_neg c5).symm.trans h
            refine lv_iload_n hx hb dX11_flips_43 rfl (lv_at hl 2 rfl) ?_
            refine lv_aload_n hx hb dX11_flips_44 rfl (lv_at hl 0 rfl) ?_
            refine lv_iload_n hx hb dX11_flips_45 rfl (lv_at hl 3 rfl) ?_
            refine lv_iload_n hx hb dX11_flips_46 rfl (lv_at hl 1 rfl) ?_
            obtain ⟨r6, hr6, h⟩ := bd_elim h
            refine ca_i (w' := [WX11 cy h0 a0 s0]) (rn_V (As := [.int q33.2, .int p1]) (rest := [.int q33.1]) ⟨hx, hb, hml, hown, hts⟩ (kX11_tellOf l D cy h0 a0 s0 q33.2 p1 r6 hr6 H.size) (cwV 2 hts gX11_flips_X11_tellOf rfl rfl rfl (by decide +kernel) ⟨Nat.le_of_ble_eq_true rfl, Nat.le_of_ble_eq_true rfl⟩) hK hN hP hD [0] rfl rfl (ci := 11) (q0 := 0) rfl rfl rfl rfl hl.1 rfl (Nat.le_of_ble_eq_true rfl) dX11_flips_47 ⟨Nat.le_refl 0, Nat.le_refl 0⟩) hP hD hS hA [0] ⟨rfl, rfl, rfl, rfl⟩ (fun H locs hP hD hS => ?_)
            refine lv_iconst (v := -1) hx hb dX11_flips_50 (by decide) ?_
            refine lv_icmp_eq (tgt := 60) hx hb dX11_flips_51 (by decide) (fun c7 => ?_) (fun c7 => ?_)
            · replace h := (if_pos c7).symm.trans h
              refine lv_iconst (v := 0) hx hb dX11_flips_60 (by decide) ?_
              refine lv_ior hx hb dX11_flips_61 ?_
              refine lv_topi (fun x8 ex8 => ?_)
              replace h := lt_use h x8 ex8
              refine lv_istore_n (lv' := [(2, .int x8), (0, .ref h0), (1, .int p1), (3, .int q33.2)]) hx hb dX11_flips_62 rfl hl (by decide) rfl (fun ls hl => ?_)
              refine lv_iinc (v := (q33.2 + (1 : Int32))) (lv' := [(3, .int (q33.2 + (1 : Int32))), (2, .int x8), (0, .ref h0), (1, .int p1)]) hx hb dX11_flips_63 hl (k := 3) rfl rfl (by decide) rfl (fun ls hl => ?_)
              refine lv_goto (tgt := 33) hx hb dX11_flips_66 (by decide) ?_
              exact ih _ o (hgo _ (Option.some.inj h).symm) H locs ls (lv_sub hl [2, 3, 1, 0] rfl) hP hD hS kk69
            · replace h := (if_neg c7).symm.trans h
              refine lv_iconst (v := 1) hx hb dX11_flips_54 (by decide) ?_
              refine lv_iload_n hx hb dX11_flips_55 rfl (lv_at hl 3 rfl) ?_
              refine lv_ishl hx hb dX11_flips_56 ?_
              refine lv_goto (tgt := 61) hx hb dX11_flips_57 (by decide) ?_
              refine lv_ior hx hb dX11_flips_61 ?_
              refine lv_topi (fun x9 ex9 => ?_)
              replace h := lt_use h x9 ex9
              refine lv_istore_n (lv' := [(2, .int x9), (0, .ref h0), (1, .int p1), (3, .int q33.2)]) hx hb dX11_flips_62 rfl hl (by decide) rfl (fun ls hl => ?_)
              refine lv_iinc (v := (q33.2 + (1 : Int32))) (lv' := [(3, .int (q33.2 + (1 : Int32))), (2, .int x9), (0, .ref h0), (1, .int p1)]) hx hb dX11_flips_63 hl (k := 3) rfl rfl (by decide) rfl (fun ls hl => ?_)
              refine lv_goto (tgt := 33) hx hb dX11_flips_66 (by decide) ?_
              exact ih _ o (hgo _ (Option.some.inj h).symm) H locs ls (lv_sub hl [2, 3, 1, 0] rfl) hP hD hS kk69
      obtain ⟨o33, ho33, h⟩ := bd_elim h
      obtain ⟨n33, hn33⟩ := loopF_some ho33
      refine L33 n33 _ o33 hn33 H locs ls (lv_sub hl [2, 3, 1, 0] rfl) hP hD hS (fun H locs ls hl hP hD hS => ?_)
      refine lv_bipush (v := 8) hx hb dX11_flips_69 (by decide) ?_
      refine lv_istore_n (lv' := [(3, .int (8 : Int32)), (0, .ref h0), (1, .int p1), (2, .int o33)]) hx hb dX11_flips_71 rfl hl (by decide) rfl (fun ls hl => ?_)
      refine lv_iconst (v := 1) hx hb dX11_flips_72 (by decide) ?_
      refine lv_istore (lv' := [(4, .int (1 : Int32)), (3, .int (8 : Int32)), (0, .ref h0), (1, .int p1), (2, .int o33)]) hx hb dX11_flips_73 hl (by decide) rfl (fun ls hl => ?_)
      have L75 : ∀ (n : Nat) (q75 : Int32 × Int32 × Rc) (o : Int32 × Rc), loopO (fX11_flips_L75 p1 o33) n q75 = some o → ∀ (H : Heap) (locs : List Loc) (ls : Array Slot), lv_has ls 5 [(0, .ref h0), (1, .int p1), (2, .int o33), (3, .int q75.1), (4, .int q75.2.1)] → va_P D vwCl (flat [WX11 cy h0 a0 q75.2.2]) H → va_D A (flat [WX11 cy h0 a0 q75.2.2]) → va_S A s.heap H locs → ∀ (kk128 : ∀ (H : Heap) (locs : List Loc) (ls : Array Slot), lv_has ls 5 [(0, .ref h0), (3, .int o.1)] → va_P D vwCl (flat [WX11 cy h0 a0 o.2]) H → va_D A (flat [WX11 cy h0 a0 o.2]) → va_S A s.heap H locs → W p l e rmX11_flips s m args below meth c H locs 0 0 QQ (F0 m 128 ls [])), W p l e rmX11_flips s m args below meth c H locs 0 0 QQ (F0 m 75 ls []) := by
        intro n
        induction n with
        | zero => intro q75 o h; exact absurd h (by rw [loopO_zero]; intro z; cases z)
        | succ n ih =>
          intro q75 o h H locs ls hl hP hD hS kk128
          obtain ⟨w, h, hgo, hst⟩ := loopO_elim h
          unfold fX11_flips_L75 at h
          refine lv_iload hx hb dX11_flips_75 (lv_at hl 4 rfl) ?_
          refine lv_iconst (v := 1) hx hb dX11_flips_77 (by decide) ?_
          refine lv_aload_n hx hb dX11_flips_78 rfl (lv_at hl 0 rfl) ?_
          refine va_get (D := D) (ci := 11) (v := .ref (a0 0)) (C := RX11) (T := TX11) (N := 38) hx hb hts hinX11 hown hK hP 0 rfl rfl 0 (by decide) (hts (.fieldLink RX11 7 "KneeBenchModel" "at" "[I") (List.mem_of_getElem? (i := 1) rfl)) (fun _ h9 => h9) rfl dX11_flips_79 ?_
          refine lv_iconst (v := 0) hx hb dX11_flips_82 (by decide) ?_
          refine va_iald hx hb hK hP 1 1 rfl rfl (inb_in (by decide)) dX11_flips_83 ?_
          refine lv_ishl hx hb dX11_flips_84 ?_
          refine lv_icmp_ge (tgt := 128) hx hb dX11_flips_85 (by decide) (fun c10 => ?_) (fun c10 => ?_)
          · replace h := (if_pos c10).symm.trans h
            have eo := hst _ (Option.some.inj h).symm
            subst eo
            exact kk128 H locs ls (lv_sub hl [0, 3] rfl) hP hD hS
          · replace h := (if_neg c10).symm.trans h
            refine lv_iload hx hb dX11_flips_88 (lv_at hl 4 rfl) ?_
            refine lv_iload_n hx hb dX11_flips_90 rfl (lv_at hl 2 rfl) ?_
            refine lv_iconst (v := -1) hx hb dX11_flips_91 (by decide) ?_
            refine lv_ixor hx hb dX11_flips_92 ?_
            refine lv_iand hx hb dX11_flips_93 ?_
            refine lv_if_ne (tgt := 122) hx hb dX11_flips_94 (by decide) (fun c11 => ?_) (fun c11 => ?_)
            · replace h := (if_neg c11).symm.trans h
              refine lv_iinc (v := (q75.2.1 + (1 : Int32))) (lv' := [(4, .int (q75.2.1 + (1 : Int32))), (0, .ref h0), (1, .int p1), (2, .int o33), (3, .int q75.1)]) hx hb dX11_flips_122 hl (k := 4) rfl rfl (by decide) rfl (fun ls hl => ?_)
              refine lv_goto (tgt := 75) hx hb dX11_flips_125 (by decide) ?_
              exact ih _ o (hgo _ (Option.some.inj h).symm) H locs ls (lv_sub hl [1, 2, 3, 4, 0] rfl) hP hD hS kk128
            · replace h := (if_pos c11).symm.trans h
              refine lv_iload hx hb dX11_flips_97 (lv_at hl 4 rfl) ?_
              obtain ⟨r12, hr12, h⟩ := bd_elim h
              refine ca_i (w' := [WX11 cy h0 a0 q75.2.2]) (rn_S (As := [.int q75.2.1]) (rest := []) ⟨hx, hb, hml, hown, hts⟩ (kX11_bits l D cy q75.2.1 r12 hr12 H.size) (va_cwS 1 hts gX11_flips_X11_bits rfl rfl rfl (by decide +kernel) ⟨Nat.le_of_ble_eq_true rfl, Nat.le_of_ble_eq_true rfl⟩) hK hN hP hD [] rfl rfl rfl hl.1 rfl (Nat.le_of_ble_eq_true rfl) dX11_flips_99 ⟨Nat.le_refl 0, Nat.le_refl 0⟩) hP hD hS hA [] ⟨rfl, rfl, rfl, rfl⟩ (fun H locs hP hD hS => ?_)
              refine lv_iload_n hx hb dX11_flips_102 rfl (lv_at hl 3 rfl) ?_
              refine lv_icmp_ge (tgt := 122) hx hb dX11_flips_103 (by decide) (fun c13 => ?_) (fun c13 => ?_)
              · replace h := (if_pos c13).symm.trans h
                refine lv_iinc (v := (q75.2.1 + (1 : Int32))) (lv' := [(4, .int (q75.2.1 + (1 : Int32))), (0, .ref h0), (1, .int p1), (2, .int o33), (3, .int q75.1)]) hx hb dX11_flips_122 hl (k := 4) rfl rfl (by decide) rfl (fun ls hl => ?_)
                refine lv_goto (tgt := 75) hx hb dX11_flips_125 (by decide) ?_
                exact ih _ o (hgo _ (Option.some.inj h).symm) H locs ls (lv_sub hl [1, 2, 3, 4, 0] rfl) hP hD hS kk128
              · replace h := (if_neg c13).symm.trans h
                refine lv_aload_n hx hb dX11_flips_106 rfl (lv_at hl 0 rfl) ?_
                refine lv_iload hx hb dX11_flips_107 (lv_at hl 4 rfl) ?_
                refine lv_iload_n hx hb dX11_flips_109 rfl (lv_at hl 1 rfl) ?_
                obtain ⟨r14, hr14, h⟩ := bd_elim h
                refine ca_z (w' := [WX11 cy h0 a0 r14.2]) (rn_V (As := [.int q75.2.1, .int p1]) (rest := []) ⟨hx, hb, hml, hown, hts⟩ (kX11_isTurned l D cy h0 a0 q75.2.2 q75.2.1 p1 r14 hr14 H.size) (cwV 2 hts gX11_flips_X11_isTurned rfl rfl rfl (by decide +kernel) ⟨Nat.le_of_ble_eq_true rfl, Nat.le_of_ble_eq_true rfl⟩) hK hN hP hD [0] rfl rfl (ci := 11) (q0 := 0) rfl rfl rfl rfl hl.1 rfl (Nat.le_of_ble_eq_true rfl) dX11_flips_110 ⟨Nat.le_refl 0, Nat.le_refl 0⟩) hP hD hS hA [0] ⟨rfl, rfl, rfl, rfl⟩ (fun b15 H locs hP hD hS => ?_)
                refine lv_if_eq (tgt := 122) hx hb dX11_flips_113 (by decide) (fun c16 => ?_) (fun c16 => ?_)
                · replace h := (if_pos c16).symm.trans h
                  refine lv_iinc (v := (q75.2.1 + (1 : Int32))) (lv' := [(4, .int (q75.2.1 + (1 : Int32))), (0, .ref h0), (1, .int p1), (2, .int o33), (3, .int q75.1)]) hx hb dX11_flips_122 hl (k := 4) rfl rfl (by decide) rfl (fun ls hl => ?_)
                  refine lv_goto (tgt := 75) hx hb dX11_flips_125 (by decide) ?_
                  exact ih _ o (hgo _ (Option.some.inj h).symm) H locs ls (lv_sub hl [1, 2, 3, 4, 0] rfl) hP hD hS kk128
                · replace h := (if_neg c16).symm.trans h
                  refine lv_iload hx hb dX11_flips_116 (lv_at hl 4 rfl) ?_
                  obtain ⟨r17, hr17, h⟩ := bd_elim h
                  refine ca_i (w' := [WX11 cy h0 a0 r14.2]) (rn_S (As := [.int q75.2.1]) (rest := []) ⟨hx, hb, hml, hown, hts⟩ (kX11_bits l D cy q75.2.1 r17 hr17 H.size) (va_cwS 1 hts gX11_flips_X11_bits rfl rfl rfl (by decide +kernel) ⟨Nat.le_of_ble_eq_true rfl, Nat.le_of_ble_eq_true rfl⟩) hK hN hP hD [] rfl rfl rfl hl.1 rfl (Nat.le_of_ble_eq_true rfl) dX11_flips_118 ⟨Nat.le_refl 0, Nat.le_refl 0⟩) hP hD hS hA [] ⟨rfl, rfl, rfl, rfl⟩ (fun H locs hP hD hS => ?_)
                  refine lv_istore_n (lv' := [(3, .int r17), (0, .ref h0), (1, .int p1), (2, .int o33), (4, .int q75.2.1)]) hx hb dX11_flips_121 rfl hl (by decide) rfl (fun ls hl => ?_)
                  refine lv_iinc (v := (q75.2.1 + (1 : Int32))) (lv' := [(4, .int (q75.2.1 + (1 : Int32))), (3, .int r17), (0, .ref h0), (1, .int p1), (2, .int o33)]) hx hb dX11_flips_122 hl (k := 4) rfl rfl (by decide) rfl (fun ls hl => ?_)
                  refine lv_goto (tgt := 75) hx hb dX11_flips_125 (by decide) ?_
                  exact ih _ o (hgo _ (Option.some.inj h).symm) H locs ls (lv_sub hl [2, 3, 4, 1, 0] rfl) hP hD hS kk128
      obtain ⟨o75, ho75, h⟩ := bd_elim h
      obtain ⟨n75, hn75⟩ := loopF_some ho75
      refine L75 n75 _ o75 hn75 H locs ls (lv_sub hl [2, 3, 4, 1, 0] rfl) hP hD hS (fun H locs ls hl hP hD hS => ?_)
      refine lv_aload_n hx hb dX11_flips_128 rfl (lv_at hl 0 rfl) ?_
      refine lv_iload_n hx hb dX11_flips_129 rfl (lv_at hl 1 rfl) ?_
      obtain ⟨r18, hr18, h⟩ := lt_elim h
      refine ca_i (w' := [WX11 cy h0 a0 r18.2]) (rn_V (As := [.int o75.1]) (rest := []) ⟨hx, hb, hml, hown, hts⟩ (kX11_gives l D cy h0 a0 o75.2 o75.1 r18 hr18.symm H.size) (cwV 1 hts gX11_flips_X11_gives rfl rfl rfl (by decide +kernel) ⟨Nat.le_of_ble_eq_true rfl, Nat.le_of_ble_eq_true rfl⟩) hK hN hP hD [0] rfl rfl (ci := 11) (q0 := 0) rfl rfl rfl rfl hl.1 rfl (Nat.le_of_ble_eq_true rfl) dX11_flips_130 ⟨Nat.le_refl 0, Nat.le_refl 0⟩) hP hD hS hA [0] ⟨rfl, rfl, rfl, rfl⟩ (fun H locs hP hD hS => ?_)
      exact hret 133 H locs ls (r18.1, r18.2) (Option.some.inj h) hP hD hS dX11_flips_133
    · replace h := (if_pos c4).symm.trans h
      refine lv_aload_n hx hb dX11_flips_22 rfl (lv_at hl 0 rfl) ?_
      refine lv_bipush (v := 6) hx hb dX11_flips_23 (by decide) ?_
      obtain ⟨r19, hr19, h⟩ := lt_elim h
      refine ca_i (w' := [WX11 cy h0 a0 r19.2]) (rn_V (As := [.int (6 : Int32)]) (rest := []) ⟨hx, hb, hml, hown, hts⟩ (kX11_refuse l D cy h0 a0 s0 (6 : Int32) r19 hr19.symm H.size) (cwV 1 hts gX11_flips_X11_refuse rfl rfl rfl (by decide +kernel) ⟨Nat.le_of_ble_eq_true rfl, Nat.le_of_ble_eq_true rfl⟩) hK hN hP hD [0] rfl rfl (ci := 11) (q0 := 0) rfl rfl rfl rfl hl.1 rfl (Nat.le_of_ble_eq_true rfl) dX11_flips_25 ⟨Nat.le_refl 0, Nat.le_refl 0⟩) hP hD hS hA [0] ⟨rfl, rfl, rfl, rfl⟩ (fun H locs hP hD hS => ?_)
      exact hret 28 H locs ls (r19.1, r19.2) (Option.some.inj h) hP hD hS dX11_flips_28
  · replace h := (if_pos c2).symm.trans h
    refine lv_aload_n hx hb dX11_flips_7 rfl (lv_at hl 0 rfl) ?_
    refine lv_iconst (v := 1) hx hb dX11_flips_8 (by decide) ?_
    obtain ⟨r20, hr20, h⟩ := lt_elim h
    refine ca_i (w' := [WX11 cy h0 a0 r20.2]) (rn_V (As := [.int (1 : Int32)]) (rest := []) ⟨hx, hb, hml, hown, hts⟩ (kX11_refuse l D cy h0 a0 s0 (1 : Int32) r20 hr20.symm H.size) (cwV 1 hts gX11_flips_X11_refuse rfl rfl rfl (by decide +kernel) ⟨Nat.le_of_ble_eq_true rfl, Nat.le_of_ble_eq_true rfl⟩) hK hN hP hD [0] rfl rfl (ci := 11) (q0 := 0) rfl rfl rfl rfl hl.1 rfl (Nat.le_of_ble_eq_true rfl) dX11_flips_9 ⟨Nat.le_refl 0, Nat.le_refl 0⟩) hP hD hS hA [0] ⟨rfl, rfl, rfl, rfl⟩ (fun H locs hP hD hS => ?_)
    exact hret 12 H locs ls (r20.1, r20.2) (Option.some.inj h) hP hD hS dX11_flips_12
theorem gd_X11_foe : wsX11_foe.all goodWord = true := by decide +kernel
set_option maxRecDepth 20000 in
theorem ggX11_foe_X11_isFarmer : GoodIn wsX11_foe wsX11_isFarmer := goodIn_by gd_X11_foe (List.forall_mem_cons.mpr ⟨List.mem_cons_of_mem _ (List.mem_append_left _ (List.mem_of_getElem? (i := 5) rfl)), List.forall_mem_append.mpr ⟨List.forall_mem_cons.mpr ⟨List.mem_cons_of_mem _ (List.mem_append_left _ (List.mem_of_getElem? (i := 0) rfl)), nowords_in⟩, (fun _ h => List.mem_cons_of_mem _ (List.mem_append_right _ (h)))⟩⟩)
set_option maxRecDepth 20000 in
theorem gX11_foe_X11_isFarmer : GoodIn wsX11_foe (wsV RX11 267 RX11 yX11_isFarmer wsX11_isFarmer) := goodIn_app (goodIn_by gd_X11_foe (List.forall_mem_cons.mpr ⟨List.mem_cons_of_mem _ (List.mem_append_left _ (List.mem_of_getElem? (i := 1) rfl)), List.forall_mem_cons.mpr ⟨List.mem_cons_of_mem _ (List.mem_append_left _ (List.mem_of_getElem? (i := 2) rfl)), List.forall_mem_cons.mpr ⟨List.mem_cons_of_mem _ (List.mem_append_left _ (List.mem_of_getElem? (i := 3) rfl)), List.forall_mem_cons.mpr ⟨List.mem_cons_of_mem _ (List.mem_append_left _ (List.mem_of_getElem? (i := 4) rfl)), nowords_in⟩⟩⟩⟩)) ggX11_foe_X11_isFarmer
set_option maxRecDepth 20000 in
theorem ggX11_foe_X11_refuse : GoodIn wsX11_foe wsX11_refuse := goodIn_by gd_X11_foe (List.forall_mem_cons.mpr ⟨List.mem_cons_of_mem _ (List.mem_append_left _ (List.mem_of_getElem? (i := 9) rfl)), List.forall_mem_append.mpr ⟨List.forall_mem_cons.mpr ⟨List.mem_cons_of_mem _ (List.mem_append_left _ (List.mem_of_getElem? (i := 10) rfl)), nowords_in⟩, (fun _ h => List.mem_cons_of_mem _ (List.mem_append_right _ (h)))⟩⟩)
set_option maxRecDepth 20000 in
theorem gX11_foe_X11_refuse : GoodIn wsX11_foe (wsV RX11 75 RX11 yX11_refuse wsX11_refuse) := goodIn_app (goodIn_by gd_X11_foe (List.forall_mem_cons.mpr ⟨List.mem_cons_of_mem _ (List.mem_append_left _ (List.mem_of_getElem? (i := 6) rfl)), List.forall_mem_cons.mpr ⟨List.mem_cons_of_mem _ (List.mem_append_left _ (List.mem_of_getElem? (i := 7) rfl)), List.forall_mem_cons.mpr ⟨List.mem_cons_of_mem _ (List.mem_append_left _ (List.mem_of_getElem? (i := 8) rfl)), List.forall_mem_cons.mpr ⟨List.mem_cons_of_mem _ (List.mem_append_left _ (List.mem_of_getElem? (i := 4) rfl)), nowords_in⟩⟩⟩⟩)) ggX11_foe_X11_refuse
set_option maxRecDepth 20000 in
theorem ggX11_foe_X11_orNone : GoodIn wsX11_foe wsX11_orNone := goodIn_by gd_X11_foe (List.forall_mem_cons.mpr ⟨List.mem_cons_of_mem _ (List.mem_append_left _ (List.mem_of_getElem? (i := 14) rfl)), List.forall_mem_append.mpr ⟨List.forall_mem_cons.mpr ⟨List.mem_cons_of_mem _ (List.mem_append_left _ (List.mem_of_getElem? (i := 6) rfl)), List.forall_mem_cons.mpr ⟨List.mem_cons_of_mem _ (List.mem_append_left _ (List.mem_of_getElem? (i := 7) rfl)), List.forall_mem_cons.mpr ⟨List.mem_cons_of_mem _ (List.mem_append_left _ (List.mem_of_getElem? (i := 8) rfl)), List.forall_mem_cons.mpr ⟨List.mem_cons_of_mem _ (List.mem_append_left _ (List.mem_of_getElem? (i := 4) rfl)), List.forall_mem_cons.mpr ⟨List.mem_cons_of_mem _ (List.mem_append_left _ (List.mem_of_getElem? (i := 9) rfl)), List.forall_mem_cons.mpr ⟨List.mem_cons_of_mem _ (List.mem_append_left _ (List.mem_of_getElem? (i := 10) rfl)), List.forall_mem_cons.mpr ⟨List.mem_cons_of_mem _ (List.mem_append_left _ (List.mem_of_getElem? (i := 15) rfl)), List.forall_mem_cons.mpr ⟨List.mem_cons_of_mem _ (List.mem_append_left _ (List.mem_of_getElem? (i := 16) rfl)), List.forall_mem_cons.mpr ⟨List.mem_cons_of_mem _ (List.mem_append_left _ (List.mem_of_getElem? (i := 17) rfl)), List.forall_mem_cons.mpr ⟨List.mem_cons_of_mem _ (List.mem_append_left _ (List.mem_of_getElem? (i := 18) rfl)), nowords_in⟩⟩⟩⟩⟩⟩⟩⟩⟩⟩, (fun _ h => List.mem_cons_of_mem _ (List.mem_append_right _ (h)))⟩⟩)
set_option maxRecDepth 20000 in
theorem gX11_foe_X11_orNone : GoodIn wsX11_foe (wsV RX11 310 RX11 yX11_orNone wsX11_orNone) := goodIn_app (goodIn_by gd_X11_foe (List.forall_mem_cons.mpr ⟨List.mem_cons_of_mem _ (List.mem_append_left _ (List.mem_of_getElem? (i := 11) rfl)), List.forall_mem_cons.mpr ⟨List.mem_cons_of_mem _ (List.mem_append_left _ (List.mem_of_getElem? (i := 12) rfl)), List.forall_mem_cons.mpr ⟨List.mem_cons_of_mem _ (List.mem_append_left _ (List.mem_of_getElem? (i := 13) rfl)), List.forall_mem_cons.mpr ⟨List.mem_cons_of_mem _ (List.mem_append_left _ (List.mem_of_getElem? (i := 4) rfl)), nowords_in⟩⟩⟩⟩)) ggX11_foe_X11_orNone
theorem dX11_foe_0 : decode cX11_foe 0 = .ok (.aload_n 0, 1) := by decide +kernel
theorem dX11_foe_1 : decode cX11_foe 1 = .ok (.iload_n 1, 1) := by decide +kernel
theorem dX11_foe_2 : decode cX11_foe 2 = .ok (.invokevirtual 267, 3) := by decide +kernel
theorem dX11_foe_5 : decode cX11_foe 5 = .ok (.ifCond .ne 9, 3) := by decide +kernel
theorem dX11_foe_8 : decode cX11_foe 8 = .ok (.aload_n 0, 1) := by decide +kernel
theorem dX11_foe_9 : decode cX11_foe 9 = .ok (.iconst 1, 1) := by decide +kernel
theorem dX11_foe_10 : decode cX11_foe 10 = .ok (.invokevirtual 75, 3) := by decide +kernel
theorem dX11_foe_13 : decode cX11_foe 13 = .ok (.ireturn, 1) := by decide +kernel
theorem dX11_foe_14 : decode cX11_foe 14 = .ok (.iconst (-1), 1) := by decide +kernel
theorem dX11_foe_15 : decode cX11_foe 15 = .ok (.istore_n 2, 1) := by decide +kernel
theorem dX11_foe_16 : decode cX11_foe 16 = .ok (.iconst 0, 1) := by decide +kernel
theorem dX11_foe_17 : decode cX11_foe 17 = .ok (.istore_n 3, 1) := by decide +kernel
theorem dX11_foe_18 : decode cX11_foe 18 = .ok (.iconst 0, 1) := by decide +kernel
theorem dX11_foe_19 : decode cX11_foe 19 = .ok (.istore 4, 2) := by decide +kernel
theorem dX11_foe_21 : decode cX11_foe 21 = .ok (.iload 4, 2) := by decide +kernel
theorem dX11_foe_23 : decode cX11_foe 23 = .ok (.aload_n 0, 1) := by decide +kernel
theorem dX11_foe_24 : decode cX11_foe 24 = .ok (.getfield 7, 3) := by decide +kernel
theorem dX11_foe_27 : decode cX11_foe 27 = .ok (.iconst 0, 1) := by decide +kernel
theorem dX11_foe_28 : decode cX11_foe 28 = .ok (.iaload, 1) := by decide +kernel
theorem dX11_foe_29 : decode cX11_foe 29 = .ok (.if_icmp .ge 50, 3) := by decide +kernel
theorem dX11_foe_32 : decode cX11_foe 32 = .ok (.aload_n 0, 1) := by decide +kernel
theorem dX11_foe_33 : decode cX11_foe 33 = .ok (.getfield 7, 3) := by decide +kernel
theorem dX11_foe_36 : decode cX11_foe 36 = .ok (.bipush 58, 2) := by decide +kernel
theorem dX11_foe_38 : decode cX11_foe 38 = .ok (.bipush 8, 2) := by decide +kernel
theorem dX11_foe_40 : decode cX11_foe 40 = .ok (.iload_n 1, 1) := by decide +kernel
theorem dX11_foe_41 : decode cX11_foe 41 = .ok (.imul, 1) := by decide +kernel
theorem dX11_foe_42 : decode cX11_foe 42 = .ok (.iadd, 1) := by decide +kernel
theorem dX11_foe_43 : decode cX11_foe 43 = .ok (.iload 4, 2) := by decide +kernel
theorem dX11_foe_45 : decode cX11_foe 45 = .ok (.iadd, 1) := by decide +kernel
theorem dX11_foe_46 : decode cX11_foe 46 = .ok (.iaload, 1) := by decide +kernel
theorem dX11_foe_47 : decode cX11_foe 47 = .ok (.iload_n 3, 1) := by decide +kernel
theorem dX11_foe_48 : decode cX11_foe 48 = .ok (.if_icmp .gt 6, 3) := by decide +kernel
theorem dX11_foe_51 : decode cX11_foe 51 = .ok (.goto 22, 3) := by decide +kernel
theorem dX11_foe_54 : decode cX11_foe 54 = .ok (.aload_n 0, 1) := by decide +kernel
theorem dX11_foe_55 : decode cX11_foe 55 = .ok (.getfield 7, 3) := by decide +kernel
theorem dX11_foe_58 : decode cX11_foe 58 = .ok (.bipush 58, 2) := by decide +kernel
theorem dX11_foe_60 : decode cX11_foe 60 = .ok (.bipush 8, 2) := by decide +kernel
theorem dX11_foe_62 : decode cX11_foe 62 = .ok (.iload_n 1, 1) := by decide +kernel
theorem dX11_foe_63 : decode cX11_foe 63 = .ok (.imul, 1) := by decide +kernel
theorem dX11_foe_64 : decode cX11_foe 64 = .ok (.iadd, 1) := by decide +kernel
theorem dX11_foe_65 : decode cX11_foe 65 = .ok (.iload 4, 2) := by decide +kernel
theorem dX11_foe_67 : decode cX11_foe 67 = .ok (.iadd, 1) := by decide +kernel
theorem dX11_foe_68 : decode cX11_foe 68 = .ok (.iaload, 1) := by decide +kernel
theorem dX11_foe_69 : decode cX11_foe 69 = .ok (.istore_n 3, 1) := by decide +kernel
theorem dX11_foe_70 : decode cX11_foe 70 = .ok (.iload 4, 2) := by decide +kernel
theorem dX11_foe_72 : decode cX11_foe 72 = .ok (.istore_n 2, 1) := by decide +kernel
theorem dX11_foe_73 : decode cX11_foe 73 = .ok (.iinc 4 1, 3) := by decide +kernel
theorem dX11_foe_76 : decode cX11_foe 76 = .ok (.goto (-55), 3) := by decide +kernel
theorem dX11_foe_79 : decode cX11_foe 79 = .ok (.aload_n 0, 1) := by decide +kernel
theorem dX11_foe_80 : decode cX11_foe 80 = .ok (.iload_n 2, 1) := by decide +kernel
theorem dX11_foe_81 : decode cX11_foe 81 = .ok (.invokevirtual 310, 3) := by decide +kernel
theorem dX11_foe_84 : decode cX11_foe 84 = .ok (.ireturn, 1) := by decide +kernel
abbrev rmX11_foe : Room := { frames := 2, cells := 0, slots := 0, locals := 42 }
set_option maxHeartbeats 4000000 in
set_option maxRecDepth 100000 in
theorem kX11_foe (l : Launch) (D : va_G) (cy : Nat → ClassId) (h0 : Nat) (a0 : Nat → Nat) (s0 : Rc) (p1 : Int32) (res : Int32 × Rc) (h : fX11_foe p1 s0 = some res) : CI l D cy yX11_foe wsX11_foe rmX11_foe [.ref h0, .int p1] (flat [WX11 cy h0 a0 s0]) (flat [WX11 cy h0 a0 res.2]) res.1 := by
  refine CI.of (cc := cX11_foe) (maxL := 5) (by decide) rfl (Nat.le_of_ble_eq_true rfl) ?_
  intro p e s m args below meth c A QQ ls E hr
  obtain ⟨hx, hb, hml, hown, hts, hK, hN, hP, hD, hA, hl⟩ := E
  have hret : ∀ (pc : Nat) (H : Heap) (locs : List Loc) (ls : Array Slot) (u : Int32 × Rc), u = res → va_P D vwCl (flat [WX11 cy h0 a0 u.2]) H → va_D A (flat [WX11 cy h0 a0 u.2]) → va_S A s.heap H locs → decode cX11_foe pc = .ok (.ireturn, 1) → W p l e rmX11_foe s m args below meth c H locs 0 0 QQ (F0 m pc ls [.int u.1]) := by
    intro pc H locs ls u hu hP hD hS hd; subst hu; exact hr pc H locs ls _ rfl hP hD hS hd
  clear hr
  have hl : lv_has ls 5 [(0, .ref h0), (1, .int p1)] := hl
  have hinX11 : ∀ w ∈ wsX110, w ∈ wsX11_foe := fun _ h => List.mem_cons_of_mem _ (List.mem_append_right _ h)
  unfold fX11_foe at h
  suffices key : ∀ (H : Heap) (locs : List Loc), va_P D vwCl (flat [WX11 cy h0 a0 s0]) H → va_S A s.heap H locs → W p l e rmX11_foe s m args below meth c H locs 0 0 QQ (F0 m 0 ls []) from key _ _ hP va_S.rf
  clear hP
  intro H locs hP hS
  refine lv_aload_n hx hb dX11_foe_0 rfl (lv_at hl 0 rfl) ?_
  refine lv_iload_n hx hb dX11_foe_1 rfl (lv_at hl 1 rfl) ?_
  refine ca_z (w' := [WX11 cy h0 a0 s0]) (rn_V (As := [.int p1]) (rest := []) ⟨hx, hb, hml, hown, hts⟩ (kX11_isFarmer l D cy h0 a0 s0 p1 _ rfl H.size) (cwV 1 hts gX11_foe_X11_isFarmer rfl rfl rfl (by decide +kernel) ⟨Nat.le_of_ble_eq_true rfl, Nat.le_of_ble_eq_true rfl⟩) hK hN hP hD [0] rfl rfl (ci := 11) (q0 := 0) rfl rfl rfl rfl hl.1 rfl (Nat.le_of_ble_eq_true rfl) dX11_foe_2 ⟨Nat.le_refl 0, Nat.le_refl 0⟩) hP hD hS hA [0] ⟨rfl, rfl, rfl, rfl⟩ (fun b1 H locs hP hD hS => ?_)
  refine lv_if_ne (tgt := 14) hx hb dX11_foe_5 (by decide) (fun c2 => ?_) (fun c2 => ?_)
  · replace h := (if_neg c2).symm.trans h
    refine lv_iconst (v := -1) hx hb dX11_foe_14 (by decide) ?_
    refine lv_istore_n (lv' := [(2, .int (-1 : Int32)), (0, .ref h0), (1, .int p1)]) hx hb dX11_foe_15 rfl hl (by decide) rfl (fun ls hl => ?_)
    refine lv_iconst (v := 0) hx hb dX11_foe_16 (by decide) ?_
    refine lv_istore_n (lv' := [(3, .int (0 : Int32)), (2, .int (-1 : Int32)), (0, .ref h0), (1, .int p1)]) hx hb dX11_foe_17 rfl hl (by decide) rfl (fun ls hl => ?_)
    refine lv_iconst (v := 0) hx hb dX11_foe_18 (by decide) ?_
    refine lv_istore (lv' := [(4, .int (0 : Int32)), (3, .int (0 : Int32)), (2, .int (-1 : Int32)), (0, .ref h0), (1, .int p1)]) hx hb dX11_foe_19 hl (by decide) rfl (fun ls hl => ?_)
    have L21 : ∀ (n : Nat) (q21 : Int32 × Int32 × Int32) (o : Int32), loopO (fX11_foe_L21 p1 s0) n q21 = some o → ∀ (H : Heap) (locs : List Loc) (ls : Array Slot), lv_has ls 5 [(0, .ref h0), (1, .int p1), (2, .int q21.1), (3, .int q21.2.1), (4, .int q21.2.2)] → va_P D vwCl (flat [WX11 cy h0 a0 s0]) H → va_D A (flat [WX11 cy h0 a0 s0]) → va_S A s.heap H locs → ∀ (kk79 : ∀ (H : Heap) (locs : List Loc) (ls : Array Slot), lv_has ls 5 [(0, .ref h0), (2, .int o)] → va_P D vwCl (flat [WX11 cy h0 a0 s0]) H → va_D A (flat [WX11 cy h0 a0 s0]) → va_S A s.heap H locs → W p l e rmX11_foe s m args below meth c H locs 0 0 QQ (F0 m 79 ls [])), W p l e rmX11_foe s m args below meth c H locs 0 0 QQ (F0 m 21 ls []) := by
      intro n
      induction n with
      | zero => intro q21 o h; exact absurd h (by rw [loopO_zero]; intro z; cases z)
      | succ n ih =>
        intro q21 o h H locs ls hl hP hD hS kk79
        obtain ⟨w, h, hgo, hst⟩ := loopO_elim h
        unfold fX11_foe_L21 at h
        refine lv_iload hx hb dX11_foe_21 (lv_at hl 4 rfl) ?_
        refine lv_aload_n hx hb dX11_foe_23 rfl (lv_at hl 0 rfl) ?_
        refine va_get (D := D) (ci := 11) (v := .ref (a0 0)) (C := RX11) (T := TX11) (N := 38) hx hb hts hinX11 hown hK hP 0 rfl rfl 0 (by decide) (hts (.fieldLink RX11 7 "KneeBenchModel" "at" "[I") (List.mem_of_getElem? (i := 1) rfl)) (fun _ h9 => h9) rfl dX11_foe_24 ?_
        refine lv_iconst (v := 0) hx hb dX11_foe_27 (by decide) ?_
        refine va_iald hx hb hK hP 1 1 rfl rfl (inb_in (by decide)) dX11_foe_28 ?_
        refine lv_icmp_ge (tgt := 79) hx hb dX11_foe_29 (by decide) (fun c3 => ?_) (fun c3 => ?_)
        · replace h := (if_pos c3).symm.trans h
          have eo := hst _ (Option.some.inj h).symm
          subst eo
          exact kk79 H locs ls (lv_sub hl [0, 2] rfl) hP hD hS
        · replace h := (if_neg c3).symm.trans h
          refine lv_aload_n hx hb dX11_foe_32 rfl (lv_at hl 0 rfl) ?_
          refine va_get (D := D) (ci := 11) (v := .ref (a0 0)) (C := RX11) (T := TX11) (N := 38) hx hb hts hinX11 hown hK hP 0 rfl rfl 0 (by decide) (hts (.fieldLink RX11 7 "KneeBenchModel" "at" "[I") (List.mem_of_getElem? (i := 1) rfl)) (fun _ h9 => h9) rfl dX11_foe_33 ?_
          refine lv_bipush (v := 58) hx hb dX11_foe_36 (by decide) ?_
          refine lv_bipush (v := 8) hx hb dX11_foe_38 (by decide) ?_
          refine lv_iload_n hx hb dX11_foe_40 rfl (lv_at hl 1 rfl) ?_
          refine lv_imul hx hb dX11_foe_41 ?_
          refine lv_iadd hx hb dX11_foe_42 ?_
          refine lv_iload hx hb dX11_foe_43 (lv_at hl 4 rfl) ?_
          refine lv_iadd hx hb dX11_foe_45 ?_
          obtain ⟨g4, h⟩ := gd_elim h
          refine va_iald hx hb hK hP 1 1 rfl rfl (inb_in g4) dX11_foe_46 ?_
          refine lv_iload_n hx hb dX11_foe_47 rfl (lv_at hl 3 rfl) ?_
          refine lv_icmp_gt (tgt := 54) hx hb dX11_foe_48 (by decide) (fun c5 => ?_) (fun c5 => ?_)
          · replace h := (if_pos c5).symm.trans h
            refine lv_aload_n hx hb dX11_foe_54 rfl (lv_at hl 0 rfl) ?_
            refine va_get (D := D) (ci := 11) (v := .ref (a0 0)) (C := RX11) (T := TX11) (N := 38) hx hb hts hinX11 hown hK hP 0 rfl rfl 0 (by decide) (hts (.fieldLink RX11 7 "KneeBenchModel" "at" "[I") (List.mem_of_getElem? (i := 1) rfl)) (fun _ h9 => h9) rfl dX11_foe_55 ?_
            refine lv_bipush (v := 58) hx hb dX11_foe_58 (by decide) ?_
            refine lv_bipush (v := 8) hx hb dX11_foe_60 (by decide) ?_
            refine lv_iload_n hx hb dX11_foe_62 rfl (lv_at hl 1 rfl) ?_
            refine lv_imul hx hb dX11_foe_63 ?_
            refine lv_iadd hx hb dX11_foe_64 ?_
            refine lv_iload hx hb dX11_foe_65 (lv_at hl 4 rfl) ?_
            refine lv_iadd hx hb dX11_foe_67 ?_
            refine va_iald hx hb hK hP 1 1 rfl rfl (inb_in g4) dX11_foe_68 ?_
            refine lv_topi (fun x6 ex6 => ?_)
            replace h := lt_use h x6 ex6
            refine lv_istore_n (lv' := [(3, .int x6), (0, .ref h0), (1, .int p1), (2, .int q21.1), (4, .int q21.2.2)]) hx hb dX11_foe_69 rfl hl (by decide) rfl (fun ls hl => ?_)
            refine lv_iload hx hb dX11_foe_70 (lv_at hl 4 rfl) ?_
            refine lv_istore_n (lv' := [(2, .int q21.2.2), (3, .int x6), (0, .ref h0), (1, .int p1), (4, .int q21.2.2)]) hx hb dX11_foe_72 rfl hl (by decide) rfl (fun ls hl => ?_)
            refine lv_iinc (v := (q21.2.2 + (1 : Int32))) (lv' := [(4, .int (q21.2.2 + (1 : Int32))), (2, .int q21.2.2), (3, .int x6), (0, .ref h0), (1, .int p1)]) hx hb dX11_foe_73 hl (k := 4) rfl rfl (by decide) rfl (fun ls hl => ?_)
            refine lv_goto (tgt := 21) hx hb dX11_foe_76 (by decide) ?_
            exact ih _ o (hgo _ (Option.some.inj h).symm) H locs ls (lv_sub hl [3, 4, 1, 2, 0] rfl) hP hD hS kk79
          · replace h := (if_neg c5).symm.trans h
            refine lv_goto (tgt := 73) hx hb dX11_foe_51 (by decide) ?_
            refine lv_iinc (v := (q21.2.2 + (1 : Int32))) (lv' := [(4, .int (q21.2.2 + (1 : Int32))), (0, .ref h0), (1, .int p1), (2, .int q21.1), (3, .int q21.2.1)]) hx hb dX11_foe_73 hl (k := 4) rfl rfl (by decide) rfl (fun ls hl => ?_)
            refine lv_goto (tgt := 21) hx hb dX11_foe_76 (by decide) ?_
            exact ih _ o (hgo _ (Option.some.inj h).symm) H locs ls (lv_sub hl [1, 2, 3, 4, 0] rfl) hP hD hS kk79
    obtain ⟨o21, ho21, h⟩ := bd_elim h
    obtain ⟨n21, hn21⟩ := loopF_some ho21
    refine L21 n21 _ o21 hn21 H locs ls (lv_sub hl [3, 4, 2, 1, 0] rfl) hP hD hS (fun H locs ls hl hP hD hS => ?_)
    refine lv_aload_n hx hb dX11_foe_79 rfl (lv_at hl 0 rfl) ?_
    refine lv_iload_n hx hb dX11_foe_80 rfl (lv_at hl 1 rfl) ?_
    obtain ⟨r7, hr7, h⟩ := lt_elim h
    refine ca_i (w' := [WX11 cy h0 a0 r7.2]) (rn_V (As := [.int o21]) (rest := []) ⟨hx, hb, hml, hown, hts⟩ (kX11_orNone l D cy h0 a0 s0 o21 r7 hr7.symm H.size) (cwV 1 hts gX11_foe_X11_orNone rfl rfl rfl (by decide +kernel) ⟨Nat.le_of_ble_eq_true rfl, Nat.le_of_ble_eq_true rfl⟩) hK hN hP hD [0] rfl rfl (ci := 11) (q0 := 0) rfl rfl rfl rfl hl.1 rfl (Nat.le_of_ble_eq_true rfl) dX11_foe_81 ⟨Nat.le_refl 0, Nat.le_refl 0⟩) hP hD hS hA [0] ⟨rfl, rfl, rfl, rfl⟩ (fun H locs hP hD hS => ?_)
    exact hret 84 H locs ls (r7.1, r7.2) (Option.some.inj h) hP hD hS dX11_foe_84
  · replace h := (if_pos c2).symm.trans h
    refine lv_aload_n hx hb dX11_foe_8 rfl (lv_at hl 0 rfl) ?_
    refine lv_iconst (v := 1) hx hb dX11_foe_9 (by decide) ?_
    obtain ⟨r8, hr8, h⟩ := lt_elim h
    refine ca_i (w' := [WX11 cy h0 a0 r8.2]) (rn_V (As := [.int (1 : Int32)]) (rest := []) ⟨hx, hb, hml, hown, hts⟩ (kX11_refuse l D cy h0 a0 s0 (1 : Int32) r8 hr8.symm H.size) (cwV 1 hts gX11_foe_X11_refuse rfl rfl rfl (by decide +kernel) ⟨Nat.le_of_ble_eq_true rfl, Nat.le_of_ble_eq_true rfl⟩) hK hN hP hD [0] rfl rfl (ci := 11) (q0 := 0) rfl rfl rfl rfl hl.1 rfl (Nat.le_of_ble_eq_true rfl) dX11_foe_10 ⟨Nat.le_refl 0, Nat.le_refl 0⟩) hP hD hS hA [0] ⟨rfl, rfl, rfl, rfl⟩ (fun H locs hP hD hS => ?_)
    exact hret 13 H locs ls (r8.1, r8.2) (Option.some.inj h) hP hD hS dX11_foe_13
theorem gd_X11_weighs : wsX11_weighs.all goodWord = true := by decide +kernel
set_option maxRecDepth 20000 in
theorem ggX11_weighs_X11_farmerRow : GoodIn wsX11_weighs wsX11_farmerRow := goodIn_by gd_X11_weighs (List.forall_mem_cons.mpr ⟨List.mem_cons_of_mem _ (List.mem_append_left _ (List.mem_append_left _ (List.mem_of_getElem? (i := 6) rfl))), nowords_in⟩)
set_option maxRecDepth 20000 in
theorem gX11_weighs_X11_farmerRow : GoodIn wsX11_weighs (va_wsS RX11 177 yX11_farmerRow wsX11_farmerRow) := goodIn_app (goodIn_by gd_X11_weighs (List.forall_mem_cons.mpr ⟨List.mem_cons_of_mem _ (List.mem_append_left _ (List.mem_append_left _ (List.mem_of_getElem? (i := 3) rfl))), List.forall_mem_cons.mpr ⟨List.mem_cons_of_mem _ (List.mem_append_left _ (List.mem_append_left _ (List.mem_of_getElem? (i := 4) rfl))), List.forall_mem_cons.mpr ⟨List.mem_cons_of_mem _ (List.mem_append_left _ (List.mem_append_left _ (List.mem_of_getElem? (i := 5) rfl))), nowords_in⟩⟩⟩)) ggX11_weighs_X11_farmerRow
set_option maxRecDepth 20000 in
theorem ggX11_weighs_X11_tellOf : GoodIn wsX11_weighs wsX11_tellOf := goodIn_by gd_X11_weighs (List.forall_mem_cons.mpr ⟨List.mem_cons_of_mem _ (List.mem_append_left _ (List.mem_append_left _ (List.mem_of_getElem? (i := 10) rfl))), List.forall_mem_append.mpr ⟨List.forall_mem_cons.mpr ⟨List.mem_cons_of_mem _ (List.mem_append_left _ (List.mem_append_left _ (List.mem_of_getElem? (i := 11) rfl))), List.forall_mem_cons.mpr ⟨List.mem_cons_of_mem _ (List.mem_append_left _ (List.mem_append_left _ (List.mem_of_getElem? (i := 2) rfl))), List.forall_mem_cons.mpr ⟨List.mem_cons_of_mem _ (List.mem_append_left _ (List.mem_append_left _ (List.mem_of_getElem? (i := 12) rfl))), List.forall_mem_cons.mpr ⟨List.mem_cons_of_mem _ (List.mem_append_left _ (List.mem_append_left _ (List.mem_of_getElem? (i := 13) rfl))), List.forall_mem_cons.mpr ⟨List.mem_cons_of_mem _ (List.mem_append_left _ (List.mem_append_left _ (List.mem_of_getElem? (i := 14) rfl))), List.forall_mem_cons.mpr ⟨List.mem_cons_of_mem _ (List.mem_append_left _ (List.mem_append_left _ (List.mem_of_getElem? (i := 15) rfl))), List.forall_mem_cons.mpr ⟨List.mem_cons_of_mem _ (List.mem_append_left _ (List.mem_append_left _ (List.mem_of_getElem? (i := 5) rfl))), List.forall_mem_cons.mpr ⟨List.mem_cons_of_mem _ (List.mem_append_left _ (List.mem_append_left _ (List.mem_of_getElem? (i := 16) rfl))), List.forall_mem_cons.mpr ⟨List.mem_cons_of_mem _ (List.mem_append_left _ (List.mem_append_left _ (List.mem_of_getElem? (i := 3) rfl))), List.forall_mem_cons.mpr ⟨List.mem_cons_of_mem _ (List.mem_append_left _ (List.mem_append_left _ (List.mem_of_getElem? (i := 4) rfl))), List.forall_mem_cons.mpr ⟨List.mem_cons_of_mem _ (List.mem_append_left _ (List.mem_append_left _ (List.mem_of_getElem? (i := 6) rfl))), List.forall_mem_cons.mpr ⟨List.mem_cons_of_mem _ (List.mem_append_left _ (List.mem_append_left _ (List.mem_of_getElem? (i := 17) rfl))), List.forall_mem_cons.mpr ⟨List.mem_cons_of_mem _ (List.mem_append_left _ (List.mem_append_left _ (List.mem_of_getElem? (i := 18) rfl))), List.forall_mem_cons.mpr ⟨List.mem_cons_of_mem _ (List.mem_append_left _ (List.mem_append_left _ (List.mem_of_getElem? (i := 19) rfl))), List.forall_mem_cons.mpr ⟨List.mem_cons_of_mem _ (List.mem_append_left _ (List.mem_append_left _ (List.mem_of_getElem? (i := 20) rfl))), List.forall_mem_cons.mpr ⟨List.mem_cons_of_mem _ (List.mem_append_left _ (List.mem_append_left _ (List.mem_of_getElem? (i := 21) rfl))), List.forall_mem_cons.mpr ⟨List.mem_cons_of_mem _ (List.mem_append_left _ (List.mem_append_left _ (List.mem_of_getElem? (i := 22) rfl))), List.forall_mem_cons.mpr ⟨List.mem_cons_of_mem _ (List.mem_append_left _ (List.mem_append_left _ (List.mem_of_getElem? (i := 23) rfl))), List.forall_mem_cons.mpr ⟨List.mem_cons_of_mem _ (List.mem_append_left _ (List.mem_append_right _ (List.mem_of_getElem? (i := 0) rfl))), List.forall_mem_cons.mpr ⟨List.mem_cons_of_mem _ (List.mem_append_left _ (List.mem_append_right _ (List.mem_of_getElem? (i := 1) rfl))), List.forall_mem_cons.mpr ⟨List.mem_cons_of_mem _ (List.mem_append_left _ (List.mem_append_right _ (List.mem_of_getElem? (i := 2) rfl))), List.forall_mem_cons.mpr ⟨List.mem_cons_of_mem _ (List.mem_append_left _ (List.mem_append_right _ (List.mem_of_getElem? (i := 3) rfl))), nowords_in⟩⟩⟩⟩⟩⟩⟩⟩⟩⟩⟩⟩⟩⟩⟩⟩⟩⟩⟩⟩⟩⟩, (fun _ h => List.mem_cons_of_mem _ (List.mem_append_right _ (h)))⟩⟩)
set_option maxRecDepth 20000 in
theorem gX11_weighs_X11_tellOf : GoodIn wsX11_weighs (wsV RX11 307 RX11 yX11_tellOf wsX11_tellOf) := goodIn_app (goodIn_by gd_X11_weighs (List.forall_mem_cons.mpr ⟨List.mem_cons_of_mem _ (List.mem_append_left _ (List.mem_append_left _ (List.mem_of_getElem? (i := 7) rfl))), List.forall_mem_cons.mpr ⟨List.mem_cons_of_mem _ (List.mem_append_left _ (List.mem_append_left _ (List.mem_of_getElem? (i := 8) rfl))), List.forall_mem_cons.mpr ⟨List.mem_cons_of_mem _ (List.mem_append_left _ (List.mem_append_left _ (List.mem_of_getElem? (i := 9) rfl))), List.forall_mem_cons.mpr ⟨List.mem_cons_of_mem _ (List.mem_append_left _ (List.mem_append_left _ (List.mem_of_getElem? (i := 5) rfl))), nowords_in⟩⟩⟩⟩)) ggX11_weighs_X11_tellOf
theorem dX11_weighs_0 : decode cX11_weighs 0 = .ok (.aload_n 0, 1) := by decide +kernel
theorem dX11_weighs_1 : decode cX11_weighs 1 = .ok (.iload_n 2, 1) := by decide +kernel
theorem dX11_weighs_2 : decode cX11_weighs 2 = .ok (.i2l, 1) := by decide +kernel
theorem dX11_weighs_3 : decode cX11_weighs 3 = .ok (.putfield 359, 3) := by decide +kernel
theorem dX11_weighs_6 : decode cX11_weighs 6 = .ok (.aload_n 0, 1) := by decide +kernel
theorem dX11_weighs_7 : decode cX11_weighs 7 = .ok (.bipush 16, 2) := by decide +kernel
theorem dX11_weighs_9 : decode cX11_weighs 9 = .ok (.iload_n 2, 1) := by decide +kernel
theorem dX11_weighs_10 : decode cX11_weighs 10 = .ok (.isub, 1) := by decide +kernel
theorem dX11_weighs_11 : decode cX11_weighs 11 = .ok (.i2l, 1) := by decide +kernel
theorem dX11_weighs_12 : decode cX11_weighs 12 = .ok (.putfield 362, 3) := by decide +kernel
theorem dX11_weighs_15 : decode cX11_weighs 15 = .ok (.iconst 0, 1) := by decide +kernel
theorem dX11_weighs_16 : decode cX11_weighs 16 = .ok (.istore_n 3, 1) := by decide +kernel
theorem dX11_weighs_17 : decode cX11_weighs 17 = .ok (.iload_n 3, 1) := by decide +kernel
theorem dX11_weighs_18 : decode cX11_weighs 18 = .ok (.aload_n 0, 1) := by decide +kernel
theorem dX11_weighs_19 : decode cX11_weighs 19 = .ok (.getfield 7, 3) := by decide +kernel
theorem dX11_weighs_22 : decode cX11_weighs 22 = .ok (.iconst 0, 1) := by decide +kernel
theorem dX11_weighs_23 : decode cX11_weighs 23 = .ok (.iaload, 1) := by decide +kernel
theorem dX11_weighs_24 : decode cX11_weighs 24 = .ok (.if_icmp .ge 128, 3) := by decide +kernel
theorem dX11_weighs_27 : decode cX11_weighs 27 = .ok (.iconst 0, 1) := by decide +kernel
theorem dX11_weighs_28 : decode cX11_weighs 28 = .ok (.iload_n 3, 1) := by decide +kernel
theorem dX11_weighs_29 : decode cX11_weighs 29 = .ok (.invokestatic 177, 3) := by decide +kernel
theorem dX11_weighs_32 : decode cX11_weighs 32 = .ok (.istore 4, 2) := by decide +kernel
theorem dX11_weighs_34 : decode cX11_weighs 34 = .ok (.aload_n 0, 1) := by decide +kernel
theorem dX11_weighs_35 : decode cX11_weighs 35 = .ok (.iload_n 3, 1) := by decide +kernel
theorem dX11_weighs_36 : decode cX11_weighs 36 = .ok (.iload_n 1, 1) := by decide +kernel
theorem dX11_weighs_37 : decode cX11_weighs 37 = .ok (.invokevirtual 307, 3) := by decide +kernel
theorem dX11_weighs_40 : decode cX11_weighs 40 = .ok (.istore 5, 2) := by decide +kernel
theorem dX11_weighs_42 : decode cX11_weighs 42 = .ok (.iload 5, 2) := by decide +kernel
theorem dX11_weighs_44 : decode cX11_weighs 44 = .ok (.iconst (-1), 1) := by decide +kernel
theorem dX11_weighs_45 : decode cX11_weighs 45 = .ok (.if_icmp .eq 101, 3) := by decide +kernel
theorem dX11_weighs_48 : decode cX11_weighs 48 = .ok (.aload_n 0, 1) := by decide +kernel
theorem dX11_weighs_49 : decode cX11_weighs 49 = .ok (.getfield 7, 3) := by decide +kernel
theorem dX11_weighs_52 : decode cX11_weighs 52 = .ok (.iload 4, 2) := by decide +kernel
theorem dX11_weighs_54 : decode cX11_weighs 54 = .ok (.iconst 3, 1) := by decide +kernel
theorem dX11_weighs_55 : decode cX11_weighs 55 = .ok (.iadd, 1) := by decide +kernel
theorem dX11_weighs_56 : decode cX11_weighs 56 = .ok (.iaload, 1) := by decide +kernel
theorem dX11_weighs_57 : decode cX11_weighs 57 = .ok (.iconst 1, 1) := by decide +kernel
theorem dX11_weighs_58 : decode cX11_weighs 58 = .ok (.if_icmp .ne 6, 3) := by decide +kernel
theorem dX11_weighs_61 : decode cX11_weighs 61 = .ok (.goto 85, 3) := by decide +kernel
theorem dX11_weighs_64 : decode cX11_weighs 64 = .ok (.aload_n 0, 1) := by decide +kernel
theorem dX11_weighs_65 : decode cX11_weighs 65 = .ok (.dup, 1) := by decide +kernel
theorem dX11_weighs_66 : decode cX11_weighs 66 = .ok (.getfield 359, 3) := by decide +kernel
theorem dX11_weighs_69 : decode cX11_weighs 69 = .ok (.iload 5, 2) := by decide +kernel
theorem dX11_weighs_71 : decode cX11_weighs 71 = .ok (.iconst 1, 1) := by decide +kernel
theorem dX11_weighs_72 : decode cX11_weighs 72 = .ok (.if_icmp .ne 19, 3) := by decide +kernel
theorem dX11_weighs_75 : decode cX11_weighs 75 = .ok (.bipush 16, 2) := by decide +kernel
theorem dX11_weighs_77 : decode cX11_weighs 77 = .ok (.aload_n 0, 1) := by decide +kernel
theorem dX11_weighs_78 : decode cX11_weighs 78 = .ok (.getfield 7, 3) := by decide +kernel
theorem dX11_weighs_81 : decode cX11_weighs 81 = .ok (.iload 4, 2) := by decide +kernel
theorem dX11_weighs_83 : decode cX11_weighs 83 = .ok (.iconst 1, 1) := by decide +kernel
theorem dX11_weighs_84 : decode cX11_weighs 84 = .ok (.iadd, 1) := by decide +kernel
theorem dX11_weighs_85 : decode cX11_weighs 85 = .ok (.iaload, 1) := by decide +kernel
theorem dX11_weighs_86 : decode cX11_weighs 86 = .ok (.isub, 1) := by decide +kernel
theorem dX11_weighs_87 : decode cX11_weighs 87 = .ok (.i2l, 1) := by decide +kernel
theorem dX11_weighs_88 : decode cX11_weighs 88 = .ok (.goto 13, 3) := by decide +kernel
theorem dX11_weighs_91 : decode cX11_weighs 91 = .ok (.aload_n 0, 1) := by decide +kernel
theorem dX11_weighs_92 : decode cX11_weighs 92 = .ok (.getfield 7, 3) := by decide +kernel
theorem dX11_weighs_95 : decode cX11_weighs 95 = .ok (.iload 4, 2) := by decide +kernel
theorem dX11_weighs_97 : decode cX11_weighs 97 = .ok (.iconst 1, 1) := by decide +kernel
theorem dX11_weighs_98 : decode cX11_weighs 98 = .ok (.iadd, 1) := by decide +kernel
theorem dX11_weighs_99 : decode cX11_weighs 99 = .ok (.iaload, 1) := by decide +kernel
theorem dX11_weighs_100 : decode cX11_weighs 100 = .ok (.i2l, 1) := by decide +kernel
theorem dX11_weighs_101 : decode cX11_weighs 101 = .ok (.lmul, 1) := by decide +kernel
theorem dX11_weighs_102 : decode cX11_weighs 102 = .ok (.putfield 359, 3) := by decide +kernel
theorem dX11_weighs_105 : decode cX11_weighs 105 = .ok (.aload_n 0, 1) := by decide +kernel
theorem dX11_weighs_106 : decode cX11_weighs 106 = .ok (.dup, 1) := by decide +kernel
theorem dX11_weighs_107 : decode cX11_weighs 107 = .ok (.getfield 362, 3) := by decide +kernel
theorem dX11_weighs_110 : decode cX11_weighs 110 = .ok (.iload 5, 2) := by decide +kernel
theorem dX11_weighs_112 : decode cX11_weighs 112 = .ok (.iconst 1, 1) := by decide +kernel
theorem dX11_weighs_113 : decode cX11_weighs 113 = .ok (.if_icmp .ne 16, 3) := by decide +kernel
theorem dX11_weighs_116 : decode cX11_weighs 116 = .ok (.aload_n 0, 1) := by decide +kernel
theorem dX11_weighs_117 : decode cX11_weighs 117 = .ok (.getfield 7, 3) := by decide +kernel
theorem dX11_weighs_120 : decode cX11_weighs 120 = .ok (.iload 4, 2) := by decide +kernel
theorem dX11_weighs_122 : decode cX11_weighs 122 = .ok (.iconst 2, 1) := by decide +kernel
theorem dX11_weighs_123 : decode cX11_weighs 123 = .ok (.iadd, 1) := by decide +kernel
theorem dX11_weighs_124 : decode cX11_weighs 124 = .ok (.iaload, 1) := by decide +kernel
theorem dX11_weighs_125 : decode cX11_weighs 125 = .ok (.i2l, 1) := by decide +kernel
theorem dX11_weighs_126 : decode cX11_weighs 126 = .ok (.goto 16, 3) := by decide +kernel
theorem dX11_weighs_129 : decode cX11_weighs 129 = .ok (.bipush 16, 2) := by decide +kernel
theorem dX11_weighs_131 : decode cX11_weighs 131 = .ok (.aload_n 0, 1) := by decide +kernel
theorem dX11_weighs_132 : decode cX11_weighs 132 = .ok (.getfield 7, 3) := by decide +kernel
theorem dX11_weighs_135 : decode cX11_weighs 135 = .ok (.iload 4, 2) := by decide +kernel
theorem dX11_weighs_137 : decode cX11_weighs 137 = .ok (.iconst 2, 1) := by decide +kernel
theorem dX11_weighs_138 : decode cX11_weighs 138 = .ok (.iadd, 1) := by decide +kernel
theorem dX11_weighs_139 : decode cX11_weighs 139 = .ok (.iaload, 1) := by decide +kernel
theorem dX11_weighs_140 : decode cX11_weighs 140 = .ok (.isub, 1) := by decide +kernel
theorem dX11_weighs_141 : decode cX11_weighs 141 = .ok (.i2l, 1) := by decide +kernel
theorem dX11_weighs_142 : decode cX11_weighs 142 = .ok (.lmul, 1) := by decide +kernel
theorem dX11_weighs_143 : decode cX11_weighs 143 = .ok (.putfield 362, 3) := by decide +kernel
theorem dX11_weighs_146 : decode cX11_weighs 146 = .ok (.iinc 3 1, 3) := by decide +kernel
theorem dX11_weighs_149 : decode cX11_weighs 149 = .ok (.goto (-132), 3) := by decide +kernel
theorem dX11_weighs_152 : decode cX11_weighs 152 = .ok (.return_, 1) := by decide +kernel
abbrev rmX11_weighs : Room := { frames := 3, cells := 0, slots := 0, locals := 66 }
set_option maxHeartbeats 4000000 in
set_option maxRecDepth 100000 in
theorem kX11_weighs (l : Launch) (D : va_G) (cy : Nat → ClassId) (h0 : Nat) (a0 : Nat → Nat) (s0 : Rc) (p1 : Int32) (p2 : Int32) (res : Rc) (h : fX11_weighs p1 p2 s0 = some res) : CV l D cy yX11_weighs wsX11_weighs rmX11_weighs [.ref h0, .int p1, .int p2] (flat [WX11 cy h0 a0 s0]) (flat [WX11 cy h0 a0 res]) := by
  refine CV.of (cc := cX11_weighs) (maxL := 6) (by decide) rfl (Nat.le_of_ble_eq_true rfl) ?_
  intro p e s m args below meth c A QQ ls E hr
  obtain ⟨hx, hb, hml, hown, hts, hK, hN, hP, hD, hA, hl⟩ := E
  have hret : ∀ (pc : Nat) (H : Heap) (locs : List Loc) (ls : Array Slot) (u : Rc), u = res → va_P D vwCl (flat [WX11 cy h0 a0 u]) H → va_D A (flat [WX11 cy h0 a0 u]) → va_S A s.heap H locs → decode cX11_weighs pc = .ok (.return_, 1) → W p l e rmX11_weighs s m args below meth c H locs 0 0 QQ (F0 m pc ls []) := by
    intro pc H locs ls u hu hP hD hS hd; subst hu; exact hr pc H locs ls hP hD hS hd
  clear hr
  have hl : lv_has ls 6 [(0, .ref h0), (1, .int p1), (2, .int p2)] := hl
  have hinX11 : ∀ w ∈ wsX110, w ∈ wsX11_weighs := fun _ h => List.mem_cons_of_mem _ (List.mem_append_right _ h)
  unfold fX11_weighs at h
  suffices key : ∀ (H : Heap) (locs : List Loc), va_P D vwCl (flat [WX11 cy h0 a0 s0]) H → va_S A s.heap H locs → W p l e rmX11_weighs s m args below meth c H locs 0 0 QQ (F0 m 0 ls []) from key _ _ hP va_S.rf
  clear hP
  intro H locs hP hS
  refine lv_aload_n hx hb dX11_weighs_0 rfl (lv_at hl 0 rfl) ?_
  refine lv_iload_n hx hb dX11_weighs_1 rfl (lv_at hl 2 rfl) ?_
  refine lv_i2l hx hb dX11_weighs_2 rfl ?_
  obtain ⟨s0_1, es, h⟩ := lt_elim h
  refine va_put (D := D) (ci := 11) (v := .long p2.toInt64) (ty := .long) (C := RX11) (T := TX11) (N := 38) hx hb hts hinX11 tyX11 tyX11_ok nmX11 hown hK hP hD hS 0 rfl rfl 27 (by decide) (hts (.fieldLink RX11 359 "KneeBenchModel" "rainy" "J") (List.mem_of_getElem? (i := 1) rfl)) (fun _ h9 => h9) rfl (by decide +kernel) rfl rfl (Nat.le_of_ble_eq_true rfl) dX11_weighs_3 (fun H locs hP hD hS => ?_)
  have hP : va_P D vwCl (flat [WX11 cy h0 a0 s0_1]) H := by rw [es]; exact hP
  have hD : va_D A (flat [WX11 cy h0 a0 s0_1]) := by rw [es]; exact hD
  clear es
  refine lv_aload_n hx hb dX11_weighs_6 rfl (lv_at hl 0 rfl) ?_
  refine lv_bipush (v := 16) hx hb dX11_weighs_7 (by decide) ?_
  refine lv_iload_n hx hb dX11_weighs_9 rfl (lv_at hl 2 rfl) ?_
  refine lv_isub hx hb dX11_weighs_10 ?_
  refine lv_i2l hx hb dX11_weighs_11 rfl ?_
  obtain ⟨s0_2, es, h⟩ := lt_elim h
  refine va_put (D := D) (ci := 11) (v := .long (((16 : Int32) - p2).toInt64)) (ty := .long) (C := RX11) (T := TX11) (N := 38) hx hb hts hinX11 tyX11 tyX11_ok nmX11 hown hK hP hD hS 0 rfl rfl 28 (by decide) (hts (.fieldLink RX11 362 "KneeBenchModel" "dry0" "J") (List.mem_of_getElem? (i := 2) rfl)) (fun _ h9 => h9) rfl (by decide +kernel) rfl rfl (Nat.le_of_ble_eq_true rfl) dX11_weighs_12 (fun H locs hP hD hS => ?_)
  have hP : va_P D vwCl (flat [WX11 cy h0 a0 s0_2]) H := by rw [es]; exact hP
  have hD : va_D A (flat [WX11 cy h0 a0 s0_2]) := by rw [es]; exact hD
  clear es
  refine lv_iconst (v := 0) hx hb dX11_weighs_15 (by decide) ?_
  refine lv_istore_n (lv' := [(3, .int (0 : Int32)), (0, .ref h0), (1, .int p1), (2, .int p2)]) hx hb dX11_weighs_16 rfl hl (by decide) rfl (fun ls hl => ?_)
  have L17 : ∀ (n : Nat) (q17 : Int32 × Rc) (o : Rc), loopO (fX11_weighs_L17 p1) n q17 = some o → ∀ (H : Heap) (locs : List Loc) (ls : Array Slot), lv_has ls 6 [(0, .ref h0), (1, .int p1), (3, .int q17.1)] → va_P D vwCl (flat [WX11 cy h0 a0 q17.2]) H → va_D A (flat [WX11 cy h0 a0 q17.2]) → va_S A s.heap H locs → ∀ (kk152 : ∀ (H : Heap) (locs : List Loc) (ls : Array Slot), lv_has ls 6 [] → va_P D vwCl (flat [WX11 cy h0 a0 o]) H → va_D A (flat [WX11 cy h0 a0 o]) → va_S A s.heap H locs → W p l e rmX11_weighs s m args below meth c H locs 0 0 QQ (F0 m 152 ls [])), W p l e rmX11_weighs s m args below meth c H locs 0 0 QQ (F0 m 17 ls []) := by
    intro n
    induction n with
    | zero => intro q17 o h; exact absurd h (by rw [loopO_zero]; intro z; cases z)
    | succ n ih =>
      intro q17 o h H locs ls hl hP hD hS kk152
      obtain ⟨w, h, hgo, hst⟩ := loopO_elim h
      unfold fX11_weighs_L17 at h
      have J101 : ∀ (y101_4 : Int32) (y101_5 : Int32) (z101_0 : Int64) (z101_1 : Int64) (H : Heap) (locs : List Loc) (ls : Array Slot), lv_has ls 6 [(0, .ref h0), (1, .int p1), (3, .int q17.1), (4, .int y101_4), (5, .int y101_5)] → va_P D vwCl (flat [WX11 cy h0 a0 q17.2]) H → va_D A (flat [WX11 cy h0 a0 q17.2]) → va_S A s.heap H locs → fX11_weighs_J101 q17 y101_4 y101_5 z101_0 z101_1 = some w → W p l e rmX11_weighs s m args below meth c H locs 0 0 QQ (F0 m 101 ls [.long z101_0, .long z101_1, .ref h0]) := by
        intro y101_4 y101_5 z101_0 z101_1 H locs ls hl hP hD hS h
        unfold fX11_weighs_J101 at h
        refine lv_lmul hx hb dX11_weighs_101 ?_
        obtain ⟨s0_3, es, h⟩ := lt_elim h
        refine va_put (D := D) (ci := 11) (v := .long (z101_1 * z101_0)) (ty := .long) (C := RX11) (T := TX11) (N := 38) hx hb hts hinX11 tyX11 tyX11_ok nmX11 hown hK hP hD hS 0 rfl rfl 27 (by decide) (hts (.fieldLink RX11 359 "KneeBenchModel" "rainy" "J") (List.mem_of_getElem? (i := 1) rfl)) (fun _ h9 => h9) rfl (by decide +kernel) rfl rfl (Nat.le_of_ble_eq_true rfl) dX11_weighs_102 (fun H locs hP hD hS => ?_)
        have hP : va_P D vwCl (flat [WX11 cy h0 a0 s0_3]) H := by rw [es]; exact hP
        have hD : va_D A (flat [WX11 cy h0 a0 s0_3]) := by rw [es]; exact hD
        clear es
        refine lv_aload_n hx hb dX11_weighs_105 rfl (lv_at hl 0 rfl) ?_
        refine lv_dup hx hb dX11_weighs_106 rfl ?_
        refine va_get (D := D) (ci := 11) (v := .long (gl s0_3 28)) (C := RX11) (T := TX11) (N := 38) hx hb hts hinX11 hown hK hP 0 rfl rfl 28 (by decide) (hts (.fieldLink RX11 362 "KneeBenchModel" "dry0" "J") (List.mem_of_getElem? (i := 2) rfl)) (fun _ h9 => h9) rfl dX11_weighs_107 ?_
        refine lv_iload hx hb dX11_weighs_110 (lv_at hl 4 rfl) ?_
        refine lv_iconst (v := 1) hx hb dX11_weighs_112 (by decide) ?_
        refine lv_icmp_ne (tgt := 129) hx hb dX11_weighs_113 (by decide) (fun c4 => ?_) (fun c4 => ?_)
        · replace h := (if_neg c4).symm.trans h
          refine lv_bipush (v := 16) hx hb dX11_weighs_129 (by decide) ?_
          refine lv_aload_n hx hb dX11_weighs_131 rfl (lv_at hl 0 rfl) ?_
          refine va_get (D := D) (ci := 11) (v := .ref (a0 0)) (C := RX11) (T := TX11) (N := 38) hx hb hts hinX11 hown hK hP 0 rfl rfl 0 (by decide) (hts (.fieldLink RX11 7 "KneeBenchModel" "at" "[I") (List.mem_of_getElem? (i := 3) rfl)) (fun _ h9 => h9) rfl dX11_weighs_132 ?_
          refine lv_iload hx hb dX11_weighs_135 (lv_at hl 3 rfl) ?_
          refine lv_iconst (v := 2) hx hb dX11_weighs_137 (by decide) ?_
          refine lv_iadd hx hb dX11_weighs_138 ?_
          obtain ⟨g5, h⟩ := gd_elim h
          refine va_iald hx hb hK hP 1 1 rfl rfl (inb_in g5) dX11_weighs_139 ?_
          refine lv_isub hx hb dX11_weighs_140 ?_
          refine lv_i2l hx hb dX11_weighs_141 rfl ?_
          refine lv_lmul hx hb dX11_weighs_142 ?_
          obtain ⟨s0_6, es, h⟩ := lt_elim h
          refine va_put (D := D) (ci := 11) (v := .long ((gl s0_3 28) * (((16 : Int32) - (ga s0_3 0 (y101_4 + (2 : Int32)).toNatClampNeg)).toInt64))) (ty := .long) (C := RX11) (T := TX11) (N := 38) hx hb hts hinX11 tyX11 tyX11_ok nmX11 hown hK hP hD hS 0 rfl rfl 28 (by decide) (hts (.fieldLink RX11 362 "KneeBenchModel" "dry0" "J") (List.mem_of_getElem? (i := 2) rfl)) (fun _ h9 => h9) rfl (by decide +kernel) rfl rfl (Nat.le_of_ble_eq_true rfl) dX11_weighs_143 (fun H locs hP hD hS => ?_)
          have hP : va_P D vwCl (flat [WX11 cy h0 a0 s0_6]) H := by rw [es]; exact hP
          have hD : va_D A (flat [WX11 cy h0 a0 s0_6]) := by rw [es]; exact hD
          clear es
          refine lv_iinc (v := (q17.1 + (1 : Int32))) (lv' := [(3, .int (q17.1 + (1 : Int32))), (0, .ref h0), (1, .int p1), (4, .int y101_4), (5, .int y101_5)]) hx hb dX11_weighs_146 hl (k := 2) rfl rfl (by decide) rfl (fun ls hl => ?_)
          refine lv_goto (tgt := 17) hx hb dX11_weighs_149 (by decide) ?_
          exact ih _ o (hgo _ (Option.some.inj h).symm) H locs ls (lv_sub hl [1, 2, 0] rfl) hP hD hS kk152
        · replace h := (if_pos c4).symm.trans h
          refine lv_aload_n hx hb dX11_weighs_116 rfl (lv_at hl 0 rfl) ?_
          refine va_get (D := D) (ci := 11) (v := .ref (a0 0)) (C := RX11) (T := TX11) (N := 38) hx hb hts hinX11 hown hK hP 0 rfl rfl 0 (by decide) (hts (.fieldLink RX11 7 "KneeBenchModel" "at" "[I") (List.mem_of_getElem? (i := 3) rfl)) (fun _ h9 => h9) rfl dX11_weighs_117 ?_
          refine lv_iload hx hb dX11_weighs_120 (lv_at hl 3 rfl) ?_
          refine lv_iconst (v := 2) hx hb dX11_weighs_122 (by decide) ?_
          refine lv_iadd hx hb dX11_weighs_123 ?_
          obtain ⟨g7, h⟩ := gd_elim h
          refine va_iald hx hb hK hP 1 1 rfl rfl (inb_in g7) dX11_weighs_124 ?_
          refine lv_i2l hx hb dX11_weighs_125 rfl ?_
          refine lv_goto (tgt := 142) hx hb dX11_weighs_126 (by decide) ?_
          refine lv_lmul hx hb dX11_weighs_142 ?_
          obtain ⟨s0_8, es, h⟩ := lt_elim h
          refine va_put (D := D) (ci := 11) (v := .long ((gl s0_3 28) * ((ga s0_3 0 (y101_4 + (2 : Int32)).toNatClampNeg).toInt64))) (ty := .long) (C := RX11) (T := TX11) (N := 38) hx hb hts hinX11 tyX11 tyX11_ok nmX11 hown hK hP hD hS 0 rfl rfl 28 (by decide) (hts (.fieldLink RX11 362 "KneeBenchModel" "dry0" "J") (List.mem_of_getElem? (i := 2) rfl)) (fun _ h9 => h9) rfl (by decide +kernel) rfl rfl (Nat.le_of_ble_eq_true rfl) dX11_weighs_143 (fun H locs hP hD hS => ?_)
          have hP : va_P D vwCl (flat [WX11 cy h0 a0 s0_8]) H := by rw [es]; exact hP
          have hD : va_D A (flat [WX11 cy h0 a0 s0_8]) := by rw [es]; exact hD
          clear es
          refine lv_iinc (v := (q17.1 + (1 : Int32))) (lv' := [(3, .int (q17.1 + (1 : Int32))), (0, .ref h0), (1, .int p1), (4, .int y101_4), (5, .int y101_5)]) hx hb dX11_weighs_146 hl (k := 2) rfl rfl (by decide) rfl (fun ls hl => ?_)
          refine lv_goto (tgt := 17) hx hb dX11_weighs_149 (by decide) ?_
          exact ih _ o (hgo _ (Option.some.inj h).symm) H locs ls (lv_sub hl [1, 2, 0] rfl) hP hD hS kk152
      refine lv_iload_n hx hb dX11_weighs_17 rfl (lv_at hl 2 rfl) ?_
      refine lv_aload_n hx hb dX11_weighs_18 rfl (lv_at hl 0 rfl) ?_
      refine va_get (D := D) (ci := 11) (v := .ref (a0 0)) (C := RX11) (T := TX11) (N := 38) hx hb hts hinX11 hown hK hP 0 rfl rfl 0 (by decide) (hts (.fieldLink RX11 7 "KneeBenchModel" "at" "[I") (List.mem_of_getElem? (i := 3) rfl)) (fun _ h9 => h9) rfl dX11_weighs_19 ?_
      refine lv_iconst (v := 0) hx hb dX11_weighs_22 (by decide) ?_
      refine va_iald hx hb hK hP 1 1 rfl rfl (inb_in (by decide)) dX11_weighs_23 ?_
      refine lv_icmp_ge (tgt := 152) hx hb dX11_weighs_24 (by decide) (fun c9 => ?_) (fun c9 => ?_)
      · replace h := (if_pos c9).symm.trans h
        have eo := hst _ (Option.some.inj h).symm
        subst eo
        exact kk152 H locs ls (lv_sub hl [] rfl) hP hD hS
      · replace h := (if_neg c9).symm.trans h
        refine lv_iconst (v := 0) hx hb dX11_weighs_27 (by decide) ?_
        refine lv_iload_n hx hb dX11_weighs_28 rfl (lv_at hl 2 rfl) ?_
        refine ca_i (w' := [WX11 cy h0 a0 q17.2]) (rn_S (As := [.int (0 : Int32), .int q17.1]) (rest := []) ⟨hx, hb, hml, hown, hts⟩ (kX11_farmerRow l D cy (0 : Int32) q17.1 _ rfl H.size) (va_cwS 2 hts gX11_weighs_X11_farmerRow rfl rfl rfl (by decide +kernel) ⟨Nat.le_of_ble_eq_true rfl, Nat.le_of_ble_eq_true rfl⟩) hK hN hP hD [] rfl rfl rfl hl.1 rfl (Nat.le_of_ble_eq_true rfl) dX11_weighs_29 ⟨Nat.le_refl 0, Nat.le_refl 0⟩) hP hD hS hA [] ⟨rfl, rfl, rfl, rfl⟩ (fun H locs hP hD hS => ?_)
        refine lv_topi (fun x10 ex10 => ?_)
        replace h := lt_use h x10 ex10
        refine lv_istore (lv' := [(4, .int x10), (0, .ref h0), (1, .int p1), (3, .int q17.1)]) hx hb dX11_weighs_32 hl (by decide) rfl (fun ls hl => ?_)
        refine lv_aload_n hx hb dX11_weighs_34 rfl (lv_at hl 1 rfl) ?_
        refine lv_iload_n hx hb dX11_weighs_35 rfl (lv_at hl 3 rfl) ?_
        refine lv_iload_n hx hb dX11_weighs_36 rfl (lv_at hl 2 rfl) ?_
        obtain ⟨r11, hr11, h⟩ := bd_elim h
        refine ca_i (w' := [WX11 cy h0 a0 q17.2]) (rn_V (As := [.int q17.1, .int p1]) (rest := []) ⟨hx, hb, hml, hown, hts⟩ (kX11_tellOf l D cy h0 a0 q17.2 q17.1 p1 r11 hr11 H.size) (cwV 2 hts gX11_weighs_X11_tellOf rfl rfl rfl (by decide +kernel) ⟨Nat.le_of_ble_eq_true rfl, Nat.le_of_ble_eq_true rfl⟩) hK hN hP hD [0] rfl rfl (ci := 11) (q0 := 0) rfl rfl rfl rfl hl.1 rfl (Nat.le_of_ble_eq_true rfl) dX11_weighs_37 ⟨Nat.le_refl 0, Nat.le_refl 0⟩) hP hD hS hA [0] ⟨rfl, rfl, rfl, rfl⟩ (fun H locs hP hD hS => ?_)
        refine lv_istore (lv' := [(5, .int r11), (4, .int x10), (0, .ref h0), (1, .int p1), (3, .int q17.1)]) hx hb dX11_weighs_40 hl (by decide) rfl (fun ls hl => ?_)
        refine lv_iload hx hb dX11_weighs_42 (lv_at hl 0 rfl) ?_
        refine lv_iconst (v := -1) hx hb dX11_weighs_44 (by decide) ?_
        refine lv_icmp_eq (tgt := 146) hx hb dX11_weighs_45 (by decide) (fun c12 => ?_) (fun c12 => ?_)
        · replace h := (if_pos c12).symm.trans h
          refine lv_iinc (v := (q17.1 + (1 : Int32))) (lv' := [(3, .int (q17.1 + (1 : Int32))), (5, .int r11), (4, .int x10), (0, .ref h0), (1, .int p1)]) hx hb dX11_weighs_146 hl (k := 4) rfl rfl (by decide) rfl (fun ls hl => ?_)
          refine lv_goto (tgt := 17) hx hb dX11_weighs_149 (by decide) ?_
          exact ih _ o (hgo _ (Option.some.inj h).symm) H locs ls (lv_sub hl [3, 4, 0] rfl) hP hD hS kk152
        · replace h := (if_neg c12).symm.trans h
          refine lv_aload_n hx hb dX11_weighs_48 rfl (lv_at hl 2 rfl) ?_
          refine va_get (D := D) (ci := 11) (v := .ref (a0 0)) (C := RX11) (T := TX11) (N := 38) hx hb hts hinX11 hown hK hP 0 rfl rfl 0 (by decide) (hts (.fieldLink RX11 7 "KneeBenchModel" "at" "[I") (List.mem_of_getElem? (i := 3) rfl)) (fun _ h9 => h9) rfl dX11_weighs_49 ?_
          refine lv_iload hx hb dX11_weighs_52 (lv_at hl 1 rfl) ?_
          refine lv_iconst (v := 3) hx hb dX11_weighs_54 (by decide) ?_
          refine lv_iadd hx hb dX11_weighs_55 ?_
          obtain ⟨g13, h⟩ := gd_elim h
          refine va_iald hx hb hK hP 1 1 rfl rfl (inb_in g13) dX11_weighs_56 ?_
          refine lv_iconst (v := 1) hx hb dX11_weighs_57 (by decide) ?_
          refine lv_icmp_ne (tgt := 64) hx hb dX11_weighs_58 (by decide) (fun c14 => ?_) (fun c14 => ?_)
          · replace h := (if_neg c14).symm.trans h
            refine lv_aload_n hx hb dX11_weighs_64 rfl (lv_at hl 2 rfl) ?_
            refine lv_dup hx hb dX11_weighs_65 rfl ?_
            refine va_get (D := D) (ci := 11) (v := .long (gl q17.2 27)) (C := RX11) (T := TX11) (N := 38) hx hb hts hinX11 hown hK hP 0 rfl rfl 27 (by decide) (hts (.fieldLink RX11 359 "KneeBenchModel" "rainy" "J") (List.mem_of_getElem? (i := 1) rfl)) (fun _ h9 => h9) rfl dX11_weighs_66 ?_
            refine lv_iload hx hb dX11_weighs_69 (lv_at hl 0 rfl) ?_
            refine lv_iconst (v := 1) hx hb dX11_weighs_71 (by decide) ?_
            refine lv_icmp_ne (tgt := 91) hx hb dX11_weighs_72 (by decide) (fun c15 => ?_) (fun c15 => ?_)
            · replace h := (if_neg c15).symm.trans h
              refine lv_aload_n hx hb dX11_weighs_91 rfl (lv_at hl 2 rfl) ?_
              refine va_get (D := D) (ci := 11) (v := .ref (a0 0)) (C := RX11) (T := TX11) (N := 38) hx hb hts hinX11 hown hK hP 0 rfl rfl 0 (by decide) (hts (.fieldLink RX11 7 "KneeBenchModel" "at" "[I") (List.mem_of_getElem? (i := 3) rfl)) (fun _ h9 => h9) rfl dX11_weighs_92 ?_
              refine lv_iload hx hb dX11_weighs_95 (lv_at hl 1 rfl) ?_
              refine lv_iconst (v := 1) hx hb dX11_weighs_97 (by decide) ?_
              refine lv_iadd hx hb dX11_weighs_98 ?_
              obtain ⟨g16, h⟩ := gd_elim h
              refine va_iald hx hb hK hP 1 1 rfl rfl (inb_in g16) dX11_weighs_99 ?_
              refine lv_i2l hx hb dX11_weighs_100 rfl ?_
              exact J101 x10 r11 ((ga q17.2 0 (x10 + (1 : Int32)).toNatClampNeg).toInt64) (gl q17.2 27) H locs ls (lv_sub hl [2, 3, 4, 1, 0] rfl) hP hD hS h
            · replace h := (if_pos c15).symm.trans h
              refine lv_bipush (v := 16) hx hb dX11_weighs_75 (by decide) ?_
              refine lv_aload_n hx hb dX11_weighs_77 rfl (lv_at hl 2 rfl) ?_
              refine va_get (D := D) (ci := 11) (v := .ref (a0 0)) (C := RX11) (T := TX11) (N := 38) hx hb hts hinX11 hown hK hP 0 rfl rfl 0 (by decide) (hts (.fieldLink RX11 7 "KneeBenchModel" "at" "[I") (List.mem_of_getElem? (i := 3) rfl)) (fun _ h9 => h9) rfl dX11_weighs_78 ?_
              refine lv_iload hx hb dX11_weighs_81 (lv_at hl 1 rfl) ?_
              refine lv_iconst (v := 1) hx hb dX11_weighs_83 (by decide) ?_
              refine lv_iadd hx hb dX11_weighs_84 ?_
              obtain ⟨g17, h⟩ := gd_elim h
              refine va_iald hx hb hK hP 1 1 rfl rfl (inb_in g17) dX11_weighs_85 ?_
              refine lv_isub hx hb dX11_weighs_86 ?_
              refine lv_i2l hx hb dX11_weighs_87 rfl ?_
              refine lv_goto (tgt := 101) hx hb dX11_weighs_88 (by decide) ?_
              exact J101 x10 r11 (((16 : Int32) - (ga q17.2 0 (x10 + (1 : Int32)).toNatClampNeg)).toInt64) (gl q17.2 27) H locs ls (lv_sub hl [2, 3, 4, 1, 0] rfl) hP hD hS h
          · replace h := (if_pos c14).symm.trans h
            refine lv_goto (tgt := 146) hx hb dX11_weighs_61 (by decide) ?_
            refine lv_iinc (v := (q17.1 + (1 : Int32))) (lv' := [(3, .int (q17.1 + (1 : Int32))), (5, .int r11), (4, .int x10), (0, .ref h0), (1, .int p1)]) hx hb dX11_weighs_146 hl (k := 4) rfl rfl (by decide) rfl (fun ls hl => ?_)
            refine lv_goto (tgt := 17) hx hb dX11_weighs_149 (by decide) ?_
            exact ih _ o (hgo _ (Option.some.inj h).symm) H locs ls (lv_sub hl [3, 4, 0] rfl) hP hD hS kk152
  obtain ⟨o17, ho17, h⟩ := bd_elim h
  obtain ⟨n17, hn17⟩ := loopF_some ho17
  refine L17 n17 _ o17 hn17 H locs ls (lv_sub hl [1, 2, 0] rfl) hP hD hS (fun H locs ls hl hP hD hS => ?_)
  exact hret 152 H locs ls o17 (Option.some.inj h) hP hD hS dX11_weighs_152
theorem gd_X11_tellsBy : wsX11_tellsBy.all goodWord = true := by decide +kernel
set_option maxRecDepth 20000 in
theorem ggX11_tellsBy_X11_is : GoodIn wsX11_tellsBy wsX11_is := goodIn_by gd_X11_tellsBy (List.forall_mem_cons.mpr ⟨List.mem_cons_of_mem _ (List.mem_append_left _ (List.mem_of_getElem? (i := 6) rfl)), List.forall_mem_append.mpr ⟨List.forall_mem_cons.mpr ⟨List.mem_cons_of_mem _ (List.mem_append_left _ (List.mem_of_getElem? (i := 7) rfl)), nowords_in⟩, (fun _ h => List.mem_cons_of_mem _ (List.mem_append_right _ (h)))⟩⟩)
set_option maxRecDepth 20000 in
theorem gX11_tellsBy_X11_is : GoodIn wsX11_tellsBy (wsV RX11 82 RX11 yX11_is wsX11_is) := goodIn_app (goodIn_by gd_X11_tellsBy (List.forall_mem_cons.mpr ⟨List.mem_cons_of_mem _ (List.mem_append_left _ (List.mem_of_getElem? (i := 2) rfl)), List.forall_mem_cons.mpr ⟨List.mem_cons_of_mem _ (List.mem_append_left _ (List.mem_of_getElem? (i := 3) rfl)), List.forall_mem_cons.mpr ⟨List.mem_cons_of_mem _ (List.mem_append_left _ (List.mem_of_getElem? (i := 4) rfl)), List.forall_mem_cons.mpr ⟨List.mem_cons_of_mem _ (List.mem_append_left _ (List.mem_of_getElem? (i := 5) rfl)), nowords_in⟩⟩⟩⟩)) ggX11_tellsBy_X11_is
theorem dX11_tellsBy_0 : decode cX11_tellsBy 0 = .ok (.lload_n 1, 1) := by decide +kernel
theorem dX11_tellsBy_1 : decode cX11_tellsBy 1 = .ok (.lstore 5, 2) := by decide +kernel
theorem dX11_tellsBy_3 : decode cX11_tellsBy 3 = .ok (.lload_n 3, 1) := by decide +kernel
theorem dX11_tellsBy_4 : decode cX11_tellsBy 4 = .ok (.lstore 7, 2) := by decide +kernel
theorem dX11_tellsBy_6 : decode cX11_tellsBy 6 = .ok (.lload 7, 2) := by decide +kernel
theorem dX11_tellsBy_8 : decode cX11_tellsBy 8 = .ok (.lconst 0, 1) := by decide +kernel
theorem dX11_tellsBy_9 : decode cX11_tellsBy 9 = .ok (.lcmp, 1) := by decide +kernel
theorem dX11_tellsBy_10 : decode cX11_tellsBy 10 = .ok (.ifCond .eq 21, 3) := by decide +kernel
theorem dX11_tellsBy_13 : decode cX11_tellsBy 13 = .ok (.lload 5, 2) := by decide +kernel
theorem dX11_tellsBy_15 : decode cX11_tellsBy 15 = .ok (.lload 7, 2) := by decide +kernel
theorem dX11_tellsBy_17 : decode cX11_tellsBy 17 = .ok (.lrem, 1) := by decide +kernel
theorem dX11_tellsBy_18 : decode cX11_tellsBy 18 = .ok (.lstore 9, 2) := by decide +kernel
theorem dX11_tellsBy_20 : decode cX11_tellsBy 20 = .ok (.lload 7, 2) := by decide +kernel
theorem dX11_tellsBy_22 : decode cX11_tellsBy 22 = .ok (.lstore 5, 2) := by decide +kernel
theorem dX11_tellsBy_24 : decode cX11_tellsBy 24 = .ok (.lload 9, 2) := by decide +kernel
theorem dX11_tellsBy_26 : decode cX11_tellsBy 26 = .ok (.lstore 7, 2) := by decide +kernel
theorem dX11_tellsBy_28 : decode cX11_tellsBy 28 = .ok (.goto (-22), 3) := by decide +kernel
theorem dX11_tellsBy_31 : decode cX11_tellsBy 31 = .ok (.aload_n 0, 1) := by decide +kernel
theorem dX11_tellsBy_32 : decode cX11_tellsBy 32 = .ok (.lload_n 1, 1) := by decide +kernel
theorem dX11_tellsBy_33 : decode cX11_tellsBy 33 = .ok (.lload 5, 2) := by decide +kernel
theorem dX11_tellsBy_35 : decode cX11_tellsBy 35 = .ok (.ldiv, 1) := by decide +kernel
theorem dX11_tellsBy_36 : decode cX11_tellsBy 36 = .ok (.putfield 72, 3) := by decide +kernel
theorem dX11_tellsBy_39 : decode cX11_tellsBy 39 = .ok (.aload_n 0, 1) := by decide +kernel
theorem dX11_tellsBy_40 : decode cX11_tellsBy 40 = .ok (.lload_n 3, 1) := by decide +kernel
theorem dX11_tellsBy_41 : decode cX11_tellsBy 41 = .ok (.lload 5, 2) := by decide +kernel
theorem dX11_tellsBy_43 : decode cX11_tellsBy 43 = .ok (.ldiv, 1) := by decide +kernel
theorem dX11_tellsBy_44 : decode cX11_tellsBy 44 = .ok (.putfield 17, 3) := by decide +kernel
theorem dX11_tellsBy_47 : decode cX11_tellsBy 47 = .ok (.aload_n 0, 1) := by decide +kernel
theorem dX11_tellsBy_48 : decode cX11_tellsBy 48 = .ok (.iconst 0, 1) := by decide +kernel
theorem dX11_tellsBy_49 : decode cX11_tellsBy 49 = .ok (.invokevirtual 82, 3) := by decide +kernel
theorem dX11_tellsBy_52 : decode cX11_tellsBy 52 = .ok (.ireturn, 1) := by decide +kernel
abbrev rmX11_tellsBy : Room := { frames := 1, cells := 0, slots := 0, locals := 21 }
set_option maxHeartbeats 4000000 in
set_option maxRecDepth 100000 in
theorem kX11_tellsBy (l : Launch) (D : va_G) (cy : Nat → ClassId) (h0 : Nat) (a0 : Nat → Nat) (s0 : Rc) (p1 : Int64) (p2 : Int64) (res : Int32 × Rc) (h : fX11_tellsBy p1 p2 s0 = some res) : CZ l D cy yX11_tellsBy wsX11_tellsBy rmX11_tellsBy [.ref h0, .long p1, .long p2] (flat [WX11 cy h0 a0 s0]) (flat [WX11 cy h0 a0 res.2]) res.1 := by
  refine CZ.of (cc := cX11_tellsBy) (maxL := 11) (by decide) rfl (Nat.le_of_ble_eq_true rfl) ?_
  intro p e s m args below meth c A QQ ls E hr
  obtain ⟨hx, hb, hml, hown, hts, hK, hN, hP, hD, hA, hl⟩ := E
  have hret : ∀ (pc : Nat) (H : Heap) (locs : List Loc) (ls : Array Slot) (u : Int32 × Rc), u = res → va_P D vwCl (flat [WX11 cy h0 a0 u.2]) H → va_D A (flat [WX11 cy h0 a0 u.2]) → va_S A s.heap H locs → isb u.1 = true → decode cX11_tellsBy pc = .ok (.ireturn, 1) → W p l e rmX11_tellsBy s m args below meth c H locs 0 0 QQ (F0 m pc ls [.int u.1]) := by
    intro pc H locs ls u hu hP hD hS hz hd; subst hu; exact hr pc H locs ls _ rfl hP hD hS hz hd
  clear hr
  have hl : lv_has ls 11 [(0, .ref h0), (1, .long p1), (3, .long p2)] := hl
  have hinX11 : ∀ w ∈ wsX110, w ∈ wsX11_tellsBy := fun _ h => List.mem_cons_of_mem _ (List.mem_append_right _ h)
  unfold fX11_tellsBy at h
  suffices key : ∀ (H : Heap) (locs : List Loc), va_P D vwCl (flat [WX11 cy h0 a0 s0]) H → va_S A s.heap H locs → W p l e rmX11_tellsBy s m args below meth c H locs 0 0 QQ (F0 m 0 ls []) from key _ _ hP va_S.rf
  clear hP
  intro H locs hP hS
  refine lv_lload_n hx hb dX11_tellsBy_0 rfl (lv_at hl 1 rfl) ?_
  refine lv_lstore (lv' := [(5, .long p1), (0, .ref h0), (1, .long p1), (3, .long p2)]) hx hb dX11_tellsBy_1 hl (by decide) rfl (fun ls hl => ?_)
  refine lv_lload_n hx hb dX11_tellsBy_3 rfl (lv_at hl 3 rfl) ?_
  refine lv_lstore (lv' := [(7, .long p2), (5, .long p1), (0, .ref h0), (1, .long p1), (3, .long p2)]) hx hb dX11_tellsBy_4 hl (by decide) rfl (fun ls hl => ?_)
  have L6 : ∀ (n : Nat) (q6 : Int64 × Int64) (o : Int64), loopO (fX11_tellsBy_L6) n q6 = some o → ∀ (H : Heap) (locs : List Loc) (ls : Array Slot), lv_has ls 11 [(0, .ref h0), (1, .long p1), (3, .long p2), (5, .long q6.1), (7, .long q6.2)] → va_P D vwCl (flat [WX11 cy h0 a0 s0]) H → va_D A (flat [WX11 cy h0 a0 s0]) → va_S A s.heap H locs → ∀ (kk31 : ∀ (H : Heap) (locs : List Loc) (ls : Array Slot), lv_has ls 11 [(0, .ref h0), (1, .long p1), (3, .long p2), (5, .long o)] → va_P D vwCl (flat [WX11 cy h0 a0 s0]) H → va_D A (flat [WX11 cy h0 a0 s0]) → va_S A s.heap H locs → W p l e rmX11_tellsBy s m args below meth c H locs 0 0 QQ (F0 m 31 ls [])), W p l e rmX11_tellsBy s m args below meth c H locs 0 0 QQ (F0 m 6 ls []) := by
    intro n
    induction n with
    | zero => intro q6 o h; exact absurd h (by rw [loopO_zero]; intro z; cases z)
    | succ n ih =>
      intro q6 o h H locs ls hl hP hD hS kk31
      obtain ⟨w, h, hgo, hst⟩ := loopO_elim h
      unfold fX11_tellsBy_L6 at h
      refine lv_lload hx hb dX11_tellsBy_6 (lv_at hl 4 rfl) ?_
      refine lv_lconst (v := 0) hx hb dX11_tellsBy_8 (by decide) ?_
      refine W.lcmp hx hb dX11_tellsBy_9 ?_
      refine lv_if_eq (tgt := 31) hx hb dX11_tellsBy_10 (by decide) (fun c1 => ?_) (fun c1 => ?_)
      · replace h := (if_pos (lg_ceq.mp c1)).symm.trans h
        have eo := hst _ (Option.some.inj h).symm
        subst eo
        exact kk31 H locs ls (lv_sub hl [0, 1, 2, 3] rfl) hP hD hS
      · replace h := (if_neg (fun z => c1 (lg_ceq.mpr z))).symm.trans h
        refine lv_lload hx hb dX11_tellsBy_13 (lv_at hl 3 rfl) ?_
        refine lv_lload hx hb dX11_tellsBy_15 (lv_at hl 4 rfl) ?_
        obtain ⟨g2, h⟩ := gd_elim h
        refine lv_lrem hx hb dX11_tellsBy_17 (nz64_ne g2) ?_
        refine lv_topl (fun x3 ex3 => ?_)
        replace h := lt_use h x3 ex3
        refine lv_lstore (lv' := [(9, .long x3), (0, .ref h0), (1, .long p1), (3, .long p2), (5, .long q6.1), (7, .long q6.2)]) hx hb dX11_tellsBy_18 hl (by decide) rfl (fun ls hl => ?_)
        refine lv_lload hx hb dX11_tellsBy_20 (lv_at hl 5 rfl) ?_
        refine lv_lstore (lv' := [(5, .long q6.2), (9, .long x3), (0, .ref h0), (1, .long p1), (3, .long p2), (7, .long q6.2)]) hx hb dX11_tellsBy_22 hl (by decide) rfl (fun ls hl => ?_)
        refine lv_lload hx hb dX11_tellsBy_24 (lv_at hl 1 rfl) ?_
        refine lv_lstore (lv' := [(7, .long x3), (5, .long q6.2), (9, .long x3), (0, .ref h0), (1, .long p1), (3, .long p2)]) hx hb dX11_tellsBy_26 hl (by decide) rfl (fun ls hl => ?_)
        refine lv_goto (tgt := 6) hx hb dX11_tellsBy_28 (by decide) ?_
        exact ih _ o (hgo _ (Option.some.inj h).symm) H locs ls (lv_sub hl [3, 4, 5, 1, 0] rfl) hP hD hS kk31
  obtain ⟨o6, ho6, h⟩ := bd_elim h
  obtain ⟨n6, hn6⟩ := loopF_some ho6
  refine L6 n6 _ o6 hn6 H locs ls (lv_sub hl [2, 3, 4, 1, 0] rfl) hP hD hS (fun H locs ls hl hP hD hS => ?_)
  refine lv_aload_n hx hb dX11_tellsBy_31 rfl (lv_at hl 0 rfl) ?_
  refine lv_lload_n hx hb dX11_tellsBy_32 rfl (lv_at hl 1 rfl) ?_
  refine lv_lload hx hb dX11_tellsBy_33 (lv_at hl 3 rfl) ?_
  obtain ⟨g4, h⟩ := gd_elim h
  refine lv_ldiv hx hb dX11_tellsBy_35 (nz64_ne g4) ?_
  obtain ⟨s0_5, es, h⟩ := lt_elim h
  refine va_put (D := D) (ci := 11) (v := .long (p1 / o6)) (ty := .long) (C := RX11) (T := TX11) (N := 38) hx hb hts hinX11 tyX11 tyX11_ok nmX11 hown hK hP hD hS 0 rfl rfl 3 (by decide) (hts (.fieldLink RX11 72 "KneeBenchModel" "top" "J") (List.mem_of_getElem? (i := 1) rfl)) (fun _ h9 => h9) rfl (by decide +kernel) rfl rfl (Nat.le_of_ble_eq_true rfl) dX11_tellsBy_36 (fun H locs hP hD hS => ?_)
  have hP : va_P D vwCl (flat [WX11 cy h0 a0 s0_5]) H := by rw [es]; exact hP
  have hD : va_D A (flat [WX11 cy h0 a0 s0_5]) := by rw [es]; exact hD
  clear es
  refine lv_aload_n hx hb dX11_tellsBy_39 rfl (lv_at hl 0 rfl) ?_
  refine lv_lload_n hx hb dX11_tellsBy_40 rfl (lv_at hl 2 rfl) ?_
  refine lv_lload hx hb dX11_tellsBy_41 (lv_at hl 3 rfl) ?_
  refine lv_ldiv hx hb dX11_tellsBy_43 (nz64_ne g4) ?_
  obtain ⟨s0_6, es, h⟩ := lt_elim h
  refine va_put (D := D) (ci := 11) (v := .long (p2 / o6)) (ty := .long) (C := RX11) (T := TX11) (N := 38) hx hb hts hinX11 tyX11 tyX11_ok nmX11 hown hK hP hD hS 0 rfl rfl 4 (by decide) (hts (.fieldLink RX11 17 "KneeBenchModel" "bottom" "J") (List.mem_of_getElem? (i := 2) rfl)) (fun _ h9 => h9) rfl (by decide +kernel) rfl rfl (Nat.le_of_ble_eq_true rfl) dX11_tellsBy_44 (fun H locs hP hD hS => ?_)
  have hP : va_P D vwCl (flat [WX11 cy h0 a0 s0_6]) H := by rw [es]; exact hP
  have hD : va_D A (flat [WX11 cy h0 a0 s0_6]) := by rw [es]; exact hD
  clear es
  refine lv_aload_n hx hb dX11_tellsBy_47 rfl (lv_at hl 0 rfl) ?_
  refine lv_iconst (v := 0) hx hb dX11_tellsBy_48 (by decide) ?_
  obtain ⟨r7, hr7, h⟩ := lt_elim h
  refine ca_z (w' := [WX11 cy h0 a0 r7.2]) (rn_V (As := [.int (0 : Int32)]) (rest := []) ⟨hx, hb, hml, hown, hts⟩ (kX11_is l D cy h0 a0 s0_6 (0 : Int32) r7 hr7.symm H.size) (cwV 1 hts gX11_tellsBy_X11_is rfl rfl rfl (by decide +kernel) ⟨Nat.le_of_ble_eq_true rfl, Nat.le_of_ble_eq_true rfl⟩) hK hN hP hD [0] rfl rfl (ci := 11) (q0 := 0) rfl rfl rfl rfl hl.1 rfl (Nat.le_of_ble_eq_true rfl) dX11_tellsBy_49 ⟨Nat.le_refl 0, Nat.le_refl 0⟩) hP hD hS hA [0] ⟨rfl, rfl, rfl, rfl⟩ (fun b8 H locs hP hD hS => ?_)
  exact hret 52 H locs ls (r7.1, r7.2) (Option.some.inj h) hP hD hS b8 dX11_tellsBy_52
